/-! the reference's numbers that hold at every call, also of what is saved -/
def zKS (K : Int) (G : Nat → Int) : Prop := (0 ≤ G 102 ∧ G 102 ≤ K) ∧ (0 ≤ G 105 ∧ G 105 ≤ K) ∧ (0 ≤ G 106 ∧ G 106 ≤ K) ∧ (0 ≤ G 6 ∧ G 6 < zln G) ∧ (0 ≤ G 7 ∧ G 7 ≤ 227) ∧ (0 ≤ G 8 ∧ G 8 ≤ K) ∧ zJ (G 102) (G 8)
theorem zKS.keep {K K1 : Int} {G G1 : Nat → Int} (h : zKS K G) (c : K ≤ K1) (e : ∀ i, i ∈ [1, 6, 7, 8, 102, 105, 106] → G1 i = G i) : zKS K1 G1 := by
  obtain ⟨a1, a2, a3, a4, a5, a6, a7⟩ := h
  unfold zKS
  rw [e 102 (by decide), e 105 (by decide), e 106 (by decide), e 6 (by decide), e 7 (by decide), e 8 (by decide), zln_c (e 1 (by decide))]
  exact ⟨by omega, by omega, by omega, a4, a5, by omega, a7⟩
theorem zK.keep {K : Int} {G G1 : Nat → Int} (h : zK K G) (e : ∀ i, i ∈ [1, 3, 4, 5, 100, 101, 103, 104] → G1 i = G i) : zK K G1 := by
  unfold zK zGJ at h ⊢
  rw [e 100 (by decide), e 103 (by decide), e 104 (by decide), e 101 (by decide), e 3 (by decide), e 4 (by decide), e 5 (by decide), zln_c (e 1 (by decide))]
  exact h
/-- anew: line and beat -/
theorem zK.line {K : Int} {G G1 : Nat → Int} (h : zK K G) (e : ∀ i, i ∈ [1, 5, 100, 101, 103, 104] → G1 i = G i) (c : G1 3 = G 3 ∨ G1 3 = 0) (d : 0 ≤ G1 4 ∧ G1 4 ≤ 227) : zK K G1 := by
  have lb := zln_b G
  unfold zK zGJ at h ⊢
  rw [e 100 (by decide), e 103 (by decide), e 104 (by decide), e 101 (by decide), e 5 (by decide), zln_c (e 1 (by decide))]
  obtain ⟨⟨j1, j2, j3, j4, j5, j6, j7, j8⟩, k1, k2, k3, k4, k5⟩ := h
  refine ⟨⟨j1, j2, j3, j4, ?_, d, j7, j8⟩, k1, k2, k3, k4, k5⟩
  rcases c with c | c <;> rw [c]
  · exact j5
  · omega
theorem zIM.beat {G : Nat → Int} {σ : zSt} (h : zIM G σ) : 0 ≤ G 4 ∧ G 4 ≤ 227 := by
  have a : zr 0 227 (zgi σ 3 67) := rM_30 h.sg 67 (by decide)
  have b : (zgi σ 3 67).toInt = G 4 := h.at 4 (by decide)
  rw [← b]; exact a

def zFsva (j : Nat) (G : Nat → Int) (i : Nat) : Int := if i = 6 then (if j = 66 then G 3 else G 6) else if i = 7 then (if j = 67 then G 4 else G 7) else if i = 8 then (if j = 168 then G 5 else G 8) else G i
theorem zIM.sva {G : Nat → Int} {σ : zSt} {j : Nat} (h : zIM G σ) (hj : j ≤ 1047) : zIM (zFsva j G) (zsi σ 12 j (zgi σ 3 j)) := by
  obtain ⟨G2, h2, g2⟩ := (h.E (l := [6, 7, 8])).c12 (j := j) ⟨Nat.zero_le _, hj⟩ (by decide +kernel)
  have e : G2 = zFsva j G := by
    funext i
    unfold zFsva
    by_cases i6 : i = 6
    · subst i6
      rw [if_pos rfl]
      have a0 : (zgi (zsi σ 12 j (zgi σ 3 j)) 12 66).toInt = G2 6 := h2.at 6 (by decide)
      have a : ((zsi σ 12 j (zgi σ 3 j)).1 12 66).toInt = G2 6 := a0
      have b : (zgi σ 3 66).toInt = G 3 := h.at 3 (by decide)
      have c : (zgi σ 12 66).toInt = G 6 := h.at 6 (by decide)
      by_cases q : j = 66
      · subst q
        rw [zsi_at, if_pos ⟨rfl, rfl⟩] at a
        rw [if_pos rfl, ← a]; exact b
      · rw [zsi_at, if_neg (fun r => q r.2.symm)] at a
        rw [if_neg q, ← a]; exact c
    rw [if_neg i6]
    by_cases i7 : i = 7
    · subst i7
      rw [if_pos rfl]
      have a0 : (zgi (zsi σ 12 j (zgi σ 3 j)) 12 67).toInt = G2 7 := h2.at 7 (by decide)
      have a : ((zsi σ 12 j (zgi σ 3 j)).1 12 67).toInt = G2 7 := a0
      have b : (zgi σ 3 67).toInt = G 4 := h.at 4 (by decide)
      have c : (zgi σ 12 67).toInt = G 7 := h.at 7 (by decide)
      by_cases q : j = 67
      · subst q
        rw [zsi_at, if_pos ⟨rfl, rfl⟩] at a
        rw [if_pos rfl, ← a]; exact b
      · rw [zsi_at, if_neg (fun r => q r.2.symm)] at a
        rw [if_neg q, ← a]; exact c
    rw [if_neg i7]
    by_cases i8 : i = 8
    · subst i8
      rw [if_pos rfl]
      have a0 : (zgi (zsi σ 12 j (zgi σ 3 j)) 12 168).toInt = G2 8 := h2.at 8 (by decide)
      have a : ((zsi σ 12 j (zgi σ 3 j)).1 12 168).toInt = G2 8 := a0
      have b : (zgi σ 3 168).toInt = G 5 := h.at 5 (by decide)
      have c : (zgi σ 12 168).toInt = G 8 := h.at 8 (by decide)
      by_cases q : j = 168
      · subst q
        rw [zsi_at, if_pos ⟨rfl, rfl⟩] at a
        rw [if_pos rfl, ← a]; exact b
      · rw [zsi_at, if_neg (fun r => q r.2.symm)] at a
        rw [if_neg q, ← a]; exact c
    rw [if_neg i8]
    exact g2 i (fun r => by simp only [List.mem_cons, List.not_mem_nil, or_false] at r; omega)
  rw [← e]; exact h2
def zFsvl (j : Nat) (G : Nat → Int) (i : Nat) : Int := if i = 102 then (if j = 0 then G 100 else G 102) else if i = 105 then (if j = 4 then G 104 else G 105) else if i = 106 then (if j = 2 then G 101 else G 106) else G i
theorem zIM.svl {G : Nat → Int} {σ : zSt} {j : Nat} (h : zIM G σ) (hj : j ≤ 4) : zIM (zFsvl j G) (zsl σ 13 j (zgl σ 4 j)) := by
  obtain ⟨G2, h2, g2⟩ := (h.E (l := [102, 105, 106])).wle (v := zgl σ 4 j) (k := 13) 0 4 ⟨Nat.zero_le _, hj⟩ (by decide +kernel)
  have e : G2 = zFsvl j G := by
    funext i
    unfold zFsvl
    by_cases i102 : i = 102
    · subst i102
      rw [if_pos rfl]
      have a0 : (zgl (zsl σ 13 j (zgl σ 4 j)) 13 0).toInt = G2 102 := h2.atl 2 (by decide)
      have a : ((zsl σ 13 j (zgl σ 4 j)).2 13 0).toInt = G2 102 := a0
      have b : (zgl σ 4 0).toInt = G 100 := h.atl 0 (by decide)
      have c : (zgl σ 13 0).toInt = G 102 := h.atl 2 (by decide)
      by_cases q : j = 0
      · subst q
        rw [zsl_at, if_pos ⟨rfl, rfl⟩] at a
        rw [if_pos rfl, ← a]; exact b
      · rw [zsl_at, if_neg (fun r => q r.2.symm)] at a
        rw [if_neg q, ← a]; exact c
    rw [if_neg i102]
    by_cases i105 : i = 105
    · subst i105
      rw [if_pos rfl]
      have a0 : (zgl (zsl σ 13 j (zgl σ 4 j)) 13 4).toInt = G2 105 := h2.atl 5 (by decide)
      have a : ((zsl σ 13 j (zgl σ 4 j)).2 13 4).toInt = G2 105 := a0
      have b : (zgl σ 4 4).toInt = G 104 := h.atl 4 (by decide)
      have c : (zgl σ 13 4).toInt = G 105 := h.atl 5 (by decide)
      by_cases q : j = 4
      · subst q
        rw [zsl_at, if_pos ⟨rfl, rfl⟩] at a
        rw [if_pos rfl, ← a]; exact b
      · rw [zsl_at, if_neg (fun r => q r.2.symm)] at a
        rw [if_neg q, ← a]; exact c
    rw [if_neg i105]
    by_cases i106 : i = 106
    · subst i106
      rw [if_pos rfl]
      have a0 : (zgl (zsl σ 13 j (zgl σ 4 j)) 13 2).toInt = G2 106 := h2.atl 6 (by decide)
      have a : ((zsl σ 13 j (zgl σ 4 j)).2 13 2).toInt = G2 106 := a0
      have b : (zgl σ 4 2).toInt = G 101 := h.atl 1 (by decide)
      have c : (zgl σ 13 2).toInt = G 106 := h.atl 6 (by decide)
      by_cases q : j = 2
      · subst q
        rw [zsl_at, if_pos ⟨rfl, rfl⟩] at a
        rw [if_pos rfl, ← a]; exact b
      · rw [zsl_at, if_neg (fun r => q r.2.symm)] at a
        rw [if_neg q, ← a]; exact c
    rw [if_neg i106]
    exact g2 i (fun r => by simp only [List.mem_cons, List.not_mem_nil, or_false] at r; omega)
  rw [← e]; exact h2
def zLsave (G0 : Nat → Int) (r : zSt) : Prop := ∃ G1, zIM G1 r ∧ (∀ i, ¬ i = 102 → ¬ i = 105 → ¬ i = 106 → G1 i = G0 i) ∧ G1 102 = G0 100 ∧ G1 105 = G0 104 ∧ G1 106 = G0 101
def zAsave (G0 : Nat → Int) (r : zSt) : Prop := ∃ G1, zIM G1 r ∧ (∀ i, ¬ i = 6 → ¬ i = 7 → ¬ i = 8 → ¬ i = 102 → ¬ i = 105 → ¬ i = 106 → G1 i = G0 i) ∧ G1 6 = G0 3 ∧ G1 7 = G0 4 ∧ G1 8 = G0 5 ∧ G1 102 = G0 100 ∧ G1 105 = G0 104 ∧ G1 106 = G0 101
def zIsvl (x : Int) (G0 G : Nat → Int) : Prop := (∀ i, ¬ i = 102 → ¬ i = 105 → ¬ i = 106 → G i = G0 i) ∧ (0 < x → G 102 = G0 100) ∧ (4 < x → G 105 = G0 104) ∧ (2 < x → G 106 = G0 101)
theorem zIsvl.next {x : Int} {j : Nat} {G0 G : Nat → Int} (h : zIsvl x G0 G) (e : (j : Int) = x) : zIsvl (x + 1) G0 (zFsvl j G) := by
  obtain ⟨h0, h102, h105, h106⟩ := h
  refine ⟨fun i n102 n105 n106 => ?_, fun l => ?_, fun l => ?_, fun l => ?_⟩
  · unfold zFsvl; rw [if_neg n102, if_neg n105, if_neg n106]; exact h0 i n102 n105 n106
  · unfold zFsvl
    rw [if_pos rfl]
    by_cases q : j = 0
    · rw [if_pos q]; exact h0 100 (by decide) (by decide) (by decide)
    · rw [if_neg q]; exact h102 (by omega)
  · unfold zFsvl
    rw [if_neg (by decide : ¬ 105 = 102), if_pos rfl]
    by_cases q : j = 4
    · rw [if_pos q]; exact h0 104 (by decide) (by decide) (by decide)
    · rw [if_neg q]; exact h105 (by omega)
  · unfold zFsvl
    rw [if_neg (by decide : ¬ 106 = 102), if_neg (by decide : ¬ 106 = 105), if_pos rfl]
    by_cases q : j = 2
    · rw [if_pos q]; exact h0 101 (by decide) (by decide) (by decide)
    · rw [if_neg q]; exact h106 (by omega)
theorem q_save_39 : ∀ (n : Nat) {G0 G : Nat → Int} {σ : zSt} (hσ : zIM G σ) {x1 : Int32} (h1 : zr 0 5 x1) (hI : zIsvl x1.toInt G0 G) (hm : 5 - x1.toInt < n), zok (fX12_save_39 n σ x1) (zLsave G0) := by
  intro n
  induction n with
  | zero => intro G0 G σ hσ x1 h1 hI hm; have := h1.2; exfalso; omega
  | succ n ih =>
    intro G0 G σ hσ x1 h1 hI hm
    show zok (fX12_save_39_body (fX12_save_39 n) σ x1) _
    unfold fX12_save_39_body
    have c9 : (5 : Int32).toInt = 5 := rfl
    have b1 := h1.1
    refine zok_if (fun q => ?_) (fun q => ?_)
    · have q1 := Int32.le_iff_toInt_le.mp q
      obtain ⟨h0, h102, h105, h106⟩ := hI
      exact zok_mono (s_X12_save_64 zfuel hσ (zr_c (by decide)) (by decide)) (fun r i => ⟨G, i, h0, h102 (by omega), h105 (by omega), h106 (by omega)⟩)
    · have q1 := Int32.lt_iff_toInt_lt.mp (z_nle q)
      have h5 : zr 0 4 x1 := ⟨b1, by omega⟩
      have c1 : (1 : Int32).toInt = 1 := rfl
      have t : (x1 + 1).toInt = x1.toInt + (1 : Int32).toInt := z_tadd h5 (zr_c (lo := 1) (hi := 1) (x := 1) (by decide)) (by decide)
      have ex : (x1.toNatClampNeg : Int) = x1.toInt := by have : x1.toNatClampNeg = x1.toInt.toNat := rfl; omega
      refine zok_ck (zin_ok h5 (by decide)) (zok_ck (zin_ok h5 (by decide)) ?_)
      refine zok_bs (I := zIM (zFsvl x1.toNatClampNeg G)) (hσ.svl (by omega)) (fun σ1 e1 i1 => ?_)
      refine zok_bv (fun v3 e3 => ?_)
      subst e3
      refine ih i1 ⟨by omega, by omega⟩ ?_ (by omega)
      rw [t, c1]
      exact hI.next ex
def zIsva (x : Int) (G0 G : Nat → Int) : Prop := (∀ i, ¬ i = 6 → ¬ i = 7 → ¬ i = 8 → G i = G0 i) ∧ (66 < x → G 6 = G0 3) ∧ (67 < x → G 7 = G0 4) ∧ (168 < x → G 8 = G0 5)
theorem zIsva.next {x : Int} {j : Nat} {G0 G : Nat → Int} (h : zIsva x G0 G) (e : (j : Int) = x) : zIsva (x + 1) G0 (zFsva j G) := by
  obtain ⟨h0, h6, h7, h8⟩ := h
  refine ⟨fun i n6 n7 n8 => ?_, fun l => ?_, fun l => ?_, fun l => ?_⟩
  · unfold zFsva; rw [if_neg n6, if_neg n7, if_neg n8]; exact h0 i n6 n7 n8
  · unfold zFsva
    rw [if_pos rfl]
    by_cases q : j = 66
    · rw [if_pos q]; exact h0 3 (by decide) (by decide) (by decide)
    · rw [if_neg q]; exact h6 (by omega)
  · unfold zFsva
    rw [if_neg (by decide : ¬ 7 = 6), if_pos rfl]
    by_cases q : j = 67
    · rw [if_pos q]; exact h0 4 (by decide) (by decide) (by decide)
    · rw [if_neg q]; exact h7 (by omega)
  · unfold zFsva
    rw [if_neg (by decide : ¬ 8 = 6), if_neg (by decide : ¬ 8 = 7), if_pos rfl]
    by_cases q : j = 168
    · rw [if_pos q]; exact h0 5 (by decide) (by decide) (by decide)
    · rw [if_neg q]; exact h8 (by omega)
theorem q_save_12 : ∀ (n : Nat) {G0 G : Nat → Int} {σ : zSt} (hσ : zIM G σ) {x1 : Int32} (h1 : zr 0 1048 x1) (hI : zIsva x1.toInt G0 G) (hm : 1048 - x1.toInt < n), zok (fX12_save_12 n σ x1) (zAsave G0) := by
  intro n
  induction n with
  | zero => intro G0 G σ hσ x1 h1 hI hm; have := h1.2; exfalso; omega
  | succ n ih =>
    intro G0 G σ hσ x1 h1 hI hm
    show zok (fX12_save_12_body (fX12_save_12 n) σ x1) _
    unfold fX12_save_12_body
    have c9 : (1048 : Int32).toInt = 1048 := rfl
    have b1 := h1.1
    refine zok_if (fun q => ?_) (fun q => ?_)
    · have q1 := Int32.le_iff_toInt_le.mp q
      obtain ⟨h0, h6, h7, h8⟩ := hI
      refine zok_mono (q_save_39 zfuel (G0 := G) (x1 := 0) hσ (zr_c (by decide)) ⟨fun i _ _ _ => rfl, fun l => absurd l (by decide), fun l => absurd l (by decide), fun l => absurd l (by decide)⟩ (by decide)) (fun r q => ?_)
      obtain ⟨G1, i1, g0, g102, g105, g106⟩ := q
      refine ⟨G1, i1, fun i n6 n7 n8 n102 n105 n106 => (g0 i n102 n105 n106).trans (h0 i n6 n7 n8), (g0 6 (by decide) (by decide) (by decide)).trans (h6 (by omega)), (g0 7 (by decide) (by decide) (by decide)).trans (h7 (by omega)), (g0 8 (by decide) (by decide) (by decide)).trans (h8 (by omega)), g102.trans (h0 100 (by decide) (by decide) (by decide)), g105.trans (h0 104 (by decide) (by decide) (by decide)), g106.trans (h0 101 (by decide) (by decide) (by decide))⟩
    · have q1 := Int32.lt_iff_toInt_lt.mp (z_nle q)
      have h5 : zr 0 1047 x1 := ⟨b1, by omega⟩
      have c1 : (1 : Int32).toInt = 1 := rfl
      have t : (x1 + 1).toInt = x1.toInt + (1 : Int32).toInt := z_tadd h5 (zr_c (lo := 1) (hi := 1) (x := 1) (by decide)) (by decide)
      have ex : (x1.toNatClampNeg : Int) = x1.toInt := by have : x1.toNatClampNeg = x1.toInt.toNat := rfl; omega
      refine zok_ck (zin_ok h5 (by decide)) (zok_ck (zin_ok h5 (by decide)) ?_)
      refine zok_bs (I := zIM (zFsva x1.toNatClampNeg G)) (hσ.sva (by omega)) (fun σ1 e1 i1 => ?_)
      refine zok_bv (fun v3 e3 => ?_)
      subst e3
      refine ih i1 ⟨by omega, by omega⟩ ?_ (by omega)
      rw [t, c1]
      exact hI.next ex
def zFrsa (j : Nat) (G : Nat → Int) (i : Nat) : Int := if i = 3 then (if j = 66 then G 6 else G 3) else if i = 4 then (if j = 67 then G 7 else G 4) else if i = 5 then (if j = 168 then G 8 else G 5) else G i
theorem zIM.rsa {G : Nat → Int} {σ : zSt} {j : Nat} (h : zIM G σ) (hj : j ≤ 1047) : zIM (zFrsa j G) (zsi σ 3 j (zgi σ 12 j)) := by
  obtain ⟨G2, h2, g2⟩ := (h.E (l := [3, 4, 5])).c3 (j := j) ⟨Nat.zero_le _, hj⟩ (by decide +kernel)
  have e : G2 = zFrsa j G := by
    funext i
    unfold zFrsa
    by_cases i3 : i = 3
    · subst i3
      rw [if_pos rfl]
      have a0 : (zgi (zsi σ 3 j (zgi σ 12 j)) 3 66).toInt = G2 3 := h2.at 3 (by decide)
      have a : ((zsi σ 3 j (zgi σ 12 j)).1 3 66).toInt = G2 3 := a0
      have b : (zgi σ 12 66).toInt = G 6 := h.at 6 (by decide)
      have c : (zgi σ 3 66).toInt = G 3 := h.at 3 (by decide)
      by_cases q : j = 66
      · subst q
        rw [zsi_at, if_pos ⟨rfl, rfl⟩] at a
        rw [if_pos rfl, ← a]; exact b
      · rw [zsi_at, if_neg (fun r => q r.2.symm)] at a
        rw [if_neg q, ← a]; exact c
    rw [if_neg i3]
    by_cases i4 : i = 4
    · subst i4
      rw [if_pos rfl]
      have a0 : (zgi (zsi σ 3 j (zgi σ 12 j)) 3 67).toInt = G2 4 := h2.at 4 (by decide)
      have a : ((zsi σ 3 j (zgi σ 12 j)).1 3 67).toInt = G2 4 := a0
      have b : (zgi σ 12 67).toInt = G 7 := h.at 7 (by decide)
      have c : (zgi σ 3 67).toInt = G 4 := h.at 4 (by decide)
      by_cases q : j = 67
      · subst q
        rw [zsi_at, if_pos ⟨rfl, rfl⟩] at a
        rw [if_pos rfl, ← a]; exact b
      · rw [zsi_at, if_neg (fun r => q r.2.symm)] at a
        rw [if_neg q, ← a]; exact c
    rw [if_neg i4]
    by_cases i5 : i = 5
    · subst i5
      rw [if_pos rfl]
      have a0 : (zgi (zsi σ 3 j (zgi σ 12 j)) 3 168).toInt = G2 5 := h2.at 5 (by decide)
      have a : ((zsi σ 3 j (zgi σ 12 j)).1 3 168).toInt = G2 5 := a0
      have b : (zgi σ 12 168).toInt = G 8 := h.at 8 (by decide)
      have c : (zgi σ 3 168).toInt = G 5 := h.at 5 (by decide)
      by_cases q : j = 168
      · subst q
        rw [zsi_at, if_pos ⟨rfl, rfl⟩] at a
        rw [if_pos rfl, ← a]; exact b
      · rw [zsi_at, if_neg (fun r => q r.2.symm)] at a
        rw [if_neg q, ← a]; exact c
    rw [if_neg i5]
    exact g2 i (fun r => by simp only [List.mem_cons, List.not_mem_nil, or_false] at r; omega)
  rw [← e]; exact h2
def zFrsl (j : Nat) (G : Nat → Int) (i : Nat) : Int := if i = 100 then (if j = 0 then G 102 else G 100) else if i = 104 then (if j = 4 then G 105 else G 104) else if i = 101 then (if j = 2 then G 106 else G 101) else G i
theorem zIM.rsl {G : Nat → Int} {σ : zSt} {j : Nat} (h : zIM G σ) (hj : j ≤ 4) : zIM (zFrsl j G) (zsl σ 4 j (zgl σ 13 j)) := by
  obtain ⟨G2, h2, g2⟩ := (h.E (l := [100, 104, 101])).wle (v := zgl σ 13 j) (k := 4) 0 4 ⟨Nat.zero_le _, hj⟩ (by decide +kernel)
  have e : G2 = zFrsl j G := by
    funext i
    unfold zFrsl
    by_cases i100 : i = 100
    · subst i100
      rw [if_pos rfl]
      have a0 : (zgl (zsl σ 4 j (zgl σ 13 j)) 4 0).toInt = G2 100 := h2.atl 0 (by decide)
      have a : ((zsl σ 4 j (zgl σ 13 j)).2 4 0).toInt = G2 100 := a0
      have b : (zgl σ 13 0).toInt = G 102 := h.atl 2 (by decide)
      have c : (zgl σ 4 0).toInt = G 100 := h.atl 0 (by decide)
      by_cases q : j = 0
      · subst q
        rw [zsl_at, if_pos ⟨rfl, rfl⟩] at a
        rw [if_pos rfl, ← a]; exact b
      · rw [zsl_at, if_neg (fun r => q r.2.symm)] at a
        rw [if_neg q, ← a]; exact c
    rw [if_neg i100]
    by_cases i104 : i = 104
    · subst i104
      rw [if_pos rfl]
      have a0 : (zgl (zsl σ 4 j (zgl σ 13 j)) 4 4).toInt = G2 104 := h2.atl 4 (by decide)
      have a : ((zsl σ 4 j (zgl σ 13 j)).2 4 4).toInt = G2 104 := a0
      have b : (zgl σ 13 4).toInt = G 105 := h.atl 5 (by decide)
      have c : (zgl σ 4 4).toInt = G 104 := h.atl 4 (by decide)
      by_cases q : j = 4
      · subst q
        rw [zsl_at, if_pos ⟨rfl, rfl⟩] at a
        rw [if_pos rfl, ← a]; exact b
      · rw [zsl_at, if_neg (fun r => q r.2.symm)] at a
        rw [if_neg q, ← a]; exact c
    rw [if_neg i104]
    by_cases i101 : i = 101
    · subst i101
      rw [if_pos rfl]
      have a0 : (zgl (zsl σ 4 j (zgl σ 13 j)) 4 2).toInt = G2 101 := h2.atl 1 (by decide)
      have a : ((zsl σ 4 j (zgl σ 13 j)).2 4 2).toInt = G2 101 := a0
      have b : (zgl σ 13 2).toInt = G 106 := h.atl 6 (by decide)
      have c : (zgl σ 4 2).toInt = G 101 := h.atl 1 (by decide)
      by_cases q : j = 2
      · subst q
        rw [zsl_at, if_pos ⟨rfl, rfl⟩] at a
        rw [if_pos rfl, ← a]; exact b
      · rw [zsl_at, if_neg (fun r => q r.2.symm)] at a
        rw [if_neg q, ← a]; exact c
    rw [if_neg i101]
    exact g2 i (fun r => by simp only [List.mem_cons, List.not_mem_nil, or_false] at r; omega)
  rw [← e]; exact h2
def zLrestore (G0 : Nat → Int) (r : zSt) : Prop := ∃ G1, zIM G1 r ∧ (∀ i, ¬ i = 100 → ¬ i = 104 → ¬ i = 101 → G1 i = G0 i) ∧ G1 100 = G0 102 ∧ G1 104 = G0 105 ∧ G1 101 = G0 106
def zArestore (G0 : Nat → Int) (r : zSt) : Prop := ∃ G1, zIM G1 r ∧ (∀ i, ¬ i = 3 → ¬ i = 4 → ¬ i = 5 → ¬ i = 100 → ¬ i = 104 → ¬ i = 101 → G1 i = G0 i) ∧ G1 3 = G0 6 ∧ G1 4 = G0 7 ∧ G1 5 = G0 8 ∧ G1 100 = G0 102 ∧ G1 104 = G0 105 ∧ G1 101 = G0 106
def zIrsl (x : Int) (G0 G : Nat → Int) : Prop := (∀ i, ¬ i = 100 → ¬ i = 104 → ¬ i = 101 → G i = G0 i) ∧ (0 < x → G 100 = G0 102) ∧ (4 < x → G 104 = G0 105) ∧ (2 < x → G 101 = G0 106)
theorem zIrsl.next {x : Int} {j : Nat} {G0 G : Nat → Int} (h : zIrsl x G0 G) (e : (j : Int) = x) : zIrsl (x + 1) G0 (zFrsl j G) := by
  obtain ⟨h0, h100, h104, h101⟩ := h
  refine ⟨fun i n100 n104 n101 => ?_, fun l => ?_, fun l => ?_, fun l => ?_⟩
  · unfold zFrsl; rw [if_neg n100, if_neg n104, if_neg n101]; exact h0 i n100 n104 n101
  · unfold zFrsl
    rw [if_pos rfl]
    by_cases q : j = 0
    · rw [if_pos q]; exact h0 102 (by decide) (by decide) (by decide)
    · rw [if_neg q]; exact h100 (by omega)
  · unfold zFrsl
    rw [if_neg (by decide : ¬ 104 = 100), if_pos rfl]
    by_cases q : j = 4
    · rw [if_pos q]; exact h0 105 (by decide) (by decide) (by decide)
    · rw [if_neg q]; exact h104 (by omega)
  · unfold zFrsl
    rw [if_neg (by decide : ¬ 101 = 100), if_neg (by decide : ¬ 101 = 104), if_pos rfl]
    by_cases q : j = 2
    · rw [if_pos q]; exact h0 106 (by decide) (by decide) (by decide)
    · rw [if_neg q]; exact h101 (by omega)
theorem q_restore_50 : ∀ (n : Nat) {G0 G : Nat → Int} {σ : zSt} (hσ : zIM G σ) {x1 : Int32} (h1 : zr 0 5 x1) (hI : zIrsl x1.toInt G0 G) (hm : 5 - x1.toInt < n), zok (fX12_restore_50 n σ x1) (zLrestore G0) := by
  intro n
  induction n with
  | zero => intro G0 G σ hσ x1 h1 hI hm; have := h1.2; exfalso; omega
  | succ n ih =>
    intro G0 G σ hσ x1 h1 hI hm
    show zok (fX12_restore_50_body (fX12_restore_50 n) σ x1) _
    unfold fX12_restore_50_body
    have c9 : (5 : Int32).toInt = 5 := rfl
    have b1 := h1.1
    refine zok_if (fun q => ?_) (fun q => ?_)
    · have q1 := Int32.le_iff_toInt_le.mp q
      obtain ⟨h0, h100, h104, h101⟩ := hI
      exact zok_mono (s_X12_restore_75 zfuel hσ (zr_c (by decide)) (by decide)) (fun r i => ⟨G, i, h0, h100 (by omega), h104 (by omega), h101 (by omega)⟩)
    · have q1 := Int32.lt_iff_toInt_lt.mp (z_nle q)
      have h5 : zr 0 4 x1 := ⟨b1, by omega⟩
      have c1 : (1 : Int32).toInt = 1 := rfl
      have t : (x1 + 1).toInt = x1.toInt + (1 : Int32).toInt := z_tadd h5 (zr_c (lo := 1) (hi := 1) (x := 1) (by decide)) (by decide)
      have ex : (x1.toNatClampNeg : Int) = x1.toInt := by have : x1.toNatClampNeg = x1.toInt.toNat := rfl; omega
      refine zok_ck (zin_ok h5 (by decide)) (zok_ck (zin_ok h5 (by decide)) ?_)
      refine zok_bs (I := zIM (zFrsl x1.toNatClampNeg G)) (hσ.rsl (by omega)) (fun σ1 e1 i1 => ?_)
      refine zok_bv (fun v3 e3 => ?_)
      subst e3
      refine ih i1 ⟨by omega, by omega⟩ ?_ (by omega)
      rw [t, c1]
      exact hI.next ex
def zIrsa (x : Int) (G0 G : Nat → Int) : Prop := (∀ i, ¬ i = 3 → ¬ i = 4 → ¬ i = 5 → G i = G0 i) ∧ (66 < x → G 3 = G0 6) ∧ (67 < x → G 4 = G0 7) ∧ (168 < x → G 5 = G0 8)
theorem zIrsa.next {x : Int} {j : Nat} {G0 G : Nat → Int} (h : zIrsa x G0 G) (e : (j : Int) = x) : zIrsa (x + 1) G0 (zFrsa j G) := by
  obtain ⟨h0, h3, h4, h5⟩ := h
  refine ⟨fun i n3 n4 n5 => ?_, fun l => ?_, fun l => ?_, fun l => ?_⟩
  · unfold zFrsa; rw [if_neg n3, if_neg n4, if_neg n5]; exact h0 i n3 n4 n5
  · unfold zFrsa
    rw [if_pos rfl]
    by_cases q : j = 66
    · rw [if_pos q]; exact h0 6 (by decide) (by decide) (by decide)
    · rw [if_neg q]; exact h3 (by omega)
  · unfold zFrsa
    rw [if_neg (by decide : ¬ 4 = 3), if_pos rfl]
    by_cases q : j = 67
    · rw [if_pos q]; exact h0 7 (by decide) (by decide) (by decide)
    · rw [if_neg q]; exact h4 (by omega)
  · unfold zFrsa
    rw [if_neg (by decide : ¬ 5 = 3), if_neg (by decide : ¬ 5 = 4), if_pos rfl]
    by_cases q : j = 168
    · rw [if_pos q]; exact h0 8 (by decide) (by decide) (by decide)
    · rw [if_neg q]; exact h5 (by omega)
theorem q_restore_23 : ∀ (n : Nat) {G0 G : Nat → Int} {σ : zSt} (hσ : zIM G σ) {x1 : Int32} (h1 : zr 0 1048 x1) (hI : zIrsa x1.toInt G0 G) (hm : 1048 - x1.toInt < n), zok (fX12_restore_23 n σ x1) (zArestore G0) := by
  intro n
  induction n with
  | zero => intro G0 G σ hσ x1 h1 hI hm; have := h1.2; exfalso; omega
  | succ n ih =>
    intro G0 G σ hσ x1 h1 hI hm
    show zok (fX12_restore_23_body (fX12_restore_23 n) σ x1) _
    unfold fX12_restore_23_body
    have c9 : (1048 : Int32).toInt = 1048 := rfl
    have b1 := h1.1
    refine zok_if (fun q => ?_) (fun q => ?_)
    · have q1 := Int32.le_iff_toInt_le.mp q
      obtain ⟨h0, h3, h4, h5⟩ := hI
      refine zok_mono (q_restore_50 zfuel (G0 := G) (x1 := 0) hσ (zr_c (by decide)) ⟨fun i _ _ _ => rfl, fun l => absurd l (by decide), fun l => absurd l (by decide), fun l => absurd l (by decide)⟩ (by decide)) (fun r q => ?_)
      obtain ⟨G1, i1, g0, g100, g104, g101⟩ := q
      refine ⟨G1, i1, fun i n3 n4 n5 n100 n104 n101 => (g0 i n100 n104 n101).trans (h0 i n3 n4 n5), (g0 3 (by decide) (by decide) (by decide)).trans (h3 (by omega)), (g0 4 (by decide) (by decide) (by decide)).trans (h4 (by omega)), (g0 5 (by decide) (by decide) (by decide)).trans (h5 (by omega)), g100.trans (h0 102 (by decide) (by decide) (by decide)), g104.trans (h0 105 (by decide) (by decide) (by decide)), g101.trans (h0 106 (by decide) (by decide) (by decide))⟩
    · have q1 := Int32.lt_iff_toInt_lt.mp (z_nle q)
      have h5 : zr 0 1047 x1 := ⟨b1, by omega⟩
      have c1 : (1 : Int32).toInt = 1 := rfl
      have t : (x1 + 1).toInt = x1.toInt + (1 : Int32).toInt := z_tadd h5 (zr_c (lo := 1) (hi := 1) (x := 1) (by decide)) (by decide)
      have ex : (x1.toNatClampNeg : Int) = x1.toInt := by have : x1.toNatClampNeg = x1.toInt.toNat := rfl; omega
      refine zok_ck (zin_ok h5 (by decide)) (zok_ck (zin_ok h5 (by decide)) ?_)
      refine zok_bs (I := zIM (zFrsa x1.toNatClampNeg G)) (hσ.rsa (by omega)) (fun σ1 e1 i1 => ?_)
      refine zok_bv (fun v3 e3 => ?_)
      subst e3
      refine ih i1 ⟨by omega, by omega⟩ ?_ (by omega)
      rw [t, c1]
      exact hI.next ex
def zLE (l : List Nat) (G : Nat → Int) (σ : zSt) : Prop := ∃ c, (c = G 3 ∨ c = 0) ∧ zEM l (zset G 3 c) σ
section ZLE
variable {G : Nat → Int} {σ : zSt} {l : List Nat}
theorem zLE.lift {σ1 : zSt} (h : zLE l G σ) (k : ∀ G1, zEM l G1 σ → zEM l G1 σ1) : zLE l G σ1 := by obtain ⟨c, hc, h1⟩ := h; exact ⟨c, hc, k _ h1⟩
theorem zLE.P (h : zLE l G σ) : zPM σ := by obtain ⟨c, hc, h1⟩ := h; exact h1.P
theorem zLE.sg (h : zLE l G σ) : zSg sM σ := by obtain ⟨c, hc, h1⟩ := h; exact h1.sg
theorem zLE.Y (h : zLE l G σ) : zYM σ := by obtain ⟨c, hc, h1⟩ := h; exact h1.Y
theorem zLE.wk {k j : Nat} {v : Int32} (h : zLE l G σ) (c : (zWk sM zZM zQM k && (!Nat.beq k 0 && (!Nat.beq k 3 && !Nat.beq k 12))) = true) : zLE l G (zsi σ k j v) := h.lift (fun _ h1 => h1.wk c)
theorem zLE.wi {k j : Nat} {v : Int32} {lo hi : Int} (h : zLE l G σ) (a b : Nat) (hj : a ≤ j ∧ j ≤ b) (hv : zr lo hi v) (c : (zWe sM zZM zQM l k a b lo hi && zOM k a b) = true) : zLE l G (zsi σ k j v) := h.lift (fun _ h1 => h1.wi a b hj hv c)
theorem zLE.wb {v : Int32} {lo hi : Int} (h : zLE l G σ) (hv : zr lo hi v) (c : 1 ≤ lo ∧ hi ≤ 16) : zLE l G (zsi σ 0 6 v) := h.lift (fun _ h1 => h1.wb hv c)
theorem zLE.wp {v : Int32} {lo hi a b : Int} (h : zLE l G σ) (hv : zr lo hi v) (hb : zr a b (zgi σ 0 6)) (c : 0 ≤ lo ∧ hi ≤ 3 ∧ 1 ≤ a) : zLE l G (zsi σ 0 7 v) := h.lift (fun _ h1 => h1.wp hv hb c)
theorem zLE.upi {o : Option (zSt × Int32)} {Q : Int32 → Prop} (h : zLE l G σ) (k : ∀ G1, zIM G1 σ → zok o (zAi (zIM G1) Q)) : zok o (zAi (zLE l G) Q) := by
  obtain ⟨c, hc, h1⟩ := h
  exact zok_mono (h1.upi k) (fun r q => ⟨⟨c, hc, q.1⟩, q.2⟩)
theorem zLE.upu {o : Option zSt} (h : zLE l G σ) (k : ∀ G1, zIM G1 σ → zok o (zIM G1)) : zok o (zLE l G) := by
  obtain ⟨c, hc, h1⟩ := h
  exact zok_mono (h1.upu k) (fun r q => ⟨c, hc, q⟩)
theorem zLE_of {G1 : Nat → Int} (h : zIM G1 σ) : zLE l G1 σ := ⟨G1 3, Or.inl rfl, by rw [zset_id]; exact h.E⟩
theorem zLE.sub {l1 : List Nat} {G1 : Nat → Int} {r : zSt} (c : (l1.all (fun i => l.contains i) && !l.contains 3) = true) {d : Int} (hd : d = G 3 ∨ d = 0) (g1 : ∀ i, ¬ i ∈ l → G1 i = zset G 3 d i) (h : zLE l1 G1 r) : zLE l G r := by
  rw [Bool.and_eq_true, List.all_eq_true] at c
  obtain ⟨c1, c2⟩ := c
  have n3 : ¬ (3 : Nat) ∈ l := fun r => by rw [List.contains_iff_mem.mpr r] at c2; exact absurd c2 (by decide)
  obtain ⟨e, he, G2, h2, g2⟩ := h
  have e3 : G1 3 = d := (g1 3 n3).trans zset_eq
  refine ⟨e, ?_, G2, h2, fun i hi => ?_⟩
  · rw [e3] at he
    rcases he with he | he
    · rw [he]; exact hd
    · exact Or.inr he
  · rw [g2 i (fun r => hi (List.contains_iff_mem.mp (c1 i r)))]
    by_cases q : i = 3
    · subst q; rw [zset_eq, zset_eq]
    · rw [zset_ne q, zset_ne q, g1 i hi, zset_ne q]
theorem zLE.uEi {o : Option (zSt × Int32)} {Q : Int32 → Prop} {l1 : List Nat} (h : zLE l G σ) (c : (l1.all (fun i => l.contains i) && !l.contains 3) = true) (k : ∀ G1, zLE l1 G1 σ → zok o (zAi (zLE l1 G1) Q)) : zok o (zAi (zLE l G) Q) := by
  obtain ⟨d, hd, G1, h1, g1⟩ := h
  exact zok_mono (k G1 (zLE_of h1)) (fun r q => ⟨zLE.sub c hd g1 q.1, q.2⟩)
theorem q_anewE (h : zLE [2, 4] G σ) : zok (fX12_anew σ ) (zLE [2, 4] G) := by
  obtain ⟨d, hd, G1, h1, g1⟩ := h
  refine zok_mono (s_anewx h1) (fun r q => ⟨0, Or.inr rfl, _, q, fun i hi => ?_⟩)
  have n4 : ¬ i = 4 := fun e => hi (by rw [e]; decide)
  rw [zset_ne n4]
  by_cases q3 : i = 3
  · subst q3; rw [zset_eq, zset_eq]
  · rw [zset_ne q3, zset_ne q3, g1 i hi, zset_ne q3]
end ZLE
theorem q_load_126 {G : Nat → Int} {σ : zSt} {k89 : zSt → Int32 → Int32 → Option (zSt × Int32)} {Mk89 : Int} (hk89 : ∀ (σ : zSt) (x1 : Int32) (x3 : Int32), zLE [2, 4] G σ → zr (0) (512) x1 → zr (0) (262144) x3 → zr (1) (16) (zgi σ 0 6) → (262144) - x3.toInt < Mk89 → zok (k89 σ x1 x3) (zAi (zLE [2, 4] G) (fun v : Int32 => zr (0) (3) v))) (hσ : zLE [2, 4] G σ) {x1 : Int32} (h_x1 : zr (0) (512) x1) {x3 : Int32} (h_x3 : zr (0) (262143) x3) {s0 : Int32} {s1 : Int32} (h_s1 : zr (0) (262143) s1) (c_0_6 : zr (1) (16) (zgi σ 0 6)) (hMk89 : (262144) - x3.toInt ≤ Mk89) : zok (fX12_load_126 k89 σ x1 x3 s0 s1) (zAi (zLE [2, 4] G) (fun v : Int32 => zr (0) (3) v)) := by
  unfold fX12_load_126
  refine zok_ck (zin_ok h_s1 (by decide)) ?_
  refine zok_bs (hσ.wk (by decide)) (fun σ1 e2 i1 => ?_)
  refine zok_br (zr_add (lo := 1) (hi := 262144) h_x3 (zr_c (lo := 1) (hi := 1) (by decide)) (by decide)) (fun v2 e4 h3 => ?_)
  exact hk89 _ _ _ i1 h_x1 (zr_w h3 (by decide)) (z_tr e2 rfl c_0_6) (by rw [e4]; have := z_tadd (y := (1 : Int32)) h_x3 (zr_c (lo := 1) (hi := 1) (by decide)) (by decide); have e9 : (1 : Int32).toInt = 1 := rfl; omega) 
theorem q_load_161 {G : Nat → Int} {σ : zSt} {k142 : zSt → Int32 → Option (zSt × Int32)} {Mk142 : Int} (hk142 : ∀ (σ : zSt) (x3 : Int32), zLE [2, 4] G σ → zr (8176) (65550) x3 → zr (1) (16) (zgi σ 0 6) → (65550) - x3.toInt < Mk142 → zok (k142 σ x3) (zAi (zLE [2, 4] G) (fun v : Int32 => zr (0) (3) v))) (hσ : zLE [2, 4] G σ) {x3 : Int32} (h_x3 : zr (8176) (32767) x3) (c_0_6 : zr (1) (16) (zgi σ 0 6)) (hMk142 : (65550) - x3.toInt ≤ Mk142) : zok (fX12_load_161 k142 σ x3) (zAi (zLE [2, 4] G) (fun v : Int32 => zr (0) (3) v)) := by
  unfold fX12_load_161
  refine zok_br (zr_add (lo := 16368) (hi := 65550) (zr_mul (lo := 16352) (hi := 65534) (zr_c (lo := 2) (hi := 2) (by decide)) h_x3 (by decide)) (zr_c (lo := 16) (hi := 16) (by decide)) (by decide)) (fun v3 e2 h1 => ?_)
  exact hk142 _ _ hσ (zr_w h1 (by decide)) c_0_6 (z_l142 e2 h_x3 (by decide) hMk142) 
theorem q_load_414_body {G : Nat → Int} {σ : zSt} {k414 : zSt → Int32 → Option (zSt × Int32)} {Mk414 : Int} (hk414 : ∀ (σ : zSt) (x6 : Int32), zLE [2] G σ → zr (0) (8192) x6 → (8192) - x6.toInt < Mk414 → zok (k414 σ x6) (zAi (zLE [2] G) (fun v : Int32 => zr (0) (3) v))) (hσ : zLE [2] G σ) {x6 : Int32} (h_x6 : zr (0) (8192) x6) (hMk414 : (8192) - x6.toInt ≤ Mk414) : zok (fX12_load_414_body k414 σ x6) (zAi (zLE [2] G) (fun v : Int32 => zr (0) (3) v)) := by
  unfold fX12_load_414_body
  refine zok_if (fun q1 => ?_) (fun q1 => ?_)
  · have h2 := zc_ler (8192) q1 (zr_c (lo := 8192) (hi := 8192) (by decide)) h_x6 (by decide)
    refine zok_ck rfl ?_
    refine zok_bs (hσ.wi 19 19 (by decide) (zr_c (lo := 0) (hi := 0) (by decide)) (by decide +kernel)) (fun σ4 e4 i3 => ?_)
    exact zok_sai i3 (zr_w (zr_c (lo := 0) (hi := 0) (by decide)) (by decide))
  have h5 := zc_ltl (8191) (z_nle q1) h_x6 (zr_c (lo := 8192) (hi := 8192) (by decide)) (by decide)
  refine zok_ck (zin_ok h5 (by decide)) ?_
  refine zok_bs (hσ.wk (by decide)) (fun σ5 e7 i6 => ?_)
  refine zok_br (zr_add (lo := 1) (hi := 8192) h5 (zr_c (lo := 1) (hi := 1) (by decide)) (by decide)) (fun v6 e9 h8 => ?_)
  exact hk414 _ _ i6 (zr_w h8 (by decide)) (by rw [e9]; have := z_tadd (y := (1 : Int32)) h5 (zr_c (lo := 1) (hi := 1) (by decide)) (by decide); have e9 : (1 : Int32).toInt = 1 := rfl; omega) 
theorem q_load_414 {G : Nat → Int} : ∀ (n : Nat) {σ : zSt} (hσ : zLE [2] G σ) {x6 : Int32} (h_x6 : zr (0) (8192) x6) (hm : (8192) - x6.toInt < n), zok (fX12_load_414 n σ x6) (zAi (zLE [2] G) (fun v : Int32 => zr (0) (3) v)) := by
  intro n
  induction n with
  | zero => intro σ hσ x6 h_x6 hm ; have h9 := h_x6.1; have h8 := h_x6.2; exfalso; omega
  | succ n ih => intro σ hσ x6 h_x6 hm ; exact q_load_414_body (fun σ x6 hσ h_x6 hm1 => ih hσ h_x6 (by omega)) hσ h_x6 (Int.le_refl _)
theorem q_load_404 {G : Nat → Int} {σ : zSt} (hσ : zLE [2, 4] G σ) {s0 : Int32} (h_s0 : zr (0) (65535) s0) : zok (fX12_load_404 σ s0) (zAi (zLE [2, 4] G) (fun v : Int32 => zr (0) (3) v)) := by
  unfold fX12_load_404
  refine zok_bs (hσ.wi 9 9 (by decide) h_s0 (by decide +kernel)) (fun σ7 e2 i1 => ?_)
  refine zok_bu (q_anewE i1) (fun σ8 i3 => ?_)
  exact (i3.uEi (by decide) (fun G1 hG => q_load_414 zfuel hG (zr_w (zr_c (lo := 0) (hi := 0) (by decide)) (by decide)) (by decide)))
theorem q_load_385 {G : Nat → Int} {σ : zSt} (hσ : zLE [2, 4] G σ) : zok (fX12_load_385 σ ) (zAi (zLE [2, 4] G) (fun v : Int32 => zr (0) (3) v)) := by
  unfold fX12_load_385
  refine zok_if (fun q1 => ?_) (fun q1 => ?_)
  · have h2 := zc_ler (0) q1 (zr_c (lo := 0) (hi := 0) (by decide)) (rM_5 hσ.sg _ (by decide)) (by decide)
    exact (q_load_404 hσ (zr_andr (lo := 0) (hi := 65535) (zr_c (lo := 65535) (hi := 65535) (by decide)) (by decide)))
  have h3 := zc_ltl (-1) (z_nle q1) (rM_5 hσ.sg _ (by decide)) (zr_c (lo := 0) (hi := 0) (by decide)) (by decide)
  exact (q_load_404 hσ (zr_w (zr_c (lo := 0) (hi := 0) (by decide)) (by decide)))
theorem q_load_359 {G : Nat → Int} {σ : zSt} {k337 : zSt → Int32 → Int32 → Option (zSt × Int32)} {Mk337 : Int} (hk337 : ∀ (σ : zSt) (x5 : Int32) (x6 : Int32), zLE [2, 4] G σ → zr (0) (15) x5 → zr (32768) (262144) x6 → (262144) - x6.toInt < Mk337 → zok (k337 σ x5 x6) (zAi (zLE [2, 4] G) (fun v : Int32 => zr (0) (3) v))) (hσ : zLE [2, 4] G σ) {x5 : Int32} (h_x5 : zr (0) (15) x5) {x6 : Int32} (h_x6 : zr (32768) (262143) x6) (hMk337 : (262144) - x6.toInt ≤ Mk337) : zok (fX12_load_359 k337 σ x5 x6) (zAi (zLE [2, 4] G) (fun v : Int32 => zr (0) (3) v)) := by
  unfold fX12_load_359
  refine zok_ck (zin_ok h_x6 (by decide)) ?_
  refine zok_bs (hσ.wi 9 9 (by decide) zr_any (by decide +kernel)) (fun σ9 e2 i1 => ?_)
  refine zok_br (zr_add (lo := 32769) (hi := 262144) h_x6 (zr_c (lo := 1) (hi := 1) (by decide)) (by decide)) (fun v10 e4 h3 => ?_)
  exact hk337 _ _ _ i1 h_x5 (zr_w h3 (by decide)) (by rw [e4]; have := z_tadd (y := (1 : Int32)) h_x6 (zr_c (lo := 1) (hi := 1) (by decide)) (by decide); have e9 : (1 : Int32).toInt = 1 := rfl; omega) 
theorem q_load_337_body {G : Nat → Int} {σ : zSt} {k337 : zSt → Int32 → Int32 → Option (zSt × Int32)} {Mk337 : Int} (hk337 : ∀ (σ : zSt) (x5 : Int32) (x6 : Int32), zLE [2, 4] G σ → zr (0) (15) x5 → zr (32768) (262144) x6 → (262144) - x6.toInt < Mk337 → zok (k337 σ x5 x6) (zAi (zLE [2, 4] G) (fun v : Int32 => zr (0) (3) v))) (hσ : zLE [2, 4] G σ) {x5 : Int32} (h_x5 : zr (0) (15) x5) {x6 : Int32} (h_x6 : zr (32768) (262144) x6) (hMk337 : (262144) - x6.toInt ≤ Mk337) : zok (fX12_load_337_body k337 σ x5 x6) (zAi (zLE [2, 4] G) (fun v : Int32 => zr (0) (3) v)) := by
  unfold fX12_load_337_body
  refine zok_if (fun q1 => ?_) (fun q1 => ?_)
  · exact (q_load_385 hσ)
  have h2 := zc_ltl (262143) (z_nle q1) h_x6 (rM_2 hσ.sg _ (by decide)) (by decide)
  have h3 := zc_ltr (32769) (z_nle q1) h_x6 (rM_2 hσ.sg _ (by decide)) (by decide)
  refine zok_if (fun q4 => ?_) (fun q4 => ?_)
  · have h5 := zc_ltr (14) q4 (zr_c (lo := 13) (hi := 13) (by decide)) h_x5 (by decide)
    exact (q_load_359 hk337 hσ (zr_w h5 (by decide)) h2 hMk337)
  have h6 := zc_lel (13) (z_nlt q4) h_x5 (zr_c (lo := 13) (hi := 13) (by decide)) (by decide)
  refine zok_if (fun q7 => ?_) (fun q7 => ?_)
  · have h8 := zc_ler (3) q7 (zr_c (lo := 3) (hi := 3) (by decide)) h6 (by decide)
    exact (q_load_385 hσ)
  have h9 := zc_ltl (2) (z_nle q7) h6 (zr_c (lo := 3) (hi := 3) (by decide)) (by decide)
  exact (q_load_359 hk337 hσ (zr_w h9 (by decide)) h2 hMk337)
theorem q_load_337 {G : Nat → Int} : ∀ (n : Nat) {σ : zSt} (hσ : zLE [2, 4] G σ) {x5 : Int32} (h_x5 : zr (0) (15) x5) {x6 : Int32} (h_x6 : zr (32768) (262144) x6) (hm : (262144) - x6.toInt < n), zok (fX12_load_337 n σ x5 x6) (zAi (zLE [2, 4] G) (fun v : Int32 => zr (0) (3) v)) := by
  intro n
  induction n with
  | zero => intro σ hσ x5 h_x5 x6 h_x6 hm ; have h9 := h_x6.1; have h8 := h_x6.2; exfalso; omega
  | succ n ih => intro σ hσ x5 h_x5 x6 h_x6 hm ; exact q_load_337_body (fun σ x5 x6 hσ h_x5 h_x6 hm1 => ih hσ h_x5 h_x6 (by omega)) hσ h_x5 h_x6 (Int.le_refl _)
theorem q_load_298_body {G : Nat → Int} {σ : zSt} {k298 : zSt → Int32 → Int32 → Option (zSt × Int32)} {Mk298 : Int} (hk298 : ∀ (σ : zSt) (x5 : Int32) (x6 : Int32), zLE [2, 4] G σ → zr (0) (15) x5 → zr (0) (32767) x6 → (32767) - x6.toInt < Mk298 → zok (k298 σ x5 x6) (zAi (zLE [2, 4] G) (fun v : Int32 => zr (0) (3) v))) (hσ : zLE [2, 4] G σ) {x5 : Int32} (h_x5 : zr (0) (15) x5) {x6 : Int32} (h_x6 : zr (0) (32767) x6) (hMk298 : (32767) - x6.toInt ≤ Mk298) : zok (fX12_load_298_body k298 σ x5 x6) (zAi (zLE [2, 4] G) (fun v : Int32 => zr (0) (3) v)) := by
  unfold fX12_load_298_body
  refine zok_if (fun q1 => ?_) (fun q1 => ?_)
  · exact (q_load_337 zfuel hσ h_x5 (zr_w (zr_c (lo := 32768) (hi := 32768) (by decide)) (by decide)) (by decide))
  have h2 := zc_ltl (32766) (z_nle q1) h_x6 (rM_5 hσ.sg _ (by decide)) (by decide)
  have h3 := zc_ltr (1) (z_nle q1) h_x6 (rM_5 hσ.sg _ (by decide)) (by decide)
  refine zok_ck (zin_ok h2 (by decide)) ?_
  refine zok_bs (hσ.wi 9 9 (by decide) zr_any (by decide +kernel)) (fun σ11 e5 i4 => ?_)
  refine zok_br (zr_add (lo := 1) (hi := 32767) h2 (zr_c (lo := 1) (hi := 1) (by decide)) (by decide)) (fun v12 e7 h6 => ?_)
  exact hk298 _ _ _ i4 h_x5 (zr_w h6 (by decide)) (by rw [e7]; have := z_tadd (y := (1 : Int32)) h2 (zr_c (lo := 1) (hi := 1) (by decide)) (by decide); have e9 : (1 : Int32).toInt = 1 := rfl; omega) 
theorem q_load_298 {G : Nat → Int} : ∀ (n : Nat) {σ : zSt} (hσ : zLE [2, 4] G σ) {x5 : Int32} (h_x5 : zr (0) (15) x5) {x6 : Int32} (h_x6 : zr (0) (32767) x6) (hm : (32767) - x6.toInt < n), zok (fX12_load_298 n σ x5 x6) (zAi (zLE [2, 4] G) (fun v : Int32 => zr (0) (3) v)) := by
  intro n
  induction n with
  | zero => intro σ hσ x5 h_x5 x6 h_x6 hm ; have h9 := h_x6.1; have h8 := h_x6.2; exfalso; omega
  | succ n ih => intro σ hσ x5 h_x5 x6 h_x6 hm ; exact q_load_298_body (fun σ x5 x6 hσ h_x5 h_x6 hm1 => ih hσ h_x5 h_x6 (by omega)) hσ h_x5 h_x6 (Int.le_refl _)
theorem q_load_293 {G : Nat → Int} {σ : zSt} (hσ : zLE [2, 4] G σ) {s0 : Int32} (h_s0 : zr (0) (15) s0) : zok (fX12_load_293 σ s0) (zAi (zLE [2, 4] G) (fun v : Int32 => zr (0) (3) v)) := by
  unfold fX12_load_293
  exact (q_load_298 zfuel hσ h_s0 (zr_w (zr_c (lo := 0) (hi := 0) (by decide)) (by decide)) (by decide))
theorem q_load_259 {G : Nat → Int} {σ : zSt} (hσ : zLE [2, 4] G σ) {s0 : Int32} (h_s0 : zr (0) (3) s0) (c_0_6 : zr (1) (16) (zgi σ 0 6)) : zok (fX12_load_259 σ s0) (zAi (zLE [2, 4] G) (fun v : Int32 => zr (0) (3) v)) := by
  unfold fX12_load_259
  refine zok_bs (hσ.wp h_s0 c_0_6 (by decide)) (fun σ13 e2 i1 => ?_)
  refine zok_bs (i1.wi 9 9 (by decide) (zr_c (lo := 0) (hi := 0) (by decide)) (by decide +kernel)) (fun σ14 e4 i3 => ?_)
  refine zok_if (fun q5 => ?_) (fun q5 => ?_)
  · have h6 := zc_ler (0) q5 (zr_c (lo := 0) (hi := 0) (by decide)) (rM_5 i3.sg _ (by decide)) (by decide)
    refine zok_ck (zin_ok (zr_add (lo := 15) (hi := 32782) h6 (zr_c (lo := 15) (hi := 15) (by decide)) (by decide)) (by decide)) ?_
    exact (q_load_293 i3 (zr_andr (lo := 0) (hi := 15) (zr_c (lo := 15) (hi := 15) (by decide)) (by decide)))
  have h7 := zc_ltl (-1) (z_nle q5) (rM_5 i3.sg _ (by decide)) (zr_c (lo := 0) (hi := 0) (by decide)) (by decide)
  exact (q_load_293 i3 (zr_w (zr_c (lo := 3) (hi := 3) (by decide)) (by decide)))
theorem q_load_247 {G : Nat → Int} {σ : zSt} (hσ : zLE [2, 4] G σ) (c_0_6 : zr (1) (16) (zgi σ 0 6)) : zok (fX12_load_247 σ ) (zAi (zLE [2, 4] G) (fun v : Int32 => zr (0) (3) v)) := by
  unfold fX12_load_247
  refine zok_if (fun q1 => ?_) (fun q1 => ?_)
  · have h2 := zc_ler (0) q1 (zr_c (lo := 0) (hi := 0) (by decide)) (rM_5 hσ.sg _ (by decide)) (by decide)
    exact (q_load_259 hσ (zr_w (zr_c (lo := 1) (hi := 1) (by decide)) (by decide)) c_0_6)
  have h3 := zc_ltl (-1) (z_nle q1) (rM_5 hσ.sg _ (by decide)) (zr_c (lo := 0) (hi := 0) (by decide)) (by decide)
  exact (q_load_259 hσ (zr_w (zr_c (lo := 3) (hi := 3) (by decide)) (by decide)) c_0_6)
theorem q_load_214 {G : Nat → Int} {σ : zSt} (hσ : zLE [2, 4] G σ) {x3 : Int32} {s0 : Int32} (c_0_6 : zr (1) (16) (zgi σ 0 6)) : zok (fX12_load_214 σ x3 s0) (zAi (zLE [2, 4] G) (fun v : Int32 => zr (0) (3) v)) := by
  unfold fX12_load_214
  refine zok_if (fun q1 => ?_) (fun q1 => ?_)
  · have h2 := zc_ltr (49153) q1 (zr_c (lo := 49152) (hi := 49152) (by decide)) (rM_2 hσ.sg _ (by decide)) (by decide)
    refine zok_if (fun q3 => ?_) (fun q3 => ?_)
    · have h4 := zc_lel (0) q3 zr_any (zr_c (lo := 0) (hi := 0) (by decide)) (by decide)
      exact (q_load_247 hσ c_0_6)
    have h5 := zc_ltr (1) (z_nle q3) (zr_c (lo := 0) (hi := 0) (by decide)) zr_any (by decide)
    refine zok_if (fun q6 => ?_) (fun q6 => ?_)
    · have h7 := zc_eql (65536) (65536) q6 zr_any (zr_c (lo := 65536) (hi := 65536) (by decide)) (by decide)
      exact (q_load_259 hσ (zr_w (zr_c (lo := 2) (hi := 2) (by decide)) (by decide)) c_0_6)
    exact (q_load_247 hσ c_0_6)
  have h8 := zc_lel (49152) (z_nlt q1) (rM_2 hσ.sg _ (by decide)) (zr_c (lo := 49152) (hi := 49152) (by decide)) (by decide)
  exact (q_load_259 hσ (zr_w (zr_c (lo := 0) (hi := 0) (by decide)) (by decide)) c_0_6)
theorem q_load_192 {G : Nat → Int} {σ : zSt} (hσ : zLE [2, 4] G σ) {s0 : Int32} (c_0_6 : zr (1) (16) (zgi σ 0 6)) : zok (fX12_load_192 σ s0) (zAi (zLE [2, 4] G) (fun v : Int32 => zr (0) (3) v)) := by
  unfold fX12_load_192
  refine zok_if (fun q1 => ?_) (fun q1 => ?_)
  · have h2 := zc_lel (49152) q1 (rM_2 hσ.sg _ (by decide)) (zr_c (lo := 49152) (hi := 49152) (by decide)) (by decide)
    exact (q_load_214 hσ c_0_6)
  have h3 := zc_ltr (49153) (z_nle q1) (zr_c (lo := 49152) (hi := 49152) (by decide)) (rM_2 hσ.sg _ (by decide)) (by decide)
  refine zok_pi (s_X12_bytesAt hσ.P (zr_w (zr_c (lo := 32744) (hi := 32744) (by decide)) (by decide)) (zr_c (lo := 2) (hi := 2) (by decide))) (fun v16 h4 => ?_)
  exact (q_load_214 hσ c_0_6)
theorem q_load_142_body {G : Nat → Int} {σ : zSt} {k142 : zSt → Int32 → Option (zSt × Int32)} {Mk142 : Int} (hk142 : ∀ (σ : zSt) (x3 : Int32), zLE [2, 4] G σ → zr (8176) (65550) x3 → zr (1) (16) (zgi σ 0 6) → (65550) - x3.toInt < Mk142 → zok (k142 σ x3) (zAi (zLE [2, 4] G) (fun v : Int32 => zr (0) (3) v))) (hσ : zLE [2, 4] G σ) {x3 : Int32} (h_x3 : zr (8176) (65550) x3) (c_0_6 : zr (1) (16) (zgi σ 0 6)) (hMk142 : (65550) - x3.toInt ≤ Mk142) : zok (fX12_load_142_body k142 σ x3) (zAi (zLE [2, 4] G) (fun v : Int32 => zr (0) (3) v)) := by
  unfold fX12_load_142_body
  refine zok_if (fun q1 => ?_) (fun q1 => ?_)
  · have h2 := zc_ler (32768) q1 (zr_c (lo := 32768) (hi := 32768) (by decide)) h_x3 (by decide)
    refine zok_if (fun q3 => ?_) (fun q3 => ?_)
    · have h4 := zc_lel (49152) q3 (rM_2 hσ.sg _ (by decide)) (zr_c (lo := 49152) (hi := 49152) (by decide)) (by decide)
      exact (q_load_192 hσ c_0_6)
    have h5 := zc_ltr (49153) (z_nle q3) (zr_c (lo := 49152) (hi := 49152) (by decide)) (rM_2 hσ.sg _ (by decide)) (by decide)
    refine zok_pi (s_X12_bytesAt hσ.P (zr_w (zr_c (lo := 32742) (hi := 32742) (by decide)) (by decide)) (zr_c (lo := 2) (hi := 2) (by decide))) (fun v18 h6 => ?_)
    exact (q_load_192 hσ c_0_6)
  have h7 := zc_ltl (32767) (z_nle q1) h_x3 (zr_c (lo := 32768) (hi := 32768) (by decide)) (by decide)
  refine zok_pi (s_X12_isHeader hσ.P h7) (fun v20 h8 => ?_)
  refine zok_if (fun q9 => ?_) (fun q9 => ?_)
  · have h10 := zc_eql (0) (0) q9 h8 (zr_c (lo := 0) (hi := 0) (by decide)) (by decide)
    exact (q_load_161 hk142 hσ h7 c_0_6 hMk142)
  have h11 := zc_nel (1) (1) q9 h8 (zr_c (lo := 0) (hi := 0) (by decide)) (by decide)
  refine zok_bs (hσ.wi 8 8 (by decide) h7 (by decide +kernel)) (fun σ21 e13 i12 => ?_)
  exact (q_load_161 hk142 i12 h7 (z_trj e13 (by decide) c_0_6) hMk142)
theorem q_load_142 {G : Nat → Int} : ∀ (n : Nat) {σ : zSt} (hσ : zLE [2, 4] G σ) {x3 : Int32} (h_x3 : zr (8176) (65550) x3) (c_0_6 : zr (1) (16) (zgi σ 0 6)) (hm : (65550) - x3.toInt < n), zok (fX12_load_142 n σ x3) (zAi (zLE [2, 4] G) (fun v : Int32 => zr (0) (3) v)) := by
  intro n
  induction n with
  | zero => intro σ hσ x3 h_x3 c_0_6 hm ; have h9 := h_x3.1; have h8 := h_x3.2; exfalso; omega
  | succ n ih => intro σ hσ x3 h_x3 c_0_6 hm ; exact q_load_142_body (fun σ x3 hσ h_x3 c_0_6 hm1 => ih hσ h_x3 c_0_6 (by omega)) hσ h_x3 c_0_6 (Int.le_refl _)
theorem q_load_89_body {G : Nat → Int} {σ : zSt} {k89 : zSt → Int32 → Int32 → Option (zSt × Int32)} {Mk89 : Int} (hk89 : ∀ (σ : zSt) (x1 : Int32) (x3 : Int32), zLE [2, 4] G σ → zr (0) (512) x1 → zr (0) (262144) x3 → zr (1) (16) (zgi σ 0 6) → (262144) - x3.toInt < Mk89 → zok (k89 σ x1 x3) (zAi (zLE [2, 4] G) (fun v : Int32 => zr (0) (3) v))) (hσ : zLE [2, 4] G σ) {x1 : Int32} (h_x1 : zr (0) (512) x1) {x3 : Int32} (h_x3 : zr (0) (262144) x3) (c_0_6 : zr (1) (16) (zgi σ 0 6)) (hMk89 : (262144) - x3.toInt ≤ Mk89) : zok (fX12_load_89_body k89 σ x1 x3) (zAi (zLE [2, 4] G) (fun v : Int32 => zr (0) (3) v)) := by
  unfold fX12_load_89_body
  refine zok_if (fun q1 => ?_) (fun q1 => ?_)
  · have h2 := zc_ler (16384) q1 (zr_mul (lo := 16384) (hi := 262144) (zr_c (lo := 16384) (hi := 16384) (by decide)) c_0_6 (by decide)) h_x3 (by decide)
    refine zok_bs (hσ.wi 8 8 (by decide) (zr_c (lo := -1) (hi := -1) (by decide)) (by decide +kernel)) (fun σ22 e4 i3 => ?_)
    exact (q_load_142 zfuel i3 (zr_w (zr_c (lo := 8176) (hi := 8176) (by decide)) (by decide)) (z_trj e4 (by decide) c_0_6) (by decide))
  have h5 := zc_ltl (262143) (z_nle q1) h_x3 (zr_mul (lo := 16384) (hi := 262144) (zr_c (lo := 16384) (hi := 16384) (by decide)) c_0_6 (by decide)) (by decide)
  refine zok_if (fun q6 => ?_) (fun q6 => ?_)
  · have h7 := zc_lel (262143) q6 (rM_2 hσ.sg _ (by decide)) h5 (by decide)
    exact (q_load_126 hk89 hσ h_x1 h5 h5 c_0_6 hMk89)
  have h8 := zc_ltr (1) (z_nle q6) h5 (rM_2 hσ.sg _ (by decide)) (by decide)
  refine zok_ck (zin_ok (zr_add (lo := 0) (hi := 262655) h_x1 h5 (by decide)) (by decide)) ?_
  exact (q_load_126 hk89 hσ h_x1 h5 h5 c_0_6 hMk89)
theorem q_load_89 {G : Nat → Int} : ∀ (n : Nat) {σ : zSt} (hσ : zLE [2, 4] G σ) {x1 : Int32} (h_x1 : zr (0) (512) x1) {x3 : Int32} (h_x3 : zr (0) (262144) x3) (c_0_6 : zr (1) (16) (zgi σ 0 6)) (hm : (262144) - x3.toInt < n), zok (fX12_load_89 n σ x1 x3) (zAi (zLE [2, 4] G) (fun v : Int32 => zr (0) (3) v)) := by
  intro n
  induction n with
  | zero => intro σ hσ x1 h_x1 x3 h_x3 c_0_6 hm ; have h9 := h_x3.1; have h8 := h_x3.2; exfalso; omega
  | succ n ih => intro σ hσ x1 h_x1 x3 h_x3 c_0_6 hm ; exact q_load_89_body (fun σ x1 x3 hσ h_x1 h_x3 c_0_6 hm1 => ih hσ h_x1 h_x3 c_0_6 (by omega)) hσ h_x1 h_x3 c_0_6 (Int.le_refl _)
theorem q_load_26 {G : Nat → Int} {σ : zSt} (hσ : zLE [0, 2, 4] G σ) {s0 : Int32} (h_s0 : zr (0) (512) s0) : zok (fX12_load_26 σ s0) (zAi (zLE [0, 2, 4] G) (fun v : Int32 => zr (0) (3) v)) := by
  unfold fX12_load_26
  refine zok_br (zr_sub (lo := -512) (hi := 262656) (rM_0 hσ.sg _ (by decide)) h_s0 (by decide)) (fun v23 e2 h1 => ?_)
  refine zok_bs (hσ.wi 2 2 (by decide) (zr_c (lo := 0) (hi := 0) (by decide)) (by decide +kernel)) (fun σ24 e4 i3 => ?_)
  refine zok_if (fun q5 => ?_) (fun q5 => ?_)
  · have h6 := zc_ler (8192) q5 (zr_c (lo := 8192) (hi := 8192) (by decide)) h1 (by decide)
    refine zok_ck (by decide) ?_
    refine zok_if (fun q7 => ?_) (fun q7 => ?_)
    · have h8 := zc_eql (0) (0) q7 (zr_rem (lo := 0) (hi := 8191) 8192 (by decide) h6 (by decide)) (zr_c (lo := 0) (hi := 0) (by decide)) (by decide)
      refine zok_if (fun q9 => ?_) (fun q9 => ?_)
      · have h10 := zc_lel (262144) q9 h6 (zr_c (lo := 262144) (hi := 262144) (by decide)) (by decide)
        refine zok_bs (i3.wi 5 5 (by decide) h10 (by decide +kernel)) (fun σ25 e12 i11 => ?_)
        refine zok_ck (by decide) ?_
        refine zok_bs (i11.wb (zr_div (lo := 1) (hi := 16) 16384 (by decide) (zr_add (lo := 24575) (hi := 278527) (z_own e12 h10) (zr_c (lo := 16383) (hi := 16383) (by decide)) (by decide)) (by decide)) (by decide)) (fun σ26 e14 i13 => ?_)
        exact (i13.uEi (by decide) (fun G1 hG => q_load_89 zfuel hG h_s0 (zr_w (zr_c (lo := 0) (hi := 0) (by decide)) (by decide)) (z_own e14 (zr_div (lo := 1) (hi := 16) 16384 (by decide) (zr_add (lo := 24575) (hi := 278527) (z_own e12 h10) (zr_c (lo := 16383) (hi := 16383) (by decide)) (by decide)) (by decide))) (by decide)))
      have h15 := zc_ltr (262145) (z_nle q9) (zr_c (lo := 262144) (hi := 262144) (by decide)) h6 (by decide)
      exact zok_sai i3 (zr_w (zr_c (lo := 3) (hi := 3) (by decide)) (by decide))
    have h16 := zc_nel (1) (8191) q7 (zr_rem (lo := 0) (hi := 8191) 8192 (by decide) h6 (by decide)) (zr_c (lo := 0) (hi := 0) (by decide)) (by decide)
    exact zok_sai i3 (zr_w (zr_c (lo := 2) (hi := 2) (by decide)) (by decide))
  have h17 := zc_ltl (8191) (z_nle q5) h1 (zr_c (lo := 8192) (hi := 8192) (by decide)) (by decide)
  exact zok_sai i3 (zr_w (zr_c (lo := 1) (hi := 1) (by decide)) (by decide))
theorem q_load {G : Nat → Int} {σ : zSt} (hσ : zLE [0, 2, 4] G σ) : zok (fX12_load σ ) (zAi (zLE [0, 2, 4] G) (fun v : Int32 => zr (0) (3) v)) := by
  unfold fX12_load
  refine zok_bs (hσ.wi 0 0 (by decide) (zr_c (lo := 0) (hi := 0) (by decide)) (by decide +kernel)) (fun σ27 e2 i1 => ?_)
  refine zok_ck (by decide) ?_
  refine zok_if (fun q3 => ?_) (fun q3 => ?_)
  · have h4 := zc_eql (512) (512) q3 (zr_rem (lo := 0) (hi := 16383) 16384 (by decide) (rM_0 i1.sg _ (by decide)) (by decide)) (zr_c (lo := 512) (hi := 512) (by decide)) (by decide)
    exact (q_load_26 i1 (zr_w (zr_c (lo := 512) (hi := 512) (by decide)) (by decide)))
  exact (q_load_26 i1 (zr_w (zr_c (lo := 0) (hi := 0) (by decide)) (by decide)))
