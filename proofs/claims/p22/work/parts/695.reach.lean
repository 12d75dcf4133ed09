section ZJN0
/-! the reference's numbers that hold at every call, also of what is saved -/
def zKS (K : Int) (G : Nat → Int) : Prop := (0 ≤ G 102 ∧ G 102 ≤ K) ∧ (0 ≤ G 105 ∧ G 105 ≤ K) ∧ (0 ≤ G 106 ∧ G 106 ≤ K) ∧ (0 ≤ G 6 ∧ G 6 < zln G) ∧ (0 ≤ G 7 ∧ G 7 ≤ 227) ∧ (0 ≤ G 8 ∧ G 8 ≤ K) ∧ zJ (G 102) (G 8)
theorem zKS.keep {K K1 : Int} {G G1 : Nat → Int} (h : zKS K G) (c : K ≤ K1) (e : ∀ i, i ∈ [1, 6, 7, 8, 102, 105, 106] → G1 i = G i) : zKS K1 G1 := by
  obtain ⟨a1, a2, a3, a4, a5, a6, a7⟩ := h
  unfold zKS
  rw [e 102 (by decide), e 105 (by decide), e 106 (by decide), e 6 (by decide), e 7 (by decide), e 8 (by decide), zln_c (e 1 (by decide))]
  exact ⟨by omega, by omega, by omega, a4, a5, by omega, a7⟩
theorem zK.keep {K : Int} {G G1 : Nat → Int} (h : zK K G) (e : ∀ i, i ∈ [1, 3, 4, 5, 100, 101, 103, 104] → G1 i = G i) : zK K G1 := by
  unfold zK zGJ at h ⊢
  rw [e 100 (by decide), e 103 (by decide), e 104 (by decide), e 101 (by decide), e 3 (by decide), e 4 (by decide), e 5 (by decide), zln_c (e 1 (by decide))]
  exact h
/-- anew: line and beat -/
theorem zK.line {K : Int} {G G1 : Nat → Int} (h : zK K G) (e : ∀ i, i ∈ [1, 5, 100, 101, 103, 104] → G1 i = G i) (c : G1 3 = G 3 ∨ G1 3 = 0) (d : 0 ≤ G1 4 ∧ G1 4 ≤ 227) : zK K G1 := by
  have lb := zln_b G
  unfold zK zGJ at h ⊢
  rw [e 100 (by decide), e 103 (by decide), e 104 (by decide), e 101 (by decide), e 5 (by decide), zln_c (e 1 (by decide))]
  obtain ⟨⟨j1, j2, j3, j4, j5, j6, j7, j8⟩, k1, k2, k3, k4, k5⟩ := h
  refine ⟨⟨j1, j2, j3, j4, ?_, d, j7, j8⟩, k1, k2, k3, k4, k5⟩
  rcases c with c | c <;> rw [c]
  · exact j5
  · omega
theorem zIM.beat {G : Nat → Int} {σ : zSt} (h : zIM G σ) : 0 ≤ G 4 ∧ G 4 ≤ 227 := by
  have a : zr 0 227 (zgi σ 3 67) := rM_30 h.sg 67 (by decide)
  have b : (zgi σ 3 67).toInt = G 4 := h.at 4 (by decide)
  rw [← b]; exact a

def zFsva (j : Nat) (G : Nat → Int) (i : Nat) : Int := if i = 6 then (if j = 66 then G 3 else G 6) else if i = 7 then (if j = 67 then G 4 else G 7) else if i = 8 then (if j = 168 then G 5 else G 8) else G i
theorem zIM.sva {G : Nat → Int} {σ : zSt} {j : Nat} (h : zIM G σ) (hj : j ≤ 1047) : zIM (zFsva j G) (zsi σ 12 j (zgi σ 3 j)) := by
  obtain ⟨G2, h2, g2⟩ := (h.E (l := [6, 7, 8])).c12 (j := j) ⟨Nat.zero_le _, hj⟩ (by decide +kernel)
  have e : G2 = zFsva j G := by
    funext i
    unfold zFsva
    by_cases i6 : i = 6
    · subst i6
      rw [if_pos rfl]
      have a0 : (zgi (zsi σ 12 j (zgi σ 3 j)) 12 66).toInt = G2 6 := h2.at 6 (by decide)
      have a : ((zsi σ 12 j (zgi σ 3 j)).1 12 66).toInt = G2 6 := a0
      have b : (zgi σ 3 66).toInt = G 3 := h.at 3 (by decide)
      have c : (zgi σ 12 66).toInt = G 6 := h.at 6 (by decide)
      by_cases q : j = 66
      · subst q
        rw [zsi_at, if_pos ⟨rfl, rfl⟩] at a
        rw [if_pos rfl, ← a]; exact b
      · rw [zsi_at, if_neg (fun r => q r.2.symm)] at a
        rw [if_neg q, ← a]; exact c
    rw [if_neg i6]
    by_cases i7 : i = 7
    · subst i7
      rw [if_pos rfl]
      have a0 : (zgi (zsi σ 12 j (zgi σ 3 j)) 12 67).toInt = G2 7 := h2.at 7 (by decide)
      have a : ((zsi σ 12 j (zgi σ 3 j)).1 12 67).toInt = G2 7 := a0
      have b : (zgi σ 3 67).toInt = G 4 := h.at 4 (by decide)
      have c : (zgi σ 12 67).toInt = G 7 := h.at 7 (by decide)
      by_cases q : j = 67
      · subst q
        rw [zsi_at, if_pos ⟨rfl, rfl⟩] at a
        rw [if_pos rfl, ← a]; exact b
      · rw [zsi_at, if_neg (fun r => q r.2.symm)] at a
        rw [if_neg q, ← a]; exact c
    rw [if_neg i7]
    by_cases i8 : i = 8
    · subst i8
      rw [if_pos rfl]
      have a0 : (zgi (zsi σ 12 j (zgi σ 3 j)) 12 168).toInt = G2 8 := h2.at 8 (by decide)
      have a : ((zsi σ 12 j (zgi σ 3 j)).1 12 168).toInt = G2 8 := a0
      have b : (zgi σ 3 168).toInt = G 5 := h.at 5 (by decide)
      have c : (zgi σ 12 168).toInt = G 8 := h.at 8 (by decide)
      by_cases q : j = 168
      · subst q
        rw [zsi_at, if_pos ⟨rfl, rfl⟩] at a
        rw [if_pos rfl, ← a]; exact b
      · rw [zsi_at, if_neg (fun r => q r.2.symm)] at a
        rw [if_neg q, ← a]; exact c
    rw [if_neg i8]
    exact g2 i (fun r => by simp only [List.mem_cons, List.not_mem_nil, or_false] at r; omega)
  rw [← e]; exact h2
def zFsvl (j : Nat) (G : Nat → Int) (i : Nat) : Int := if i = 102 then (if j = 0 then G 100 else G 102) else if i = 105 then (if j = 4 then G 104 else G 105) else if i = 106 then (if j = 2 then G 101 else G 106) else G i
theorem zIM.svl {G : Nat → Int} {σ : zSt} {j : Nat} (h : zIM G σ) (hj : j ≤ 4) : zIM (zFsvl j G) (zsl σ 13 j (zgl σ 4 j)) := by
  obtain ⟨G2, h2, g2⟩ := (h.E (l := [102, 105, 106])).wle (v := zgl σ 4 j) (k := 13) 0 4 ⟨Nat.zero_le _, hj⟩ (by decide +kernel)
  have e : G2 = zFsvl j G := by
    funext i
    unfold zFsvl
    by_cases i102 : i = 102
    · subst i102
      rw [if_pos rfl]
      have a0 : (zgl (zsl σ 13 j (zgl σ 4 j)) 13 0).toInt = G2 102 := h2.atl 2 (by decide)
      have a : ((zsl σ 13 j (zgl σ 4 j)).2 13 0).toInt = G2 102 := a0
      have b : (zgl σ 4 0).toInt = G 100 := h.atl 0 (by decide)
      have c : (zgl σ 13 0).toInt = G 102 := h.atl 2 (by decide)
      by_cases q : j = 0
      · subst q
        rw [zsl_at, if_pos ⟨rfl, rfl⟩] at a
        rw [if_pos rfl, ← a]; exact b
      · rw [zsl_at, if_neg (fun r => q r.2.symm)] at a
        rw [if_neg q, ← a]; exact c
    rw [if_neg i102]
    by_cases i105 : i = 105
    · subst i105
      rw [if_pos rfl]
      have a0 : (zgl (zsl σ 13 j (zgl σ 4 j)) 13 4).toInt = G2 105 := h2.atl 5 (by decide)
      have a : ((zsl σ 13 j (zgl σ 4 j)).2 13 4).toInt = G2 105 := a0
      have b : (zgl σ 4 4).toInt = G 104 := h.atl 4 (by decide)
      have c : (zgl σ 13 4).toInt = G 105 := h.atl 5 (by decide)
      by_cases q : j = 4
      · subst q
        rw [zsl_at, if_pos ⟨rfl, rfl⟩] at a
        rw [if_pos rfl, ← a]; exact b
      · rw [zsl_at, if_neg (fun r => q r.2.symm)] at a
        rw [if_neg q, ← a]; exact c
    rw [if_neg i105]
    by_cases i106 : i = 106
    · subst i106
      rw [if_pos rfl]
      have a0 : (zgl (zsl σ 13 j (zgl σ 4 j)) 13 2).toInt = G2 106 := h2.atl 6 (by decide)
      have a : ((zsl σ 13 j (zgl σ 4 j)).2 13 2).toInt = G2 106 := a0
      have b : (zgl σ 4 2).toInt = G 101 := h.atl 1 (by decide)
      have c : (zgl σ 13 2).toInt = G 106 := h.atl 6 (by decide)
      by_cases q : j = 2
      · subst q
        rw [zsl_at, if_pos ⟨rfl, rfl⟩] at a
        rw [if_pos rfl, ← a]; exact b
      · rw [zsl_at, if_neg (fun r => q r.2.symm)] at a
        rw [if_neg q, ← a]; exact c
    rw [if_neg i106]
    exact g2 i (fun r => by simp only [List.mem_cons, List.not_mem_nil, or_false] at r; omega)
  rw [← e]; exact h2
def zLsave (G0 : Nat → Int) (r : zSt) : Prop := ∃ G1, zIM G1 r ∧ (∀ i, ¬ i = 102 → ¬ i = 105 → ¬ i = 106 → G1 i = G0 i) ∧ G1 102 = G0 100 ∧ G1 105 = G0 104 ∧ G1 106 = G0 101
def zAsave (G0 : Nat → Int) (r : zSt) : Prop := ∃ G1, zIM G1 r ∧ (∀ i, ¬ i = 6 → ¬ i = 7 → ¬ i = 8 → ¬ i = 102 → ¬ i = 105 → ¬ i = 106 → G1 i = G0 i) ∧ G1 6 = G0 3 ∧ G1 7 = G0 4 ∧ G1 8 = G0 5 ∧ G1 102 = G0 100 ∧ G1 105 = G0 104 ∧ G1 106 = G0 101
def zIsvl (x : Int) (G0 G : Nat → Int) : Prop := (∀ i, ¬ i = 102 → ¬ i = 105 → ¬ i = 106 → G i = G0 i) ∧ (0 < x → G 102 = G0 100) ∧ (4 < x → G 105 = G0 104) ∧ (2 < x → G 106 = G0 101)
theorem zIsvl.next {x : Int} {j : Nat} {G0 G : Nat → Int} (h : zIsvl x G0 G) (e : (j : Int) = x) : zIsvl (x + 1) G0 (zFsvl j G) := by
  obtain ⟨h0, h102, h105, h106⟩ := h
  refine ⟨fun i n102 n105 n106 => ?_, fun l => ?_, fun l => ?_, fun l => ?_⟩
  · unfold zFsvl; rw [if_neg n102, if_neg n105, if_neg n106]; exact h0 i n102 n105 n106
  · unfold zFsvl
    rw [if_pos rfl]
    by_cases q : j = 0
    · rw [if_pos q]; exact h0 100 (by decide) (by decide) (by decide)
    · rw [if_neg q]; exact h102 (by omega)
  · unfold zFsvl
    rw [if_neg (by decide : ¬ 105 = 102), if_pos rfl]
    by_cases q : j = 4
    · rw [if_pos q]; exact h0 104 (by decide) (by decide) (by decide)
    · rw [if_neg q]; exact h105 (by omega)
  · unfold zFsvl
    rw [if_neg (by decide : ¬ 106 = 102), if_neg (by decide : ¬ 106 = 105), if_pos rfl]
    by_cases q : j = 2
    · rw [if_pos q]; exact h0 101 (by decide) (by decide) (by decide)
    · rw [if_neg q]; exact h106 (by omega)
theorem q_save_39 : ∀ (n : Nat) {G0 G : Nat → Int} {σ : zSt} (hσ : zIM G σ) {x1 : Int32} (h1 : zr 0 5 x1) (hI : zIsvl x1.toInt G0 G) (hm : 5 - x1.toInt < n), zok (fX12_save_39 n σ x1) (zLsave G0) := by
  intro n
  induction n with
  | zero => intro G0 G σ hσ x1 h1 hI hm; have := h1.2; exfalso; omega
  | succ n ih =>
    intro G0 G σ hσ x1 h1 hI hm
    show zok (fX12_save_39_body (fX12_save_39 n) σ x1) _
    unfold fX12_save_39_body
    have c9 : (5 : Int32).toInt = 5 := rfl
    have b1 := h1.1
    refine zok_if (fun q => ?_) (fun q => ?_)
    · have q1 := Int32.le_iff_toInt_le.mp q
      obtain ⟨h0, h102, h105, h106⟩ := hI
      exact zok_mono (s_X12_save_64 zfuel hσ (zr_c (by decide)) (by decide)) (fun r i => ⟨G, i, h0, h102 (by omega), h105 (by omega), h106 (by omega)⟩)
    · have q1 := Int32.lt_iff_toInt_lt.mp (z_nle q)
      have h5 : zr 0 4 x1 := ⟨b1, by omega⟩
      have c1 : (1 : Int32).toInt = 1 := rfl
      have t : (x1 + 1).toInt = x1.toInt + (1 : Int32).toInt := z_tadd h5 (zr_c (lo := 1) (hi := 1) (x := 1) (by decide)) (by decide)
      have ex : (x1.toNatClampNeg : Int) = x1.toInt := by have : x1.toNatClampNeg = x1.toInt.toNat := rfl; omega
      refine zok_ck (zin_ok h5 (by decide)) (zok_ck (zin_ok h5 (by decide)) ?_)
      refine zok_bs (I := zIM (zFsvl x1.toNatClampNeg G)) (hσ.svl (by omega)) (fun σ1 e1 i1 => ?_)
      refine zok_bv (fun v3 e3 => ?_)
      subst e3
      refine ih i1 ⟨by omega, by omega⟩ ?_ (by omega)
      rw [t, c1]
      exact hI.next ex
def zIsva (x : Int) (G0 G : Nat → Int) : Prop := (∀ i, ¬ i = 6 → ¬ i = 7 → ¬ i = 8 → G i = G0 i) ∧ (66 < x → G 6 = G0 3) ∧ (67 < x → G 7 = G0 4) ∧ (168 < x → G 8 = G0 5)
theorem zIsva.next {x : Int} {j : Nat} {G0 G : Nat → Int} (h : zIsva x G0 G) (e : (j : Int) = x) : zIsva (x + 1) G0 (zFsva j G) := by
  obtain ⟨h0, h6, h7, h8⟩ := h
  refine ⟨fun i n6 n7 n8 => ?_, fun l => ?_, fun l => ?_, fun l => ?_⟩
  · unfold zFsva; rw [if_neg n6, if_neg n7, if_neg n8]; exact h0 i n6 n7 n8
  · unfold zFsva
    rw [if_pos rfl]
    by_cases q : j = 66
    · rw [if_pos q]; exact h0 3 (by decide) (by decide) (by decide)
    · rw [if_neg q]; exact h6 (by omega)
  · unfold zFsva
    rw [if_neg (by decide : ¬ 7 = 6), if_pos rfl]
    by_cases q : j = 67
    · rw [if_pos q]; exact h0 4 (by decide) (by decide) (by decide)
    · rw [if_neg q]; exact h7 (by omega)
  · unfold zFsva
    rw [if_neg (by decide : ¬ 8 = 6), if_neg (by decide : ¬ 8 = 7), if_pos rfl]
    by_cases q : j = 168
    · rw [if_pos q]; exact h0 5 (by decide) (by decide) (by decide)
    · rw [if_neg q]; exact h8 (by omega)
theorem q_save_12 : ∀ (n : Nat) {G0 G : Nat → Int} {σ : zSt} (hσ : zIM G σ) {x1 : Int32} (h1 : zr 0 1048 x1) (hI : zIsva x1.toInt G0 G) (hm : 1048 - x1.toInt < n), zok (fX12_save_12 n σ x1) (zAsave G0) := by
  intro n
  induction n with
  | zero => intro G0 G σ hσ x1 h1 hI hm; have := h1.2; exfalso; omega
  | succ n ih =>
    intro G0 G σ hσ x1 h1 hI hm
    show zok (fX12_save_12_body (fX12_save_12 n) σ x1) _
    unfold fX12_save_12_body
    have c9 : (1048 : Int32).toInt = 1048 := rfl
    have b1 := h1.1
    refine zok_if (fun q => ?_) (fun q => ?_)
    · have q1 := Int32.le_iff_toInt_le.mp q
      obtain ⟨h0, h6, h7, h8⟩ := hI
      refine zok_mono (q_save_39 zfuel (G0 := G) (x1 := 0) hσ (zr_c (by decide)) ⟨fun i _ _ _ => rfl, fun l => absurd l (by decide), fun l => absurd l (by decide), fun l => absurd l (by decide)⟩ (by decide)) (fun r q => ?_)
      obtain ⟨G1, i1, g0, g102, g105, g106⟩ := q
      refine ⟨G1, i1, fun i n6 n7 n8 n102 n105 n106 => (g0 i n102 n105 n106).trans (h0 i n6 n7 n8), (g0 6 (by decide) (by decide) (by decide)).trans (h6 (by omega)), (g0 7 (by decide) (by decide) (by decide)).trans (h7 (by omega)), (g0 8 (by decide) (by decide) (by decide)).trans (h8 (by omega)), g102.trans (h0 100 (by decide) (by decide) (by decide)), g105.trans (h0 104 (by decide) (by decide) (by decide)), g106.trans (h0 101 (by decide) (by decide) (by decide))⟩
    · have q1 := Int32.lt_iff_toInt_lt.mp (z_nle q)
      have h5 : zr 0 1047 x1 := ⟨b1, by omega⟩
      have c1 : (1 : Int32).toInt = 1 := rfl
      have t : (x1 + 1).toInt = x1.toInt + (1 : Int32).toInt := z_tadd h5 (zr_c (lo := 1) (hi := 1) (x := 1) (by decide)) (by decide)
      have ex : (x1.toNatClampNeg : Int) = x1.toInt := by have : x1.toNatClampNeg = x1.toInt.toNat := rfl; omega
      refine zok_ck (zin_ok h5 (by decide)) (zok_ck (zin_ok h5 (by decide)) ?_)
      refine zok_bs (I := zIM (zFsva x1.toNatClampNeg G)) (hσ.sva (by omega)) (fun σ1 e1 i1 => ?_)
      refine zok_bv (fun v3 e3 => ?_)
      subst e3
      refine ih i1 ⟨by omega, by omega⟩ ?_ (by omega)
      rw [t, c1]
      exact hI.next ex
def zFrsa (j : Nat) (G : Nat → Int) (i : Nat) : Int := if i = 3 then (if j = 66 then G 6 else G 3) else if i = 4 then (if j = 67 then G 7 else G 4) else if i = 5 then (if j = 168 then G 8 else G 5) else G i
theorem zIM.rsa {G : Nat → Int} {σ : zSt} {j : Nat} (h : zIM G σ) (hj : j ≤ 1047) : zIM (zFrsa j G) (zsi σ 3 j (zgi σ 12 j)) := by
  obtain ⟨G2, h2, g2⟩ := (h.E (l := [3, 4, 5])).c3 (j := j) ⟨Nat.zero_le _, hj⟩ (by decide +kernel)
  have e : G2 = zFrsa j G := by
    funext i
    unfold zFrsa
    by_cases i3 : i = 3
    · subst i3
      rw [if_pos rfl]
      have a0 : (zgi (zsi σ 3 j (zgi σ 12 j)) 3 66).toInt = G2 3 := h2.at 3 (by decide)
      have a : ((zsi σ 3 j (zgi σ 12 j)).1 3 66).toInt = G2 3 := a0
      have b : (zgi σ 12 66).toInt = G 6 := h.at 6 (by decide)
      have c : (zgi σ 3 66).toInt = G 3 := h.at 3 (by decide)
      by_cases q : j = 66
      · subst q
        rw [zsi_at, if_pos ⟨rfl, rfl⟩] at a
        rw [if_pos rfl, ← a]; exact b
      · rw [zsi_at, if_neg (fun r => q r.2.symm)] at a
        rw [if_neg q, ← a]; exact c
    rw [if_neg i3]
    by_cases i4 : i = 4
    · subst i4
      rw [if_pos rfl]
      have a0 : (zgi (zsi σ 3 j (zgi σ 12 j)) 3 67).toInt = G2 4 := h2.at 4 (by decide)
      have a : ((zsi σ 3 j (zgi σ 12 j)).1 3 67).toInt = G2 4 := a0
      have b : (zgi σ 12 67).toInt = G 7 := h.at 7 (by decide)
      have c : (zgi σ 3 67).toInt = G 4 := h.at 4 (by decide)
      by_cases q : j = 67
      · subst q
        rw [zsi_at, if_pos ⟨rfl, rfl⟩] at a
        rw [if_pos rfl, ← a]; exact b
      · rw [zsi_at, if_neg (fun r => q r.2.symm)] at a
        rw [if_neg q, ← a]; exact c
    rw [if_neg i4]
    by_cases i5 : i = 5
    · subst i5
      rw [if_pos rfl]
      have a0 : (zgi (zsi σ 3 j (zgi σ 12 j)) 3 168).toInt = G2 5 := h2.at 5 (by decide)
      have a : ((zsi σ 3 j (zgi σ 12 j)).1 3 168).toInt = G2 5 := a0
      have b : (zgi σ 12 168).toInt = G 8 := h.at 8 (by decide)
      have c : (zgi σ 3 168).toInt = G 5 := h.at 5 (by decide)
      by_cases q : j = 168
      · subst q
        rw [zsi_at, if_pos ⟨rfl, rfl⟩] at a
        rw [if_pos rfl, ← a]; exact b
      · rw [zsi_at, if_neg (fun r => q r.2.symm)] at a
        rw [if_neg q, ← a]; exact c
    rw [if_neg i5]
    exact g2 i (fun r => by simp only [List.mem_cons, List.not_mem_nil, or_false] at r; omega)
  rw [← e]; exact h2
def zFrsl (j : Nat) (G : Nat → Int) (i : Nat) : Int := if i = 100 then (if j = 0 then G 102 else G 100) else if i = 104 then (if j = 4 then G 105 else G 104) else if i = 101 then (if j = 2 then G 106 else G 101) else G i
theorem zIM.rsl {G : Nat → Int} {σ : zSt} {j : Nat} (h : zIM G σ) (hj : j ≤ 4) : zIM (zFrsl j G) (zsl σ 4 j (zgl σ 13 j)) := by
  obtain ⟨G2, h2, g2⟩ := (h.E (l := [100, 104, 101])).wle (v := zgl σ 13 j) (k := 4) 0 4 ⟨Nat.zero_le _, hj⟩ (by decide +kernel)
  have e : G2 = zFrsl j G := by
    funext i
    unfold zFrsl
    by_cases i100 : i = 100
    · subst i100
      rw [if_pos rfl]
      have a0 : (zgl (zsl σ 4 j (zgl σ 13 j)) 4 0).toInt = G2 100 := h2.atl 0 (by decide)
      have a : ((zsl σ 4 j (zgl σ 13 j)).2 4 0).toInt = G2 100 := a0
      have b : (zgl σ 13 0).toInt = G 102 := h.atl 2 (by decide)
      have c : (zgl σ 4 0).toInt = G 100 := h.atl 0 (by decide)
      by_cases q : j = 0
      · subst q
        rw [zsl_at, if_pos ⟨rfl, rfl⟩] at a
        rw [if_pos rfl, ← a]; exact b
      · rw [zsl_at, if_neg (fun r => q r.2.symm)] at a
        rw [if_neg q, ← a]; exact c
    rw [if_neg i100]
    by_cases i104 : i = 104
    · subst i104
      rw [if_pos rfl]
      have a0 : (zgl (zsl σ 4 j (zgl σ 13 j)) 4 4).toInt = G2 104 := h2.atl 4 (by decide)
      have a : ((zsl σ 4 j (zgl σ 13 j)).2 4 4).toInt = G2 104 := a0
      have b : (zgl σ 13 4).toInt = G 105 := h.atl 5 (by decide)
      have c : (zgl σ 4 4).toInt = G 104 := h.atl 4 (by decide)
      by_cases q : j = 4
      · subst q
        rw [zsl_at, if_pos ⟨rfl, rfl⟩] at a
        rw [if_pos rfl, ← a]; exact b
      · rw [zsl_at, if_neg (fun r => q r.2.symm)] at a
        rw [if_neg q, ← a]; exact c
    rw [if_neg i104]
    by_cases i101 : i = 101
    · subst i101
      rw [if_pos rfl]
      have a0 : (zgl (zsl σ 4 j (zgl σ 13 j)) 4 2).toInt = G2 101 := h2.atl 1 (by decide)
      have a : ((zsl σ 4 j (zgl σ 13 j)).2 4 2).toInt = G2 101 := a0
      have b : (zgl σ 13 2).toInt = G 106 := h.atl 6 (by decide)
      have c : (zgl σ 4 2).toInt = G 101 := h.atl 1 (by decide)
      by_cases q : j = 2
      · subst q
        rw [zsl_at, if_pos ⟨rfl, rfl⟩] at a
        rw [if_pos rfl, ← a]; exact b
      · rw [zsl_at, if_neg (fun r => q r.2.symm)] at a
        rw [if_neg q, ← a]; exact c
    rw [if_neg i101]
    exact g2 i (fun r => by simp only [List.mem_cons, List.not_mem_nil, or_false] at r; omega)
  rw [← e]; exact h2
def zLrestore (G0 : Nat → Int) (r : zSt) : Prop := ∃ G1, zIM G1 r ∧ (∀ i, ¬ i = 100 → ¬ i = 104 → ¬ i = 101 → G1 i = G0 i) ∧ G1 100 = G0 102 ∧ G1 104 = G0 105 ∧ G1 101 = G0 106
def zArestore (G0 : Nat → Int) (r : zSt) : Prop := ∃ G1, zIM G1 r ∧ (∀ i, ¬ i = 3 → ¬ i = 4 → ¬ i = 5 → ¬ i = 100 → ¬ i = 104 → ¬ i = 101 → G1 i = G0 i) ∧ G1 3 = G0 6 ∧ G1 4 = G0 7 ∧ G1 5 = G0 8 ∧ G1 100 = G0 102 ∧ G1 104 = G0 105 ∧ G1 101 = G0 106
def zIrsl (x : Int) (G0 G : Nat → Int) : Prop := (∀ i, ¬ i = 100 → ¬ i = 104 → ¬ i = 101 → G i = G0 i) ∧ (0 < x → G 100 = G0 102) ∧ (4 < x → G 104 = G0 105) ∧ (2 < x → G 101 = G0 106)
theorem zIrsl.next {x : Int} {j : Nat} {G0 G : Nat → Int} (h : zIrsl x G0 G) (e : (j : Int) = x) : zIrsl (x + 1) G0 (zFrsl j G) := by
  obtain ⟨h0, h100, h104, h101⟩ := h
  refine ⟨fun i n100 n104 n101 => ?_, fun l => ?_, fun l => ?_, fun l => ?_⟩
  · unfold zFrsl; rw [if_neg n100, if_neg n104, if_neg n101]; exact h0 i n100 n104 n101
  · unfold zFrsl
    rw [if_pos rfl]
    by_cases q : j = 0
    · rw [if_pos q]; exact h0 102 (by decide) (by decide) (by decide)
    · rw [if_neg q]; exact h100 (by omega)
  · unfold zFrsl
    rw [if_neg (by decide : ¬ 104 = 100), if_pos rfl]
    by_cases q : j = 4
    · rw [if_pos q]; exact h0 105 (by decide) (by decide) (by decide)
    · rw [if_neg q]; exact h104 (by omega)
  · unfold zFrsl
    rw [if_neg (by decide : ¬ 101 = 100), if_neg (by decide : ¬ 101 = 104), if_pos rfl]
    by_cases q : j = 2
    · rw [if_pos q]; exact h0 106 (by decide) (by decide) (by decide)
    · rw [if_neg q]; exact h101 (by omega)
theorem q_restore_50 : ∀ (n : Nat) {G0 G : Nat → Int} {σ : zSt} (hσ : zIM G σ) {x1 : Int32} (h1 : zr 0 5 x1) (hI : zIrsl x1.toInt G0 G) (hm : 5 - x1.toInt < n), zok (fX12_restore_50 n σ x1) (zLrestore G0) := by
  intro n
  induction n with
  | zero => intro G0 G σ hσ x1 h1 hI hm; have := h1.2; exfalso; omega
  | succ n ih =>
    intro G0 G σ hσ x1 h1 hI hm
    show zok (fX12_restore_50_body (fX12_restore_50 n) σ x1) _
    unfold fX12_restore_50_body
    have c9 : (5 : Int32).toInt = 5 := rfl
    have b1 := h1.1
    refine zok_if (fun q => ?_) (fun q => ?_)
    · have q1 := Int32.le_iff_toInt_le.mp q
      obtain ⟨h0, h100, h104, h101⟩ := hI
      exact zok_mono (s_X12_restore_75 zfuel hσ (zr_c (by decide)) (by decide)) (fun r i => ⟨G, i, h0, h100 (by omega), h104 (by omega), h101 (by omega)⟩)
    · have q1 := Int32.lt_iff_toInt_lt.mp (z_nle q)
      have h5 : zr 0 4 x1 := ⟨b1, by omega⟩
      have c1 : (1 : Int32).toInt = 1 := rfl
      have t : (x1 + 1).toInt = x1.toInt + (1 : Int32).toInt := z_tadd h5 (zr_c (lo := 1) (hi := 1) (x := 1) (by decide)) (by decide)
      have ex : (x1.toNatClampNeg : Int) = x1.toInt := by have : x1.toNatClampNeg = x1.toInt.toNat := rfl; omega
      refine zok_ck (zin_ok h5 (by decide)) (zok_ck (zin_ok h5 (by decide)) ?_)
      refine zok_bs (I := zIM (zFrsl x1.toNatClampNeg G)) (hσ.rsl (by omega)) (fun σ1 e1 i1 => ?_)
      refine zok_bv (fun v3 e3 => ?_)
      subst e3
      refine ih i1 ⟨by omega, by omega⟩ ?_ (by omega)
      rw [t, c1]
      exact hI.next ex
def zIrsa (x : Int) (G0 G : Nat → Int) : Prop := (∀ i, ¬ i = 3 → ¬ i = 4 → ¬ i = 5 → G i = G0 i) ∧ (66 < x → G 3 = G0 6) ∧ (67 < x → G 4 = G0 7) ∧ (168 < x → G 5 = G0 8)
theorem zIrsa.next {x : Int} {j : Nat} {G0 G : Nat → Int} (h : zIrsa x G0 G) (e : (j : Int) = x) : zIrsa (x + 1) G0 (zFrsa j G) := by
  obtain ⟨h0, h3, h4, h5⟩ := h
  refine ⟨fun i n3 n4 n5 => ?_, fun l => ?_, fun l => ?_, fun l => ?_⟩
  · unfold zFrsa; rw [if_neg n3, if_neg n4, if_neg n5]; exact h0 i n3 n4 n5
  · unfold zFrsa
    rw [if_pos rfl]
    by_cases q : j = 66
    · rw [if_pos q]; exact h0 6 (by decide) (by decide) (by decide)
    · rw [if_neg q]; exact h3 (by omega)
  · unfold zFrsa
    rw [if_neg (by decide : ¬ 4 = 3), if_pos rfl]
    by_cases q : j = 67
    · rw [if_pos q]; exact h0 7 (by decide) (by decide) (by decide)
    · rw [if_neg q]; exact h4 (by omega)
  · unfold zFrsa
    rw [if_neg (by decide : ¬ 5 = 3), if_neg (by decide : ¬ 5 = 4), if_pos rfl]
    by_cases q : j = 168
    · rw [if_pos q]; exact h0 8 (by decide) (by decide) (by decide)
    · rw [if_neg q]; exact h5 (by omega)
theorem q_restore_23 : ∀ (n : Nat) {G0 G : Nat → Int} {σ : zSt} (hσ : zIM G σ) {x1 : Int32} (h1 : zr 0 1048 x1) (hI : zIrsa x1.toInt G0 G) (hm : 1048 - x1.toInt < n), zok (fX12_restore_23 n σ x1) (zArestore G0) := by
  intro n
  induction n with
  | zero => intro G0 G σ hσ x1 h1 hI hm; have := h1.2; exfalso; omega
  | succ n ih =>
    intro G0 G σ hσ x1 h1 hI hm
    show zok (fX12_restore_23_body (fX12_restore_23 n) σ x1) _
    unfold fX12_restore_23_body
    have c9 : (1048 : Int32).toInt = 1048 := rfl
    have b1 := h1.1
    refine zok_if (fun q => ?_) (fun q => ?_)
    · have q1 := Int32.le_iff_toInt_le.mp q
      obtain ⟨h0, h3, h4, h5⟩ := hI
      refine zok_mono (q_restore_50 zfuel (G0 := G) (x1 := 0) hσ (zr_c (by decide)) ⟨fun i _ _ _ => rfl, fun l => absurd l (by decide), fun l => absurd l (by decide), fun l => absurd l (by decide)⟩ (by decide)) (fun r q => ?_)
      obtain ⟨G1, i1, g0, g100, g104, g101⟩ := q
      refine ⟨G1, i1, fun i n3 n4 n5 n100 n104 n101 => (g0 i n100 n104 n101).trans (h0 i n3 n4 n5), (g0 3 (by decide) (by decide) (by decide)).trans (h3 (by omega)), (g0 4 (by decide) (by decide) (by decide)).trans (h4 (by omega)), (g0 5 (by decide) (by decide) (by decide)).trans (h5 (by omega)), g100.trans (h0 102 (by decide) (by decide) (by decide)), g104.trans (h0 105 (by decide) (by decide) (by decide)), g101.trans (h0 106 (by decide) (by decide) (by decide))⟩
    · have q1 := Int32.lt_iff_toInt_lt.mp (z_nle q)
      have h5 : zr 0 1047 x1 := ⟨b1, by omega⟩
      have c1 : (1 : Int32).toInt = 1 := rfl
      have t : (x1 + 1).toInt = x1.toInt + (1 : Int32).toInt := z_tadd h5 (zr_c (lo := 1) (hi := 1) (x := 1) (by decide)) (by decide)
      have ex : (x1.toNatClampNeg : Int) = x1.toInt := by have : x1.toNatClampNeg = x1.toInt.toNat := rfl; omega
      refine zok_ck (zin_ok h5 (by decide)) (zok_ck (zin_ok h5 (by decide)) ?_)
      refine zok_bs (I := zIM (zFrsa x1.toNatClampNeg G)) (hσ.rsa (by omega)) (fun σ1 e1 i1 => ?_)
      refine zok_bv (fun v3 e3 => ?_)
      subst e3
      refine ih i1 ⟨by omega, by omega⟩ ?_ (by omega)
      rw [t, c1]
      exact hI.next ex
def zLE (l : List Nat) (G : Nat → Int) (σ : zSt) : Prop := ∃ c, (c = G 3 ∨ c = 0) ∧ zEM l (zset G 3 c) σ
section ZLE
variable {G : Nat → Int} {σ : zSt} {l : List Nat}
theorem zLE.lift {σ1 : zSt} (h : zLE l G σ) (k : ∀ G1, zEM l G1 σ → zEM l G1 σ1) : zLE l G σ1 := by obtain ⟨c, hc, h1⟩ := h; exact ⟨c, hc, k _ h1⟩
theorem zLE.P (h : zLE l G σ) : zPM σ := by obtain ⟨c, hc, h1⟩ := h; exact h1.P
theorem zLE.sg (h : zLE l G σ) : zSg sM σ := by obtain ⟨c, hc, h1⟩ := h; exact h1.sg
theorem zLE.Y (h : zLE l G σ) : zYM σ := by obtain ⟨c, hc, h1⟩ := h; exact h1.Y
theorem zLE.wk {k j : Nat} {v : Int32} (h : zLE l G σ) (c : (zWk sM zZM zQM k && (!Nat.beq k 0 && (!Nat.beq k 3 && !Nat.beq k 12))) = true) : zLE l G (zsi σ k j v) := h.lift (fun _ h1 => h1.wk c)
theorem zLE.wi {k j : Nat} {v : Int32} {lo hi : Int} (h : zLE l G σ) (a b : Nat) (hj : a ≤ j ∧ j ≤ b) (hv : zr lo hi v) (c : (zWe sM zZM zQM l k a b lo hi && zOM k a b) = true) : zLE l G (zsi σ k j v) := h.lift (fun _ h1 => h1.wi a b hj hv c)
theorem zLE.wb {v : Int32} {lo hi : Int} (h : zLE l G σ) (hv : zr lo hi v) (c : 1 ≤ lo ∧ hi ≤ 16) : zLE l G (zsi σ 0 6 v) := h.lift (fun _ h1 => h1.wb hv c)
theorem zLE.wp {v : Int32} {lo hi a b : Int} (h : zLE l G σ) (hv : zr lo hi v) (hb : zr a b (zgi σ 0 6)) (c : 0 ≤ lo ∧ hi ≤ 3 ∧ 1 ≤ a) : zLE l G (zsi σ 0 7 v) := h.lift (fun _ h1 => h1.wp hv hb c)
theorem zLE.upi {o : Option (zSt × Int32)} {Q : Int32 → Prop} (h : zLE l G σ) (k : ∀ G1, zIM G1 σ → zok o (zAi (zIM G1) Q)) : zok o (zAi (zLE l G) Q) := by
  obtain ⟨c, hc, h1⟩ := h
  exact zok_mono (h1.upi k) (fun r q => ⟨⟨c, hc, q.1⟩, q.2⟩)
theorem zLE.upu {o : Option zSt} (h : zLE l G σ) (k : ∀ G1, zIM G1 σ → zok o (zIM G1)) : zok o (zLE l G) := by
  obtain ⟨c, hc, h1⟩ := h
  exact zok_mono (h1.upu k) (fun r q => ⟨c, hc, q⟩)
theorem zLE_of {G1 : Nat → Int} (h : zIM G1 σ) : zLE l G1 σ := ⟨G1 3, Or.inl rfl, by rw [zset_id]; exact h.E⟩
theorem zLE.sub {l1 : List Nat} {G1 : Nat → Int} {r : zSt} (c : (l1.all (fun i => l.contains i) && !l.contains 3) = true) {d : Int} (hd : d = G 3 ∨ d = 0) (g1 : ∀ i, ¬ i ∈ l → G1 i = zset G 3 d i) (h : zLE l1 G1 r) : zLE l G r := by
  rw [Bool.and_eq_true, List.all_eq_true] at c
  obtain ⟨c1, c2⟩ := c
  have n3 : ¬ (3 : Nat) ∈ l := fun r => by rw [List.contains_iff_mem.mpr r] at c2; exact absurd c2 (by decide)
  obtain ⟨e, he, G2, h2, g2⟩ := h
  have e3 : G1 3 = d := (g1 3 n3).trans zset_eq
  refine ⟨e, ?_, G2, h2, fun i hi => ?_⟩
  · rw [e3] at he
    rcases he with he | he
    · rw [he]; exact hd
    · exact Or.inr he
  · rw [g2 i (fun r => hi (List.contains_iff_mem.mp (c1 i r)))]
    by_cases q : i = 3
    · subst q; rw [zset_eq, zset_eq]
    · rw [zset_ne q, zset_ne q, g1 i hi, zset_ne q]
theorem zLE.uEi {o : Option (zSt × Int32)} {Q : Int32 → Prop} {l1 : List Nat} (h : zLE l G σ) (c : (l1.all (fun i => l.contains i) && !l.contains 3) = true) (k : ∀ G1, zLE l1 G1 σ → zok o (zAi (zLE l1 G1) Q)) : zok o (zAi (zLE l G) Q) := by
  obtain ⟨d, hd, G1, h1, g1⟩ := h
  exact zok_mono (k G1 (zLE_of h1)) (fun r q => ⟨zLE.sub c hd g1 q.1, q.2⟩)
theorem q_anewE (h : zLE [2, 4] G σ) : zok (fX12_anew σ ) (zLE [2, 4] G) := by
  obtain ⟨d, hd, G1, h1, g1⟩ := h
  refine zok_mono (s_anewx h1) (fun r q => ⟨0, Or.inr rfl, _, q, fun i hi => ?_⟩)
  have n4 : ¬ i = 4 := fun e => hi (by rw [e]; decide)
  rw [zset_ne n4]
  by_cases q3 : i = 3
  · subst q3; rw [zset_eq, zset_eq]
  · rw [zset_ne q3, zset_ne q3, g1 i hi, zset_ne q3]
end ZLE
theorem q_load_126 {G : Nat → Int} {σ : zSt} {k89 : zSt → Int32 → Int32 → Option (zSt × Int32)} {Mk89 : Int} (hk89 : ∀ (σ : zSt) (x1 : Int32) (x3 : Int32), zLE [2, 4] G σ → zr (0) (512) x1 → zr (0) (262144) x3 → zr (1) (16) (zgi σ 0 6) → (262144) - x3.toInt < Mk89 → zok (k89 σ x1 x3) (zAi (zLE [2, 4] G) (fun v : Int32 => zr (0) (3) v))) (hσ : zLE [2, 4] G σ) {x1 : Int32} (h_x1 : zr (0) (512) x1) {x3 : Int32} (h_x3 : zr (0) (262143) x3) {s0 : Int32} {s1 : Int32} (h_s1 : zr (0) (262143) s1) (c_0_6 : zr (1) (16) (zgi σ 0 6)) (hMk89 : (262144) - x3.toInt ≤ Mk89) : zok (fX12_load_126 k89 σ x1 x3 s0 s1) (zAi (zLE [2, 4] G) (fun v : Int32 => zr (0) (3) v)) := by
  unfold fX12_load_126
  refine zok_ck (zin_ok h_s1 (by decide)) ?_
  refine zok_bs (hσ.wk (by decide)) (fun σ1 e2 i1 => ?_)
  refine zok_br (zr_add (lo := 1) (hi := 262144) h_x3 (zr_c (lo := 1) (hi := 1) (by decide)) (by decide)) (fun v2 e4 h3 => ?_)
  exact hk89 _ _ _ i1 h_x1 (zr_w h3 (by decide)) (z_tr e2 rfl c_0_6) (by rw [e4]; have := z_tadd (y := (1 : Int32)) h_x3 (zr_c (lo := 1) (hi := 1) (by decide)) (by decide); have e9 : (1 : Int32).toInt = 1 := rfl; omega) 
theorem q_load_161 {G : Nat → Int} {σ : zSt} {k142 : zSt → Int32 → Option (zSt × Int32)} {Mk142 : Int} (hk142 : ∀ (σ : zSt) (x3 : Int32), zLE [2, 4] G σ → zr (8176) (65550) x3 → zr (1) (16) (zgi σ 0 6) → (65550) - x3.toInt < Mk142 → zok (k142 σ x3) (zAi (zLE [2, 4] G) (fun v : Int32 => zr (0) (3) v))) (hσ : zLE [2, 4] G σ) {x3 : Int32} (h_x3 : zr (8176) (32767) x3) (c_0_6 : zr (1) (16) (zgi σ 0 6)) (hMk142 : (65550) - x3.toInt ≤ Mk142) : zok (fX12_load_161 k142 σ x3) (zAi (zLE [2, 4] G) (fun v : Int32 => zr (0) (3) v)) := by
  unfold fX12_load_161
  refine zok_br (zr_add (lo := 16368) (hi := 65550) (zr_mul (lo := 16352) (hi := 65534) (zr_c (lo := 2) (hi := 2) (by decide)) h_x3 (by decide)) (zr_c (lo := 16) (hi := 16) (by decide)) (by decide)) (fun v3 e2 h1 => ?_)
  exact hk142 _ _ hσ (zr_w h1 (by decide)) c_0_6 (z_l142 e2 h_x3 (by decide) hMk142) 
theorem q_load_414_body {G : Nat → Int} {σ : zSt} {k414 : zSt → Int32 → Option (zSt × Int32)} {Mk414 : Int} (hk414 : ∀ (σ : zSt) (x6 : Int32), zLE [2] G σ → zr (0) (8192) x6 → (8192) - x6.toInt < Mk414 → zok (k414 σ x6) (zAi (zLE [2] G) (fun v : Int32 => zr (0) (3) v))) (hσ : zLE [2] G σ) {x6 : Int32} (h_x6 : zr (0) (8192) x6) (hMk414 : (8192) - x6.toInt ≤ Mk414) : zok (fX12_load_414_body k414 σ x6) (zAi (zLE [2] G) (fun v : Int32 => zr (0) (3) v)) := by
  unfold fX12_load_414_body
  refine zok_if (fun q1 => ?_) (fun q1 => ?_)
  · have h2 := zc_ler (8192) q1 (zr_c (lo := 8192) (hi := 8192) (by decide)) h_x6 (by decide)
    refine zok_ck rfl ?_
    refine zok_bs (hσ.wi 19 19 (by decide) (zr_c (lo := 0) (hi := 0) (by decide)) (by decide +kernel)) (fun σ4 e4 i3 => ?_)
    exact zok_sai i3 (zr_w (zr_c (lo := 0) (hi := 0) (by decide)) (by decide))
  have h5 := zc_ltl (8191) (z_nle q1) h_x6 (zr_c (lo := 8192) (hi := 8192) (by decide)) (by decide)
  refine zok_ck (zin_ok h5 (by decide)) ?_
  refine zok_bs (hσ.wk (by decide)) (fun σ5 e7 i6 => ?_)
  refine zok_br (zr_add (lo := 1) (hi := 8192) h5 (zr_c (lo := 1) (hi := 1) (by decide)) (by decide)) (fun v6 e9 h8 => ?_)
  exact hk414 _ _ i6 (zr_w h8 (by decide)) (by rw [e9]; have := z_tadd (y := (1 : Int32)) h5 (zr_c (lo := 1) (hi := 1) (by decide)) (by decide); have e9 : (1 : Int32).toInt = 1 := rfl; omega) 
theorem q_load_414 {G : Nat → Int} : ∀ (n : Nat) {σ : zSt} (hσ : zLE [2] G σ) {x6 : Int32} (h_x6 : zr (0) (8192) x6) (hm : (8192) - x6.toInt < n), zok (fX12_load_414 n σ x6) (zAi (zLE [2] G) (fun v : Int32 => zr (0) (3) v)) := by
  intro n
  induction n with
  | zero => intro σ hσ x6 h_x6 hm ; have h9 := h_x6.1; have h8 := h_x6.2; exfalso; omega
  | succ n ih => intro σ hσ x6 h_x6 hm ; exact q_load_414_body (fun σ x6 hσ h_x6 hm1 => ih hσ h_x6 (by omega)) hσ h_x6 (Int.le_refl _)
theorem q_load_404 {G : Nat → Int} {σ : zSt} (hσ : zLE [2, 4] G σ) {s0 : Int32} (h_s0 : zr (0) (65535) s0) : zok (fX12_load_404 σ s0) (zAi (zLE [2, 4] G) (fun v : Int32 => zr (0) (3) v)) := by
  unfold fX12_load_404
  refine zok_bs (hσ.wi 9 9 (by decide) h_s0 (by decide +kernel)) (fun σ7 e2 i1 => ?_)
  refine zok_bu (q_anewE i1) (fun σ8 i3 => ?_)
  exact (i3.uEi (by decide) (fun G1 hG => q_load_414 zfuel hG (zr_w (zr_c (lo := 0) (hi := 0) (by decide)) (by decide)) (by decide)))
theorem q_load_385 {G : Nat → Int} {σ : zSt} (hσ : zLE [2, 4] G σ) : zok (fX12_load_385 σ ) (zAi (zLE [2, 4] G) (fun v : Int32 => zr (0) (3) v)) := by
  unfold fX12_load_385
  refine zok_if (fun q1 => ?_) (fun q1 => ?_)
  · have h2 := zc_ler (0) q1 (zr_c (lo := 0) (hi := 0) (by decide)) (rM_5 hσ.sg _ (by decide)) (by decide)
    exact (q_load_404 hσ (zr_andr (lo := 0) (hi := 65535) (zr_c (lo := 65535) (hi := 65535) (by decide)) (by decide)))
  have h3 := zc_ltl (-1) (z_nle q1) (rM_5 hσ.sg _ (by decide)) (zr_c (lo := 0) (hi := 0) (by decide)) (by decide)
  exact (q_load_404 hσ (zr_w (zr_c (lo := 0) (hi := 0) (by decide)) (by decide)))
theorem q_load_359 {G : Nat → Int} {σ : zSt} {k337 : zSt → Int32 → Int32 → Option (zSt × Int32)} {Mk337 : Int} (hk337 : ∀ (σ : zSt) (x5 : Int32) (x6 : Int32), zLE [2, 4] G σ → zr (0) (15) x5 → zr (32768) (262144) x6 → (262144) - x6.toInt < Mk337 → zok (k337 σ x5 x6) (zAi (zLE [2, 4] G) (fun v : Int32 => zr (0) (3) v))) (hσ : zLE [2, 4] G σ) {x5 : Int32} (h_x5 : zr (0) (15) x5) {x6 : Int32} (h_x6 : zr (32768) (262143) x6) (hMk337 : (262144) - x6.toInt ≤ Mk337) : zok (fX12_load_359 k337 σ x5 x6) (zAi (zLE [2, 4] G) (fun v : Int32 => zr (0) (3) v)) := by
  unfold fX12_load_359
  refine zok_ck (zin_ok h_x6 (by decide)) ?_
  refine zok_bs (hσ.wi 9 9 (by decide) zr_any (by decide +kernel)) (fun σ9 e2 i1 => ?_)
  refine zok_br (zr_add (lo := 32769) (hi := 262144) h_x6 (zr_c (lo := 1) (hi := 1) (by decide)) (by decide)) (fun v10 e4 h3 => ?_)
  exact hk337 _ _ _ i1 h_x5 (zr_w h3 (by decide)) (by rw [e4]; have := z_tadd (y := (1 : Int32)) h_x6 (zr_c (lo := 1) (hi := 1) (by decide)) (by decide); have e9 : (1 : Int32).toInt = 1 := rfl; omega) 
theorem q_load_337_body {G : Nat → Int} {σ : zSt} {k337 : zSt → Int32 → Int32 → Option (zSt × Int32)} {Mk337 : Int} (hk337 : ∀ (σ : zSt) (x5 : Int32) (x6 : Int32), zLE [2, 4] G σ → zr (0) (15) x5 → zr (32768) (262144) x6 → (262144) - x6.toInt < Mk337 → zok (k337 σ x5 x6) (zAi (zLE [2, 4] G) (fun v : Int32 => zr (0) (3) v))) (hσ : zLE [2, 4] G σ) {x5 : Int32} (h_x5 : zr (0) (15) x5) {x6 : Int32} (h_x6 : zr (32768) (262144) x6) (hMk337 : (262144) - x6.toInt ≤ Mk337) : zok (fX12_load_337_body k337 σ x5 x6) (zAi (zLE [2, 4] G) (fun v : Int32 => zr (0) (3) v)) := by
  unfold fX12_load_337_body
  refine zok_if (fun q1 => ?_) (fun q1 => ?_)
  · exact (q_load_385 hσ)
  have h2 := zc_ltl (262143) (z_nle q1) h_x6 (rM_2 hσ.sg _ (by decide)) (by decide)
  have h3 := zc_ltr (32769) (z_nle q1) h_x6 (rM_2 hσ.sg _ (by decide)) (by decide)
  refine zok_if (fun q4 => ?_) (fun q4 => ?_)
  · have h5 := zc_ltr (14) q4 (zr_c (lo := 13) (hi := 13) (by decide)) h_x5 (by decide)
    exact (q_load_359 hk337 hσ (zr_w h5 (by decide)) h2 hMk337)
  have h6 := zc_lel (13) (z_nlt q4) h_x5 (zr_c (lo := 13) (hi := 13) (by decide)) (by decide)
  refine zok_if (fun q7 => ?_) (fun q7 => ?_)
  · have h8 := zc_ler (3) q7 (zr_c (lo := 3) (hi := 3) (by decide)) h6 (by decide)
    exact (q_load_385 hσ)
  have h9 := zc_ltl (2) (z_nle q7) h6 (zr_c (lo := 3) (hi := 3) (by decide)) (by decide)
  exact (q_load_359 hk337 hσ (zr_w h9 (by decide)) h2 hMk337)
theorem q_load_337 {G : Nat → Int} : ∀ (n : Nat) {σ : zSt} (hσ : zLE [2, 4] G σ) {x5 : Int32} (h_x5 : zr (0) (15) x5) {x6 : Int32} (h_x6 : zr (32768) (262144) x6) (hm : (262144) - x6.toInt < n), zok (fX12_load_337 n σ x5 x6) (zAi (zLE [2, 4] G) (fun v : Int32 => zr (0) (3) v)) := by
  intro n
  induction n with
  | zero => intro σ hσ x5 h_x5 x6 h_x6 hm ; have h9 := h_x6.1; have h8 := h_x6.2; exfalso; omega
  | succ n ih => intro σ hσ x5 h_x5 x6 h_x6 hm ; exact q_load_337_body (fun σ x5 x6 hσ h_x5 h_x6 hm1 => ih hσ h_x5 h_x6 (by omega)) hσ h_x5 h_x6 (Int.le_refl _)
theorem q_load_298_body {G : Nat → Int} {σ : zSt} {k298 : zSt → Int32 → Int32 → Option (zSt × Int32)} {Mk298 : Int} (hk298 : ∀ (σ : zSt) (x5 : Int32) (x6 : Int32), zLE [2, 4] G σ → zr (0) (15) x5 → zr (0) (32767) x6 → (32767) - x6.toInt < Mk298 → zok (k298 σ x5 x6) (zAi (zLE [2, 4] G) (fun v : Int32 => zr (0) (3) v))) (hσ : zLE [2, 4] G σ) {x5 : Int32} (h_x5 : zr (0) (15) x5) {x6 : Int32} (h_x6 : zr (0) (32767) x6) (hMk298 : (32767) - x6.toInt ≤ Mk298) : zok (fX12_load_298_body k298 σ x5 x6) (zAi (zLE [2, 4] G) (fun v : Int32 => zr (0) (3) v)) := by
  unfold fX12_load_298_body
  refine zok_if (fun q1 => ?_) (fun q1 => ?_)
  · exact (q_load_337 zfuel hσ h_x5 (zr_w (zr_c (lo := 32768) (hi := 32768) (by decide)) (by decide)) (by decide))
  have h2 := zc_ltl (32766) (z_nle q1) h_x6 (rM_5 hσ.sg _ (by decide)) (by decide)
  have h3 := zc_ltr (1) (z_nle q1) h_x6 (rM_5 hσ.sg _ (by decide)) (by decide)
  refine zok_ck (zin_ok h2 (by decide)) ?_
  refine zok_bs (hσ.wi 9 9 (by decide) zr_any (by decide +kernel)) (fun σ11 e5 i4 => ?_)
  refine zok_br (zr_add (lo := 1) (hi := 32767) h2 (zr_c (lo := 1) (hi := 1) (by decide)) (by decide)) (fun v12 e7 h6 => ?_)
  exact hk298 _ _ _ i4 h_x5 (zr_w h6 (by decide)) (by rw [e7]; have := z_tadd (y := (1 : Int32)) h2 (zr_c (lo := 1) (hi := 1) (by decide)) (by decide); have e9 : (1 : Int32).toInt = 1 := rfl; omega) 
theorem q_load_298 {G : Nat → Int} : ∀ (n : Nat) {σ : zSt} (hσ : zLE [2, 4] G σ) {x5 : Int32} (h_x5 : zr (0) (15) x5) {x6 : Int32} (h_x6 : zr (0) (32767) x6) (hm : (32767) - x6.toInt < n), zok (fX12_load_298 n σ x5 x6) (zAi (zLE [2, 4] G) (fun v : Int32 => zr (0) (3) v)) := by
  intro n
  induction n with
  | zero => intro σ hσ x5 h_x5 x6 h_x6 hm ; have h9 := h_x6.1; have h8 := h_x6.2; exfalso; omega
  | succ n ih => intro σ hσ x5 h_x5 x6 h_x6 hm ; exact q_load_298_body (fun σ x5 x6 hσ h_x5 h_x6 hm1 => ih hσ h_x5 h_x6 (by omega)) hσ h_x5 h_x6 (Int.le_refl _)
theorem q_load_293 {G : Nat → Int} {σ : zSt} (hσ : zLE [2, 4] G σ) {s0 : Int32} (h_s0 : zr (0) (15) s0) : zok (fX12_load_293 σ s0) (zAi (zLE [2, 4] G) (fun v : Int32 => zr (0) (3) v)) := by
  unfold fX12_load_293
  exact (q_load_298 zfuel hσ h_s0 (zr_w (zr_c (lo := 0) (hi := 0) (by decide)) (by decide)) (by decide))
theorem q_load_259 {G : Nat → Int} {σ : zSt} (hσ : zLE [2, 4] G σ) {s0 : Int32} (h_s0 : zr (0) (3) s0) (c_0_6 : zr (1) (16) (zgi σ 0 6)) : zok (fX12_load_259 σ s0) (zAi (zLE [2, 4] G) (fun v : Int32 => zr (0) (3) v)) := by
  unfold fX12_load_259
  refine zok_bs (hσ.wp h_s0 c_0_6 (by decide)) (fun σ13 e2 i1 => ?_)
  refine zok_bs (i1.wi 9 9 (by decide) (zr_c (lo := 0) (hi := 0) (by decide)) (by decide +kernel)) (fun σ14 e4 i3 => ?_)
  refine zok_if (fun q5 => ?_) (fun q5 => ?_)
  · have h6 := zc_ler (0) q5 (zr_c (lo := 0) (hi := 0) (by decide)) (rM_5 i3.sg _ (by decide)) (by decide)
    refine zok_ck (zin_ok (zr_add (lo := 15) (hi := 32782) h6 (zr_c (lo := 15) (hi := 15) (by decide)) (by decide)) (by decide)) ?_
    exact (q_load_293 i3 (zr_andr (lo := 0) (hi := 15) (zr_c (lo := 15) (hi := 15) (by decide)) (by decide)))
  have h7 := zc_ltl (-1) (z_nle q5) (rM_5 i3.sg _ (by decide)) (zr_c (lo := 0) (hi := 0) (by decide)) (by decide)
  exact (q_load_293 i3 (zr_w (zr_c (lo := 3) (hi := 3) (by decide)) (by decide)))
theorem q_load_247 {G : Nat → Int} {σ : zSt} (hσ : zLE [2, 4] G σ) (c_0_6 : zr (1) (16) (zgi σ 0 6)) : zok (fX12_load_247 σ ) (zAi (zLE [2, 4] G) (fun v : Int32 => zr (0) (3) v)) := by
  unfold fX12_load_247
  refine zok_if (fun q1 => ?_) (fun q1 => ?_)
  · have h2 := zc_ler (0) q1 (zr_c (lo := 0) (hi := 0) (by decide)) (rM_5 hσ.sg _ (by decide)) (by decide)
    exact (q_load_259 hσ (zr_w (zr_c (lo := 1) (hi := 1) (by decide)) (by decide)) c_0_6)
  have h3 := zc_ltl (-1) (z_nle q1) (rM_5 hσ.sg _ (by decide)) (zr_c (lo := 0) (hi := 0) (by decide)) (by decide)
  exact (q_load_259 hσ (zr_w (zr_c (lo := 3) (hi := 3) (by decide)) (by decide)) c_0_6)
theorem q_load_214 {G : Nat → Int} {σ : zSt} (hσ : zLE [2, 4] G σ) {x3 : Int32} {s0 : Int32} (c_0_6 : zr (1) (16) (zgi σ 0 6)) : zok (fX12_load_214 σ x3 s0) (zAi (zLE [2, 4] G) (fun v : Int32 => zr (0) (3) v)) := by
  unfold fX12_load_214
  refine zok_if (fun q1 => ?_) (fun q1 => ?_)
  · have h2 := zc_ltr (49153) q1 (zr_c (lo := 49152) (hi := 49152) (by decide)) (rM_2 hσ.sg _ (by decide)) (by decide)
    refine zok_if (fun q3 => ?_) (fun q3 => ?_)
    · have h4 := zc_lel (0) q3 zr_any (zr_c (lo := 0) (hi := 0) (by decide)) (by decide)
      exact (q_load_247 hσ c_0_6)
    have h5 := zc_ltr (1) (z_nle q3) (zr_c (lo := 0) (hi := 0) (by decide)) zr_any (by decide)
    refine zok_if (fun q6 => ?_) (fun q6 => ?_)
    · have h7 := zc_eql (65536) (65536) q6 zr_any (zr_c (lo := 65536) (hi := 65536) (by decide)) (by decide)
      exact (q_load_259 hσ (zr_w (zr_c (lo := 2) (hi := 2) (by decide)) (by decide)) c_0_6)
    exact (q_load_247 hσ c_0_6)
  have h8 := zc_lel (49152) (z_nlt q1) (rM_2 hσ.sg _ (by decide)) (zr_c (lo := 49152) (hi := 49152) (by decide)) (by decide)
  exact (q_load_259 hσ (zr_w (zr_c (lo := 0) (hi := 0) (by decide)) (by decide)) c_0_6)
theorem q_load_192 {G : Nat → Int} {σ : zSt} (hσ : zLE [2, 4] G σ) {s0 : Int32} (c_0_6 : zr (1) (16) (zgi σ 0 6)) : zok (fX12_load_192 σ s0) (zAi (zLE [2, 4] G) (fun v : Int32 => zr (0) (3) v)) := by
  unfold fX12_load_192
  refine zok_if (fun q1 => ?_) (fun q1 => ?_)
  · have h2 := zc_lel (49152) q1 (rM_2 hσ.sg _ (by decide)) (zr_c (lo := 49152) (hi := 49152) (by decide)) (by decide)
    exact (q_load_214 hσ c_0_6)
  have h3 := zc_ltr (49153) (z_nle q1) (zr_c (lo := 49152) (hi := 49152) (by decide)) (rM_2 hσ.sg _ (by decide)) (by decide)
  refine zok_pi (s_X12_bytesAt hσ.P (zr_w (zr_c (lo := 32744) (hi := 32744) (by decide)) (by decide)) (zr_c (lo := 2) (hi := 2) (by decide))) (fun v16 h4 => ?_)
  exact (q_load_214 hσ c_0_6)
theorem q_load_142_body {G : Nat → Int} {σ : zSt} {k142 : zSt → Int32 → Option (zSt × Int32)} {Mk142 : Int} (hk142 : ∀ (σ : zSt) (x3 : Int32), zLE [2, 4] G σ → zr (8176) (65550) x3 → zr (1) (16) (zgi σ 0 6) → (65550) - x3.toInt < Mk142 → zok (k142 σ x3) (zAi (zLE [2, 4] G) (fun v : Int32 => zr (0) (3) v))) (hσ : zLE [2, 4] G σ) {x3 : Int32} (h_x3 : zr (8176) (65550) x3) (c_0_6 : zr (1) (16) (zgi σ 0 6)) (hMk142 : (65550) - x3.toInt ≤ Mk142) : zok (fX12_load_142_body k142 σ x3) (zAi (zLE [2, 4] G) (fun v : Int32 => zr (0) (3) v)) := by
  unfold fX12_load_142_body
  refine zok_if (fun q1 => ?_) (fun q1 => ?_)
  · have h2 := zc_ler (32768) q1 (zr_c (lo := 32768) (hi := 32768) (by decide)) h_x3 (by decide)
    refine zok_if (fun q3 => ?_) (fun q3 => ?_)
    · have h4 := zc_lel (49152) q3 (rM_2 hσ.sg _ (by decide)) (zr_c (lo := 49152) (hi := 49152) (by decide)) (by decide)
      exact (q_load_192 hσ c_0_6)
    have h5 := zc_ltr (49153) (z_nle q3) (zr_c (lo := 49152) (hi := 49152) (by decide)) (rM_2 hσ.sg _ (by decide)) (by decide)
    refine zok_pi (s_X12_bytesAt hσ.P (zr_w (zr_c (lo := 32742) (hi := 32742) (by decide)) (by decide)) (zr_c (lo := 2) (hi := 2) (by decide))) (fun v18 h6 => ?_)
    exact (q_load_192 hσ c_0_6)
  have h7 := zc_ltl (32767) (z_nle q1) h_x3 (zr_c (lo := 32768) (hi := 32768) (by decide)) (by decide)
  refine zok_pi (s_X12_isHeader hσ.P h7) (fun v20 h8 => ?_)
  refine zok_if (fun q9 => ?_) (fun q9 => ?_)
  · have h10 := zc_eql (0) (0) q9 h8 (zr_c (lo := 0) (hi := 0) (by decide)) (by decide)
    exact (q_load_161 hk142 hσ h7 c_0_6 hMk142)
  have h11 := zc_nel (1) (1) q9 h8 (zr_c (lo := 0) (hi := 0) (by decide)) (by decide)
  refine zok_bs (hσ.wi 8 8 (by decide) h7 (by decide +kernel)) (fun σ21 e13 i12 => ?_)
  exact (q_load_161 hk142 i12 h7 (z_trj e13 (by decide) c_0_6) hMk142)
theorem q_load_142 {G : Nat → Int} : ∀ (n : Nat) {σ : zSt} (hσ : zLE [2, 4] G σ) {x3 : Int32} (h_x3 : zr (8176) (65550) x3) (c_0_6 : zr (1) (16) (zgi σ 0 6)) (hm : (65550) - x3.toInt < n), zok (fX12_load_142 n σ x3) (zAi (zLE [2, 4] G) (fun v : Int32 => zr (0) (3) v)) := by
  intro n
  induction n with
  | zero => intro σ hσ x3 h_x3 c_0_6 hm ; have h9 := h_x3.1; have h8 := h_x3.2; exfalso; omega
  | succ n ih => intro σ hσ x3 h_x3 c_0_6 hm ; exact q_load_142_body (fun σ x3 hσ h_x3 c_0_6 hm1 => ih hσ h_x3 c_0_6 (by omega)) hσ h_x3 c_0_6 (Int.le_refl _)
theorem q_load_89_body {G : Nat → Int} {σ : zSt} {k89 : zSt → Int32 → Int32 → Option (zSt × Int32)} {Mk89 : Int} (hk89 : ∀ (σ : zSt) (x1 : Int32) (x3 : Int32), zLE [2, 4] G σ → zr (0) (512) x1 → zr (0) (262144) x3 → zr (1) (16) (zgi σ 0 6) → (262144) - x3.toInt < Mk89 → zok (k89 σ x1 x3) (zAi (zLE [2, 4] G) (fun v : Int32 => zr (0) (3) v))) (hσ : zLE [2, 4] G σ) {x1 : Int32} (h_x1 : zr (0) (512) x1) {x3 : Int32} (h_x3 : zr (0) (262144) x3) (c_0_6 : zr (1) (16) (zgi σ 0 6)) (hMk89 : (262144) - x3.toInt ≤ Mk89) : zok (fX12_load_89_body k89 σ x1 x3) (zAi (zLE [2, 4] G) (fun v : Int32 => zr (0) (3) v)) := by
  unfold fX12_load_89_body
  refine zok_if (fun q1 => ?_) (fun q1 => ?_)
  · have h2 := zc_ler (16384) q1 (zr_mul (lo := 16384) (hi := 262144) (zr_c (lo := 16384) (hi := 16384) (by decide)) c_0_6 (by decide)) h_x3 (by decide)
    refine zok_bs (hσ.wi 8 8 (by decide) (zr_c (lo := -1) (hi := -1) (by decide)) (by decide +kernel)) (fun σ22 e4 i3 => ?_)
    exact (q_load_142 zfuel i3 (zr_w (zr_c (lo := 8176) (hi := 8176) (by decide)) (by decide)) (z_trj e4 (by decide) c_0_6) (by decide))
  have h5 := zc_ltl (262143) (z_nle q1) h_x3 (zr_mul (lo := 16384) (hi := 262144) (zr_c (lo := 16384) (hi := 16384) (by decide)) c_0_6 (by decide)) (by decide)
  refine zok_if (fun q6 => ?_) (fun q6 => ?_)
  · have h7 := zc_lel (262143) q6 (rM_2 hσ.sg _ (by decide)) h5 (by decide)
    exact (q_load_126 hk89 hσ h_x1 h5 h5 c_0_6 hMk89)
  have h8 := zc_ltr (1) (z_nle q6) h5 (rM_2 hσ.sg _ (by decide)) (by decide)
  refine zok_ck (zin_ok (zr_add (lo := 0) (hi := 262655) h_x1 h5 (by decide)) (by decide)) ?_
  exact (q_load_126 hk89 hσ h_x1 h5 h5 c_0_6 hMk89)
theorem q_load_89 {G : Nat → Int} : ∀ (n : Nat) {σ : zSt} (hσ : zLE [2, 4] G σ) {x1 : Int32} (h_x1 : zr (0) (512) x1) {x3 : Int32} (h_x3 : zr (0) (262144) x3) (c_0_6 : zr (1) (16) (zgi σ 0 6)) (hm : (262144) - x3.toInt < n), zok (fX12_load_89 n σ x1 x3) (zAi (zLE [2, 4] G) (fun v : Int32 => zr (0) (3) v)) := by
  intro n
  induction n with
  | zero => intro σ hσ x1 h_x1 x3 h_x3 c_0_6 hm ; have h9 := h_x3.1; have h8 := h_x3.2; exfalso; omega
  | succ n ih => intro σ hσ x1 h_x1 x3 h_x3 c_0_6 hm ; exact q_load_89_body (fun σ x1 x3 hσ h_x1 h_x3 c_0_6 hm1 => ih hσ h_x1 h_x3 c_0_6 (by omega)) hσ h_x1 h_x3 c_0_6 (Int.le_refl _)
theorem q_load_26 {G : Nat → Int} {σ : zSt} (hσ : zLE [0, 2, 4] G σ) {s0 : Int32} (h_s0 : zr (0) (512) s0) : zok (fX12_load_26 σ s0) (zAi (zLE [0, 2, 4] G) (fun v : Int32 => zr (0) (3) v)) := by
  unfold fX12_load_26
  refine zok_br (zr_sub (lo := -512) (hi := 262656) (rM_0 hσ.sg _ (by decide)) h_s0 (by decide)) (fun v23 e2 h1 => ?_)
  refine zok_bs (hσ.wi 2 2 (by decide) (zr_c (lo := 0) (hi := 0) (by decide)) (by decide +kernel)) (fun σ24 e4 i3 => ?_)
  refine zok_if (fun q5 => ?_) (fun q5 => ?_)
  · have h6 := zc_ler (8192) q5 (zr_c (lo := 8192) (hi := 8192) (by decide)) h1 (by decide)
    refine zok_ck (by decide) ?_
    refine zok_if (fun q7 => ?_) (fun q7 => ?_)
    · have h8 := zc_eql (0) (0) q7 (zr_rem (lo := 0) (hi := 8191) 8192 (by decide) h6 (by decide)) (zr_c (lo := 0) (hi := 0) (by decide)) (by decide)
      refine zok_if (fun q9 => ?_) (fun q9 => ?_)
      · have h10 := zc_lel (262144) q9 h6 (zr_c (lo := 262144) (hi := 262144) (by decide)) (by decide)
        refine zok_bs (i3.wi 5 5 (by decide) h10 (by decide +kernel)) (fun σ25 e12 i11 => ?_)
        refine zok_ck (by decide) ?_
        refine zok_bs (i11.wb (zr_div (lo := 1) (hi := 16) 16384 (by decide) (zr_add (lo := 24575) (hi := 278527) (z_own e12 h10) (zr_c (lo := 16383) (hi := 16383) (by decide)) (by decide)) (by decide)) (by decide)) (fun σ26 e14 i13 => ?_)
        exact (i13.uEi (by decide) (fun G1 hG => q_load_89 zfuel hG h_s0 (zr_w (zr_c (lo := 0) (hi := 0) (by decide)) (by decide)) (z_own e14 (zr_div (lo := 1) (hi := 16) 16384 (by decide) (zr_add (lo := 24575) (hi := 278527) (z_own e12 h10) (zr_c (lo := 16383) (hi := 16383) (by decide)) (by decide)) (by decide))) (by decide)))
      have h15 := zc_ltr (262145) (z_nle q9) (zr_c (lo := 262144) (hi := 262144) (by decide)) h6 (by decide)
      exact zok_sai i3 (zr_w (zr_c (lo := 3) (hi := 3) (by decide)) (by decide))
    have h16 := zc_nel (1) (8191) q7 (zr_rem (lo := 0) (hi := 8191) 8192 (by decide) h6 (by decide)) (zr_c (lo := 0) (hi := 0) (by decide)) (by decide)
    exact zok_sai i3 (zr_w (zr_c (lo := 2) (hi := 2) (by decide)) (by decide))
  have h17 := zc_ltl (8191) (z_nle q5) h1 (zr_c (lo := 8192) (hi := 8192) (by decide)) (by decide)
  exact zok_sai i3 (zr_w (zr_c (lo := 1) (hi := 1) (by decide)) (by decide))
theorem q_load {G : Nat → Int} {σ : zSt} (hσ : zLE [0, 2, 4] G σ) : zok (fX12_load σ ) (zAi (zLE [0, 2, 4] G) (fun v : Int32 => zr (0) (3) v)) := by
  unfold fX12_load
  refine zok_bs (hσ.wi 0 0 (by decide) (zr_c (lo := 0) (hi := 0) (by decide)) (by decide +kernel)) (fun σ27 e2 i1 => ?_)
  refine zok_ck (by decide) ?_
  refine zok_if (fun q3 => ?_) (fun q3 => ?_)
  · have h4 := zc_eql (512) (512) q3 (zr_rem (lo := 0) (hi := 16383) 16384 (by decide) (rM_0 i1.sg _ (by decide)) (by decide)) (zr_c (lo := 512) (hi := 512) (by decide)) (by decide)
    exact (q_load_26 i1 (zr_w (zr_c (lo := 512) (hi := 512) (by decide)) (by decide)))
  exact (q_load_26 i1 (zr_w (zr_c (lo := 0) (hi := 0) (by decide)) (by decide)))
end ZJN0
section ZJN1
/-! what holds between two calls: the reference with its counters, the class; n: the tape's length, k: the kind, s: saved -/
def zRM (K n k s : Int) (μ : zSt) : Prop := K ≤ 268435456 ∧ ∃ G, zIM G μ ∧ zK K G ∧ zKS K G ∧ G 0 = n ∧ G 1 = k ∧ G 2 = s
def zRC (n k s : Int) (σ : zSt) : Prop := ∃ H, zIC H σ ∧ H 0 = n ∧ H 2 = k ∧ H 1 = s
theorem zRM.mono {K K1 n k s : Int} {μ : zSt} (h : zRM K n k s μ) (c : K ≤ K1) (c1 : K1 ≤ 268435456) : zRM K1 n k s μ := by
  obtain ⟨_, G, i, a, b, e⟩ := h
  exact ⟨c1, G, i, a.mono c, b.keep c (fun _ _ => rfl), e⟩
theorem zok_bh {α : Type} {q : Option (zHs × Int32)} {f : (Nat → Int64) → zSt → Int32 → Option α} {Q : zHs × Int32 → Prop} {P : α → Prop} (h : zok q Q) (k : ∀ o σ v, Q ((o, σ), v) → zok (f o σ v) P) : zok (zbh q f) P := by
  obtain ⟨a, e, r⟩ := h
  subst e
  exact k a.1.1 a.1.2 a.2 r
theorem zTh_i2 {I : zSt → Prop} {o : Nat → Int64} {q : Option zRi} (h : zok q (zTi I [1, 2])) : zok (zbr q (zhi o zh2)) (fun r => I r.1.2) := by
  refine zok_zbr h (fun r hr => ?_)
  obtain ⟨h1, h2⟩ := hr
  rcases r with x | x
  · show zok (some ((vp_updL o 0 x.2.toInt64, x.1), (0 : Int32))) _
    exact zok_some h1
  · obtain ⟨y, k⟩ := x
    have h2 : k ∈ ([1, 2] : List Nat) := h2
    show zok (zh2 (o, y) k) _
    unfold zh2
    refine zok_if (fun _ => zok_some h1) (fun q1 => zok_if (fun _ => zok_some h1) (fun q2 => ?_))
    rcases List.mem_cons.mp h2 with e | e
    · exact absurd e q1
    · rcases List.mem_cons.mp e with e | e
      · exact absurd e q2
      · cases e
theorem zTh_i1 {n : Nat} {I : zSt → Prop} {o : Nat → Int64} {q : Option zRi} (h : zok q (zTi I [n])) : zok (zbr q (zhi o (zh1 n))) (fun r => I r.1.2) := by
  refine zok_zbr h (fun r hr => ?_)
  obtain ⟨h1, h2⟩ := hr
  rcases r with x | x
  · show zok (some ((vp_updL o 0 x.2.toInt64, x.1), (0 : Int32))) _
    exact zok_some h1
  · obtain ⟨y, k⟩ := x
    have h2 : k ∈ ([n] : List Nat) := h2
    show zok (zh1 n (o, y) k) _
    unfold zh1
    refine zok_if (fun _ => zok_some h1) (fun q1 => ?_)
    rcases List.mem_cons.mp h2 with e | e
    · exact absurd e q1
    · cases e
theorem zTh_l1 {n : Nat} {I : zSt → Prop} {o : Nat → Int64} {q : Option zRl} (h : zok q (zTl I [n])) : zok (zbr q (zhl o (zh1 n))) (fun r => I r.1.2) := by
  refine zok_zbr h (fun r hr => ?_)
  obtain ⟨h1, h2⟩ := hr
  rcases r with x | x
  · show zok (some ((vp_updL o 0 x.2, x.1), (0 : Int32))) _
    exact zok_some h1
  · obtain ⟨y, k⟩ := x
    have h2 : k ∈ ([n] : List Nat) := h2
    show zok (zh1 n (o, y) k) _
    unfold zh1
    refine zok_if (fun _ => zok_some h1) (fun q1 => ?_)
    rcases List.mem_cons.mp h2 with e | e
    · exact absurd e q1
    · cases e
theorem zTh_u1 {n : Nat} {I : zSt → Prop} {q : Option zRu} (h : zok q (zTu I [n])) : zok (zbr q (zhu (zh1 n))) (fun r => I r.1) := by
  refine zok_zbr h (fun r hr => ?_)
  obtain ⟨h1, h2⟩ := hr
  rcases r with x | x
  · show zok (some (x, (0 : Int32))) _
    exact zok_some h1
  · obtain ⟨y, k⟩ := x
    have h2 : k ∈ ([n] : List Nat) := h2
    show zok (zh1 n y k) _
    unfold zh1
    refine zok_if (fun _ => zok_some h1) (fun q1 => ?_)
    rcases List.mem_cons.mp h2 with e | e
    · exact absurd e q1
    · cases e
section ZCALLS
variable {K n k s : Int} {μ σ : zSt} {o : Nat → Int64}

theorem m_feed (h : zRM K n k s μ) {x1 : Int32} {x2 x4 x6 : Int64} : zok (fX12_feed μ x1 x2 x4 x6) (fun r => ∃ n1, zRM K n1 k s r.1) := by
  obtain ⟨c, G, i, a, b, e0, e1, e2⟩ := h
  refine zok_mono (s_X12_feed i.E) (fun r q => ?_)
  obtain ⟨⟨G1, i1, g⟩, _⟩ := q
  have g1 : ∀ i, ¬ i = 0 → G1 i = G i := fun i hi => g i (fun r => hi (List.mem_singleton.mp r))
  exact ⟨G1 0, c, G1, i1, a.keep (fun i hi => g1 i (fun r => by subst r; revert hi; decide)), b.keep (Int.le_refl _) (fun i hi => g1 i (fun r => by subst r; revert hi; decide)), rfl, (g1 1 (by decide)).trans e1, (g1 2 (by decide)).trans e2⟩
theorem m_grow (h : zRM K n k s μ) {x1 : Int32} : zok (fX12_grow μ x1) (fun r => ∃ n1, zRM K n1 k s r.1) := by
  obtain ⟨c, G, i, a, b, e0, e1, e2⟩ := h
  refine zok_mono (s_X12_grow i.E) (fun r q => ?_)
  obtain ⟨⟨G1, i1, g⟩, _⟩ := q
  have g1 : ∀ i, ¬ i = 0 → G1 i = G i := fun i hi => g i (fun r => hi (List.mem_singleton.mp r))
  exact ⟨G1 0, c, G1, i1, a.keep (fun i hi => g1 i (fun r => by subst r; revert hi; decide)), b.keep (Int.le_refl _) (fun i hi => g1 i (fun r => by subst r; revert hi; decide)), rfl, (g1 1 (by decide)).trans e1, (g1 2 (by decide)).trans e2⟩
theorem m_tell (h : zRM K n k s μ) {x1 : Int32} : zok (fX12_tell μ x1) (fun r => zRM K n k s r.1) := by
  obtain ⟨c, G, i, a, b, e0, e1, e2⟩ := h
  refine zok_mono (s_X12_tell i.E) (fun r q => ?_)
  obtain ⟨⟨G1, i1, g⟩, _⟩ := q
  have g1 : ∀ i, ¬ i = 9 → G1 i = G i := fun i hi => g i (fun r => hi (List.mem_singleton.mp r))
  exact ⟨c, G1, i1, a.keep (fun i hi => g1 i (fun r => by subst r; revert hi; decide)), b.keep (Int.le_refl _) (fun i hi => g1 i (fun r => by subst r; revert hi; decide)), (g1 0 (by decide)).trans e0, (g1 1 (by decide)).trans e1, (g1 2 (by decide)).trans e2⟩
theorem m_load (h : zRM K n k s μ) : zok (fX12_load μ ) (fun r => ∃ n1 s1, zRM K n1 k s1 r.1) := by
  obtain ⟨c, G, i, a, b, e0, e1, e2⟩ := h
  refine zok_mono (q_load (zLE_of i)) (fun r q => ?_)
  obtain ⟨⟨d, hd, G1, i1, g⟩, _⟩ := q
  have g1 : ∀ i, ¬ i ∈ [0, 2, 3, 4] → G1 i = G i := fun i hi => (g i (fun r => hi (by simp only [List.mem_cons, List.not_mem_nil, or_false] at r ⊢; omega))).trans (zset_ne (fun e => hi (by subst e; decide)))
  have g3 : G1 3 = d := (g 3 (by decide)).trans zset_eq
  exact ⟨G1 0, G1 2, c, G1, i1, a.line (fun i hi => g1 i (fun r => by revert hi r; simp only [List.mem_cons, List.not_mem_nil, or_false]; omega)) (by rw [g3]; exact hd) i1.beat, b.keep (Int.le_refl _) (fun i hi => g1 i (fun r => by revert hi r; simp only [List.mem_cons, List.not_mem_nil, or_false]; omega)), rfl, (g1 1 (by decide)).trans e1, rfl⟩
theorem m_reset (h : zRM K n k s μ) : zok (fX12_reset μ ) (zRM K n k s) := by
  obtain ⟨c, G, i, a, b, e0, e1, e2⟩ := h
  unfold fX12_reset
  refine zok_bs (I := zIM G) (i.wi 0 0 (by decide) (zr_c (lo := 0) (hi := 0) (by decide)) (by decide +kernel)) (fun σ1 e1' i1 => ?_)
  refine zok_bu (s_anewx i1) (fun σ2 i2 => zok_some ?_)
  have g1 : ∀ i, ¬ i = 3 → ¬ i = 4 → (zset (zset G 3 0) 4 0) i = G i := fun i h3 h4 => by rw [zset_ne h4, zset_ne h3]
  have g3 : (zset (zset G 3 0) 4 0) 3 = 0 := by rw [zset_ne (by decide), zset_eq]
  exact ⟨c, _, i2, a.line (fun i hi => g1 i (fun r => by subst r; revert hi; decide) (fun r => by subst r; revert hi; decide)) (Or.inr g3) i2.beat, b.keep (Int.le_refl _) (fun i hi => g1 i (fun r => by subst r; revert hi; decide) (fun r => by subst r; revert hi; decide)), (g1 0 (by decide) (by decide)).trans e0, (g1 1 (by decide) (by decide)).trans e1, (g1 2 (by decide) (by decide)).trans e2⟩
theorem m_step (h : zRM K n k s μ) (hb : K + 2100000 ≤ 268435456) {x1 : Int32} : zok (fX12_step μ x1) (fun r => zRM (K + 2100000) n k s r.1) := by
  obtain ⟨c, G, i, a, b, e0, e1, e2⟩ := h
  refine zok_mono (s_X12_step i a (by omega)) (fun r q => ?_)
  obtain ⟨⟨G1, i1, a1, g⟩, _⟩ := q
  exact ⟨hb, G1, i1, a1.mono (by omega), b.keep (by omega) (fun i hi => g i (by revert hi; simp only [List.mem_cons, List.not_mem_nil, or_false]; omega)), (g 0 (by decide)).trans e0, (g 1 (by decide)).trans e1, (g 2 (by decide)).trans e2⟩
theorem m_picture (h : zRM K n k s μ) (hb : K + 2100000 ≤ 268435456) {x1 : Int32} : zok (fX12_picture μ x1) (fun r => zRM (K + 2100000) n k s r.1) := by
  obtain ⟨c, G, i, a, b, e0, e1, e2⟩ := h
  refine zok_mono (s_X12_picture i a hb) (fun r q => ?_)
  obtain ⟨⟨G1, i1, a1, g⟩, _⟩ := q
  exact ⟨hb, G1, i1, a1, b.keep (by omega) (fun i hi => g i (by revert hi; simp only [List.mem_cons, List.not_mem_nil, or_false]; omega)), (g 0 (by decide)).trans e0, (g 1 (by decide)).trans e1, (g 2 (by decide)).trans e2⟩
theorem m_save (h : zRM K n k s μ) : zok (fX12_save μ ) (zRM K n k 1) := by
  obtain ⟨c, G, i, a, b, e0, e1, e2⟩ := h
  unfold fX12_save
  refine zok_bs (I := zIM G) (i.wi 0 0 (by decide) (zr_c (lo := 0) (hi := 0) (by decide)) (by decide +kernel)) (fun σ1 _ i1 => ?_)
  refine zok_ck rfl ?_
  refine zok_bs (I := zIM (zset G 2 1)) (zIM.wg (v := 1) 2 i1 (by decide) (by decide) zr_any (by decide +kernel)) (fun σ2 _ i2 => ?_)
  refine zok_mono (q_save_12 zfuel (G0 := zset G 2 1) (x1 := 0) i2 (zr_c (by decide)) ⟨fun _ _ _ _ => rfl, fun l => absurd l (by decide), fun l => absurd l (by decide), fun l => absurd l (by decide)⟩ (by decide)) (fun r q => ?_)
  obtain ⟨G1, j1, g0, g6, g7, g8, g102, g105, g106⟩ := q
  have v : ∀ i, ¬ i = 2 → zset G 2 1 i = G i := fun i hi => zset_ne hi
  rw [v 3 (by decide)] at g6
  rw [v 4 (by decide)] at g7
  rw [v 5 (by decide)] at g8
  rw [v 100 (by decide)] at g102
  rw [v 104 (by decide)] at g105
  rw [v 101 (by decide)] at g106
  have w : ∀ i, ¬ i ∈ [2, 6, 7, 8, 102, 105, 106] → G1 i = G i := fun i hi => by
    simp only [List.mem_cons, List.not_mem_nil, or_false, not_or] at hi
    obtain ⟨h2, h6, h7, h8, h102, h105, h106⟩ := hi
    exact (g0 i h6 h7 h8 h102 h105 h106).trans (v i h2)
  have a2 : zK K G1 := a.keep (fun i hi => w i (fun r => by revert hi r; simp only [List.mem_cons, List.not_mem_nil, or_false]; omega))
  refine ⟨c, G1, j1, a2, ?_, (w 0 (by decide)).trans e0, (w 1 (by decide)).trans e1, (g0 2 (by decide) (by decide) (by decide) (by decide) (by decide) (by decide)).trans zset_eq⟩
  obtain ⟨⟨d1, d2, d3, d4, d5, d6, d7, d8⟩, f1, f2, f3, f4, f5⟩ := a
  unfold zKS
  rw [g6, g7, g8, g102, g105, g106, zln_c (w 1 (by decide))]
  exact ⟨by omega, by omega, by omega, d5, d6, by omega, d8⟩
theorem m_restore (h : zRM K n k s μ) : zok (fX12_restore μ ) (zRM K n k s) := by
  obtain ⟨c, G, i, a, b, e0, e1, e2⟩ := h
  have fin : ∀ μ1, zIM G μ1 → zRM K n k s μ1 := fun μ1 i1 => ⟨c, G, i1, a, b, e0, e1, e2⟩
  unfold fX12_restore
  refine zok_if (fun q1 => ?_) (fun q1 => ?_)
  · unfold fX12_restore_13
    refine zok_fails1 (I := zIM G) (i.wi 0 0 (by decide) zr_any (by decide +kernel)) (fun σ1 _ i1 => ?_)
    exact zok_if (fun q => absurd q (by decide)) (fun _ => zok_some (fin _ i1))
  · unfold fX12_restore_13
    refine zok_fails0 (I := zIM G) (i.wi 0 0 (by decide) zr_any (by decide +kernel)) (fun σ1 _ i1 => ?_)
    refine zok_if (fun _ => ?_) (fun q => absurd rfl q)
    refine zok_mono (q_restore_23 zfuel (G0 := G) (x1 := 0) i1 (zr_c (by decide)) ⟨fun _ _ _ _ => rfl, fun l => absurd l (by decide), fun l => absurd l (by decide), fun l => absurd l (by decide)⟩ (by decide)) (fun r q => ?_)
    obtain ⟨G1, j1, g0, g3, g4, g5, g100, g104, g101⟩ := q
    have w : ∀ i, ¬ i ∈ [3, 4, 5, 100, 104, 101] → G1 i = G i := fun i hi => by
      simp only [List.mem_cons, List.not_mem_nil, or_false, not_or] at hi
      obtain ⟨h3, h4, h5, h100, h104, h101⟩ := hi
      exact g0 i h3 h4 h5 h100 h104 h101
    have b2 : zKS K G1 := b.keep (Int.le_refl _) (fun i hi => w i (fun r => by revert hi r; simp only [List.mem_cons, List.not_mem_nil, or_false]; omega))
    refine ⟨c, G1, j1, ?_, b2, (w 0 (by decide)).trans e0, (w 1 (by decide)).trans e1, (w 2 (by decide)).trans e2⟩
    obtain ⟨⟨d1, d2, d3, d4, d5, d6, d7, d8⟩, f1, f2, f3, f4, f5⟩ := a
    obtain ⟨p1, p2, p3, p4, p5, p6, p7⟩ := b
    unfold zK zGJ
    rw [g3, g4, g5, g100, g104, g101, w 103 (by decide), zln_c (w 1 (by decide))]
    exact ⟨⟨by omega, d2, by omega, by omega, p4, p5, by omega, p7⟩, by omega, f2, by omega, by omega, by omega⟩
theorem m_patch (h : zRM K n k s μ) {x1 : Int32} {x2 : Int64} : zok (fX12_patch μ x1 x2) (zRM K n k s) := by
  obtain ⟨c, G, i, a, b, e⟩ := h
  exact zok_mono (s_X12_patch i) (fun r q => ⟨c, G, q, a, b, e⟩)
theorem m_card (h : zRM K n k s μ) {x1 : Int32} : zok (fX12_card μ x1) (fun r => zRM K n k s r.1) := by
  obtain ⟨c, G, i, a, b, e⟩ := h
  exact zok_mono (s_X12_card i) (fun r q => ⟨c, G, q.1, a, b, e⟩)
theorem m_pause (h : zRM K n k s μ) : zok (fX12_pause μ ) (fun r => zRM K n k s r.1) := by
  obtain ⟨c, G, i, a, b, e⟩ := h
  exact zok_mono (s_X12_pause i) (fun r q => ⟨c, G, q.1, a, b, e⟩)
theorem m_press (h : zRM K n k s μ) {x1 : Int32} {x2 : Int32} : zok (fX12_press μ x1 x2) (zRM K n k s) := by
  obtain ⟨c, G, i, a, b, e⟩ := h
  exact zok_mono (s_X12_press i) (fun r q => ⟨c, G, q, a, b, e⟩)
theorem m_start (h : zRM K n k s μ) {x1 : Int32} (h_x1 : zr (0) (1) x1) : zok (fX12_start μ x1) (zRM K n k s) := by
  obtain ⟨c, G, i, a, b, e⟩ := h
  exact zok_mono (s_X12_start i h_x1) (fun r q => ⟨c, G, q, a, b, e⟩)
theorem m_line (h : zRM K n k s μ) {x1 : Int32} {x2 : Int32} (h_x2 : zr (0) (1) x2) : zok (fX12_line μ x1 x2) (zRM K n k s) := by
  obtain ⟨c, G, i, a, b, e⟩ := h
  exact zok_mono (s_X12_line i h_x2) (fun r q => ⟨c, G, q, a, b, e⟩)
theorem m_plan (h : zRM K n k s μ) {x1 : Int32} {x2 : Int32} {x3 : Int32} : zok (fX12_plan μ x1 x2 x3) (fun r => zRM K n k s r.1) := by
  obtain ⟨c, G, i, a, b, e⟩ := h
  exact zok_mono (s_X12_plan i) (fun r q => ⟨c, G, q.1, a, b, e⟩)
theorem m_text (h : zRM K n k s μ) {x1 : Int32} : zok (fX12_text μ x1) (fun r => zRM K n k s r.1) := by
  obtain ⟨c, G, i, a, b, e⟩ := h
  exact zok_mono (s_X12_text i) (fun r q => ⟨c, G, q.1, a, b, e⟩)
theorem m_stop (h : zRM K n k s μ) {x1 : Int32} {x2 : Int32} (h_x2 : zr (0) (1) x2) : zok (fX12_stop μ x1 x2) (fun r => zRM K n k s r.1) := by
  obtain ⟨c, G, i, a, b, e⟩ := h
  exact zok_mono (s_X12_stop i h_x2) (fun r q => ⟨c, G, q.1, a, b, e⟩)
theorem m_register (h : zRM K n k s μ) {x1 : Int32} : zok (fX12_register μ x1) (fun r => zRM K n k s r.1) := by
  obtain ⟨c, G, i, a, b, e⟩ := h
  exact zok_mono (s_X12_register i) (fun r q => ⟨c, G, q.1, a, b, e⟩)
theorem m_set (h : zRM K n k s μ) {x1 : Int32} {x2 : Int32} : zok (fX12_set μ x1 x2) (zRM K n k s) := by
  obtain ⟨c, G, i, a, b, e⟩ := h
  exact zok_mono (s_X12_set i) (fun r q => ⟨c, G, q, a, b, e⟩)
theorem m_peek (h : zRM K n k s μ) {x1 : Int32} : zok (fX12_peek μ x1) (fun r => zRM K n k s r.1) := by
  obtain ⟨c, G, i, a, b, e⟩ := h
  exact zok_mono (s_X12_peek i) (fun r q => ⟨c, G, q.1, a, b, e⟩)
theorem m_poke (h : zRM K n k s μ) {x1 : Int32} {x2 : Int32} : zok (fX12_poke μ x1 x2) (zRM K n k s) := by
  obtain ⟨c, G, i, a, b, e⟩ := h
  exact zok_mono (s_X12_poke i) (fun r q => ⟨c, G, q, a, b, e⟩)
theorem m_in (h : zRM K n k s μ) {x1 : Int32} : zok (fX12_in μ x1) (fun r => zRM K n k s r.1) := by
  obtain ⟨c, G, i, a, b, e⟩ := h
  exact zok_mono (s_X12_in i) (fun r q => ⟨c, G, q.1, a, b, e⟩)
theorem m_out (h : zRM K n k s μ) {x1 : Int32} {x2 : Int32} : zok (fX12_out μ x1 x2) (zRM K n k s) := by
  obtain ⟨c, G, i, a, b, e⟩ := h
  exact zok_mono (s_X12_out i) (fun r q => ⟨c, G, q, a, b, e⟩)
theorem m_battery (h : zRM K n k s μ) {x1 : Int32} : zok (fX12_battery μ x1) (fun r => zRM K n k s r.1) := by
  obtain ⟨c, G, i, a, b, e⟩ := h
  exact zok_mono (s_X12_battery i) (fun r q => ⟨c, G, q.1, a, b, e⟩)
theorem m_wipe (h : zRM K n k s μ) : zok (fX12_wipe μ ) (zRM K n k s) := by
  obtain ⟨c, G, i, a, b, e⟩ := h
  exact zok_mono (s_X12_wipe i) (fun r q => ⟨c, G, q, a, b, e⟩)
theorem m_video (h : zRM K n k s μ) {x1 : Int32} : zok (fX12_video μ x1) (fun r => zRM K n k s r.1) := by
  obtain ⟨c, G, i, a, b, e⟩ := h
  exact zok_mono (s_X12_video i) (fun r q => ⟨c, G, q.1, a, b, e⟩)
theorem m_chip (h : zRM K n k s μ) {x1 : Int32} : zok (fX12_chip μ x1) (fun r => zRM K n k s r.1) := by
  obtain ⟨c, G, i, a, b, e⟩ := h
  exact zok_mono (s_X12_chip i) (fun r q => ⟨c, G, q.1, a, b, e⟩)
theorem m_dot (h : zRM K n k s μ) {x1 : Int32} {x2 : Int32} : zok (fX12_dot μ x1 x2) (fun r => zRM K n k s r.1) := by
  obtain ⟨c, G, i, a, b, e⟩ := h
  exact zok_mono (s_X12_dot i) (fun r q => ⟨c, G, q.1, a, b, e⟩)
theorem m_row (h : zRM K n k s μ) {x1 : Int32} : zok (fX12_row μ x1) (fun r => zRM K n k s r.1) := by
  obtain ⟨c, G, i, a, b, e⟩ := h
  exact zok_mono (s_X12_row i) (fun r q => ⟨c, G, q.1, a, b, e⟩)
theorem m_hear (h : zRM K n k s μ) : zok (fX12_hear μ ) (fun r => zRM K n k s r.1) := by
  obtain ⟨c, G, i, a, b, e⟩ := h
  exact zok_mono (s_X12_hear i) (fun r q => ⟨c, G, q.1, a, b, e⟩)
theorem m_mix (h : zRM K n k s μ) : zok (fX12_mix μ ) (fun r => zRM K n k s r.1) := by
  obtain ⟨c, G, i, a, b, e⟩ := h
  exact zok_mono (s_X12_mix i) (fun r q => ⟨c, G, q.1, a, b, e⟩)
theorem m_wave (h : zRM K n k s μ) {x1 : Int32} : zok (fX12_wave μ x1) (fun r => zRM K n k s r.1) := by
  obtain ⟨c, G, i, a, b, e⟩ := h
  exact zok_mono (s_X12_wave i) (fun r q => ⟨c, G, q.1, a, b, e⟩)
theorem m_sound (h : zRM K n k s μ) {x1 : Int32} : zok (fX12_sound μ x1) (fun r => zRM K n k s r.1) := by
  obtain ⟨c, G, i, a, b, e⟩ := h
  exact zok_mono (s_X12_sound i) (fun r q => ⟨c, G, q.1, a, b, e⟩)
theorem m_trace (h : zRM K n k s μ) {x1 : Int32} : zok (fX12_trace μ x1) (fun r => zRM K n k s r.1) := by
  obtain ⟨c, G, i, a, b, e⟩ := h
  exact zok_mono (s_X12_trace i) (fun r q => ⟨c, G, q.1, a, b, e⟩)
theorem m_look (h : zRM K n k s μ) {x1 : Int32} : zok (fX12_look μ x1) (fun r => zRM K n k s r.1) := by
  obtain ⟨c, G, i, a, b, e⟩ := h
  exact zok_mono (s_X12_look i) (fun r q => ⟨c, G, q.1, a, b, e⟩)
theorem l_feed (h : zRC n k s σ) {x1 : Int32} {x2 : Int64} {x4 : Int64} {x6 : Int64} : zok (fL_feed o σ x1 x2 x4 x6) (fun r => ∃ n1, zRC n1 k s r.1.2) := by
  obtain ⟨H, i, e0, e1, e2⟩ := h
  unfold fL_feed
  exact zok_mono (zTh_i2 (s_X11_feed i.E)) (fun r q => by obtain ⟨H1, i1, g⟩ := q; exact ⟨H1 0, H1, i1, rfl, (g 2 (by decide)).trans e1, (g 1 (by decide)).trans e2⟩)
theorem l_grow (h : zRC n k s σ) {x1 : Int32} : zok (fL_grow o σ x1) (fun r => ∃ n1, zRC n1 k s r.1.2) := by
  obtain ⟨H, i, e0, e1, e2⟩ := h
  unfold fL_grow
  exact zok_mono (zTh_i2 (s_X11_grow i.E)) (fun r q => by obtain ⟨H1, i1, g⟩ := q; exact ⟨H1 0, H1, i1, rfl, (g 2 (by decide)).trans e1, (g 1 (by decide)).trans e2⟩)
theorem l_patch (h : zRC n k s σ) {x1 : Int32} {x2 : Int64} : zok (fL_patch σ x1 x2) (fun r => zRC n k s r.1) := by
  obtain ⟨H, i, e0, e1, e2⟩ := h
  unfold fL_patch
  exact zok_mono (zTh_u1 (s_X11_patch i)) (fun r q => ⟨H, q, e0, e1, e2⟩)
theorem c_load (h : zRC n k s σ) : zok (fX11_load σ ) (fun r => ∃ n1 s1, zRC n1 k s1 r.1) := by
  obtain ⟨H, i, e0, e1, e2⟩ := h
  exact zok_mono (s_X11_load i.E) (fun r q => by obtain ⟨H1, i1, g⟩ := q.1; exact ⟨H1 0, H1 1, H1, i1, rfl, (g 2 (by decide)).trans e1, rfl⟩)
theorem l_card (h : zRC n k s σ) {x1 : Int32} : zok (fL_card o σ x1) (fun r => zRC n k s r.1.2) := by
  obtain ⟨H, i, e0, e1, e2⟩ := h
  unfold fL_card
  exact zok_mono (zTh_i1 (s_X11_card i)) (fun r q => ⟨H, q, e0, e1, e2⟩)
theorem l_step (h : zRC n k s σ) {x1 : Int32} : zok (fL_step o σ x1) (fun r => zRC n k s r.1.2) := by
  obtain ⟨H, i, e0, e1, e2⟩ := h
  unfold fL_step
  exact zok_mono (zTh_i1 (s_X11_step i)) (fun r q => ⟨H, q, e0, e1, e2⟩)
theorem l_picture (h : zRC n k s σ) {x1 : Int32} : zok (fL_picture o σ x1) (fun r => zRC n k s r.1.2) := by
  obtain ⟨H, i, e0, e1, e2⟩ := h
  unfold fL_picture
  exact zok_mono (zTh_i1 (s_X11_picture i)) (fun r q => ⟨H, q, e0, e1, e2⟩)
theorem c_reset (h : zRC n k s σ) : zok (fX11_reset σ ) (fun r => zRC n k s r) := by
  obtain ⟨H, i, e0, e1, e2⟩ := h
  exact zok_mono (s_X11_reset i) (fun r q => ⟨H, q, e0, e1, e2⟩)
theorem c_pause (h : zRC n k s σ) : zok (fX11_pause σ ) (fun r => zRC n k s r.1) := by
  obtain ⟨H, i, e0, e1, e2⟩ := h
  exact zok_mono (s_X11_pause i) (fun r q => ⟨H, q.1, e0, e1, e2⟩)
theorem l_press (h : zRC n k s σ) {x1 : Int32} {x2 : Int32} : zok (fL_press σ x1 x2) (fun r => zRC n k s r.1) := by
  obtain ⟨H, i, e0, e1, e2⟩ := h
  unfold fL_press
  exact zok_mono (zTh_u1 (s_X11_press i)) (fun r q => ⟨H, q, e0, e1, e2⟩)
theorem c_start (h : zRC n k s σ) {x1 : Int32} (h_x1 : zr (0) (1) x1) : zok (fX11_start σ x1) (fun r => zRC n k s r) := by
  obtain ⟨H, i, e0, e1, e2⟩ := h
  exact zok_mono (s_X11_start i h_x1) (fun r q => ⟨H, q, e0, e1, e2⟩)
theorem l_line (h : zRC n k s σ) {x1 : Int32} {x2 : Int32} (h_x2 : zr (0) (1) x2) : zok (fL_line σ x1 x2) (fun r => zRC n k s r.1) := by
  obtain ⟨H, i, e0, e1, e2⟩ := h
  unfold fL_line
  exact zok_mono (zTh_u1 (s_X11_line i h_x2)) (fun r q => ⟨H, q, e0, e1, e2⟩)
theorem l_plan (h : zRC n k s σ) {x1 : Int32} {x2 : Int32} {x3 : Int32} : zok (fL_plan o σ x1 x2 x3) (fun r => zRC n k s r.1.2) := by
  obtain ⟨H, i, e0, e1, e2⟩ := h
  unfold fL_plan
  exact zok_mono (zTh_i2 (s_X11_plan i)) (fun r q => ⟨H, q, e0, e1, e2⟩)
theorem c_tell (h : zRC n k s σ) {x1 : Int32} : zok (fX11_tell σ x1) (fun r => zRC n k s r.1) := by
  obtain ⟨H, i, e0, e1, e2⟩ := h
  exact zok_mono (s_X11_tell i) (fun r q => ⟨H, q.1, e0, e1, e2⟩)
theorem l_text (h : zRC n k s σ) {x1 : Int32} : zok (fL_text o σ x1) (fun r => zRC n k s r.1.2) := by
  obtain ⟨H, i, e0, e1, e2⟩ := h
  unfold fL_text
  exact zok_mono (zTh_l1 (s_X11_text i)) (fun r q => ⟨H, q, e0, e1, e2⟩)
theorem l_stop (h : zRC n k s σ) {x1 : Int32} {x2 : Int32} (h_x2 : zr (0) (1) x2) : zok (fL_stop o σ x1 x2) (fun r => zRC n k s r.1.2) := by
  obtain ⟨H, i, e0, e1, e2⟩ := h
  unfold fL_stop
  exact zok_mono (zTh_i2 (s_X11_stop i h_x2)) (fun r q => ⟨H, q, e0, e1, e2⟩)
theorem c_save (h : zRC n k s σ) : zok (fX11_save σ ) (fun r => ∃ s1, zRC n k s1 r) := by
  obtain ⟨H, i, e0, e1, e2⟩ := h
  exact zok_mono (s_X11_save i.E) (fun r q => by obtain ⟨H1, i1, g⟩ := q; exact ⟨H1 1, H1, i1, (g 0 (by decide)).trans e0, (g 2 (by decide)).trans e1, rfl⟩)
theorem l_restore (h : zRC n k s σ) : zok (fL_restore σ ) (fun r => zRC n k s r.1) := by
  obtain ⟨H, i, e0, e1, e2⟩ := h
  unfold fL_restore
  exact zok_mono (zTh_u1 (s_X11_restore i)) (fun r q => ⟨H, q, e0, e1, e2⟩)
theorem l_register (h : zRC n k s σ) {x1 : Int32} : zok (fL_register o σ x1) (fun r => zRC n k s r.1.2) := by
  obtain ⟨H, i, e0, e1, e2⟩ := h
  unfold fL_register
  exact zok_mono (zTh_i1 (s_X11_register i)) (fun r q => ⟨H, q, e0, e1, e2⟩)
theorem l_set (h : zRC n k s σ) {x1 : Int32} {x2 : Int32} : zok (fL_set σ x1 x2) (fun r => zRC n k s r.1) := by
  obtain ⟨H, i, e0, e1, e2⟩ := h
  unfold fL_set
  exact zok_mono (zTh_u1 (s_X11_set i)) (fun r q => ⟨H, q, e0, e1, e2⟩)
theorem c_peek (h : zRC n k s σ) {x1 : Int32} : zok (fX11_peek σ x1) (fun r => zRC n k s r.1) := by
  have h0 := h
  obtain ⟨H, i, e⟩ := h
  exact zok_mono (s_X11_peek i.P) (fun r q => by rw [q.1]; exact h0)
theorem c_poke (h : zRC n k s σ) {x1 : Int32} {x2 : Int32} : zok (fX11_poke σ x1 x2) (fun r => zRC n k s r) := by
  obtain ⟨H, i, e0, e1, e2⟩ := h
  exact zok_mono (s_X11_poke i) (fun r q => ⟨H, q, e0, e1, e2⟩)
theorem c_in (h : zRC n k s σ) {x1 : Int32} : zok (fX11_in σ x1) (fun r => zRC n k s r.1) := by
  obtain ⟨H, i, e0, e1, e2⟩ := h
  exact zok_mono (s_X11_in i) (fun r q => ⟨H, q.1, e0, e1, e2⟩)
theorem c_out (h : zRC n k s σ) {x1 : Int32} {x2 : Int32} : zok (fX11_out σ x1 x2) (fun r => zRC n k s r) := by
  obtain ⟨H, i, e0, e1, e2⟩ := h
  exact zok_mono (s_X11_out i) (fun r q => ⟨H, q, e0, e1, e2⟩)
theorem l_battery (h : zRC n k s σ) {x1 : Int32} : zok (fL_battery o σ x1) (fun r => zRC n k s r.1.2) := by
  obtain ⟨H, i, e0, e1, e2⟩ := h
  unfold fL_battery
  exact zok_mono (zTh_i1 (s_X11_battery i)) (fun r q => ⟨H, q, e0, e1, e2⟩)
theorem c_wipe (h : zRC n k s σ) : zok (fX11_wipe σ ) (fun r => zRC n k s r) := by
  obtain ⟨H, i, e0, e1, e2⟩ := h
  exact zok_mono (s_X11_wipe i) (fun r q => ⟨H, q, e0, e1, e2⟩)
theorem c_video (h : zRC n k s σ) {x1 : Int32} : zok (fX11_video σ x1) (fun r => zRC n k s r.1) := by
  have h0 := h
  obtain ⟨H, i, e⟩ := h
  exact zok_mono (s_X11_video i.P) (fun r q => by rw [q.1]; exact h0)
theorem l_chip (h : zRC n k s σ) {x1 : Int32} : zok (fL_chip o σ x1) (fun r => zRC n k s r.1.2) := by
  obtain ⟨H, i, e0, e1, e2⟩ := h
  unfold fL_chip
  exact zok_mono (zTh_i1 (s_X11_chip i)) (fun r q => ⟨H, q, e0, e1, e2⟩)
theorem l_dot (h : zRC n k s σ) {x1 : Int32} {x2 : Int32} : zok (fL_dot o σ x1 x2) (fun r => zRC n k s r.1.2) := by
  obtain ⟨H, i, e0, e1, e2⟩ := h
  unfold fL_dot
  exact zok_mono (zTh_i1 (s_X11_dot i)) (fun r q => ⟨H, q, e0, e1, e2⟩)
theorem l_row (h : zRC n k s σ) {x1 : Int32} : zok (fL_row o σ x1) (fun r => zRC n k s r.1.2) := by
  obtain ⟨H, i, e0, e1, e2⟩ := h
  unfold fL_row
  exact zok_mono (zTh_i1 (s_X11_row i)) (fun r q => ⟨H, q, e0, e1, e2⟩)
theorem l_hear (h : zRC n k s σ) : zok (fL_hear o σ ) (fun r => zRC n k s r.1.2) := by
  obtain ⟨H, i, e0, e1, e2⟩ := h
  unfold fL_hear
  exact zok_mono (zTh_l1 (s_X11_hear i)) (fun r q => ⟨H, q, e0, e1, e2⟩)
theorem l_mix (h : zRC n k s σ) : zok (fL_mix o σ ) (fun r => zRC n k s r.1.2) := by
  obtain ⟨H, i, e0, e1, e2⟩ := h
  unfold fL_mix
  exact zok_mono (zTh_l1 (s_X11_mix i)) (fun r q => ⟨H, q, e0, e1, e2⟩)
theorem l_wave (h : zRC n k s σ) {x1 : Int32} : zok (fL_wave o σ x1) (fun r => zRC n k s r.1.2) := by
  obtain ⟨H, i, e0, e1, e2⟩ := h
  unfold fL_wave
  exact zok_mono (zTh_i1 (s_X11_wave i)) (fun r q => ⟨H, q, e0, e1, e2⟩)
theorem l_sound (h : zRC n k s σ) {x1 : Int32} : zok (fL_sound o σ x1) (fun r => zRC n k s r.1.2) := by
  obtain ⟨H, i, e0, e1, e2⟩ := h
  unfold fL_sound
  exact zok_mono (zTh_i1 (s_X11_sound i)) (fun r q => ⟨H, q, e0, e1, e2⟩)
theorem c_trace (h : zRC n k s σ) {x1 : Int32} : zok (fX11_trace σ x1) (fun r => zRC n k s r.1) := by
  have h0 := h
  obtain ⟨H, i, e⟩ := h
  exact zok_mono (s_X11_trace i.P) (fun r q => by rw [q.1]; exact h0)
theorem l_look (h : zRC n k s σ) {x1 : Int32} : zok (fL_look o σ x1) (fun r => zRC n k s r.1.2) := by
  obtain ⟨H, i, e0, e1, e2⟩ := h
  unfold fL_look
  exact zok_mono (zTh_l1 (s_X11_look i)) (fun r q => ⟨H, q, e0, e1, e2⟩)
end ZCALLS
end ZJN1
section ZJN2
/-! partial answers: what holds of an answer, if there is one -/
def zpc {α : Type} (o : Option α) (Q : α → Prop) : Prop := ∀ r, o = some r → Q r
theorem zpc_none {α : Type} {Q : α → Prop} : zpc (none : Option α) Q := fun r e => by cases e
theorem zpc_some {α : Type} {Q : α → Prop} {a : α} (h : Q a) : zpc (some a) Q := fun r e => by cases e; exact h
theorem zpc_ck {α : Type} {Q : α → Prop} {b : Bool} {x : Option α} (h : zpc x Q) : zpc (zck b x) Q := by
  cases b
  · exact zpc_none
  · exact h
theorem zpc_if {α : Type} {c : Prop} {d : Decidable c} {x y : Option α} {Q : α → Prop} (h1 : c → zpc x Q) (h2 : ¬ c → zpc y Q) : zpc (@ite _ c d x y) Q := by
  by_cases q : c
  · rw [if_pos q]; exact h1 q
  · rw [if_neg q]; exact h2 q
theorem zpc_bv {α β : Type} {x : α} {f : α → Option β} {Q : β → Prop} (h : ∀ y, y = x → zpc (f y) Q) : zpc (zbv x f) Q := h x rfl
theorem zpc_bi {α : Type} {o : Option (zSt × Int32)} {f : zSt → Int32 → Option α} {P : zSt × Int32 → Prop} {Q : α → Prop} (h : zpc o P) (k : ∀ σ v, P (σ, v) → zpc (f σ v) Q) : zpc (zbi o f) Q := by
  cases o with
  | none => exact zpc_none
  | some a => exact k a.1 a.2 (h a rfl)
theorem zpc_bu {α : Type} {o : Option zSt} {f : zSt → Option α} {P : zSt → Prop} {Q : α → Prop} (h : zpc o P) (k : ∀ σ, P σ → zpc (f σ) Q) : zpc (zbu o f) Q := by
  cases o with
  | none => exact zpc_none
  | some a => exact k a (h a rfl)
theorem zpc_of {α : Type} {o : Option α} {P : α → Prop} (h : zok o P) : zpc o P := fun r e => by
  obtain ⟨a, e1, p⟩ := h
  rw [e1] at e
  cases e
  exact p
theorem zok_zpc {α : Type} {o : Option α} {P Q : α → Prop} (h : zok o P) (k : zpc o Q) : zok o (fun r => P r ∧ Q r) := by
  obtain ⟨a, e, p⟩ := h
  exact ⟨a, e, p, k a e⟩
theorem zpc_and {α : Type} {o : Option α} {P Q : α → Prop} (h : zpc o P) (k : zpc o Q) : zpc o (fun r => P r ∧ Q r) := fun r e => ⟨h r e, k r e⟩
theorem zpc_mono {α : Type} {o : Option α} {P Q : α → Prop} (h : zpc o P) (k : ∀ a, P a → Q a) : zpc o Q := fun r e => k r (h r e)
theorem zpc_within {α : Type} {σ : zSt} {a l h : Int64} {f : zSt → Int32 → Option α} {P : α → Prop} (k1 : l.toInt ≤ a.toInt → a.toInt ≤ h.toInt → zpc (f σ 1) P) (k0 : (a.toInt < l.toInt ∨ h.toInt < a.toInt) → zpc (f σ 0) P) : zpc (zbi (fX12_within σ a l h) f) P := by
  unfold fX12_within
  by_cases q1 : lg_cmp a l < 0
  · rw [if_pos q1]; exact k0 (Or.inl (z_cmp_lt.mp q1))
  · rw [if_neg q1]
    by_cases q2 : 0 < lg_cmp a h
    · rw [if_pos q2]; exact k0 (Or.inr (z_cmp_gt.mp q2))
    · rw [if_neg q2]
      exact k1 (Int.not_lt.mp (fun r => q1 (z_cmp_lt.mpr r))) (Int.not_lt.mp (fun r => q2 (z_cmp_gt.mpr r)))
theorem zpc_fails0 {α : Type} {σ : zSt} {c : Int32} {f : zSt → Int32 → Option α} {P : α → Prop} (k : ∀ σ1, σ1 = zsi σ 0 0 0 → zpc (f σ1 0) P) : zpc (zbi (fX12_fails σ 0 c) f) P := by
  unfold fX12_fails
  rw [if_pos rfl]
  exact k _ rfl
theorem zpc_fails1 {α : Type} {σ : zSt} {c : Int32} {f : zSt → Int32 → Option α} {P : α → Prop} (k : ∀ σ1, σ1 = zsi σ 0 0 c → zpc (f σ1 1) P) : zpc (zbi (fX12_fails σ 1 c) f) P := by
  unfold fX12_fails
  rw [if_neg (by decide)]
  exact k _ rfl
/-! the reference's thrown kind -/
def zTh (v : Int32) (σ : zSt) : Prop := zgi σ 0 0 = v
theorem zTh_own {σ : zSt} {v : Int32} : zTh v (zsi σ 0 0 v) := by
  show (zsi σ 0 0 v).1 0 0 = v
  exact zsi_ej
theorem zTh.w {v x : Int32} {σ : zSt} {k j : Nat} (h : zTh v σ) (c : ¬ (0 = k ∧ 0 = j)) : zTh v (zsi σ k j x) := by
  show (zsi σ k j x).1 0 0 = v
  rw [zsi_off c]
  exact h
theorem z_within {x : Int32} {l h : Int64} {a b : Int} (w : x.toInt64.toInt < l.toInt ∨ h.toInt < x.toInt64.toInt) (hl : l.toInt = a) (hh : h.toInt = b) : ¬ zr a b x := by
  rw [Int32.toInt_toInt64, hl, hh] at w
  intro q
  obtain ⟨q1, q2⟩ := q
  omega
theorem z_cmp {A : Prop} {v w : Int32} (h : (A ∧ v = 0) ∨ (¬ A ∧ v = 1)) (k : (A ∧ w = 0) ∨ (¬ A ∧ w = 1)) : w = v := by
  rcases h with ⟨a, b⟩ | ⟨a, b⟩ <;> rcases k with ⟨c, d⟩ | ⟨c, d⟩
  · exact d.trans b.symm
  · exact absurd a c
  · exact absurd c a
  · exact d.trans b.symm
theorem zTh_hu {n : Nat} {A : Prop} {I : zSt → Prop} {q : Option zRu} (h : zok q (fun r => (A ∧ ∃ s, r = Sum.inl s ∧ I s) ∨ (¬ A ∧ ∃ s, r = Sum.inr (s, n) ∧ I s))) : zok (zbr q (zhu (zh1 n))) (fun r => I r.1 ∧ ((A ∧ r.2 = 0) ∨ (¬ A ∧ r.2 = 1))) := by
  refine zok_zbr h (fun r hr => ?_)
  rcases hr with ⟨a, s, e, i⟩ | ⟨a, s, e, i⟩
  · subst e
    show zok (some (s, (0 : Int32))) _
    exact zok_some ⟨i, Or.inl ⟨a, rfl⟩⟩
  · subst e
    show zok (zh1 n s n) _
    unfold zh1
    rw [if_pos rfl]
    exact zok_some ⟨i, Or.inr ⟨a, rfl⟩⟩
/-! line -/
theorem q_lineC {H : Nat → Int} {σ : zSt} (hσ : zIC H σ) {a b : Int32} (hb : zr 0 1 b) : zok (fL_line σ a b) (fun r => zIC H r.1 ∧ ((zr 0 1 a ∧ r.2 = 0) ∨ (¬ zr 0 1 a ∧ r.2 = 1))) := by
  unfold fL_line
  refine zTh_hu ?_
  unfold fX11_line fX11_line_9
  have c0 : (0 : Int32).toInt = 0 := rfl
  have c1 : (1 : Int32).toInt = 1 := rfl
  refine zok_if (fun q => zok_some (Or.inr ⟨fun h => ?_, σ, rfl, hσ⟩)) (fun q => zok_if (fun q1 => ?_) (fun q1 => zok_some (Or.inr ⟨fun h => ?_, σ, rfl, hσ⟩)))
  · have r := Int32.lt_iff_toInt_lt.mp q; have := h.1; omega
  · have r := Int32.le_iff_toInt_le.mp (z_nlt q)
    have r1 := Int32.le_iff_toInt_le.mp q1
    have ha : zr 0 1 a := ⟨by omega, by omega⟩
    exact zok_bu (s_X4_moveLine hσ ha hb) (fun σ3 i3 => zok_some (Or.inl ⟨ha, σ3, rfl, i3⟩))
  · have r := Int32.lt_iff_toInt_lt.mp (z_nle q1); have := h.2; omega
theorem p_lineAt {σ : zSt} {x : Int32} : zpc (fX12_lineAt σ x) (fun r => r.1 = σ) := by
  unfold fX12_lineAt fX12_lineAt_45
  exact zpc_ck (zpc_if (fun _ => zpc_ck (zpc_some rfl)) (fun _ => zpc_ck (zpc_some rfl)))
theorem p_hCount {σ : zSt} : zpc (fX12_hCount σ ) (fun r => r.1 = σ) := by
  unfold fX12_hCount fX12_hCount_27
  exact zpc_ck (zpc_ck (zpc_bv (fun _ _ => zpc_if (fun _ => zpc_some rfl) (fun _ => zpc_some rfl))))
theorem p_line {μ : zSt} {a b : Int32} : zpc (fX12_line μ a b) (fun r => (zr 0 1 a ∧ zTh 0 r) ∨ (¬ zr 0 1 a ∧ zTh 1 r)) := by
  unfold fX12_line
  refine zpc_within (fun w1 w2 => ?_) (fun w3 => ?_)
  · have h := z_wir w1 w2 (zrl_c (lo := 0) (hi := 0) (by decide)) (zrl_c (lo := 1) (hi := 1) (by decide))
    refine zpc_if (fun q => absurd q (by decide)) (fun _ => ?_)
    unfold fX12_line_16
    refine zpc_fails0 (fun σ1 e1 => ?_)
    have t1 : zTh 0 σ1 := by subst e1; exact zTh_own
    refine zpc_if (fun _ => ?_) (fun q => absurd rfl q)
    have fin : ∀ σ2, zTh 0 σ2 → zpc (fX12_line_72 σ2 ) (fun r => (zr 0 1 a ∧ zTh 0 r) ∨ (¬ zr 0 1 a ∧ zTh 1 r)) := fun σ2 t => zpc_some (Or.inl ⟨h, t⟩)
    have f47 : ∀ x3 s0 s1, zpc (fX12_line_47 σ1 a x3 s0 s1) (fun r => (zr 0 1 a ∧ zTh 0 r) ∨ (¬ zr 0 1 a ∧ zTh 1 r)) := fun x3 s0 s1 => by
      unfold fX12_line_47
      refine zpc_ck (zpc_bv (fun σ2 e2 => ?_))
      have t2 : zTh 0 σ2 := by subst e2; exact t1.w (fun r => absurd r.1 (by decide))
      refine zpc_if (fun _ => zpc_bi p_lineAt (fun σ3 v3 h3 => ?_)) (fun _ => fin _ t2)
      have h3 : σ3 = σ2 := h3
      subst h3
      refine zpc_if (fun _ => zpc_bi p_hCount (fun σ4 v5 h4 => ?_)) (fun _ => fin _ t2)
      have h4 : σ4 = σ3 := h4
      subst h4
      exact zpc_ck (zpc_bv (fun σ6 e6 => fin _ (by subst e6; exact t2.w (fun r => absurd r.1 (by decide)))))
    refine zpc_bi p_lineAt (fun σ9 v10 h9 => ?_)
    have h9 : σ9 = σ1 := h9
    subst h9
    exact zpc_if (fun _ => f47 _ _ _) (fun _ => f47 _ _ _)
  · refine zpc_if (fun _ => ?_) (fun q => absurd rfl q)
    unfold fX12_line_16
    refine zpc_fails1 (fun σ1 e1 => ?_)
    exact zpc_if (fun q => absurd q (by decide)) (fun _ => zpc_some (Or.inr ⟨z_within w3 rfl rfl, by subst e1; exact zTh_own⟩))
theorem q_lineM {G : Nat → Int} {μ : zSt} (hμ : zIM G μ) {a b : Int32} (hb : zr 0 1 b) : zok (fX12_line μ a b) (fun r => zIM G r ∧ ((zr 0 1 a ∧ zgi r 0 0 = 0) ∨ (¬ zr 0 1 a ∧ zgi r 0 0 = 1))) := zok_zpc (s_X12_line hμ hb) p_line
/-! set -/
theorem q_setC {H : Nat → Int} {σ : zSt} (hσ : zIC H σ) {a b : Int32} : zok (fL_set σ a b) (fun r => zIC H r.1 ∧ ((zr 0 25 a ∧ r.2 = 0) ∨ (¬ zr 0 25 a ∧ r.2 = 1))) := by
  unfold fL_set
  refine zTh_hu ?_
  unfold fX11_set fX11_set_10
  have c0 : (0 : Int32).toInt = 0 := rfl
  have c1 : (25 : Int32).toInt = 25 := rfl
  refine zok_if (fun q => zok_some (Or.inr ⟨fun h => ?_, σ, rfl, hσ⟩)) (fun q => zok_if (fun q1 => ?_) (fun q1 => zok_some (Or.inr ⟨fun h => ?_, σ, rfl, hσ⟩)))
  · have r := Int32.lt_iff_toInt_lt.mp q; have := h.1; omega
  · have r := Int32.le_iff_toInt_le.mp (z_nlt q)
    have r1 := Int32.le_iff_toInt_le.mp q1
    have ha : zr 0 25 a := ⟨by omega, by omega⟩
    exact zok_bu (s_X5_change hσ ha) (fun σ3 i3 => zok_some (Or.inl ⟨ha, σ3, rfl, i3⟩))
  · have r := Int32.lt_iff_toInt_lt.mp (z_nle q1); have := h.2; omega
theorem p_set {μ : zSt} {a b : Int32} : zpc (fX12_set μ a b) (fun r => (zr 0 25 a ∧ zTh 0 r) ∨ (¬ zr 0 25 a ∧ zTh 1 r)) := by
  unfold fX12_set
  refine zpc_within (fun w1 w2 => ?_) (fun w3 => ?_)
  · have h := z_wir w1 w2 (zrl_c (lo := 0) (hi := 0) (by decide)) (zrl_c (lo := 25) (hi := 25) (by decide))
    refine zpc_if (fun q => absurd q (by decide)) (fun _ => ?_)
    unfold fX12_set_18
    refine zpc_fails0 (fun σ1 e1 => ?_)
    have t1 : zTh 0 σ1 := by subst e1; exact zTh_own
    refine zpc_if (fun _ => ?_) (fun q => absurd rfl q)
    have f1 : ∀ s0 s1, zpc (fX12_set_51 σ1 s0 s1) (fun r => (zr 0 25 a ∧ zTh 0 r) ∨ (¬ zr 0 25 a ∧ zTh 1 r)) := fun s0 s1 => zpc_ck (zpc_bv (fun σ2 e2 => zpc_some (Or.inl ⟨h, by subst e2; exact t1.w (fun r => absurd r.1 (by decide))⟩)))
    have f2 : ∀ s0 s1, zpc (fX12_set_104 σ1 s0 s1) (fun r => (zr 0 25 a ∧ zTh 0 r) ∨ (¬ zr 0 25 a ∧ zTh 1 r)) := fun s0 s1 => zpc_ck (zpc_bv (fun σ2 e2 => zpc_some (Or.inl ⟨h, by subst e2; exact t1.w (fun r => absurd r.1 (by decide))⟩)))
    exact zpc_if (fun _ => zpc_if (fun _ => f1 _ _) (fun _ => f1 _ _)) (fun _ => zpc_if (fun _ => zpc_if (fun _ => zpc_if (fun _ => f2 _ _) (fun _ => f2 _ _)) (fun _ => f2 _ _)) (fun _ => f2 _ _))
  · refine zpc_if (fun _ => ?_) (fun q => absurd rfl q)
    unfold fX12_set_18
    refine zpc_fails1 (fun σ1 e1 => ?_)
    exact zpc_if (fun q => absurd q (by decide)) (fun _ => zpc_some (Or.inr ⟨z_within w3 rfl rfl, by subst e1; exact zTh_own⟩))
theorem q_setM {G : Nat → Int} {μ : zSt} (hμ : zIM G μ) {a b : Int32} : zok (fX12_set μ a b) (fun r => zIM G r ∧ ((zr 0 25 a ∧ zgi r 0 0 = 0) ∨ (¬ zr 0 25 a ∧ zgi r 0 0 = 1))) := zok_zpc (s_X12_set hμ) p_set
end ZJN2
section ZJN3
/-! exact: the tape's length, the kind, what is saved, on both sides -/
theorem zTh.bs {v x : Int32} {σ σ1 : zSt} {k j : Nat} (h : zTh v σ) (e : σ1 = zsi σ k j x) (c : Nat.beq 0 k = false) : zTh v σ1 := by
  subst e
  exact h.w (fun r => by rw [← r.1] at c; exact absurd c (by decide))
theorem zTh.bl {v : Int32} {σ σ1 : zSt} {k j : Nat} {x : Int64} (h : zTh v σ) (e : σ1 = zsl σ k j x) : zTh v σ1 := by
  subst e
  exact h
theorem z_tp1 (x : Int32) : ¬ 1 = ztp x := by
  unfold ztp
  split <;> decide
theorem z_lgc {x y : Int64} (h : x.toInt = y.toInt) : lg_cmp x y = 0 := by
  have e : x = y := Int64.toInt_inj.mp h
  subst e
  unfold lg_cmp
  rw [if_neg (fun r => by have := Int64.lt_iff_toInt_lt.mp r; omega), if_pos rfl]
def zLz (r : zSt × Int32) : Prop := r.2 = 0 ∧ zgi r.1 0 19 = 0
theorem t_load_126 {k89 : zSt → Int32 → Int32 → Option (zSt × Int32)} (hk : ∀ (σ : zSt) (y0 y1 : Int32), zpc (k89 σ y0 y1) zLz) {σ : zSt} {x1 : Int32} {x3 : Int32} {s0 : Int32} {s1 : Int32} : zpc (fX12_load_126 k89 σ x1 x3 s0 s1) zLz := by
  unfold fX12_load_126
  exact zpc_ck (zpc_bv (fun σ1 e_σ1 => zpc_bv (fun v2 e_v2 => hk _ _ _)))
theorem t_load_161 {k142 : zSt → Int32 → Option (zSt × Int32)} (hk : ∀ (σ : zSt) (y0 : Int32), zpc (k142 σ y0) zLz) {σ : zSt} {x3 : Int32} : zpc (fX12_load_161 k142 σ x3) zLz := by
  unfold fX12_load_161
  exact zpc_bv (fun v3 e_v3 => hk _ _)
theorem t_load_414_body {k414 : zSt → Int32 → Option (zSt × Int32)} (hk : ∀ (σ : zSt) (y0 : Int32), zpc (k414 σ y0) zLz) {σ : zSt} {x6 : Int32} : zpc (fX12_load_414_body k414 σ x6) zLz := by
  unfold fX12_load_414_body
  exact zpc_if (fun _ => zpc_ck (zpc_bv (fun σ4 e_σ4 => zpc_some ⟨rfl, by subst e_σ4; exact zsi_ej⟩))) (fun _ => zpc_ck (zpc_bv (fun σ5 e_σ5 => zpc_bv (fun v6 e_v6 => hk _ _))))
theorem t_load_414 : ∀ (n : Nat) (σ : zSt) (y0 : Int32), zpc (fX12_load_414 n σ y0) zLz := by
  intro n
  induction n with
  | zero => intro σ y0; exact zpc_none
  | succ n ih => intro σ y0; exact t_load_414_body ih
theorem t_load_404 {σ : zSt} {s0 : Int32} : zpc (fX12_load_404 σ s0) zLz := by
  unfold fX12_load_404
  exact zpc_bv (fun σ7 e_σ7 => zpc_bu (P := fun _ => True) (fun _ _ => trivial) (fun σ8 _ => t_load_414 _ _ _))
theorem t_load_385 {σ : zSt} : zpc (fX12_load_385 σ) zLz := by
  unfold fX12_load_385
  exact zpc_if (fun _ => t_load_404) (fun _ => t_load_404)
theorem t_load_359 {k337 : zSt → Int32 → Int32 → Option (zSt × Int32)} (hk : ∀ (σ : zSt) (y0 y1 : Int32), zpc (k337 σ y0 y1) zLz) {σ : zSt} {x5 : Int32} {x6 : Int32} : zpc (fX12_load_359 k337 σ x5 x6) zLz := by
  unfold fX12_load_359
  exact zpc_ck (zpc_bv (fun σ9 e_σ9 => zpc_bv (fun v10 e_v10 => hk _ _ _)))
theorem t_load_337_body {k337 : zSt → Int32 → Int32 → Option (zSt × Int32)} (hk : ∀ (σ : zSt) (y0 y1 : Int32), zpc (k337 σ y0 y1) zLz) {σ : zSt} {x5 : Int32} {x6 : Int32} : zpc (fX12_load_337_body k337 σ x5 x6) zLz := by
  unfold fX12_load_337_body
  exact zpc_if (fun _ => t_load_385) (fun _ => zpc_if (fun _ => t_load_359 hk) (fun _ => zpc_if (fun _ => t_load_385) (fun _ => t_load_359 hk)))
theorem t_load_337 : ∀ (n : Nat) (σ : zSt) (y0 y1 : Int32), zpc (fX12_load_337 n σ y0 y1) zLz := by
  intro n
  induction n with
  | zero => intro σ y0 y1; exact zpc_none
  | succ n ih => intro σ y0 y1; exact t_load_337_body ih
theorem t_load_298_body {k298 : zSt → Int32 → Int32 → Option (zSt × Int32)} (hk : ∀ (σ : zSt) (y0 y1 : Int32), zpc (k298 σ y0 y1) zLz) {σ : zSt} {x5 : Int32} {x6 : Int32} : zpc (fX12_load_298_body k298 σ x5 x6) zLz := by
  unfold fX12_load_298_body
  exact zpc_if (fun _ => t_load_337 _ _ _ _) (fun _ => zpc_ck (zpc_bv (fun σ11 e_σ11 => zpc_bv (fun v12 e_v12 => hk _ _ _))))
theorem t_load_298 : ∀ (n : Nat) (σ : zSt) (y0 y1 : Int32), zpc (fX12_load_298 n σ y0 y1) zLz := by
  intro n
  induction n with
  | zero => intro σ y0 y1; exact zpc_none
  | succ n ih => intro σ y0 y1; exact t_load_298_body ih
theorem t_load_293 {σ : zSt} {s0 : Int32} : zpc (fX12_load_293 σ s0) zLz := by
  unfold fX12_load_293
  exact t_load_298 _ _ _ _
theorem t_load_259 {σ : zSt} {s0 : Int32} : zpc (fX12_load_259 σ s0) zLz := by
  unfold fX12_load_259
  exact zpc_bv (fun σ13 e_σ13 => zpc_bv (fun σ14 e_σ14 => zpc_if (fun _ => zpc_ck (t_load_293)) (fun _ => t_load_293)))
theorem t_load_247 {σ : zSt} : zpc (fX12_load_247 σ) zLz := by
  unfold fX12_load_247
  exact zpc_if (fun _ => t_load_259) (fun _ => t_load_259)
theorem t_load_214 {σ : zSt} {x3 : Int32} {s0 : Int32} : zpc (fX12_load_214 σ x3 s0) zLz := by
  unfold fX12_load_214
  exact zpc_if (fun _ => zpc_if (fun _ => t_load_247) (fun _ => zpc_if (fun _ => t_load_259) (fun _ => t_load_247))) (fun _ => t_load_259)
theorem t_load_192 {σ : zSt} {s0 : Int32} : zpc (fX12_load_192 σ s0) zLz := by
  unfold fX12_load_192
  exact zpc_if (fun _ => t_load_214) (fun _ => zpc_bi (P := fun _ => True) (fun _ _ => trivial) (fun σ15 v16 _ => t_load_214))
theorem t_load_142_body {k142 : zSt → Int32 → Option (zSt × Int32)} (hk : ∀ (σ : zSt) (y0 : Int32), zpc (k142 σ y0) zLz) {σ : zSt} {x3 : Int32} : zpc (fX12_load_142_body k142 σ x3) zLz := by
  unfold fX12_load_142_body
  exact zpc_if (fun _ => zpc_if (fun _ => t_load_192) (fun _ => zpc_bi (P := fun _ => True) (fun _ _ => trivial) (fun σ17 v18 _ => t_load_192))) (fun _ => zpc_bi (P := fun _ => True) (fun _ _ => trivial) (fun σ19 v20 _ => zpc_if (fun _ => t_load_161 hk) (fun _ => zpc_bv (fun σ21 e_σ21 => t_load_161 hk))))
theorem t_load_142 : ∀ (n : Nat) (σ : zSt) (y0 : Int32), zpc (fX12_load_142 n σ y0) zLz := by
  intro n
  induction n with
  | zero => intro σ y0; exact zpc_none
  | succ n ih => intro σ y0; exact t_load_142_body ih
theorem t_load_89_body {k89 : zSt → Int32 → Int32 → Option (zSt × Int32)} (hk : ∀ (σ : zSt) (y0 y1 : Int32), zpc (k89 σ y0 y1) zLz) {σ : zSt} {x1 : Int32} {x3 : Int32} : zpc (fX12_load_89_body k89 σ x1 x3) zLz := by
  unfold fX12_load_89_body
  exact zpc_if (fun _ => zpc_bv (fun σ22 e_σ22 => t_load_142 _ _ _)) (fun _ => zpc_if (fun _ => t_load_126 hk) (fun _ => zpc_ck (t_load_126 hk)))
theorem t_load_89 : ∀ (n : Nat) (σ : zSt) (y0 y1 : Int32), zpc (fX12_load_89 n σ y0 y1) zLz := by
  intro n
  induction n with
  | zero => intro σ y0 y1; exact zpc_none
  | succ n ih => intro σ y0 y1; exact t_load_89_body ih
theorem t_restore_207_body {v : Int32} {k207 : zSt → Int32 → Option zSt} (hk : ∀ (σ : zSt) (y : Int32), zTh v σ → zpc (k207 σ y) (zTh v)) {σ : zSt} {x1 : Int32} (h : zTh v σ) : zpc (fX12_restore_207_body k207 σ x1) (zTh v) := by
  unfold fX12_restore_207_body
  exact zpc_if (fun _ => zpc_some h) (fun _ => zpc_ck (zpc_ck (zpc_bv (fun σ1 e_σ1 => zpc_ck (zpc_ck (zpc_bv (fun σ2 e_σ2 => zpc_bv (fun v3 e_v3 => hk _ _ (zTh.bl (zTh.bl h e_σ1) e_σ2)))))))))
theorem t_restore_207 {v : Int32} : ∀ (n : Nat) (σ : zSt) (y : Int32), zTh v σ → zpc (fX12_restore_207 n σ y) (zTh v) := by
  intro n
  induction n with
  | zero => intro σ y h; exact zpc_none
  | succ n ih => intro σ y h; exact t_restore_207_body ih h
theorem t_restore_181_body {v : Int32} {k181 : zSt → Int32 → Option zSt} (hk : ∀ (σ : zSt) (y : Int32), zTh v σ → zpc (k181 σ y) (zTh v)) {σ : zSt} {x1 : Int32} (h : zTh v σ) : zpc (fX12_restore_181_body k181 σ x1) (zTh v) := by
  unfold fX12_restore_181_body
  exact zpc_if (fun _ => t_restore_207 _ _ _ h) (fun _ => zpc_ck (zpc_ck (zpc_bv (fun σ4 e_σ4 => zpc_bv (fun v5 e_v5 => hk _ _ (zTh.bs h e_σ4 (by decide)))))))
theorem t_restore_181 {v : Int32} : ∀ (n : Nat) (σ : zSt) (y : Int32), zTh v σ → zpc (fX12_restore_181 n σ y) (zTh v) := by
  intro n
  induction n with
  | zero => intro σ y h; exact zpc_none
  | succ n ih => intro σ y h; exact t_restore_181_body ih h
theorem t_restore_155_body {v : Int32} {k155 : zSt → Int32 → Option zSt} (hk : ∀ (σ : zSt) (y : Int32), zTh v σ → zpc (k155 σ y) (zTh v)) {σ : zSt} {x1 : Int32} (h : zTh v σ) : zpc (fX12_restore_155_body k155 σ x1) (zTh v) := by
  unfold fX12_restore_155_body
  exact zpc_if (fun _ => t_restore_181 _ _ _ h) (fun _ => zpc_ck (zpc_ck (zpc_bv (fun σ6 e_σ6 => zpc_bv (fun v7 e_v7 => hk _ _ (zTh.bs h e_σ6 (by decide)))))))
theorem t_restore_155 {v : Int32} : ∀ (n : Nat) (σ : zSt) (y : Int32), zTh v σ → zpc (fX12_restore_155 n σ y) (zTh v) := by
  intro n
  induction n with
  | zero => intro σ y h; exact zpc_none
  | succ n ih => intro σ y h; exact t_restore_155_body ih h
theorem t_restore_128_body {v : Int32} {k128 : zSt → Int32 → Option zSt} (hk : ∀ (σ : zSt) (y : Int32), zTh v σ → zpc (k128 σ y) (zTh v)) {σ : zSt} {x1 : Int32} (h : zTh v σ) : zpc (fX12_restore_128_body k128 σ x1) (zTh v) := by
  unfold fX12_restore_128_body
  exact zpc_if (fun _ => t_restore_155 _ _ _ h) (fun _ => zpc_ck (zpc_ck (zpc_bv (fun σ8 e_σ8 => zpc_bv (fun v9 e_v9 => hk _ _ (zTh.bs h e_σ8 (by decide)))))))
theorem t_restore_128 {v : Int32} : ∀ (n : Nat) (σ : zSt) (y : Int32), zTh v σ → zpc (fX12_restore_128 n σ y) (zTh v) := by
  intro n
  induction n with
  | zero => intro σ y h; exact zpc_none
  | succ n ih => intro σ y h; exact t_restore_128_body ih h
theorem t_restore_102_body {v : Int32} {k102 : zSt → Int32 → Option zSt} (hk : ∀ (σ : zSt) (y : Int32), zTh v σ → zpc (k102 σ y) (zTh v)) {σ : zSt} {x1 : Int32} (h : zTh v σ) : zpc (fX12_restore_102_body k102 σ x1) (zTh v) := by
  unfold fX12_restore_102_body
  exact zpc_if (fun _ => t_restore_128 _ _ _ h) (fun _ => zpc_ck (zpc_ck (zpc_bv (fun σ10 e_σ10 => zpc_bv (fun v11 e_v11 => hk _ _ (zTh.bs h e_σ10 (by decide)))))))
theorem t_restore_102 {v : Int32} : ∀ (n : Nat) (σ : zSt) (y : Int32), zTh v σ → zpc (fX12_restore_102 n σ y) (zTh v) := by
  intro n
  induction n with
  | zero => intro σ y h; exact zpc_none
  | succ n ih => intro σ y h; exact t_restore_102_body ih h
theorem t_restore_75_body {v : Int32} {k75 : zSt → Int32 → Option zSt} (hk : ∀ (σ : zSt) (y : Int32), zTh v σ → zpc (k75 σ y) (zTh v)) {σ : zSt} {x1 : Int32} (h : zTh v σ) : zpc (fX12_restore_75_body k75 σ x1) (zTh v) := by
  unfold fX12_restore_75_body
  exact zpc_if (fun _ => t_restore_102 _ _ _ h) (fun _ => zpc_ck (zpc_ck (zpc_bv (fun σ12 e_σ12 => zpc_bv (fun v13 e_v13 => hk _ _ (zTh.bs h e_σ12 (by decide)))))))
theorem t_restore_75 {v : Int32} : ∀ (n : Nat) (σ : zSt) (y : Int32), zTh v σ → zpc (fX12_restore_75 n σ y) (zTh v) := by
  intro n
  induction n with
  | zero => intro σ y h; exact zpc_none
  | succ n ih => intro σ y h; exact t_restore_75_body ih h
theorem t_restore_50_body {v : Int32} {k50 : zSt → Int32 → Option zSt} (hk : ∀ (σ : zSt) (y : Int32), zTh v σ → zpc (k50 σ y) (zTh v)) {σ : zSt} {x1 : Int32} (h : zTh v σ) : zpc (fX12_restore_50_body k50 σ x1) (zTh v) := by
  unfold fX12_restore_50_body
  exact zpc_if (fun _ => t_restore_75 _ _ _ h) (fun _ => zpc_ck (zpc_ck (zpc_bv (fun σ14 e_σ14 => zpc_bv (fun v15 e_v15 => hk _ _ (zTh.bl h e_σ14))))))
theorem t_restore_50 {v : Int32} : ∀ (n : Nat) (σ : zSt) (y : Int32), zTh v σ → zpc (fX12_restore_50 n σ y) (zTh v) := by
  intro n
  induction n with
  | zero => intro σ y h; exact zpc_none
  | succ n ih => intro σ y h; exact t_restore_50_body ih h
theorem t_restore_23_body {v : Int32} {k23 : zSt → Int32 → Option zSt} (hk : ∀ (σ : zSt) (y : Int32), zTh v σ → zpc (k23 σ y) (zTh v)) {σ : zSt} {x1 : Int32} (h : zTh v σ) : zpc (fX12_restore_23_body k23 σ x1) (zTh v) := by
  unfold fX12_restore_23_body
  exact zpc_if (fun _ => t_restore_50 _ _ _ h) (fun _ => zpc_ck (zpc_ck (zpc_bv (fun σ16 e_σ16 => zpc_bv (fun v17 e_v17 => hk _ _ (zTh.bs h e_σ16 (by decide)))))))
theorem t_restore_23 {v : Int32} : ∀ (n : Nat) (σ : zSt) (y : Int32), zTh v σ → zpc (fX12_restore_23 n σ y) (zTh v) := by
  intro n
  induction n with
  | zero => intro σ y h; exact zpc_none
  | succ n ih => intro σ y h; exact t_restore_23_body ih h
/-- three ends: refused by 1, refused by 2, done -/
def zBr (A B : Prop) (n m y : Int) (t : Int32) (V R : Int → Prop) : Prop := (¬ A ∧ t = 1 ∧ R n) ∨ (A ∧ ¬ B ∧ t = 2 ∧ R n) ∨ (A ∧ B ∧ t = 0 ∧ V y ∧ R m)
theorem zBr.both {A B : Prop} {n m y : Int} {t t' : Int32} {V V' R R' : Int → Prop} (h : zBr A B n m y t V R) (h' : zBr A B n m y t' V' R') : t' = t ∧ (∃ n1, R n1 ∧ R' n1) ∧ (t = 0 → ∃ z, V z ∧ V' z) := by
  rcases h with ⟨a, b, c⟩ | ⟨a, d, b, c⟩ | ⟨a, d, b, v, c⟩ <;> rcases h' with ⟨a', b', c'⟩ | ⟨a', d', b', c'⟩ | ⟨a', d', b', v', c'⟩
  · exact ⟨b'.trans b.symm, ⟨n, c, c'⟩, fun z => absurd (b.symm.trans z) (by decide)⟩
  · exact absurd a' a
  · exact absurd a' a
  · exact absurd a a'
  · exact ⟨b'.trans b.symm, ⟨n, c, c'⟩, fun z => absurd (b.symm.trans z) (by decide)⟩
  · exact absurd d' d
  · exact absurd a a'
  · exact absurd d d'
  · exact ⟨b'.trans b.symm, ⟨m, c, c'⟩, fun _ => ⟨y, v, v'⟩⟩
/-! feed, the reference -/
theorem p_feed_54 {x1 : Int32} {x2 x4 x6 : Int64} (hx : zr 1 24 x1) : ∀ (n : Nat) (σ : zSt) (x8 : Int32), zr 0 24 x8 → x8.toInt ≤ x1.toInt → 0 ≤ (zgi σ 0 2).toInt → (zgi σ 0 2).toInt + (x1.toInt - x8.toInt) ≤ 262656 → zpc (fX12_feed_54 n σ x1 x2 x4 x6 x8) (fun r => zgi r.1 0 0 = zgi σ 0 0 ∧ (zgi r.1 0 2).toInt = (zgi σ 0 2).toInt + (x1.toInt - x8.toInt) ∧ r.2 = zgi r.1 0 2) := by
  intro n
  induction n with
  | zero => intro σ x8 _ _ _ _; exact zpc_none
  | succ n ih =>
    intro σ x8 h8 hle h0 hb
    show zpc (fX12_feed_54_body (fX12_feed_54 n) σ x1 x2 x4 x6 x8) _
    unfold fX12_feed_54_body
    have b8 := h8.1
    have bx := hx.2
    refine zpc_if (fun q => ?_) (fun q => ?_)
    · have q1 := Int32.le_iff_toInt_le.mp q
      have e : (zgi σ 0 2).toInt = (zgi σ 0 2).toInt + (x1.toInt - x8.toInt) := by omega
      exact zpc_some ⟨rfl, e, rfl⟩
    · have q1 := Int32.lt_iff_toInt_lt.mp (z_nle q)
      have f : ∀ s0, zpc (fX12_feed_93 (fX12_feed_54 n) σ x1 x2 x4 x6 x8 s0 (zgi σ 0 2)) (fun r => zgi r.1 0 0 = zgi σ 0 0 ∧ (zgi r.1 0 2).toInt = (zgi σ 0 2).toInt + (x1.toInt - x8.toInt) ∧ r.2 = zgi r.1 0 2) := fun s0 => by
        unfold fX12_feed_93
        refine zpc_ck (zpc_ck (zpc_bv (fun σ1 e1 => zpc_bv (fun σ2 e2 => zpc_bv (fun v3 e3 => ?_)))))
        have a2 : zgi σ1 0 2 = zgi σ 0 2 := by
          subst e1
          show (zsi σ 1 _ _).1 0 2 = σ.1 0 2
          rw [zsi_off (by omega)]
        have a0 : zgi σ2 0 0 = zgi σ 0 0 := by
          subst e2
          subst e1
          show (zsi (zsi σ 1 _ _) 0 2 _).1 0 0 = σ.1 0 0
          rw [zsi_off (by omega), zsi_off (by omega)]
        have c1 : (1 : Int32).toInt = 1 := rfl
        have r1 : zr 1 1 (1 : Int32) := zr_c (by decide)
        have t3 : (zgi σ 0 2 + 1).toInt = (zgi σ 0 2).toInt + (1 : Int32).toInt := z_tadd (a := 0) (b := 262655) ⟨h0, by omega⟩ r1 (by decide)
        have a3 : (zgi σ2 0 2).toInt = (zgi σ 0 2).toInt + 1 := by
          subst e2
          show ((zsi σ1 0 2 (zgi σ1 0 2 + 1)).1 0 2).toInt = _
          rw [zsi_ej, a2, t3, c1]
        have t8 : (x8 + 1).toInt = x8.toInt + (1 : Int32).toInt := z_tadd h8 r1 (by decide)
        have t : v3.toInt = x8.toInt + 1 := by rw [e3, t8, c1]
        refine zpc_mono (ih σ2 v3 ⟨by omega, by omega⟩ (by omega) (by omega) (by omega)) (fun r p => ?_)
        obtain ⟨p1, p2, p3⟩ := p
        exact ⟨p1.trans a0, by omega, p3⟩
      exact zpc_if (fun _ => zpc_if (fun _ => f _) (fun _ => f _)) (fun _ => f _)
theorem p_feed {μ : zSt} {x1 : Int32} {x2 x4 x6 : Int64} (hr : zr 0 262656 (zgi μ 0 2)) : zpc (fX12_feed μ x1 x2 x4 x6) (fun r => (¬ zr 1 24 x1 ∧ zTh 1 r.1 ∧ zgi r.1 0 2 = zgi μ 0 2) ∨ (zr 1 24 x1 ∧ ¬ (zgi μ 0 2).toInt + x1.toInt ≤ 262656 ∧ zTh 2 r.1 ∧ zgi r.1 0 2 = zgi μ 0 2) ∨ (zr 1 24 x1 ∧ (zgi μ 0 2).toInt + x1.toInt ≤ 262656 ∧ zTh 0 r.1 ∧ (zgi r.1 0 2).toInt = (zgi μ 0 2).toInt + x1.toInt ∧ r.2 = zgi r.1 0 2)) := by
  unfold fX12_feed
  have c2 : (262656 : Int32).toInt = 262656 := rfl
  have c0 : (0 : Int32).toInt = 0 := rfl
  have at02 : ∀ (σ σ1 : zSt) (v : Int32), σ1 = zsi σ 0 0 v → zgi σ1 0 2 = zgi σ 0 2 := fun σ σ1 v e => by
    subst e
    show (zsi σ 0 0 _).1 0 2 = σ.1 0 2
    rw [zsi_off (by omega)]
  refine zpc_within (fun w1 w2 => ?_) (fun w3 => ?_)
  · have h := z_wir w1 w2 (zrl_c (lo := 1) (hi := 1) (by decide)) (zrl_c (lo := 24) (hi := 24) (by decide))
    refine zpc_if (fun q => absurd q (by decide)) (fun _ => ?_)
    unfold fX12_feed_18
    refine zpc_fails0 (fun σ1 e1 => ?_)
    refine zpc_if (fun _ => ?_) (fun q => absurd rfl q)
    have a := at02 _ _ _ e1
    have t : (zgi μ 0 2 + x1).toInt = (zgi μ 0 2).toInt + x1.toInt := z_tadd hr h (by decide)
    have hx1 := h.1
    have hr1 := hr.1
    refine zpc_if (fun q => ?_) (fun q => ?_)
    · rw [a] at q
      have q1 := Int32.le_iff_toInt_le.mp q
      rw [t, c2] at q1
      unfold fX12_feed_42
      refine zpc_fails0 (fun σ2 e2 => ?_)
      refine zpc_if (fun _ => ?_) (fun q => absurd rfl q)
      have a2 : zgi σ2 0 2 = zgi μ 0 2 := (at02 _ _ _ e2).trans a
      have b2 : zgi σ2 0 0 = 0 := by subst e2; exact zTh_own
      have k1 : (0 : Int32).toInt ≤ x1.toInt := by omega
      have k2 : 0 ≤ (zgi σ2 0 2).toInt := by rw [a2]; exact hr1
      have k3 : (zgi σ2 0 2).toInt + (x1.toInt - (0 : Int32).toInt) ≤ 262656 := by rw [a2, c0]; omega
      refine zpc_mono (p_feed_54 h zfuel σ2 0 (zr_c (by decide)) k1 k2 k3) (fun r p => ?_)
      obtain ⟨p1, p2, p3⟩ := p
      rw [a2, c0] at p2
      exact Or.inr (Or.inr ⟨h, q1, p1.trans b2, by omega, p3⟩)
    · rw [a] at q
      have q1 := Int32.lt_iff_toInt_lt.mp (z_nle q)
      rw [t, c2] at q1
      unfold fX12_feed_42 fX12_feed_49
      refine zpc_fails1 (fun σ2 e2 => ?_)
      have a2 : zgi σ2 0 2 = zgi μ 0 2 := (at02 _ _ _ e2).trans a
      exact zpc_if (fun q => absurd q (by decide)) (fun _ => zpc_some (Or.inr (Or.inl ⟨h, by omega, by subst e2; exact zTh_own, a2⟩)))
  · refine zpc_if (fun _ => ?_) (fun q => absurd rfl q)
    unfold fX12_feed_18 fX12_feed_49
    refine zpc_fails1 (fun σ1 e1 => ?_)
    have a := at02 _ _ _ e1
    exact zpc_if (fun q => absurd q (by decide)) (fun _ => zpc_some (Or.inl ⟨z_within w3 rfl rfl, by subst e1; exact zTh_own, a⟩))
/-! grow, the reference -/
theorem p_grow_54 {x1 x2 : Int32} (hx : zr 0 262656 x1) : ∀ (n : Nat) (σ : zSt), 0 ≤ (zgi σ 0 2).toInt → (zgi σ 0 2).toInt ≤ x1.toInt → zpc (fX12_grow_54 n σ x1 x2) (fun r => zgi r.1 0 0 = zgi σ 0 0 ∧ (zgi r.1 0 2).toInt = x1.toInt ∧ r.2 = x2) := by
  intro n
  induction n with
  | zero => intro σ _ _; exact zpc_none
  | succ n ih =>
    intro σ h0 hle
    show zpc (fX12_grow_54_body (fX12_grow_54 n) σ x1 x2) _
    unfold fX12_grow_54_body
    have bx := hx.2
    refine zpc_if (fun q => ?_) (fun q => ?_)
    · have q1 := Int32.le_iff_toInt_le.mp q
      have e : (zgi σ 0 2).toInt = x1.toInt := by omega
      exact zpc_some ⟨rfl, e, rfl⟩
    · have q1 := Int32.lt_iff_toInt_lt.mp (z_nle q)
      refine zpc_ck (zpc_ck (zpc_ck (zpc_bv (fun σ1 e1 => zpc_bv (fun σ2 e2 => ?_)))))
      have a2 : zgi σ1 0 2 = zgi σ 0 2 := by
        subst e1
        show (zsi σ 1 _ _).1 0 2 = σ.1 0 2
        rw [zsi_off (by omega)]
      have a0 : zgi σ2 0 0 = zgi σ 0 0 := by
        subst e2
        subst e1
        show (zsi (zsi σ 1 _ _) 0 2 _).1 0 0 = σ.1 0 0
        rw [zsi_off (by omega), zsi_off (by omega)]
      have c1 : (1 : Int32).toInt = 1 := rfl
      have r1 : zr 1 1 (1 : Int32) := zr_c (by decide)
      have t3 : (zgi σ 0 2 + 1).toInt = (zgi σ 0 2).toInt + (1 : Int32).toInt := z_tadd (a := 0) (b := 262655) ⟨h0, by omega⟩ r1 (by decide)
      have a3 : (zgi σ2 0 2).toInt = (zgi σ 0 2).toInt + 1 := by
        subst e2
        show ((zsi σ1 0 2 (zgi σ1 0 2 + 1)).1 0 2).toInt = _
        rw [zsi_ej, a2, t3, c1]
      refine zpc_mono (ih σ2 (by omega) (by omega)) (fun r p => ?_)
      obtain ⟨p1, p2, p3⟩ := p
      exact ⟨p1.trans a0, p2, p3⟩
theorem p_grow {μ : zSt} {x1 : Int32} (hr : zr 0 262656 (zgi μ 0 2)) : zpc (fX12_grow μ x1) (fun r => (¬ ((zgi μ 0 2).toInt ≤ x1.toInt ∧ x1.toInt ≤ 262656) ∧ zTh 1 r.1 ∧ zgi r.1 0 2 = zgi μ 0 2) ∨ (((zgi μ 0 2).toInt ≤ x1.toInt ∧ x1.toInt ≤ 262656) ∧ (zgi μ 0 2).toInt = 0 ∧ zTh 2 r.1 ∧ zgi r.1 0 2 = zgi μ 0 2) ∨ (((zgi μ 0 2).toInt ≤ x1.toInt ∧ x1.toInt ≤ 262656) ∧ ¬ (zgi μ 0 2).toInt = 0 ∧ zTh 0 r.1 ∧ (zgi r.1 0 2).toInt = x1.toInt ∧ r.2 = zgi μ 0 2)) := by
  unfold fX12_grow fX12_grow_15
  have c2 : (262656 : Int32).toInt = 262656 := rfl
  have c0 : (0 : Int32).toInt = 0 := rfl
  have at02 : ∀ (σ σ1 : zSt) (v : Int32), σ1 = zsi σ 0 0 v → zgi σ1 0 2 = zgi σ 0 2 := fun σ σ1 v e => by
    subst e
    show (zsi σ 0 0 _).1 0 2 = σ.1 0 2
    rw [zsi_off (by omega)]
  have no : ∀ (hno : ¬ ((zgi μ 0 2).toInt ≤ x1.toInt ∧ x1.toInt ≤ 262656)), zpc (fX12_grow_20 μ x1 1) (fun r => (¬ ((zgi μ 0 2).toInt ≤ x1.toInt ∧ x1.toInt ≤ 262656) ∧ zTh 1 r.1 ∧ zgi r.1 0 2 = zgi μ 0 2) ∨ (((zgi μ 0 2).toInt ≤ x1.toInt ∧ x1.toInt ≤ 262656) ∧ (zgi μ 0 2).toInt = 0 ∧ zTh 2 r.1 ∧ zgi r.1 0 2 = zgi μ 0 2) ∨ (((zgi μ 0 2).toInt ≤ x1.toInt ∧ x1.toInt ≤ 262656) ∧ ¬ (zgi μ 0 2).toInt = 0 ∧ zTh 0 r.1 ∧ (zgi r.1 0 2).toInt = x1.toInt ∧ r.2 = zgi μ 0 2)) := fun hno => by
    unfold fX12_grow_20 fX12_grow_47
    refine zpc_fails1 (fun σ1 e1 => ?_)
    have a := at02 _ _ _ e1
    exact zpc_if (fun q => absurd q (by decide)) (fun _ => zpc_some (Or.inl ⟨hno, by subst e1; exact zTh_own, a⟩))
  refine zpc_if (fun q => no (fun h => ?_)) (fun q => zpc_if (fun q1 => ?_) (fun q1 => no (fun h => ?_)))
  · have r := Int32.lt_iff_toInt_lt.mp q; omega
  · have r := Int32.le_iff_toInt_le.mp (z_nlt q)
    have r1 := Int32.le_iff_toInt_le.mp q1
    rw [c2] at r1
    have hr1 := hr.1
    unfold fX12_grow_20
    refine zpc_fails0 (fun σ1 e1 => ?_)
    refine zpc_if (fun _ => ?_) (fun q => absurd rfl q)
    have a := at02 _ _ _ e1
    refine zpc_if (fun q2 => ?_) (fun q2 => ?_)
    · rw [a] at q2
      unfold fX12_grow_40 fX12_grow_47
      refine zpc_fails1 (fun σ2 e2 => ?_)
      have a2 : zgi σ2 0 2 = zgi μ 0 2 := (at02 _ _ _ e2).trans a
      have e0 : (zgi μ 0 2).toInt = 0 := by rw [q2]; exact c0
      exact zpc_if (fun q => absurd q (by decide)) (fun _ => zpc_some (Or.inr (Or.inl ⟨⟨r, r1⟩, e0, by subst e2; exact zTh_own, a2⟩)))
    · rw [a] at q2
      unfold fX12_grow_40
      refine zpc_fails0 (fun σ2 e2 => ?_)
      refine zpc_if (fun _ => ?_) (fun q => absurd rfl q)
      have a2 : zgi σ2 0 2 = zgi μ 0 2 := (at02 _ _ _ e2).trans a
      have b2 : zgi σ2 0 0 = 0 := by subst e2; exact zTh_own
      refine zpc_bv (fun v5 e5 => ?_)
      have k2 : 0 ≤ (zgi σ2 0 2).toInt := by rw [a2]; exact hr1
      have k3 : (zgi σ2 0 2).toInt ≤ x1.toInt := by rw [a2]; exact r
      refine zpc_mono (p_grow_54 (x2 := v5) ⟨by omega, r1⟩ zfuel σ2 k2 k3) (fun r' p => ?_)
      obtain ⟨p1, p2, p3⟩ := p
      refine Or.inr (Or.inr ⟨⟨r, r1⟩, fun h => q2 (Int32.toInt_inj.mp (h.trans c0.symm)), p1.trans b2, p2, ?_⟩)
      rw [p3, e5, a2]
  · have r := Int32.lt_iff_toInt_lt.mp (z_nle q1); omega
/-! patch, the reference -/
theorem t_patch_32 {v x1 : Int32} {x2 : Int64} : ∀ (n : Nat) (σ : zSt) (x4 : Int32), zTh v σ → zpc (fX12_patch_32 n σ x1 x2 x4) (zTh v) := by
  intro n
  induction n with
  | zero => intro σ x4 h; exact zpc_none
  | succ n ih =>
    intro σ x4 h
    show zpc (fX12_patch_32_body (fX12_patch_32 n) σ x1 x2 x4) _
    unfold fX12_patch_32_body
    exact zpc_if (fun _ => zpc_some h) (fun _ => zpc_ck (zpc_bv (fun σ1 e1 => zpc_bv (fun v2 e2 => ih _ _ (zTh.bs h e1 (by decide))))))
theorem p_patch {μ : zSt} {x1 : Int32} {x2 : Int64} (hr : zr 0 262656 (zgi μ 0 2)) : zpc (fX12_patch μ x1 x2) (fun r => ((0 ≤ x1.toInt ∧ x1.toInt ≤ (zgi μ 0 2).toInt - 8) ∧ zgi r 0 0 = 0) ∨ (¬ (0 ≤ x1.toInt ∧ x1.toInt ≤ (zgi μ 0 2).toInt - 8) ∧ zgi r 0 0 = 1)) := by
  unfold fX12_patch fX12_patch_16
  have c0 : (0 : Int32).toInt = 0 := rfl
  have c8 : (8 : Int32).toInt = 8 := rfl
  have t : (zgi μ 0 2 - 8).toInt = (zgi μ 0 2).toInt - (8 : Int32).toInt := z_tsub hr (zr_c (lo := 8) (hi := 8) (by decide)) (by decide)
  have no : ∀ (hno : ¬ (0 ≤ x1.toInt ∧ x1.toInt ≤ (zgi μ 0 2).toInt - 8)), zpc (fX12_patch_21 μ x1 x2 1) (fun r => ((0 ≤ x1.toInt ∧ x1.toInt ≤ (zgi μ 0 2).toInt - 8) ∧ zgi r 0 0 = 0) ∨ (¬ (0 ≤ x1.toInt ∧ x1.toInt ≤ (zgi μ 0 2).toInt - 8) ∧ zgi r 0 0 = 1)) := fun hno => by
    unfold fX12_patch_21
    refine zpc_fails1 (fun σ1 e1 => ?_)
    exact zpc_if (fun q => absurd q (by decide)) (fun _ => zpc_some (Or.inr ⟨hno, by subst e1; exact zTh_own⟩))
  refine zpc_if (fun q => no (fun h => ?_)) (fun q => zpc_if (fun q1 => ?_) (fun q1 => no (fun h => ?_)))
  · have r := Int32.lt_iff_toInt_lt.mp q; omega
  · have r := Int32.le_iff_toInt_le.mp (z_nlt q)
    have r1 := Int32.le_iff_toInt_le.mp q1
    rw [t, c8] at r1
    unfold fX12_patch_21
    refine zpc_fails0 (fun σ1 e1 => ?_)
    refine zpc_if (fun _ => ?_) (fun q => absurd rfl q)
    exact zpc_mono (t_patch_32 (v := 0) _ _ _ (by subst e1; exact zTh_own)) (fun r' p => Or.inl ⟨⟨by omega, r1⟩, p⟩)
  · have r := Int32.lt_iff_toInt_lt.mp (z_nle q1); rw [t, c8] at r; omega
/-! feed, grow, the class -/
theorem p_addToTape {σ : zSt} {x : Int32} (hr : zr 0 262655 (zgi σ 1 2)) : zpc (fX2_addToTape σ x) (fun r => (zgi r 1 2).toInt = (zgi σ 1 2).toInt + 1) := by
  unfold fX2_addToTape fX2_addToTape_29
  have c1 : (1 : Int32).toInt = 1 := rfl
  have c2 : (262656 : Int32).toInt = 262656 := rfl
  have t3 : (zgi σ 1 2 + 1).toInt = (zgi σ 1 2).toInt + (1 : Int32).toInt := z_tadd hr (zr_c (lo := 1) (hi := 1) (by decide)) (by decide)
  refine zpc_if (fun q => ?_) (fun q => zpc_ck (zpc_bv (fun σ1 e1 => zpc_bv (fun σ2 e2 => zpc_some ?_))))
  · have q1 := Int32.le_iff_toInt_le.mp q
    have := hr.2
    exfalso
    omega
  · have a2 : zgi σ1 1 2 = zgi σ 1 2 := by
      subst e1
      show (zsi σ (ztp _) _ _).1 1 2 = σ.1 1 2
      rw [zsi_off (fun r => z_tp1 _ r.1)]
    subst e2
    show ((zsi σ1 1 2 (zgi σ1 1 2 + 1)).1 1 2).toInt = _
    rw [zsi_ej, a2, t3, c1]
theorem p_feedC_48 {x1 : Int32} {x2 x4 x6 : Int64} (hx : zr 1 24 x1) : ∀ (n : Nat) (σ : zSt) (x8 : Int32), zr 0 24 x8 → x8.toInt ≤ x1.toInt → 0 ≤ (zgi σ 1 2).toInt → (zgi σ 1 2).toInt + (x1.toInt - x8.toInt) ≤ 262656 → zpc (fX11_feed_48 n σ x1 x2 x4 x6 x8) (fun r => ∃ s1 v, r = Sum.inl (s1, v) ∧ v = zgi s1 1 2 ∧ (zgi s1 1 2).toInt = (zgi σ 1 2).toInt + (x1.toInt - x8.toInt)) := by
  intro n
  induction n with
  | zero => intro σ x8 _ _ _ _; exact zpc_none
  | succ n ih =>
    intro σ x8 h8 hle h0 hb
    show zpc (fX11_feed_48_body (fX11_feed_48 n) σ x1 x2 x4 x6 x8) _
    unfold fX11_feed_48_body
    have b8 := h8.1
    have bx := hx.2
    refine zpc_if (fun q => ?_) (fun q => ?_)
    · have q1 := Int32.le_iff_toInt_le.mp q
      exact zpc_some ⟨σ, _, rfl, rfl, by omega⟩
    · have q1 := Int32.lt_iff_toInt_lt.mp (z_nle q)
      have f : ∀ s0, zpc (fX11_feed_79 (fX11_feed_48 n) σ x1 x2 x4 x6 x8 s0) (fun r => ∃ s1 v, r = Sum.inl (s1, v) ∧ v = zgi s1 1 2 ∧ (zgi s1 1 2).toInt = (zgi σ 1 2).toInt + (x1.toInt - x8.toInt)) := fun s0 => by
        unfold fX11_feed_79
        refine zpc_bu (p_addToTape ⟨h0, by omega⟩) (fun σ1 a3 => zpc_bv (fun v3 e3 => ?_))
        have c1 : (1 : Int32).toInt = 1 := rfl
        have r1 : zr 1 1 (1 : Int32) := zr_c (by decide)
        have t8 : (x8 + 1).toInt = x8.toInt + (1 : Int32).toInt := z_tadd h8 r1 (by decide)
        have t : v3.toInt = x8.toInt + 1 := by rw [e3, t8, c1]
        refine zpc_mono (ih σ1 v3 ⟨by omega, by omega⟩ (by omega) (by omega) (by omega)) (fun r p => ?_)
        obtain ⟨s1, v, p1, p2, p3⟩ := p
        exact ⟨s1, v, p1, p2, by omega⟩
      exact zpc_if (fun _ => zpc_if (fun _ => f _) (fun _ => f _)) (fun _ => f _)
theorem p_feedC {σ : zSt} {x1 : Int32} {x2 x4 x6 : Int64} (hr : zr 0 262656 (zgi σ 1 2)) : zpc (fX11_feed σ x1 x2 x4 x6) (fun r => (¬ zr 1 24 x1 ∧ r = Sum.inr (σ, 1)) ∨ (zr 1 24 x1 ∧ ¬ (zgi σ 1 2).toInt + x1.toInt ≤ 262656 ∧ r = Sum.inr (σ, 2)) ∨ (zr 1 24 x1 ∧ (zgi σ 1 2).toInt + x1.toInt ≤ 262656 ∧ ∃ s1 v, r = Sum.inl (s1, v) ∧ v = zgi s1 1 2 ∧ (zgi s1 1 2).toInt = (zgi σ 1 2).toInt + x1.toInt)) := by
  unfold fX11_feed fX11_feed_11
  have c0 : (0 : Int32).toInt = 0 := rfl
  have c1 : (1 : Int32).toInt = 1 := rfl
  have c4 : (24 : Int32).toInt = 24 := rfl
  have c2 : (262656 : Int32).toInt = 262656 := rfl
  refine zpc_if (fun q => zpc_some (Or.inl ⟨fun h => ?_, rfl⟩)) (fun q => zpc_if (fun q1 => ?_) (fun q1 => zpc_some (Or.inl ⟨fun h => ?_, rfl⟩)))
  · have r := Int32.lt_iff_toInt_lt.mp q; have := h.1; omega
  · have r := Int32.le_iff_toInt_le.mp (z_nlt q)
    have r1 := Int32.le_iff_toInt_le.mp q1
    rw [c1] at r
    rw [c4] at r1
    have h : zr 1 24 x1 := ⟨r, r1⟩
    have t : (zgi σ 1 2 + x1).toInt = (zgi σ 1 2).toInt + x1.toInt := z_tadd hr h (by decide)
    refine zpc_if (fun q2 => ?_) (fun q2 => ?_)
    · have r2 := Int32.le_iff_toInt_le.mp q2
      rw [t, c2] at r2
      refine zpc_mono (p_feedC_48 h zfuel σ 0 (zr_c (by decide)) (by omega) hr.1 (by omega)) (fun r' p => ?_)
      obtain ⟨s1, v, p1, p2, p3⟩ := p
      exact Or.inr (Or.inr ⟨h, r2, s1, v, p1, p2, by omega⟩)
    · have r2 := Int32.lt_iff_toInt_lt.mp (z_nle q2)
      rw [t, c2] at r2
      exact zpc_some (Or.inr (Or.inl ⟨h, by omega, rfl⟩))
  · have r := Int32.lt_iff_toInt_lt.mp (z_nle q1); have := h.2; omega
theorem p_repeat_15 {x2 x3 : Int32} : ∀ (n : Nat) (σ : zSt) (x4 : Int32), zpc (fX2_repeatTape_15 n σ x2 x3 x4) (fun r => zgi r 1 2 = zmax x2 x3) := by
  intro n
  induction n with
  | zero => intro σ x4; exact zpc_none
  | succ n ih =>
    intro σ x4
    show zpc (fX2_repeatTape_15_body (fX2_repeatTape_15 n) σ x2 x3 x4) _
    unfold fX2_repeatTape_15_body
    have f : zpc (fX2_repeatTape_47 σ x2 x3) (fun r => zgi r 1 2 = zmax x2 x3) := by
      unfold fX2_repeatTape_47
      exact zpc_bv (fun σ1 e1 => zpc_some (by subst e1; exact zsi_ej))
    exact zpc_if (fun _ => f) (fun _ => zpc_if (fun _ => f) (fun _ => zpc_ck (zpc_ck (zpc_bv (fun σ1 e1 => zpc_bv (fun v e => ih _ _))))))
theorem p_growC {σ : zSt} {x1 : Int32} : zpc (fX11_grow σ x1) (fun r => (¬ ((zgi σ 1 2).toInt ≤ x1.toInt ∧ x1.toInt ≤ 262656) ∧ r = Sum.inr (σ, 1)) ∨ (((zgi σ 1 2).toInt ≤ x1.toInt ∧ x1.toInt ≤ 262656) ∧ (zgi σ 1 2).toInt = 0 ∧ r = Sum.inr (σ, 2)) ∨ (((zgi σ 1 2).toInt ≤ x1.toInt ∧ x1.toInt ≤ 262656) ∧ ¬ (zgi σ 1 2).toInt = 0 ∧ ∃ s1 v, r = Sum.inl (s1, v) ∧ v = zgi σ 1 2 ∧ (zgi s1 1 2).toInt = x1.toInt)) := by
  unfold fX11_grow fX11_grow_19
  have c0 : (0 : Int32).toInt = 0 := rfl
  have c2 : (262656 : Int32).toInt = 262656 := rfl
  refine zpc_bv (fun v1 e1 => ?_)
  subst e1
  refine zpc_if (fun q => zpc_some (Or.inl ⟨fun h => ?_, rfl⟩)) (fun q => zpc_if (fun q1 => ?_) (fun q1 => zpc_some (Or.inl ⟨fun h => ?_, rfl⟩)))
  · have r := Int32.lt_iff_toInt_lt.mp q; omega
  · have r := Int32.le_iff_toInt_le.mp (z_nlt q)
    have r1 := Int32.le_iff_toInt_le.mp q1
    rw [c2] at r1
    refine zpc_if (fun q2 => ?_) (fun q2 => ?_)
    · exact zpc_some (Or.inr (Or.inl ⟨⟨r, r1⟩, by rw [q2]; exact c0, rfl⟩))
    · unfold fX2_repeatTape
      refine zpc_bu (P := fun r => zgi r 1 2 = x1) ?_ (fun σ2 h2 => ?_)
      · refine zpc_bv (fun v4 e4 => zpc_bv (fun v5 e5 => ?_))
        refine zpc_mono (p_repeat_15 _ _ _) (fun r' p => ?_)
        rw [p, e4, e5]
        have m1 : zmin x1 262656 = x1 := by
          unfold zmin
          rw [if_neg (fun h => by have := Int32.lt_iff_toInt_lt.mp h; omega)]
        rw [m1]
        unfold zmax
        split
        · rfl
        · next h => exact Int32.toInt_inj.mp (by have := Int32.le_iff_toInt_le.mp (z_nlt h); omega)
      · exact zpc_some (Or.inr (Or.inr ⟨⟨r, r1⟩, fun h => q2 (Int32.toInt_inj.mp (h.trans c0.symm)), σ2, _, rfl, rfl, by rw [h2]⟩))
  · have r := Int32.lt_iff_toInt_lt.mp (z_nle q1); omega
section ZEXACT
variable {K n k s : Int} {μ σ : zSt} {o : Nat → Int64}
theorem m_feedx (h : zRM K n k s μ) {x1 : Int32} {x2 x4 x6 : Int64} : zok (fX12_feed μ x1 x2 x4 x6) (fun r => zBr (zr 1 24 x1) (n + x1.toInt ≤ 262656) n (n + x1.toInt) (n + x1.toInt) (zgi r.1 0 0) (fun y => r.2.toInt = y) (fun n1 => zRM K n1 k s r.1)) := by
  obtain ⟨c, G, i, a, b, e0, e1, e2⟩ := h
  have hr : zr 0 262656 (zgi μ 0 2) := rM_0 i.sg 2 (by decide)
  have hn : (zgi μ 0 2).toInt = n := (i.at 0 (by decide)).trans e0
  refine zok_mono (zok_zpc (s_X12_feed i.E) (p_feed hr)) (fun r q => ?_)
  obtain ⟨⟨⟨G1, i1, g⟩, _⟩, p⟩ := q
  have g1 : ∀ i, ¬ i = 0 → G1 i = G i := fun i hi => g i (fun r => hi (List.mem_singleton.mp r))
  have f : zRM K (zgi r.1 0 2).toInt k s r.1 := ⟨c, G1, i1, a.keep (fun i hi => g1 i (fun r => by subst r; revert hi; decide)), b.keep (Int.le_refl _) (fun i hi => g1 i (fun r => by subst r; revert hi; decide)), (i1.at 0 (by decide)).symm, (g1 1 (by decide)).trans e1, (g1 2 (by decide)).trans e2⟩
  rcases p with ⟨p1, p2, p3⟩ | ⟨p1, p2, p3, p4⟩ | ⟨p1, p2, p3, p4, p5⟩
  · rw [p3, hn] at f
    exact Or.inl ⟨p1, p2, f⟩
  · rw [p4, hn] at f
    rw [hn] at p2
    exact Or.inr (Or.inl ⟨p1, p2, p3, f⟩)
  · rw [hn] at p2 p4
    rw [p4] at f
    exact Or.inr (Or.inr ⟨p1, p2, p3, by rw [p5]; exact p4, f⟩)
theorem m_growx (h : zRM K n k s μ) {x1 : Int32} : zok (fX12_grow μ x1) (fun r => zBr (n ≤ x1.toInt ∧ x1.toInt ≤ 262656) (¬ n = 0) n x1.toInt n (zgi r.1 0 0) (fun y => r.2.toInt = y) (fun n1 => zRM K n1 k s r.1)) := by
  obtain ⟨c, G, i, a, b, e0, e1, e2⟩ := h
  have hr : zr 0 262656 (zgi μ 0 2) := rM_0 i.sg 2 (by decide)
  have hn : (zgi μ 0 2).toInt = n := (i.at 0 (by decide)).trans e0
  refine zok_mono (zok_zpc (s_X12_grow i.E) (p_grow hr)) (fun r q => ?_)
  obtain ⟨⟨⟨G1, i1, g⟩, _⟩, p⟩ := q
  have g1 : ∀ i, ¬ i = 0 → G1 i = G i := fun i hi => g i (fun r => hi (List.mem_singleton.mp r))
  have f : zRM K (zgi r.1 0 2).toInt k s r.1 := ⟨c, G1, i1, a.keep (fun i hi => g1 i (fun r => by subst r; revert hi; decide)), b.keep (Int.le_refl _) (fun i hi => g1 i (fun r => by subst r; revert hi; decide)), (i1.at 0 (by decide)).symm, (g1 1 (by decide)).trans e1, (g1 2 (by decide)).trans e2⟩
  rcases p with ⟨p1, p2, p3⟩ | ⟨p1, p2, p3, p4⟩ | ⟨p1, p2, p3, p4, p5⟩
  · rw [p3, hn] at f
    rw [hn] at p1
    exact Or.inl ⟨p1, p2, f⟩
  · rw [p4, hn] at f
    rw [hn] at p1 p2
    exact Or.inr (Or.inl ⟨p1, fun h => h p2, p3, f⟩)
  · rw [hn] at p1 p2
    rw [p4] at f
    exact Or.inr (Or.inr ⟨p1, p2, p3, by rw [p5]; exact hn, f⟩)
theorem m_patchx (h : zRM K n k s μ) {x1 : Int32} {x2 : Int64} : zok (fX12_patch μ x1 x2) (fun r => zRM K n k s r ∧ (((0 ≤ x1.toInt ∧ x1.toInt ≤ n - 8) ∧ zgi r 0 0 = 0) ∨ (¬ (0 ≤ x1.toInt ∧ x1.toInt ≤ n - 8) ∧ zgi r 0 0 = 1))) := by
  have h0 := h
  obtain ⟨c, G, i, a, b, e0, e1, e2⟩ := h
  have hr : zr 0 262656 (zgi μ 0 2) := rM_0 i.sg 2 (by decide)
  have hn : (zgi μ 0 2).toInt = n := (i.at 0 (by decide)).trans e0
  have p := p_patch (x1 := x1) (x2 := x2) hr
  rw [hn] at p
  exact zok_zpc (m_patch h0) p
theorem l_feedx (h : zRC n k s σ) {x1 : Int32} {x2 x4 x6 : Int64} : zok (fL_feed o σ x1 x2 x4 x6) (fun r => zBr (zr 1 24 x1) (n + x1.toInt ≤ 262656) n (n + x1.toInt) (n + x1.toInt) r.2 (fun y => (r.1.1 0).toInt = y) (fun n1 => zRC n1 k s r.1.2)) := by
  have h0 := h
  obtain ⟨H, i, e0, e1, e2⟩ := h
  have hr : zr 0 262656 (zgi σ 1 2) := rC_0 i.sg 2 (by decide)
  have hn : (zgi σ 1 2).toInt = n := Eq.trans (i.fz 0 (1, 2) rfl) e0
  unfold fL_feed
  refine zok_zbr (zok_zpc (s_X11_feed i.E) (p_feedC hr)) (fun r q => ?_)
  obtain ⟨⟨q1, _⟩, p⟩ := q
  rcases p with ⟨p1, p2⟩ | ⟨p1, p2, p3⟩ | ⟨p1, p2, s1, v, p3, p4, p5⟩
  · subst p2
    show zok (some ((o, σ), (1 : Int32))) _
    exact zok_some (Or.inl ⟨p1, rfl, h0⟩)
  · subst p3
    rw [hn] at p2
    show zok (some ((o, σ), (2 : Int32))) _
    exact zok_some (Or.inr (Or.inl ⟨p1, p2, rfl, h0⟩))
  · subst p3
    rw [hn] at p2 p5
    obtain ⟨H1, i1, g⟩ := q1
    have i1 : zIC H1 s1 := i1
    have f : (zgi s1 1 2).toInt = H1 0 := i1.fz 0 (1, 2) rfl
    show zok (some ((vp_updL o 0 v.toInt64, s1), (0 : Int32))) _
    refine zok_some (Or.inr (Or.inr ⟨p1, p2, rfl, ?_, H1, i1, by rw [← f]; exact p5, (g 2 (by decide)).trans e1, (g 1 (by decide)).trans e2⟩))
    show (if (0 : Nat) = 0 then v.toInt64 else o 0).toInt = _
    rw [if_pos rfl, Int32.toInt_toInt64, p4]
    exact p5
theorem l_growx (h : zRC n k s σ) {x1 : Int32} : zok (fL_grow o σ x1) (fun r => zBr (n ≤ x1.toInt ∧ x1.toInt ≤ 262656) (¬ n = 0) n x1.toInt n r.2 (fun y => (r.1.1 0).toInt = y) (fun n1 => zRC n1 k s r.1.2)) := by
  have h0 := h
  obtain ⟨H, i, e0, e1, e2⟩ := h
  have hn : (zgi σ 1 2).toInt = n := Eq.trans (i.fz 0 (1, 2) rfl) e0
  unfold fL_grow
  refine zok_zbr (zok_zpc (s_X11_grow i.E) p_growC) (fun r q => ?_)
  obtain ⟨⟨q1, _⟩, p⟩ := q
  rcases p with ⟨p1, p2⟩ | ⟨p1, p2, p3⟩ | ⟨p1, p2, s1, v, p3, p4, p5⟩
  · subst p2
    rw [hn] at p1
    show zok (some ((o, σ), (1 : Int32))) _
    exact zok_some (Or.inl ⟨p1, rfl, h0⟩)
  · subst p3
    rw [hn] at p1 p2
    show zok (some ((o, σ), (2 : Int32))) _
    exact zok_some (Or.inr (Or.inl ⟨p1, fun h => h p2, rfl, h0⟩))
  · subst p3
    rw [hn] at p1 p2
    obtain ⟨H1, i1, g⟩ := q1
    have i1 : zIC H1 s1 := i1
    have f : (zgi s1 1 2).toInt = H1 0 := i1.fz 0 (1, 2) rfl
    show zok (some ((vp_updL o 0 v.toInt64, s1), (0 : Int32))) _
    refine zok_some (Or.inr (Or.inr ⟨p1, p2, rfl, ?_, H1, i1, by rw [← f]; exact p5, (g 2 (by decide)).trans e1, (g 1 (by decide)).trans e2⟩))
    show (if (0 : Nat) = 0 then v.toInt64 else o 0).toInt = _
    rw [if_pos rfl, Int32.toInt_toInt64, p4]
    exact hn
theorem l_patchx (h : zRC n k s σ) {x1 : Int32} {x2 : Int64} : zok (fL_patch σ x1 x2) (fun r => zRC n k s r.1 ∧ (((0 ≤ x1.toInt ∧ x1.toInt ≤ n - 8) ∧ r.2 = 0) ∨ (¬ (0 ≤ x1.toInt ∧ x1.toInt ≤ n - 8) ∧ r.2 = 1))) := by
  have h0 := h
  obtain ⟨H, i, e0, e1, e2⟩ := h
  have hr : zr 0 262656 (zgi σ 1 2) := rC_0 i.sg 2 (by decide)
  have hn : (zgi σ 1 2).toInt = n := Eq.trans (i.fz 0 (1, 2) rfl) e0
  have hr2 := hr.2
  unfold fL_patch
  refine zTh_hu ?_
  unfold fX11_patch fX11_patch_18
  have c0 : (0 : Int32).toInt = 0 := rfl
  have c8 : (8 : Int32).toInt = 8 := rfl
  have t : (zgi σ 1 2 - 8).toInt = (zgi σ 1 2).toInt - (8 : Int32).toInt := z_tsub hr (zr_c (lo := 8) (hi := 8) (by decide)) (by decide)
  refine zok_if (fun q => zok_some (Or.inr ⟨fun h => ?_, σ, rfl, h0⟩)) (fun q => zok_if (fun q1 => ?_) (fun q1 => zok_some (Or.inr ⟨fun h => ?_, σ, rfl, h0⟩)))
  · have r := Int32.lt_iff_toInt_lt.mp q; omega
  · have r := Int32.le_iff_toInt_le.mp (z_nlt q)
    have r1 := Int32.le_iff_toInt_le.mp q1
    rw [t, c8] at r1
    have ha : zr 0 262648 x1 := ⟨by omega, by omega⟩
    exact zok_bu (s_X2_changeTape i ha) (fun σ3 i3 => zok_some (Or.inl ⟨⟨by omega, by omega⟩, σ3, rfl, H, i3, e0, e1, e2⟩))
  · have r := Int32.lt_iff_toInt_lt.mp (z_nle q1); rw [t, c8] at r; omega
/-! load -/
def zTk (l : Int) (v : Int32) : Prop := (l < 8192 ∧ v = 1) ∨ (8192 ≤ l ∧ ¬ l % 8192 = 0 ∧ v = 2) ∨ (8192 ≤ l ∧ l % 8192 = 0 ∧ v = 0)
theorem zTk.both {l : Int} {v w : Int32} (h : zTk l v) (h' : zTk l w) : v = w := by
  rcases h with ⟨a, b⟩ | ⟨a, c, b⟩ | ⟨a, c, b⟩ <;> rcases h' with ⟨a', b'⟩ | ⟨a', c', b'⟩ | ⟨a', c', b'⟩ <;> first | exact b.trans b'.symm | (exfalso; omega)
def zLf (n : Int) : Int := if n % 16384 = 512 then n - 512 else n
/-- behind load: the length 0, what is saved forgotten if it answers 0 -/
def zLo (n s : Int) (v : Int32) (R : Int → Int → Prop) : Prop := zTk (zLf n) v ∧ ((v = 0 ∧ R 0 0) ∨ (¬ v = 0 ∧ R 0 s))
theorem zLo.both {n s : Int} {v w : Int32} {R R' : Int → Int → Prop} (h : zLo n s v R) (h' : zLo n s w R') : v = w ∧ ∃ s1, R 0 s1 ∧ R' 0 s1 := by
  obtain ⟨t, h⟩ := h
  obtain ⟨t', h'⟩ := h'
  have e := t.both t'
  refine ⟨e, ?_⟩
  rcases h with ⟨a, b⟩ | ⟨a, b⟩ <;> rcases h' with ⟨a', b'⟩ | ⟨a', b'⟩
  · exact ⟨0, b, b'⟩
  · exact absurd (e.symm.trans a) a'
  · exact absurd (e.trans a') a
  · exact ⟨s, b, b'⟩
theorem z_rem8 {v : Int32} {l : Int} (tl : v.toInt = l) (h : zr 8192 262656 v) (q : zrem v 8192 = 0) : l % 8192 = 0 := by
  have e := z_trem (y := (8192 : Int32)) 8192 rfl h (by decide)
  rw [q, tl] at e
  exact e.symm
theorem z_rem8n {v : Int32} {l : Int} (tl : v.toInt = l) (h : zr 8192 262656 v) (q : ¬ zrem v 8192 = 0) : ¬ l % 8192 = 0 := fun r => by
  have e := z_trem (y := (8192 : Int32)) 8192 rfl h (by decide)
  rw [tl, r] at e
  exact q (Int32.toInt_inj.mp e)
theorem q_take21 {G : Nat → Int} {σ : zSt} (hσ : zEC [0] G σ) {s0 : Int32} (h_s0 : zr (0) (512) s0) : zok (fX2_takeTape_21 σ s0) (fun r => zEC [0] G r.1 ∧ zr 0 0 (zgi r.1 1 2) ∧ zTk ((zgi σ 1 2).toInt - s0.toInt) r.2) := by
  unfold fX2_takeTape_21
  refine zok_br (zr_sub (lo := -512) (hi := 262656) (rC_0 hσ.sg _ (by decide)) h_s0 (by decide)) (fun v1 e2 h1 => ?_)
  have tl : v1.toInt = (zgi σ 1 2).toInt - s0.toInt := by
    rw [e2]
    exact z_tsub (rC_0 hσ.sg 2 (by decide)) h_s0 (by decide)
  refine zok_bs (hσ.wi 2 2 (by decide) (zr_c (lo := 0) (hi := 0) (by decide)) (by decide +kernel)) (fun σ2 e4 i3 => ?_)
  have w2 : zr 0 0 (zgi σ2 1 2) := z_own e4 (zr_c (lo := 0) (hi := 0) (by decide))
  have c8 : (8192 : Int32).toInt = 8192 := rfl
  refine zok_if (fun q5 => ?_) (fun q5 => ?_)
  · have q6 := Int32.le_iff_toInt_le.mp q5
    have h6 := zc_ler (8192) q5 (zr_c (lo := 8192) (hi := 8192) (by decide)) h1 (by decide)
    refine zok_ck (by decide) ?_
    refine zok_if (fun q7 => ?_) (fun q7 => ?_)
    · have h8 := zc_eql (0) (0) q7 (zr_rem (lo := 0) (hi := 8191) 8192 (by decide) h6 (by decide)) (zr_c (lo := 0) (hi := 0) (by decide)) (by decide)
      have h9 := z_m8 h6 h8
      refine zok_bs (i3.wi 1 1 (by decide) zr_any (by decide +kernel)) (fun σ3 e11 i10 => ?_)
      refine zok_bs (i10.wi 0 0 (by decide) zr_any (by decide +kernel)) (fun σ4 e13 i12 => ?_)
      refine zok_bs (i12.wi 3 3 (by decide) h_s0 (by decide +kernel)) (fun σ5 e15 i14 => ?_)
      refine zok_bs (i14.wi 4 4 (by decide) h9 (by decide +kernel)) (fun σ6 e17 i16 => ?_)
      refine zok_ck (by decide) ?_
      refine zok_bs (i16.wi 5 5 (by decide) (zr_div (lo := 1) (hi := 16) 16384 (by decide) (zr_sub (lo := 24575) (hi := 278527) (zr_add (lo := 24576) (hi := 278528) h9 (zr_c (lo := 16384) (hi := 16384) (by decide)) (by decide)) (zr_c (lo := 1) (hi := 1) (by decide)) (by decide)) (by decide)) (by decide +kernel)) (fun σ7 e19 i18 => ?_)
      refine zok_pi (s_X2_findHeader i18.P) (fun v9 h20 => ?_)
      refine zok_bs (i18.wi 7 7 (by decide) h20 (by decide +kernel)) (fun σ10 e22 i21 => ?_)
      refine zok_pi (s_X2_findPaging i21.P) (fun v12 h23 => ?_)
      refine zok_bs (i21.wi 6 6 (by decide) h23 (by decide +kernel)) (fun σ13 e25 i24 => ?_)
      have w13 : zr 0 0 (zgi σ13 1 2) := z_trj (j1 := 2) e25 (by decide) (z_trj (j1 := 2) e22 (by decide) (z_trj (j1 := 2) e19 (by decide) (z_trj (j1 := 2) e17 (by decide) (z_trj (j1 := 2) e15 (by decide) (z_trj (j1 := 2) e13 (by decide) (z_trj (j1 := 2) e11 (by decide) w2))))))
      exact zok_some ⟨i24, w13, Or.inr (Or.inr ⟨by omega, z_rem8 tl h6 q7, rfl⟩)⟩
    exact zok_some ⟨i3, w2, Or.inr (Or.inl ⟨by omega, z_rem8n tl h6 q7, rfl⟩)⟩
  have q6 := Int32.lt_iff_toInt_lt.mp (z_nle q5)
  exact zok_some ⟨i3, w2, Or.inl ⟨by omega, rfl⟩⟩
theorem z_rem16 {v : Int32} {n : Int} (tn : v.toInt = n) (h : zr 0 262656 v) : (zrem v 16384).toInt = n % 16384 := by
  rw [z_trem (y := (16384 : Int32)) 16384 rfl h (by decide), tn]
theorem c_loadx (h : zRC n k s σ) : zok (fX11_load σ ) (fun r => zLo n s r.2 (fun n1 s1 => zRC n1 k s1 r.1)) := by
  obtain ⟨H, i, e0, e1, e2⟩ := h
  have hr : zr 0 262656 (zgi σ 1 2) := rC_0 i.sg 2 (by decide)
  have hn : (zgi σ 1 2).toInt = n := Eq.trans (i.fz 0 (1, 2) rfl) e0
  have tk : zok (fX2_takeTape σ ) (fun r => zEC [0] H r.1 ∧ zr 0 0 (zgi r.1 1 2) ∧ zTk (zLf n) r.2) := by
    unfold fX2_takeTape
    refine zok_ck (by decide) ?_
    have m := z_rem16 hn hr
    have c5 : (512 : Int32).toInt = 512 := rfl
    have c0 : (0 : Int32).toInt = 0 := rfl
    refine zok_if (fun q1 => ?_) (fun q1 => ?_)
    · rw [q1, c5] at m
      have e : zLf n = (zgi σ 1 2).toInt - (512 : Int32).toInt := by unfold zLf; rw [if_pos m.symm, hn, c5]
      rw [e]
      exact q_take21 i.E (zr_c (by decide))
    · have e : zLf n = (zgi σ 1 2).toInt - (0 : Int32).toInt := by
        unfold zLf
        rw [if_neg (fun r => q1 (Int32.toInt_inj.mp (by rw [m, r]; rfl))), hn, c0]; omega
      rw [e]
      exact q_take21 i.E (zr_c (by decide))
  unfold fX11_load fX11_load_28
  refine zok_bi tk (fun σ1 v2 q => ?_)
  obtain ⟨q1, q2, q3⟩ := q
  obtain ⟨H1, i1, g⟩ := q1
  have z0 : H1 0 = 0 := by
    have f : (zgi σ1 1 2).toInt = H1 0 := i1.fz 0 (1, 2) rfl
    have := q2.1
    have := q2.2
    have f2 : (zgi (σ1, v2).1 1 2).toInt = (zgi σ1 1 2).toInt := rfl
    omega
  refine zok_if (fun q4 => ?_) (fun q4 => ?_)
  · refine zok_bu (s_X2_clearRam i1) (fun σ3 i5 => ?_)
    refine zok_bu (s_X11_clearAll i5) (fun σ4 i6 => ?_)
    refine zok_ck rfl ?_
    refine zok_bs (I := zEC [1] H1) (zEC.wi i6.E 11 11 (by decide) (zr_c (lo := 0) (hi := 0) (by decide)) (by decide +kernel)) (fun σ5 e8 i7 => ?_)
    obtain ⟨H2, i8, g2⟩ := i7
    have f : (zgi σ5 0 11).toInt = H2 1 := i8.fz 1 (0, 11) rfl
    have f0 : (zgi σ5 0 11).toInt = 0 := by
      rw [e8]
      show ((zsi σ4 0 11 0).1 0 11).toInt = 0
      rw [zsi_ej]
      rfl
    exact zok_some ⟨q3, Or.inl ⟨q4, H2, i8, (g2 0 (by decide)).trans z0, ((g2 2 (by decide)).trans (g 2 (by decide))).trans e1, f.symm.trans f0⟩⟩
  · exact zok_some ⟨q3, Or.inr ⟨q4, H1, i1, z0, (g 2 (by decide)).trans e1, (g 1 (by decide)).trans e2⟩⟩
theorem q_load26x {G : Nat → Int} (hσ : zIM G σ) {s0 : Int32} (h_s0 : zr (0) (512) s0) : zok (fX12_load_26 σ s0) (fun r => zTk (G 0 - s0.toInt) r.2 ∧ ((r.2 = 0 ∧ zLE [2, 4] (zset G 0 0) r.1 ∧ zgi r.1 0 19 = 0) ∨ (¬ r.2 = 0 ∧ zIM (zset G 0 0) r.1))) := by
  unfold fX12_load_26
  refine zok_br (zr_sub (lo := -512) (hi := 262656) (rM_0 hσ.sg _ (by decide)) h_s0 (by decide)) (fun v23 e2 h1 => ?_)
  have hg : (zgi σ 0 2).toInt = G 0 := hσ.at 0 (by decide)
  have tl : v23.toInt = G 0 - s0.toInt := by
    rw [e2, ← hg]
    exact z_tsub (rM_0 hσ.sg 2 (by decide)) h_s0 (by decide)
  refine zok_bs (I := zIM (zset G 0 0)) (zIM.wg (v := 0) 0 hσ (by decide) (by decide) (zr_c (lo := 0) (hi := 0) (by decide)) (by decide +kernel)) (fun σ24 e4 i3 => ?_)
  have c8 : (8192 : Int32).toInt = 8192 := rfl
  have c9 : (262144 : Int32).toInt = 262144 := rfl
  have b1 := h1.2
  refine zok_if (fun q5 => ?_) (fun q5 => ?_)
  · have q6 := Int32.le_iff_toInt_le.mp q5
    have h6 := zc_ler (8192) q5 (zr_c (lo := 8192) (hi := 8192) (by decide)) h1 (by decide)
    refine zok_ck (by decide) ?_
    refine zok_if (fun q7 => ?_) (fun q7 => ?_)
    · have m8 := z_rem8 tl h6 q7
      refine zok_if (fun q9 => ?_) (fun q9 => ?_)
      · have h10 := zc_lel (262144) q9 h6 (zr_c (lo := 262144) (hi := 262144) (by decide)) (by decide)
        refine zok_bs (I := zIM (zset G 0 0)) (i3.wi 5 5 (by decide) h10 (by decide +kernel)) (fun σ25 e12 i11 => ?_)
        refine zok_ck (by decide) ?_
        refine zok_bs (I := zIM (zset G 0 0)) (i11.wb (zr_div (lo := 1) (hi := 16) 16384 (by decide) (zr_add (lo := 24575) (hi := 278527) (z_own e12 h10) (zr_c (lo := 16383) (hi := 16383) (by decide)) (by decide)) (by decide)) (by decide)) (fun σ26 e14 i13 => ?_)
        refine zok_mono (zok_zpc (q_load_89 zfuel (zLE_of i13) h_s0 (zr_w (zr_c (lo := 0) (hi := 0) (by decide)) (by decide)) (z_own e14 (zr_div (lo := 1) (hi := 16) 16384 (by decide) (zr_add (lo := 24575) (hi := 278527) (z_own e12 h10) (zr_c (lo := 16383) (hi := 16383) (by decide)) (by decide)) (by decide))) (by decide)) (t_load_89 zfuel σ26 s0 0)) (fun r q => ?_)
        obtain ⟨⟨r1, _⟩, r2, r3⟩ := q
        exact ⟨Or.inr (Or.inr ⟨by omega, m8, r2⟩), Or.inl ⟨r2, r1, r3⟩⟩
      · have q10 := Int32.lt_iff_toInt_lt.mp (z_nle q9)
        exfalso
        omega
    · exact zok_some ⟨Or.inr (Or.inl ⟨by omega, z_rem8n tl h6 q7, rfl⟩), Or.inr ⟨(by decide : ¬ (2 : Int32) = 0), i3⟩⟩
  · have q6 := Int32.lt_iff_toInt_lt.mp (z_nle q5)
    exact zok_some ⟨Or.inl ⟨by omega, rfl⟩, Or.inr ⟨(by decide : ¬ (1 : Int32) = 0), i3⟩⟩
theorem m_loadx (h : zRM K n k s μ) : zok (fX12_load μ ) (fun r => zLo n s r.2 (fun n1 s1 => zRM K n1 k s1 r.1)) := by
  obtain ⟨c, G, i, a, b, e0, e1, e2⟩ := h
  have fin : ∀ (σ1 : zSt) (s0 : Int32) (i1 : zIM G σ1), zr (0) (512) s0 → zLf n = G 0 - s0.toInt → zok (fX12_load_26 σ1 s0) (fun r => zLo n s r.2 (fun n1 s1 => zRM K n1 k s1 r.1)) := fun σ1 s0 i1 h0 el => by
    refine zok_mono (q_load26x i1 h0) (fun r q => ?_)
    obtain ⟨q1, q2⟩ := q
    rw [← el] at q1
    refine ⟨q1, ?_⟩
    have v : ∀ i, ¬ i = 0 → zset G 0 0 i = G i := fun i hi => zset_ne hi
    rcases q2 with ⟨p1, ⟨d, hd, G1, j1, g⟩, p3⟩ | ⟨p1, p2⟩
    · rw [v 3 (by decide)] at hd
      have g1 : ∀ i, ¬ i ∈ [0, 2, 3, 4] → G1 i = G i := fun i hi => (g i (fun r => hi (by simp only [List.mem_cons, List.not_mem_nil, or_false] at r ⊢; omega))).trans ((zset_ne (fun e => hi (by subst e; decide))).trans (v i (fun e => hi (by subst e; decide))))
      have g3 : G1 3 = d := (g 3 (by decide)).trans zset_eq
      have g0 : G1 0 = 0 := (g 0 (by decide)).trans ((zset_ne (by decide)).trans zset_eq)
      have g2 : G1 2 = 0 := by
        have f : (zgi r.1 0 19).toInt = G1 2 := j1.at 2 (by decide)
        rw [← f, p3]
        rfl
      exact Or.inl ⟨p1, c, G1, j1, a.line (fun i hi => g1 i (fun r => by revert hi r; simp only [List.mem_cons, List.not_mem_nil, or_false]; omega)) (by rw [g3]; exact hd) j1.beat, b.keep (Int.le_refl _) (fun i hi => g1 i (fun r => by revert hi r; simp only [List.mem_cons, List.not_mem_nil, or_false]; omega)), g0, (g1 1 (by decide)).trans e1, g2⟩
    · exact Or.inr ⟨p1, c, _, p2, a.keep (fun i hi => v i (fun r => by subst r; revert hi; decide)), b.keep (Int.le_refl _) (fun i hi => v i (fun r => by subst r; revert hi; decide)), zset_eq, (v 1 (by decide)).trans e1, (v 2 (by decide)).trans e2⟩
  unfold fX12_load
  refine zok_bs (I := zIM G) (i.wi 0 0 (by decide) (zr_c (lo := 0) (hi := 0) (by decide)) (by decide +kernel)) (fun σ27 e3 i1 => ?_)
  refine zok_ck (by decide) ?_
  have hn : (zgi σ27 0 2).toInt = n := (i1.at 0 (by decide)).trans e0
  have m := z_rem16 hn (rM_0 i1.sg 2 (by decide))
  have c5 : (512 : Int32).toInt = 512 := rfl
  have c0 : (0 : Int32).toInt = 0 := rfl
  refine zok_if (fun q1 => ?_) (fun q1 => ?_)
  · rw [q1, c5] at m
    exact fin σ27 512 i1 (zr_c (by decide)) (by unfold zLf; rw [if_pos m.symm, e0, c5])
  · exact fin σ27 0 i1 (zr_c (by decide)) (by unfold zLf; rw [if_neg (fun r => q1 (Int32.toInt_inj.mp (by rw [m, r]; rfl))), e0, c0]; omega)
/-! save, restore -/
theorem c_savex (h : zRC n k s σ) : zok (fX11_save σ ) (fun r => zRC n k 1 r) := by
  obtain ⟨H, i, e0, e1, e2⟩ := h
  have p : zpc (fX11_save σ ) (fun r => zgi r 0 11 = 1) := by
    unfold fX11_save
    exact zpc_bu (P := fun _ => True) (fun _ _ => trivial) (fun _ _ => zpc_bu (P := fun _ => True) (fun _ _ => trivial) (fun _ _ => zpc_bu (P := fun _ => True) (fun _ _ => trivial) (fun _ _ => zpc_bu (P := fun _ => True) (fun _ _ => trivial) (fun _ _ => zpc_bu (P := fun _ => True) (fun _ _ => trivial) (fun _ _ => zpc_bu (P := fun _ => True) (fun _ _ => trivial) (fun _ _ => zpc_bu (P := fun _ => True) (fun _ _ => trivial) (fun _ _ => zpc_bu (P := fun _ => True) (fun _ _ => trivial) (fun _ _ => zpc_bu (P := fun _ => True) (fun _ _ => trivial) (fun _ _ => zpc_ck (zpc_bv (fun σ1 e1 => zpc_some (by subst e1; exact zsi_ej))))))))))))
  refine zok_mono (zok_zpc (s_X11_save i.E) p) (fun r q => ?_)
  obtain ⟨⟨H1, i1, g⟩, q2⟩ := q
  have f : (zgi r 0 11).toInt = H1 1 := i1.fz 1 (0, 11) rfl
  exact ⟨H1, i1, (g 0 (by decide)).trans e0, (g 2 (by decide)).trans e1, by rw [← f, q2]; rfl⟩
theorem l_restorex (h : zRC n k s σ) : zok (fL_restore σ ) (fun r => zRC n k s r.1 ∧ ((¬ s = 0 ∧ r.2 = 0) ∨ (¬ ¬ s = 0 ∧ r.2 = 1))) := by
  have h0 := h
  obtain ⟨H, i, e0, e1, e2⟩ := h
  have hs : (zgi σ 0 11).toInt = s := Eq.trans (i.fz 1 (0, 11) rfl) e2
  have p : zpc (fX11_restore σ ) (fun r => (s = 0 ∧ r = Sum.inr (σ, 2)) ∨ (¬ s = 0 ∧ ∃ s1, r = Sum.inl s1)) := by
    unfold fX11_restore
    refine zpc_if (fun q => zpc_some (Or.inl ⟨by rw [← hs, q]; rfl, rfl⟩)) (fun q => ?_)
    have n0 : ¬ s = 0 := fun r => q (Int32.toInt_inj.mp (by rw [hs, r]; rfl))
    exact zpc_bu (P := fun _ => True) (fun _ _ => trivial) (fun _ _ => zpc_bu (P := fun _ => True) (fun _ _ => trivial) (fun _ _ => zpc_bu (P := fun _ => True) (fun _ _ => trivial) (fun _ _ => zpc_bu (P := fun _ => True) (fun _ _ => trivial) (fun _ _ => zpc_bu (P := fun _ => True) (fun _ _ => trivial) (fun _ _ => zpc_bu (P := fun _ => True) (fun _ _ => trivial) (fun _ _ => zpc_bu (P := fun _ => True) (fun _ _ => trivial) (fun _ _ => zpc_bu (P := fun _ => True) (fun _ _ => trivial) (fun _ _ => zpc_bu (P := fun _ => True) (fun _ _ => trivial) (fun _ _ => zpc_some (Or.inr ⟨n0, _, rfl⟩))))))))))
  unfold fL_restore
  refine zTh_hu (zok_mono (zok_zpc (s_X11_restore i) p) (fun r q => ?_))
  obtain ⟨⟨q1, _⟩, q2⟩ := q
  rcases q2 with ⟨a, b⟩ | ⟨a, s1, b⟩
  · subst b
    exact Or.inr ⟨fun r => r a, σ, rfl, h0⟩
  · subst b
    exact Or.inl ⟨a, s1, rfl, H, q1, e0, e1, e2⟩
theorem m_restorex (h : zRM K n k s μ) : zok (fX12_restore μ ) (fun r => zRM K n k s r ∧ ((¬ s = 0 ∧ zgi r 0 0 = 0) ∨ (¬ ¬ s = 0 ∧ zgi r 0 0 = 1))) := by
  have h0 := h
  obtain ⟨c, G, i, a, b, e0, e1, e2⟩ := h
  have hs : (zgi μ 0 19).toInt = s := (i.at 2 (by decide)).trans e2
  refine zok_zpc (m_restore h0) ?_
  unfold fX12_restore
  refine zpc_if (fun q => ?_) (fun q => ?_)
  · unfold fX12_restore_13
    have z : s = 0 := by rw [← hs, q]; rfl
    refine zpc_fails1 (fun σ1 e1 => ?_)
    exact zpc_if (fun q => absurd q (by decide)) (fun _ => zpc_some (Or.inr ⟨fun r => r z, by subst e1; exact zTh_own⟩))
  · unfold fX12_restore_13
    have n0 : ¬ s = 0 := fun r => q (Int32.toInt_inj.mp (by rw [hs, r]; rfl))
    refine zpc_fails0 (fun σ1 e1 => ?_)
    refine zpc_if (fun _ => ?_) (fun q => absurd rfl q)
    exact zpc_mono (t_restore_23 (v := 0) _ _ _ (by subst e1; exact zTh_own)) (fun r p => Or.inl ⟨n0, p⟩)
end ZEXACT
/-! pause -/
def zHk (k h : Int) : Prop := (h = 0 ∧ ¬ k = 2) ∨ (¬ h = 0 ∧ k = 2)
theorem zHk.both {k h : Int} {v w : Int32} (d : zHk k h) (a : (h = 0 ∧ v = 1) ∨ (¬ h = 0 ∧ v = 0)) (b : (¬ k = 2 ∧ w = 1) ∨ (k = 2 ∧ w = 0)) : v = w := by
  rcases d with ⟨d1, d2⟩ | ⟨d1, d2⟩ <;> rcases a with ⟨a1, a2⟩ | ⟨a1, a2⟩ <;> rcases b with ⟨b1, b2⟩ | ⟨b1, b2⟩ <;> first | exact a2.trans b2.symm | exact absurd d1 a1 | exact absurd a1 d1 | exact absurd b1 d2 | exact absurd d2 b1
theorem c_pausex {n k s : Int} {σ : zSt} (h : zRC n k s σ) : zok (fX11_pause σ ) (fun r => zRC n k s r.1 ∧ ((k = 0 ∧ r.2 = 1) ∨ (¬ k = 0 ∧ r.2 = 0))) := by
  obtain ⟨H, i, e0, e1, e2⟩ := h
  refine zok_mono (q_pauseC i) (fun r q => ?_)
  obtain ⟨q1, q2⟩ := q
  rw [e1] at q2
  exact ⟨⟨H, q1, e0, e1, e2⟩, q2⟩
theorem m_pausex {K n k s : Int} {μ : zSt} (h : zRM K n k s μ) : zok (fX12_pause μ ) (fun r => zRM K n k s r.1 ∧ ((¬ k = 2 ∧ r.2 = 1) ∨ (k = 2 ∧ r.2 = 0))) := by
  obtain ⟨c, G, i, a, b, e0, e1, e2⟩ := h
  refine zok_mono (q_pauseM i) (fun r q => ?_)
  obtain ⟨q1, q2⟩ := q
  rw [e1] at q2
  exact ⟨⟨c, G, q1, a, b, e0, e1, e2⟩, q2⟩
end ZJN3
