/-! ONE STEP AND WHAT LIES AROUND IT -/
theorem z_m5 {v : Int32} (h : zr 0 31 v) : v &&& 31 = v := Int32.toInt_inj.mp (by rw [z_mask (k := 5) h.1 rfl (by decide)]; have := h.1; have := h.2; show v.toInt % 32 = _; omega)
section ZS1
variable {σ μ s t : zSt} {B : Int × Int × Int}
theorem p_note {x : Int32} (r : zr 0 31 (σ.1 9 5)) : zpc (fX1_noteStep σ x) (fun r => r = zsi (zsi σ 44 (σ.1 9 5).toNatClampNeg x) 9 5 ((σ.1 9 5 + 1) &&& 31)) := by
  have e : zgi σ 9 5 &&& 31 = σ.1 9 5 := z_m5 r
  unfold fX1_noteStep
  rw [e]
  exact zpc_ck (zpc_bv (fun s1 f1 => zpc_bv (fun s2 f2 => zpc_some (by rw [f2, f1]; rfl))))
theorem t_note (h : zTT (zIa B) σ μ) (hF : zF σ μ) (hW : zWzz σ μ) (hB : B.1 ≤ 1000000000000000) {α β : Type} {Q : α → β → Prop} {f : zSt → Option α} {g : zSt → Option β} {c1 c2 c3 : Bool} (k : ∀ s t, zTT (zIa (B.1 + 1, B.2.1, B.2.2)) s t → zF s t → zWzz s t → zp2 (f s) (g t) Q) : zp2 (zbu (fX1_noteStep σ (σ.1 36 19)) f) (zck c1 (zck c2 (zck c3 (zbv (zsi μ 21 (((zreml (zgl μ 0 30) 32).toInt32).toNatClampNeg) (zgi μ 3 (19 : Int32).toNatClampNeg)) (fun σ32 => zbv (zsl σ32 0 30 ((zgl σ32 0 30) + 1)) g))))) Q := by
  obtain ⟨n0, nB, r5, e5, rest⟩ := h.2.2.2.2.2.1
  have e19 : zgi μ 3 (19 : Int32).toNatClampNeg = σ.1 36 19 := h.eq (by decide)
  have rl : zrl 0 1000000000000000 (μ.2 0 30) := ⟨n0, by omega⟩
  have rm : (zreml (zgl μ 0 30) 32).toInt = (μ.2 0 30).toInt % 32 := z_tlrem 32 rfl rl (by decide)
  have b0 := Int.emod_nonneg (μ.2 0 30).toInt (b := 32) (by decide)
  have b1 := Int.emod_lt_of_pos (μ.2 0 30).toInt (b := 32) (by decide)
  have ei : (zreml (zgl μ 0 30) 32).toInt32 = σ.1 9 5 := Int32.toInt_inj.mp (by
    rw [Int64.toInt_toInt32, rm, e5]
    exact z_bm (by omega) (by omega))
  rw [ei, e19]
  refine zp2_bul (p_note r5) (fun s es => zp2_ckr (zp2_ckr (zp2_ckr (zp2_bvr (fun t1 g1 => zp2_bvr (fun t2 g2 => ?_))))))
  have g2 : t2 = zsl t1 0 30 (μ.2 0 30 + 1) := by rw [g2, g1]; rfl
  have a : zQ [44, 9] [] [] [] σ s := by rw [es]; exact zQ.wi (zQ.wi zQ.rf rfl) rfl
  have b : zQ [21] [] [] [(0, 30, 30)] μ t2 := by rw [g2, g1]; exact zQ.wl (zQ.wi zQ.rf rfl) rfl
  have en : (t2.2 0 30).toInt = (μ.2 0 30).toInt + 1 := by
    rw [g2, zsl_at, if_pos ⟨rfl, rfl⟩]
    exact z_tladd rl (zrl_c (lo := 1) (hi := 1) (x := 1) (by decide)) (by decide)
  have es9 : s.1 9 5 = (σ.1 9 5 + 1) &&& 31 := by rw [es]; exact zsi_ej
  have ta : (σ.1 9 5 + 1).toInt = (σ.1 9 5).toInt + 1 := z_tadd r5 (zr_c (lo := 1) (hi := 1) (x := 1) (by decide)) (by decide)
  have r50 := r5.1
  have r51 := r5.2
  have tm : ((σ.1 9 5 + 1) &&& 31).toInt = ((σ.1 9 5).toInt + 1) % 32 := by rw [z_mask (k := 5) (by omega) rfl (by decide), ta]; rfl
  have kc := z_clamp r5.1
  have j44 : ∀ j, s.1 44 j = if j = (σ.1 9 5).toNatClampNeg then σ.1 36 19 else σ.1 44 j := fun j => by
    rw [es, zsi_ne (by decide), zsi_at]
    by_cases q : j = (σ.1 9 5).toNatClampNeg
    · rw [if_pos ⟨rfl, q⟩, if_pos q]
    · rw [if_neg (fun z => q z.2), if_neg q]
  have j21 : ∀ j, t2.1 21 j = if j = (σ.1 9 5).toNatClampNeg then σ.1 36 19 else μ.1 21 j := fun j => by
    rw [g2, g1]
    show (zsi μ 21 _ _).1 21 j = _
    rw [zsi_at]
    by_cases q : j = (σ.1 9 5).toNatClampNeg
    · rw [if_pos ⟨rfl, q⟩, if_pos q]
    · rw [if_neg (fun z => q z.2), if_neg q]
  have hI : zIa (B.1 + 1, B.2.1, B.2.2) s t2 := by
    refine ⟨h.2.2.2.1.kp a b (by decide +kernel) (by decide +kernel), h.2.2.2.2.1.kp a b rfl rfl, ⟨by omega, by show (t2.2 0 30).toInt ≤ B.1 + 1; omega, ?_, ?_, fun j hj => ⟨fun q => ?_, fun q => ?_⟩⟩, ?_⟩
    · rw [es9]; exact z_r31 _
    · rw [es9, tm, en, e5]; omega
    · rw [j44, j21]
      by_cases z : j = (σ.1 9 5).toNatClampNeg
      · rw [if_pos z, if_pos z]
      · rw [if_neg z, if_neg z]
        exact (rest j hj).1 (by omega)
    · rw [j44, if_neg (fun z => by omega)]
      exact (rest j hj).2 (by omega)
    · have zc := h.2.2.2.2.2.2
      rw [es, g2, g1]
      exact zc
  obtain ⟨k1, k2⟩ := h.kp hI a b rfl rfl
  exact k s t2 k1 (k2.f hF) (k2.w hW)
/-- counts in between: the class's wait for the samples -/
def zCtb (b : Int32) (P : Int) (σ μ : zSt) : Prop := μ.2 4 0 = σ.2 38 0 + b.toInt64 ∧ μ.2 4 1 = σ.2 38 1 + 1 ∧ μ.2 4 2 = σ.2 38 2 ∧ 0 ≤ (μ.2 4 2).toInt ∧ (μ.2 4 2).toInt ≤ P
def zIb (b : Int32) (B : Int × Int × Int) (σ μ : zSt) : Prop := zVe σ μ ∧ zPlr σ μ ∧ zSpt B.1 σ μ ∧ zCtb b B.2.1 σ μ ∧ zMs B.2.2 μ
theorem p_pass {b : Int32} : zpc (fX0_pass s b) (fun r => zQ [5, 11, 12] [(30, 3, 8), (30, 14, 16), (32, 65, 67), (32, 128, 271)] [5, 46, 48] [(38, 3, 6)] (zsl (zsl s 38 0 (s.2 38 0 + b.toInt64)) 38 1 (s.2 38 1 + 1)) r) := by
  unfold fX0_pass
  refine zpc_ck (zpc_bv (fun v9 e9 => zpc_bv (fun v10 e10 => zpc_ck (zpc_bv (fun s11 e11 => zpc_ck (zpc_ck (zpc_bv (fun s12 e12 => zpc_ck (zpc_bv (fun v13 _ => ?_))))))))))
  have e : s12 = zsl (zsl s 38 0 (s.2 38 0 + b.toInt64)) 38 1 (s.2 38 1 + 1) := by rw [e12, e11, e10, e9]; rfl
  rw [← e]
  exact fq_fX0_pass_38 _ _ _ _ _ zQ.rf
theorem t_passx {b : Int32} {v : Int64} (h : zTT (zIb b B) s t) (hF : zF s t) (hW : zWzz s t) : zp2 (fX0_pass s b) (fX12_once_298 t v) (fun r r' => zTT (zIa B) r r' ∧ zF r r' ∧ zWzz r r') := by
  refine zp2_of p_pass (fw_fX12_once_298 (σ0 := t) zQ.rf) (fun r r' q1 q2 => ?_)
  have a0 : zQ [5, 11, 12] [(30, 3, 8), (30, 14, 16), (32, 65, 67), (32, 128, 271)] [5, 46, 48] [(38, 0, 1), (38, 3, 6)] s (zsl (zsl s 38 0 (s.2 38 0 + b.toInt64)) 38 1 (s.2 38 1 + 1)) := zQ.wl (zQ.wl zQ.rf rfl) rfl
  have a : zQ [5, 11, 12] [(30, 3, 8), (30, 14, 16), (32, 65, 67), (32, 128, 271)] [5, 46, 48] [(38, 0, 1), (38, 3, 6)] s r := a0.tr (q1.mono rfl rfl)
  obtain ⟨⟨c0, c1, c2, c3, c4⟩, ms⟩ := h.2.2.2.2.2.2
  have hI : zIa B r r' := by
    refine ⟨h.2.2.2.1.kp a q2 (by decide +kernel) (by decide +kernel), h.2.2.2.2.1.kp a q2 rfl rfl, h.2.2.2.2.2.1.kp a q2 rfl rfl rfl rfl, ⟨?_, ?_, ?_, ?_, ?_⟩, ms.kp q2 rfl rfl rfl⟩
    · rw [q2.lo (k := 4) (a := 0) (b := 2) rfl (j := 0) (by decide) (by decide), q1.lo (k := 38) (a := 0) (b := 2) rfl (j := 0) (by decide) (by decide), c0]
      rfl
    · rw [q2.lo (k := 4) (a := 0) (b := 2) rfl (j := 1) (by decide) (by decide), q1.lo (k := 38) (a := 0) (b := 2) rfl (j := 1) (by decide) (by decide), c1]
      rfl
    · rw [q2.lo (k := 4) (a := 0) (b := 2) rfl (j := 2) (by decide) (by decide), q1.lo (k := 38) (a := 0) (b := 2) rfl (j := 2) (by decide) (by decide), c2]
      rfl
    · rw [q2.lo (k := 4) (a := 0) (b := 2) rfl (j := 2) (by decide) (by decide)]; exact c3
    · rw [q2.lo (k := 4) (a := 0) (b := 2) rfl (j := 2) (by decide) (by decide)]; exact c4
  obtain ⟨k1, k2⟩ := h.kp hI a q2 rfl rfl
  exact ⟨k1, k2.f hF, k2.w hW⟩
/-- what follows an instruction, given the line's end of both -/
def zLe : Prop := ∀ (b : Int32) (B : Int × Int × Int) (s t : zSt), B.2.1 ≤ 1000000000000000 → zTT (zIb b B) s t → zF s t → zWzz s t → zp2 (fX11_endLine s ) (fX12_ends t ) (fun r r' => zTT (zIb b (B.1, B.2.1 + 1, B.2.2 + 228)) r r' ∧ zF r r' ∧ zWzz r r')
theorem zIb.mk {b : Int32} {C : Int} (h : zTT (zIa B) σ μ) (a : zQ [23] [] [] [] σ s) (d : zQ [] [(3, 67, 67)] [4] [] μ t) (v : zVe s t) (e0 : t.2 4 0 = μ.2 4 0 + b.toInt64) (e1 : t.2 4 1 = μ.2 4 1 + 1) (e2 : t.2 4 2 = μ.2 4 2) (e67 : (t.1 3 67).toInt = (μ.1 3 67).toInt + C) : zTT (zIb b (B.1, B.2.1, B.2.2 + C)) s t ∧ zPkk σ s μ t := by
  have hI : zIb b (B.1, B.2.1, B.2.2 + C) s t := by
    obtain ⟨⟨c0, c1, c2, c3, c4⟩, ms⟩ := h.2.2.2.2.2.2
    refine ⟨v, h.2.2.2.2.1.kp a d rfl rfl, h.2.2.2.2.2.1.kp a d rfl rfl rfl rfl, ⟨?_, ?_, ?_, ?_, ?_⟩, ?_⟩
    · rw [e0, a.rlo (k := 38) rfl, c0]
    · rw [e1, a.rlo (k := 38) rfl, c1]
    · rw [e2, a.rlo (k := 38) rfl, c2]
    · rw [e2]; exact c3
    · rw [e2]; exact c4
    · unfold zMs zMt at ms ⊢
      rw [e2, d.o (k := 3) (a := 66) (b := 66) rfl (j := 66) (by decide) (by decide), d.o (k := 0) (a := 3) (b := 3) rfl (j := 3) (by decide) (by decide), e67]
      show B.2.2 + C ≤ _
      omega
  exact h.kp hI a d rfl rfl
theorem zVe.v21 (h : zVe σ μ) {v w : Int32} (r : zr 0 227 v) (e : w = v) : zVe (zsi σ 23 21 v) (zsi μ 3 67 w) := h.w (z_pn23_18 (d := 3) (by decide)) rfl (zGo.r rfl r) (by rw [z_an1]; exact e)
theorem zIb.mono {b : Int32} {C D : Int} (h : zTT (zIb b B) s t) (h1 : B.2.1 ≤ C) (h2 : D ≤ B.2.2) : zTT (zIb b (B.1, C, D)) s t := by
  obtain ⟨a1, a2, a3, v, p, q, ⟨c0, c1, c2, c3, c4⟩, ms⟩ := h
  exact ⟨a1, a2, a3, v, p, q, ⟨c0, c1, c2, c3, Int.le_trans c4 h1⟩, Int.le_trans h2 ms⟩
theorem t_after {b : Int32} (hL : zLe) (hP : B.2.1 ≤ 1000000000000000) (h : zTT (zIa B) σ μ) (hF : zF σ μ) (hW : zWzz σ μ) (hb : zr 1 64 b) {α : Type} {Q : α → zSt → Prop} {f : zSt → Option α} (k : ∀ s t, zTT (zIa (B.1, B.2.1 + 1, B.2.2 + 1)) s t → zF s t → zWzz s t → zp2 (f s) (some t) Q) : zp2 (zbi (fX9_passes σ b) (fun σ3 v4 => if v4 = 0 then zbu (fX0_pass σ3 b) f else zbu (fX11_endLine σ3 ) (fun σ5 => zbu (fX0_pass σ5 b) f))) (fX12_once_229 μ b) Q := by
  have e21 : μ.1 3 67 = σ.1 23 21 := h.2.2.2.1.e21
  have r21 : zr 0 227 (σ.1 23 21) := h.2.2.2.1.2.1.at (k := 23) (j := 21) rfl
  have ra : zr 0 291 (σ.1 23 21 + b) := zr_add r21 hb (by decide)
  have tb : (σ.1 23 21 + b).toInt = (σ.1 23 21).toInt + b.toInt := z_tadd r21 hb (by decide)
  have hb1 := hb.1
  have fin : ∀ (s t : zSt) (v : Int64), zTT (zIb b (B.1, B.2.1 + 1, B.2.2 + 1)) s t → zF s t → zWzz s t → zp2 (zbu (fX0_pass s b) f) (fX12_once_298 t v) Q := fun s t v q1 q2 q3 => zp2_bulp (t_passx q1 q2 q3) (fun r r' q => k r r' q.1 q.2.1 q.2.2)
  unfold fX12_once_229
  refine zp2_ckr (zp2_ckr (zp2_bvr (fun t10 g10 => zp2_ckr (zp2_bvr (fun v11 g11 => zp2_ckr (zp2_ckr (zp2_bvr (fun t12 g12 => zp2_ckr (zp2_ckr (zp2_bvr (fun t13 g13 => zp2_ckr ?_)))))))))))
  have g10 : t10 = zsl μ 4 1 (μ.2 4 1 + 1) := g10
  have g12 : t12 = zsl (zsl μ 4 1 (μ.2 4 1 + 1)) 4 0 (μ.2 4 0 + b.toInt64) := by rw [g12, g10]; rfl
  have c67 : zgi t12 3 (67 : Int32).toNatClampNeg = σ.1 23 21 := by rw [g12]; exact e21
  have g13 : t13 = zsi t12 3 67 (σ.1 23 21 + b) := by rw [g13, c67]; rfl
  have c13 : zgi t13 3 (67 : Int32).toNatClampNeg = σ.1 23 21 + b := by rw [g13]; exact zsi_ej
  rw [c13]
  have v12 : zVe σ t12 := by
    have dq : zQ [] [] [4] [] μ t12 := by rw [g12]; exact zQ.wl (zQ.wl zQ.rf rfl) rfl
    exact h.2.2.2.1.kp (zQ.rf (R := []) (A := []) (S := []) (B := [])) dq (by decide +kernel) (by decide +kernel)
  have q12 : zQ [] [(3, 67, 67)] [4] [] μ t12 := by rw [g12]; exact zQ.wl (zQ.wl zQ.rf rfl) rfl
  by_cases c : 228 ≤ σ.1 23 21 + b
  · have nc : ¬ σ.1 23 21 + b < 228 := fun q => by have := Int32.le_iff_toInt_le.mp c; have := Int32.lt_iff_toInt_lt.mp q; omega
    refine zp2_ifr (fun q => absurd q nc) (fun _ => zp2_ckr (zp2_ckr (zp2_bvr (fun t14 g14 => ?_))))
    have g14 : t14 = zsi t12 3 67 (σ.1 23 21 + b - 228) := by rw [g14, g13]; exact zsi_ow
    refine zp2_bil (P := fun r => r = (zsi σ 23 21 (σ.1 23 21 + b - 228), 1)) ?_ (fun s1 v1 e1 => ?_)
    · unfold fX9_passes
      refine zpc_ck (zpc_ck (zpc_bv (fun s1 f1 => zpc_ck ?_)))
      have d1 : zgi s1 23 (21 : Int32).toNatClampNeg = σ.1 23 21 + b := by rw [f1]; exact zsi_ej
      rw [d1]
      refine zpc_if (fun _ => zpc_ck (zpc_ck (zpc_bv (fun s2 f2 => zpc_ck (zpc_some ?_))))) (fun q => absurd c q)
      have f2 : s2 = zsi σ 23 21 (σ.1 23 21 + b - 228) := by rw [f2, f1]; exact zsi_ow
      rw [f2]
    · cases e1
      refine zp2_ifl (fun q => absurd q (by decide)) (fun _ => ?_)
      have rn : zr 0 227 (σ.1 23 21 + b - 228) := zr_sub (lo := 0) (hi := 227) (zr_ge (k := 228) ra rfl c) (zr_c (lo := 228) (hi := 228) (x := 228) (by decide)) (by decide)
      have ts : (σ.1 23 21 + b - 228).toInt = (σ.1 23 21 + b).toInt - 228 := z_tsub ra (zr_c (lo := 228) (hi := 228) (x := 228) (by decide)) (by decide)
      obtain ⟨k1, k2⟩ := zIb.mk (b := b) (C := b.toInt - 228) (s := zsi σ 23 21 (σ.1 23 21 + b - 228)) (t := t14) h (zQ.wi zQ.rf rfl) (by rw [g14]; exact zQ.wi q12 rfl) (by rw [g14]; exact v12.v21 rn rfl) (by rw [g14, g12]; rfl) (by rw [g14, g12]; rfl) (by rw [g14, g12]; rfl) (by rw [g14, zsi_ej, e21, ts, tb]; omega)
      exact zp2_buu (hL b (B.1, B.2.1, B.2.2 + (b.toInt - 228)) _ _ hP k1 (k2.f hF) (k2.w hW)) (fun s t q => fin s t v11 (zIb.mono (B := (B.1, B.2.1 + 1, B.2.2 + (b.toInt - 228) + 228)) (C := B.2.1 + 1) (D := B.2.2 + 1) q.1 (Int.le_refl _) (by show B.2.2 + 1 ≤ B.2.2 + (b.toInt - 228) + 228; omega)) q.2.1 q.2.2)
  · have lt : σ.1 23 21 + b < 228 := z_nle c
    refine zp2_ifr (fun _ => ?_) (fun q => absurd lt q)
    refine zp2_bil (P := fun r => r = (zsi σ 23 21 (σ.1 23 21 + b), 0)) ?_ (fun s1 v1 e1 => ?_)
    · unfold fX9_passes
      refine zpc_ck (zpc_ck (zpc_bv (fun s1 f1 => zpc_ck ?_)))
      have d1 : zgi s1 23 (21 : Int32).toNatClampNeg = σ.1 23 21 + b := by rw [f1]; exact zsi_ej
      rw [d1]
      refine zpc_if (fun q => absurd q c) (fun _ => zpc_ck (zpc_some ?_))
      rw [f1]
      rfl
    · cases e1
      refine zp2_ifl (fun _ => ?_) (fun q => absurd rfl q)
      have rn : zr 0 227 (σ.1 23 21 + b) := zr_lt (k := 228) ra rfl lt
      obtain ⟨k1, k2⟩ := zIb.mk (b := b) (C := b.toInt) (s := zsi σ 23 21 (σ.1 23 21 + b)) (t := t13) h (zQ.wi zQ.rf rfl) (by rw [g13]; exact zQ.wi q12 rfl) (by rw [g13]; exact v12.v21 rn rfl) (by rw [g13, g12]; rfl) (by rw [g13, g12]; rfl) (by rw [g13, g12]; rfl) (by rw [g13, zsi_ej, e21, tb])
      exact fin _ _ v11 (zIb.mono (B := (B.1, B.2.1, B.2.2 + b.toInt)) (C := B.2.1 + 1) (D := B.2.2 + 1) k1 (by show B.2.1 ≤ B.2.1 + 1; omega) (by show B.2.2 + 1 ≤ B.2.2 + b.toInt; omega)) (k2.f hF) (k2.w hW)
/-- one step of both -/
theorem t_step (hL : zLe) (h : zTT (zIa B) σ μ) (hF : zF σ μ) (hW : zWzz σ μ) (hB : B.1 ≤ 1000000000000000) (hP : B.2.1 ≤ 1000000000000000) {Q : zSt × Int32 → zSt → Prop} {k15 : zSt → Int32 → Int64 → Int32 → Option (zSt × Int32)} {x1 x5 : Int32} {x3 : Int64} (k : ∀ s t, zTT (zIa (B.1 + 1, B.2.1 + 1, B.2.2 + 1)) s t → zF s t → zWzz s t → zp2 (zbv (x5 + 1) (fun v2 => k15 s x1 x3 v2)) (some t) Q) : zp2 (fX11_run_65 k15 σ x1 x3 x5 (σ.1 36 19)) (fX12_once μ ) Q := by
  unfold fX11_run_65 fX12_once
  refine t_note h hF hW hB (fun s t q1 q2 q3 => ?_)
  obtain ⟨a, hc, ha⟩ := t_asks q1.2.2.2.1
  refine zp2_bil hc (fun s1 v e => ?_)
  cases e
  refine t_once zIoK_a zPorts_a q1 q2 q3 ha (F := fun σ b => fX11_run_104 k15 σ x1 x3 x5 b) (fun s t b r1 r2 r3 rb => ?_)
  unfold fX11_run_104 fX11_run_120
  exact t_after (B := (B.1 + 1, B.2.1, B.2.2)) hL hP r1 r2 r3 rb k
end ZS1
