/-! THE PAINTER, 10: THE REFERENCE'S OLD MODES -/
theorem zmd_c (a b : Int32) : zmd a b = 0 ∨ zmd a b = 1 ∨ zmd a b = 2 ∨ zmd a b = 3 ∨ zmd a b = 4 := by
  unfold zmd
  by_cases q1 : a &&& 4 = 0
  · rw [if_pos q1]
    by_cases q2 : b &&& 16 = 0
    · rw [if_pos q2]
      by_cases q3 : b &&& 8 = 0
      · rw [if_pos q3]
        by_cases q4 : a &&& 2 = 0
        · rw [if_pos q4]; exact Or.inl rfl
        · rw [if_neg q4]; exact Or.inr (Or.inr (Or.inl rfl))
      · rw [if_neg q3]; exact Or.inr (Or.inr (Or.inr (Or.inl rfl)))
    · rw [if_neg q2]; exact Or.inr (Or.inl rfl)
  · rw [if_neg q1]; exact Or.inr (Or.inr (Or.inr (Or.inr rfl)))
theorem z_b01 {x : Int32} : x &&& 1 = 1 ↔ ¬ x &&& 1 = 0 := by
  rw [zbt_m0]
  cases zbt 0 x
  · exact ⟨fun z => absurd z (by decide), fun z => absurd rfl z⟩
  · exact ⟨fun _ => by decide, fun _ => rfl⟩
theorem v_o1 : ∀ c : Fin 256, 1024 * (zrem (Int32.ofNat c.val) 16) = 1024 * (Int32.ofNat c.val &&& 15) ∧ 2048 * (zrem (Int32.ofNat c.val) 8) = 2048 * (Int32.ofNat c.val &&& 7) ∧ zrem (Int32.ofNat c.val) 4 = Int32.ofNat c.val &&& 3 ∧ zrem (Int32.ofNat c.val) 128 = Int32.ofNat c.val &&& 127 ∧ Int32.ofNat c.val / 64 = Int32.ofNat c.val >>> ((6 : Int32) &&& 31) ∧ zrem (Int32.ofNat c.val / 8) 4 = (Int32.ofNat c.val >>> ((3 : Int32) &&& 31)) &&& 3 ∧ zrem (Int32.ofNat c.val / 4) 2 = (Int32.ofNat c.val >>> ((2 : Int32) &&& 31)) &&& 1 ∧ Int32.ofNat c.val >>> ((7 : Int32) &&& 31) = (if Int32.ofNat c.val &&& 128 = 0 then 0 else 1) := by decide +kernel
theorem z_o1 {x : Int32} (h : zr 0 255 x) : 1024 * (zrem x 16) = 1024 * (x &&& 15) ∧ 2048 * (zrem x 8) = 2048 * (x &&& 7) ∧ zrem x 4 = x &&& 3 ∧ zrem x 128 = x &&& 127 ∧ x / 64 = x >>> ((6 : Int32) &&& 31) ∧ zrem (x / 8) 4 = (x >>> ((3 : Int32) &&& 31)) &&& 3 ∧ zrem (x / 4) 2 = (x >>> ((2 : Int32) &&& 31)) &&& 1 ∧ x >>> ((7 : Int32) &&& 31) = (if x &&& 128 = 0 then 0 else 1) := by
  obtain ⟨c, e⟩ := z_byteF h
  rw [e]
  exact v_o1 c
theorem v_j8 : ∀ j : Fin 256, Int32.ofNat j.val / 8 = Int32.ofNat (j.val / 8) ∧ zrem (Int32.ofNat j.val) 8 = Int32.ofNat (j.val % 8) ∧ (8 ≤ j.val → (Int32.ofNat j.val - 8) / 6 = Int32.ofNat ((j.val - 8) / 6) ∧ zrem (Int32.ofNat j.val - 8) 6 = Int32.ofNat ((j.val - 8) % 6)) := by decide +kernel
theorem v_240 : ∀ x : Fin 8, ((240 : Int32) >>> ((7 - Int32.ofNat x.val) &&& 31)) &&& 1 = 0 ↔ 4 ≤ Int32.ofNat x.val := by decide +kernel
def oDt (σ : zSt) (m L : Int32) (j : Nat) : Int32 := if m = 1 then oTd σ L j else gDo (oBt σ m L (Int32.ofNat (j / 8))) (oPr σ m L (Int32.ofNat (j / 8))) (Int32.ofNat (j % 8))
section ZTA
variable {σ μ s t : zSt}
theorem oPr_r (h : zVe σ μ) {m L c : Int32} : zr 0 255 (oPr σ m L c) := by
  unfold oPr
  by_cases q : m = 0
  · rw [if_pos q]; exact vb_r h.1 _
  · rw [if_neg q]
    by_cases p : m = 2
    · rw [if_pos p]; exact vb_r h.1 _
    · rw [if_neg p]; exact vb_r h.1 _
theorem oDt_r (h : zVe σ μ) {m L : Int32} {j : Nat} : zr 0 15 (oDt σ m L j) := by
  unfold oDt
  by_cases q : m = 1
  · rw [if_pos q]
    unfold oTd
    by_cases p : 8 ≤ j ∧ j < 248
    · rw [if_pos p]; exact gDo_r (h.rj (j := 7) (by decide))
    · rw [if_neg p]; exact zr_c (by decide)
  · rw [if_neg q]; exact gDo_r (oPr_r h)
theorem m_old (h : zVe σ μ) (hd : zdM μ t) {L : Int32} (hL : zr 0 239 L) {j : Nat} (hj : j < 256) (hm4 : ¬ zmd (σ.1 23 0) (σ.1 23 1) = 4) : zpc (fX12_old t L (Int32.ofNat j)) (fun r => r = (t, oDt σ (zmd (σ.1 23 0) (σ.1 23 1)) L j)) := by
  have f0 : t.1 3 47 = σ.1 23 0 := h.ej hd (j := 0) (by decide)
  have f1 : t.1 3 48 = σ.1 23 1 := h.ej hd (j := 1) (by decide)
  have f2 : t.1 3 (47 + (2 : Int32)).toNatClampNeg = σ.1 23 2 := h.ej hd (j := 2) (by decide)
  have f3 : t.1 3 (47 + (3 : Int32)).toNatClampNeg = σ.1 23 3 := h.ej hd (j := 3) (by decide)
  have f4 : t.1 3 (47 + (4 : Int32)).toNatClampNeg = σ.1 23 4 := h.ej hd (j := 4) (by decide)
  have f7 : t.1 3 (47 + (7 : Int32)).toNatClampNeg = σ.1 23 7 := h.ej hd (j := 7) (by decide)
  have r2 := h.rj (j := 2) (by decide)
  have r3 := h.rj (j := 3) (by decide)
  have r4 := h.rj (j := 4) (by decide)
  have b42 := p_bit_4_2 (μ := t) (by rw [show t.1 3 51 = σ.1 23 4 from f4]; exact r4)
  have b37 := p_bit_3_7 (μ := t) (by rw [show t.1 3 50 = σ.1 23 3 from f3]; exact r3)
  rw [show t.1 3 51 = σ.1 23 4 from f4] at b42
  rw [show t.1 3 50 = σ.1 23 3 from f3] at b37
  have pm := p_modeM (μ := t) (by rw [f0]; exact h.r0) (by rw [f1]; exact h.r1)
  rw [f0, f1] at pm
  obtain ⟨M, eM⟩ : ∃ M, M = zmd (σ.1 23 0) (σ.1 23 1) := ⟨_, rfl⟩
  have mc := zmd_c (σ.1 23 0) (σ.1 23 1)
  rw [← eM] at mc hm4 pm
  rw [← eM]
  have hL8 : zr 0 255 L := zr_w hL (by decide)
  obtain ⟨l8, l7⟩ := z_d8 hL8
  obtain ⟨_, _, _, _, l64, l84, l42, _⟩ := z_o1 hL8
  obtain ⟨j8, jm, j6⟩ := v_j8 ⟨j, hj⟩
  have j8 : Int32.ofNat j / 8 = Int32.ofNat (j / 8) := j8
  have jm : zrem (Int32.ofNat j) 8 = Int32.ofNat (j % 8) := jm
  unfold fX12_old
  refine zpc_bi p_reg (fun t1 w e => zpc_ck (zpc_bv (fun v3 e3 => ?_)))
  cases e
  rw [f2, (z_o1 r2).1] at e3
  refine zpc_bi p_reg (fun t1 w e => zpc_ck (zpc_bv (fun v6 e6 => ?_)))
  cases e
  rw [f4, (z_o1 r4).2.1] at e6
  have e3 : v3 = oNa σ := e3
  have e6 : v6 = oPg σ := e6
  subst e3
  subst e6
  refine zpc_bi pm (fun t1 w e => ?_)
  cases e
  refine zpc_if (fun m1 => ?_) (fun m1 => ?_)
  · -- text
    have done : ¬ (8 ≤ j ∧ j < 248) → zpc (fX12_old_48 t) (fun r => r = (t, oDt σ M L j)) := fun n => by
      unfold fX12_old_48
      refine zpc_some ?_
      unfold oDt oTd
      rw [if_pos m1, if_neg n]
    have c8 : Int32.ofNat j < 8 ↔ j < 8 := by
      rw [Int32.lt_iff_toInt_lt, z_ofI (by omega), show (8 : Int32).toInt = 8 from rfl]
      omega
    have c247 : Int32.ofNat j ≤ 247 ↔ j < 248 := by
      rw [Int32.le_iff_toInt_le, z_ofI (by omega), show (247 : Int32).toInt = 247 from rfl]
      omega
    refine zpc_if (fun q => done (fun z => by have := c8.mp q; omega)) (fun q => zpc_if (fun p => ?_) (fun p => done (fun z => p (c247.mpr z.2))))
    have j1 : 8 ≤ j := by
      have : ¬ j < 8 := fun z => q (c8.mpr z)
      omega
    have j2 := c247.mp p
    obtain ⟨a6, b6⟩ := j6 j1
    have a6 : (Int32.ofNat j - 8) / 6 = Int32.ofNat ((j - 8) / 6) := a6
    have b6 : zrem (Int32.ofNat j - 8) 6 = Int32.ofNat ((j - 8) % 6) := b6
    rw [l8, a6, l7, b6]
    refine zpc_ck (zpc_ck (zpc_bi (p_v8 h.1 hd.v) (fun t1 w e => zpc_ck ?_)))
    cases e
    refine zpc_bi (p_v8 h.1 hd.v) (fun t1 w e => zpc_ck (zpc_bv (fun v42 e42 => ?_)))
    cases e
    have eX : vb σ ((oPg σ + (8 * vb σ ((oNa σ + (40 * (L >>> ((3 : Int32) &&& 31)))) + Int32.ofNat ((j - 8) / 6)))) + (L &&& 7)) = oTx σ L (Int32.ofNat ((j - 8) / 6)) := rfl
    rw [eX] at e42
    have eR : oDt σ M L j = gDo (oTx σ L (Int32.ofNat ((j - 8) / 6))) (σ.1 23 7) (Int32.ofNat ((j - 8) % 6)) := by
      unfold oDt oTd
      rw [if_pos m1, if_pos ⟨j1, j2⟩]
    rw [eR]
    unfold gDo fX12_old_131
    refine zpc_if (fun z => ?_) (fun z => ?_)
    · rw [e42] at z
      refine zpc_bi p_reg (fun t1 w e => zpc_some ?_)
      cases e
      rw [f7, if_neg (z_b01.mp z)]
    · rw [e42] at z
      refine zpc_bi p_reg (fun t1 w e => zpc_some ?_)
      cases e
      rw [f7, if_pos (Decidable.byContradiction (fun y => z (z_b01.mpr y)))]
  · have eR : oDt σ M L j = gDo (oBt σ M L (Int32.ofNat (j / 8))) (oPr σ M L (Int32.ofNat (j / 8))) (Int32.ofNat (j % 8)) := by
      unfold oDt
      rw [if_neg m1]
    rw [eR, l8, j8]
    refine zpc_ck (zpc_ck (zpc_bi (p_v8 h.1 hd.v) (fun t1 w e => ?_)))
    cases e
    have eT : vb σ ((oNa σ + (32 * (L >>> ((3 : Int32) &&& 31)))) + Int32.ofNat (j / 8)) = oTi σ L (Int32.ofNat (j / 8)) := rfl
    rw [eT]
    have rT : zr 0 255 (oTi σ L (Int32.ofNat (j / 8))) := vb_r h.1 _
    refine zpc_bi pm (fun t1 w e => ?_)
    cases e
    have l367 : ∀ b p : Int32, b = oBt σ M L (Int32.ofNat (j / 8)) → p = oPr σ M L (Int32.ofNat (j / 8)) → zpc (fX12_old_367 t (Int32.ofNat j) b p) (fun r => r = (t, gDo (oBt σ M L (Int32.ofNat (j / 8))) (oPr σ M L (Int32.ofNat (j / 8))) (Int32.ofNat (j % 8)))) := fun b p eb ep => by
      unfold fX12_old_367 fX12_old_395 gDo
      rw [jm, eb, ep]
      refine zpc_ck (zpc_if (fun z => zpc_some ?_) (fun z => zpc_some ?_))
      · rw [if_neg (z_b01.mp z)]
      · rw [if_pos (Decidable.byContradiction (fun y => z (z_b01.mpr y)))]
    refine zpc_if (fun m3 => ?_) (fun m3 => ?_)
    · -- blocks
      have n0 : ¬ M = 0 := fun z => by rw [z] at m3; exact absurd m3 (by decide)
      have n2 : ¬ M = 2 := fun z => by rw [z] at m3; exact absurd m3 (by decide)
      have k84 : zrem (L >>> ((3 : Int32) &&& 31)) 4 = (L >>> ((3 : Int32) &&& 31)) &&& 3 := by
        have z := l84
        rw [l8] at z
        exact z
      rw [k84, l42, jm]
      refine zpc_ck (zpc_ck (zpc_ck (zpc_ck (zpc_bi (p_v8 h.1 hd.v) (fun t1 w e => zpc_ck ?_)))))
      cases e
      have eP : vb σ (((oPg σ + (8 * oTi σ L (Int32.ofNat (j / 8)))) + (2 * ((L >>> ((3 : Int32) &&& 31)) &&& 3))) + ((L >>> ((2 : Int32) &&& 31)) &&& 1)) = oPr σ M L (Int32.ofNat (j / 8)) := by
        unfold oPr
        rw [if_neg n0, if_neg n2]
      have eB : oBt σ M L (Int32.ofNat (j / 8)) = 240 := by
        unfold oBt
        rw [if_neg n0, if_neg n2]
      rw [eP, eB]
      have q240 := v_240 ⟨j % 8, by omega⟩
      have q240 : ((240 : Int32) >>> ((7 - Int32.ofNat (j % 8)) &&& 31)) &&& 1 = 0 ↔ 4 ≤ Int32.ofNat (j % 8) := q240
      unfold gDo fX12_old_209
      refine zpc_if (fun z => zpc_some ?_) (fun z => zpc_some ?_)
      · rw [if_pos (q240.mpr z)]
      · rw [if_neg (fun y => z (q240.mp y))]
    · refine zpc_bi pm (fun t1 w e => ?_)
      cases e
      refine zpc_if (fun m0 => ?_) (fun m0 => ?_)
      · -- mode 0
        rw [l7]
        refine zpc_ck (zpc_bi (p_v8 h.1 hd.v) (fun t1 w e => ?_))
        cases e
        refine zpc_bi p_reg (fun t1 w e => zpc_ck ?_)
        cases e
        rw [f3, (z_d8 rT).1]
        refine zpc_bi (p_v8 h.1 hd.v) (fun t1 w e => ?_)
        cases e
        refine l367 _ _ ?_ ?_
        · unfold oBt; rw [if_pos m0]
        · unfold oPr; rw [if_pos m0]
      · have m2 : M = 2 := by
          rcases mc with z | z | z | z | z
          · exact absurd z m0
          · exact absurd z m1
          · exact z
          · exact absurd z m3
          · exact absurd z hm4
        rw [l64, l7]
        refine zpc_ck (zpc_bv (fun v15 e15 => ?_))
        have e15 : v15 = oT2 σ L (Int32.ofNat (j / 8)) := e15
        subst e15
        refine zpc_bi p_reg (fun t1 w e => zpc_ck (zpc_bv (fun v18 e18 => ?_)))
        cases e
        rw [f4, (z_o1 r4).2.2.1] at e18
        refine zpc_bi p_reg (fun t1 w e => zpc_ck (zpc_bv (fun v21 e21 => ?_)))
        cases e
        rw [f3, (z_o1 r3).2.2.2.1] at e21
        refine zpc_bi b42 (fun t1 w e => zpc_ck ?_)
        cases e
        refine zpc_bi (p_v8 h.1 hd.v) (fun t1 w e => ?_)
        cases e
        refine zpc_bi b37 (fun t1 w e => zpc_ck ?_)
        cases e
        refine zpc_bi (p_v8 h.1 hd.v) (fun t1 w e => ?_)
        cases e
        refine l367 _ _ ?_ ?_
        · unfold oBt
          rw [if_neg m0, if_pos m2, z_b2 r4, e18]
        · unfold oPr
          rw [if_neg m0, if_pos m2, (z_o1 r3).2.2.2.2.2.2.2, e21]
/-- the reference: a line of an old mode -/
theorem m_213 (h : zVe σ μ) {L bk : Int32} (hL : zr 0 239 L) (hm4 : ¬ zmd (σ.1 23 0) (σ.1 23 1) = 4) {o : zSt} {O : Option zSt} {Q : zSt → zSt → Prop} : ∀ (n i : Nat) (t : zSt), i ≤ 256 → zdM μ t → t.1 3 = o.1 3 → t.1 9 = o.1 9 → (∀ j : Nat, j < 256 → t.1 24 j = 0 ∧ t.1 25 j = 0) → (∀ j : Nat, j < i → t.1 22 j = if oDt σ (zmd (σ.1 23 0) (σ.1 23 1)) L j = 0 then bk else oDt σ (zmd (σ.1 23 0) (σ.1 23 1)) L j) → (∀ t : zSt, zdM μ t → t.1 3 = o.1 3 → t.1 9 = o.1 9 → (∀ j : Nat, j < 256 → t.1 24 j = 0 ∧ t.1 25 j = 0) → (∀ j : Nat, j < 256 → t.1 22 j = if oDt σ (zmd (σ.1 23 0) (σ.1 23 1)) L j = 0 then bk else oDt σ (zmd (σ.1 23 0) (σ.1 23 1)) L j) → zp2 O (zbi (fX12_mode t ) (fun σ9 v10 => if v10 = 1 then fX12_draws_264 σ9 L else zbu (fX12_oldSprites σ9 L) (fun σ11 => fX12_draws_264 σ11 L))) Q) → zp2 O (fX12_draws_213 n t L bk (Int32.ofNat i)) Q := by
  intro n
  induction n with
  | zero => intro i t _ _ _ _ _ _ _; exact zp2_nr
  | succ n ih =>
    intro i t hi hd e3 e9 h0 hin k
    show zp2 O (fX12_draws_213_body (fX12_draws_213 n) t L bk (Int32.ofNat i)) Q
    unfold fX12_draws_213_body
    refine zp2_ifr (fun q => ?_) (fun q => ?_)
    · have := (z_ofL (k := 256) (by omega) rfl).mp q
      exact k t hd e3 e9 h0 (fun j hj => hin j (by omega))
    have hi2 : i < 256 := by
      have : ¬ 256 ≤ i := fun z => q ((z_ofL (c := 256) (k := 256) (i := i) (by omega) rfl).mpr z)
      omega
    refine zp2_bir (m_old h hd hL hi2 hm4) (fun t1 v1 e1 => ?_)
    cases e1
    have nx : ∀ v, v = (if oDt σ (zmd (σ.1 23 0) (σ.1 23 1)) L i = 0 then bk else oDt σ (zmd (σ.1 23 0) (σ.1 23 1)) L i) → zp2 O (fX12_draws_244 (fX12_draws_213 n) t L bk (Int32.ofNat i) v (Int32.ofNat i)) Q := fun v ev => by
      unfold fX12_draws_244
      rw [z_ofC (by omega), z_ofS (by omega)]
      refine zp2_ckr (zp2_bvr (fun t1 g1 => zp2_bvr (fun x ex => ?_)))
      subst ex
      refine ih (i + 1) t1 (by omega) (by rw [g1]; exact zQ.wi hd rfl) (by rw [g1, zsi_ne (by decide)]; exact e3) (by rw [g1, zsi_ne (by decide)]; exact e9) (fun j hj => by rw [g1, zsi_ne (by decide), zsi_ne (by decide)]; exact h0 j hj) (fun j hj => ?_) k
      by_cases z : j = i
      · rw [z, g1, zsi_ej, ev]
      · rw [g1, zsi_nj z]; exact hin j (by omega)
    refine zp2_ifr (fun z => nx _ ?_) (fun z => nx _ ?_)
    · rw [if_pos z]
    · rw [if_neg z]
end ZTA
