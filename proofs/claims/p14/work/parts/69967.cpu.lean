/-! THE PAINTER, 8: THE FOURTH MODE, AND NO PICTURE -/
section ZT8
variable {σ μ s t : zSt}
theorem c_fill27 {v : Int32} {o : zSt} : ∀ (n i : Nat) (s : zSt), i ≤ 256 → zdC σ s → s.1 25 = o.1 25 → s.1 23 = o.1 23 → (∀ j : Nat, j < i → s.1 27 j = v) → zpc (fJ7_fill_53178_k27_5 n s v (Int32.ofNat i) 256) (fun r => zdC σ r ∧ r.1 25 = o.1 25 ∧ r.1 23 = o.1 23 ∧ ∀ j : Nat, j < 256 → r.1 27 j = v) := by
  intro n
  induction n with
  | zero => intro i s _ _ _ _ _; exact zpc_none
  | succ n ih =>
    intro i s hi hd e25 e23 hin
    show zpc (fJ7_fill_53178_k27_5_body (fJ7_fill_53178_k27_5 n) s v (Int32.ofNat i) 256) _
    unfold fJ7_fill_53178_k27_5_body
    refine zpc_if (fun q => zpc_some ?_) (fun q => ?_)
    · have := (z_ofL (k := 256) (by omega) rfl).mp q
      exact ⟨hd, e25, e23, fun j hj => hin j (by omega)⟩
    have hi2 : i < 256 := by
      have : ¬ 256 ≤ i := fun z => q ((z_ofL (c := 256) (k := 256) (i := i) (by omega) rfl).mpr z)
      omega
    rw [z_ofC (by omega), z_ofS (by omega)]
    refine zpc_ck (zpc_bv (fun s1 g1 => zpc_bv (fun x ex => ?_)))
    subst ex
    refine ih (i + 1) s1 (by omega) (by rw [g1]; exact zQ.wi hd rfl) (by rw [g1, zsi_ne (by decide)]; exact e25) (by rw [g1, zsi_ne (by decide)]; exact e23) (fun j hj => ?_)
    by_cases z : j = i
    · rw [z, g1, zsi_ej]
    · rw [g1, zsi_nj z]; exact hin j (by omega)
theorem c_fill8 {v : Int32} {o : zSt} : ∀ (n i : Nat) (s : zSt), i ≤ 8 → zdC σ s → s.1 25 = o.1 25 → s.1 23 = o.1 23 → (∀ j : Nat, j < i → s.1 27 j = v) → (∀ j : Nat, i ≤ j → s.1 27 j = o.1 27 j) → zpc (fJ7_fill_fda19_k27_10 n s 8 v (Int32.ofNat i)) (fun r => zdC σ r ∧ r.1 25 = o.1 25 ∧ r.1 23 = o.1 23 ∧ ∀ j : Nat, j < 256 → r.1 27 j = if j < 8 then v else o.1 27 j) := by
  intro n
  induction n with
  | zero => intro i s _ _ _ _ _ _; exact zpc_none
  | succ n ih =>
    intro i s hi hd e25 e23 hin hout
    show zpc (fJ7_fill_fda19_k27_10_body (fJ7_fill_fda19_k27_10 n) s 8 v (Int32.ofNat i)) _
    unfold fJ7_fill_fda19_k27_10_body
    refine zpc_if (fun q => zpc_some ?_) (fun q => ?_)
    · have := (z_ofL (k := 8) (by omega) rfl).mp q
      refine ⟨hd, e25, e23, fun j hj => ?_⟩
      by_cases z : j < 8
      · rw [if_pos z]; exact hin j (by omega)
      · rw [if_neg z]; exact hout j (by omega)
    have hi2 : i < 8 := by
      have : ¬ 8 ≤ i := fun z => q ((z_ofL (c := 8) (k := 8) (i := i) (by omega) rfl).mpr z)
      omega
    rw [z_ofC (by omega), z_ofS (by omega)]
    refine zpc_ck (zpc_bv (fun s1 g1 => zpc_bv (fun x ex => ?_)))
    subst ex
    refine ih (i + 1) s1 (by omega) (by rw [g1]; exact zQ.wi hd rfl) (by rw [g1, zsi_ne (by decide)]; exact e25) (by rw [g1, zsi_ne (by decide)]; exact e23) (fun j hj => ?_) (fun j hj => by rw [g1, zsi_nj (by omega)]; exact hout j (by omega))
    by_cases z : j = i
    · rw [z, g1, zsi_ej]
    · rw [g1, zsi_nj z]; exact hin j (by omega)
/-- what a line's dots are -/
def zDt (σ s t : zSt) : Prop := ∀ j : Nat, j < 256 → ∃ v : Nat, v < 32 ∧ (zmd (σ.1 23 0) (σ.1 23 1) = 4 ∨ v < 16) ∧ t.1 22 j = Int32.ofNat v ∧ s.1 27 j &&& 31 = Int32.ofNat v
def zFi (σ μ r r' : zSt) : Prop := zVe r r' ∧ zdC σ r ∧ zdM μ r'
theorem t_d144 (h : zVe σ μ) {L : Int32} (hL : zr 0 239 L) (hs : zdC σ s) (hd : zdM μ t) (hst : zStt s t) (hp : ∀ j : Nat, j < 61440 → t.1 9 j = s.1 25 j) (hn : zDt σ s t) : zp2 (fX3_draw_144 s L (zmd (σ.1 23 0) (σ.1 23 1))) (fX12_draws_302 zfuel t L 0) (zFi σ μ) := by
  unfold fX3_draw_144 fX3_mixColours
  refine zp2_bul (c_mix (σ := σ) (o := s) zfuel 0 s (by decide) hs rfl rfl rfl (fun j hj => absurd hj (by omega))) (fun s1 q => ?_)
  obtain ⟨q1, q2, q3, q4, q5⟩ := q
  refine t_302 h hL zfuel zfuel 0 s1 t (by decide) q1 hd ?_ (fun j hj => ?_) q5 (fun j hj => ?_)
  · unfold zStt
    rw [q4]
    exact hst
  · rw [q3]; exact hp j hj
  · rw [q2]; exact hn j hj
theorem v_bk : ∀ c : Fin 256, (Int32.ofNat c.val &&& 15) = Int32.ofNat (c.val % 16) ∧ zrem (Int32.ofNat c.val) 16 = Int32.ofNat (c.val % 16) := by decide +kernel
theorem v_31 : ∀ c : Fin 32, Int32.ofNat c.val &&& 31 = Int32.ofNat c.val := by decide +kernel
theorem v_16p : ∀ c : Fin 16, 16 + Int32.ofNat c.val = Int32.ofNat (16 + c.val) ∧ 0 + Int32.ofNat c.val = Int32.ofNat c.val := by decide +kernel
theorem v_oc : ∀ c : Fin 32, (Int32.ofNat c.val + 0) &&& 31 = Int32.ofNat c.val ∧ (Int32.ofNat c.val + 256) &&& 31 = Int32.ofNat c.val ∧ (Int32.ofNat c.val + 0) &&& 256 = 0 ∧ ¬ (Int32.ofNat c.val + 256) &&& 256 = 0 := by decide +kernel
/-- the fourth mode -/
theorem t_mode4 (h : zVe σ μ) {L bk : Int32} {b : Nat} (hL : zr 0 239 L) (hb : bk = Int32.ofNat b) (hb2 : b < 32) (hm : zmd (σ.1 23 0) (σ.1 23 1) = 4) (hs : zdC σ s) (hd : zdM μ t) (hst : zStt s t) (hp : ∀ j : Nat, j < 61440 → t.1 9 j = s.1 25 j) (h24 : ∀ j : Nat, j < 256 → t.1 24 j = 0 ∧ t.1 25 j = 0) : zp2 (zbu (fX3_drawTiles s L) (fun σ12 => zbu (fX3_drawSprites σ12 L) (fun σ13 => zbi (fX9_held σ13 0) (fun σ14 v15 => if (v15 &&& 32) = 0 then fX3_draw_144 σ14 L (zmd (σ.1 23 0) (σ.1 23 1)) else zbu (fJ7_fill_fda19_k27 σ14 0 8 bk) (fun σ16 => fX3_draw_144 σ16 L (zmd (σ.1 23 0) (σ.1 23 1))))))) (fX12_draws_97 zfuel t L bk 0) (zFi σ μ) := by
  refine zp2_bul (c_tiles (L := L) h hs) (fun s1 q => ?_)
  obtain ⟨⟨q1, q3, q4⟩, q2⟩ := q
  refine m_97 h hL (o := t) zfuel 0 t (by decide) hd rfl rfl h24 (fun j hj => absurd hj (by omega)) (fun t1 hd1 e3 e9 h24' e22 => ?_)
  have hst1 : zStt s1 t1 := by
    unfold zStt
    rw [q4, e3]
    exact hst
  refine zp2_buu (t_sprites h q1 hd1 hst1 (fun j hj => (h24' j hj).1)) (fun r t2 q => ?_)
  obtain ⟨w1, w2, w3, w4, w5, w6, w7, w8⟩ := q
  have hpr : ∀ j : Nat, j < 61440 → t2.1 9 j = r.1 25 j := fun j hj => by rw [w6, w3, e9, q3]; exact hp j hj
  have g0 : r.1 23 (0 : Int32).toNatClampNeg = σ.1 23 0 := w1.r (j := 0) (by decide)
  refine zp2_bil (p_held (x := 0) (zr_c (by decide))) (fun r1 v1 e1 => ?_)
  cases e1
  rw [g0]
  -- the dots behind the sprites
  have dots : ∀ j : Nat, j < 256 → ∃ v : Nat, v < 32 ∧ (if t2.1 24 j ≤ 0 then t2.1 22 j else if t2.1 23 j = 0 then t2.1 24 j else t2.1 22 j) = Int32.ofNat v ∧ r.1 27 j &&& 31 = Int32.ofNat v := fun j hj => by
    obtain ⟨z1, z2⟩ := w8 j hj
    obtain ⟨y1, y2⟩ := e22 j hj
    have x1 := q2 j hj
    obtain ⟨N, eN⟩ : ∃ N, N = tNu σ (tNm σ) (tAc σ L) (tSt σ) (tDn σ L) L (Int32.ofNat j) := ⟨_, rfl⟩
    obtain ⟨w, ew⟩ : ∃ w, w = tBi σ (tNm σ) (tAc σ L) (tSt σ) (tDn σ L) L (Int32.ofNat j) := ⟨_, rfl⟩
    rw [← eN, ← ew] at y1 y2 x1
    have rN : zr 0 15 N := by
      rw [eN]
      unfold tNu
      refine (z_gnum h.1 ?_).2
      have r7 : zr 0 7 (tCo (tAc σ L) (Int32.ofNat j) &&& 7) := zr_andr (lo := 0) (hi := 7) (zr_c (lo := 7) (hi := 7) (by decide)) (by decide)
      unfold tPc
      by_cases q : tBi σ (tNm σ) (tAc σ L) (tSt σ) (tDn σ L) L (Int32.ofNat j) &&& 512 = 0
      · rw [if_pos q]; exact r7
      · rw [if_neg q]; exact zr_sub (lo := 0) (hi := 7) (zr_c (lo := 7) (hi := 7) (x := 7) (by decide)) r7 (by decide)
    have r16 : zr 0 16 (o16 w) := by
      unfold o16
      by_cases q : w &&& 2048 = 0
      · rw [if_pos q]; exact zr_c (by decide)
      · rw [if_neg q]; exact zr_c (by decide)
    have rS : zr 0 31 (N + o16 w) := zr_add rN r16 (by decide)
    obtain ⟨c, ec⟩ := z_F (m := 32) rS (by decide)
    obtain ⟨c1, c2, c3, c4⟩ := v_oc c
    rw [← ec] at c1 c2 c3 c4
    obtain ⟨d, ed⟩ := z_F (m := 32) z1 (by decide)
    have d1 := v_31 d
    rw [← ed] at d1
    have ox : s1.1 27 j = (N + o16 w) + (if oAh N w = 0 then 0 else 256) := x1
    rw [w5, w4, y1, y2, z2, ox]
    by_cases a : t2.1 24 j ≤ 0
    · rw [if_pos a, if_pos a]
      refine ⟨c.val, c.isLt, ec, ?_⟩
      by_cases b : oAh N w = 0
      · rw [if_pos b, c1, ec]
      · rw [if_neg b, c2, ec]
    · rw [if_neg a, if_neg a]
      by_cases b : oAh N w = 0
      · rw [if_pos b, if_pos b, if_pos c3]
        exact ⟨d.val, d.isLt, ed, by rw [d1, ed]⟩
      · rw [if_neg b, if_neg b, if_neg c4]
        exact ⟨c.val, c.isLt, ec, by rw [c2, ec]⟩
  refine m_123 (μ := μ) (o := t2) zfuel 0 t2 (by decide) w2 rfl rfl rfl rfl (fun j hj => absurd hj (by omega)) (fun _ _ => rfl) (fun t3 hd3 a3 a9 a22 => ?_)
  refine m_168 h (o := t3) zfuel 0 t3 (by decide) hd3 rfl rfl (Or.inl rfl) (fun j hj => absurd hj (by omega)) (fun _ _ => rfl) (fun t4 hd4 b3 b9 b22 => ?_)
  have st4 : ∀ r2 : zSt, r2.1 23 = r.1 23 → zStt r2 t4 := fun r2 e => by
    unfold zStt
    rw [e, b3, a3]
    exact w7
  have pp4 : ∀ r2 : zSt, r2.1 25 = r.1 25 → ∀ j : Nat, j < 61440 → t4.1 9 j = r2.1 25 j := fun r2 e j hj => by
    rw [e, b9, a9]
    exact hpr j hj
  by_cases p : σ.1 23 0 &&& 32 = 0
  · rw [if_pos p]
    refine t_d144 h hL w1 hd4 (st4 r rfl) (pp4 r rfl) (fun j hj => ?_)
    obtain ⟨v, v1, v2, v3⟩ := dots j hj
    refine ⟨v, v1, Or.inl hm, ?_, v3⟩
    rw [b22 j hj, if_neg (fun z => z.2 p), a22 j hj]
    exact v2
  · rw [if_neg p]
    unfold fJ7_fill_fda19_k27 fJ7_rangeCheck_23922
    refine zp2_ubu (P := fun x => x = r) (zpc_if (fun _ => zpc_if (fun _ => zpc_if (fun _ => zpc_some rfl) (fun z => absurd (by decide) z)) (fun z => absurd (by decide) z)) (fun z => absurd (by decide) z)) (fun r1 e1 => ?_)
    subst e1
    refine zp2_bul (c_fill8 (σ := σ) (o := r1) zfuel 0 r1 (by decide) w1 rfl rfl (fun j hj => absurd hj (by omega)) (fun _ _ => rfl)) (fun r2 q => ?_)
    obtain ⟨u1, u2, u3, u4⟩ := q
    refine t_d144 h hL u1 hd4 (st4 r2 u3) (pp4 r2 u2) (fun j hj => ?_)
    by_cases z : j < 8
    · refine ⟨b, hb2, Or.inl hm, ?_, ?_⟩
      · rw [b22 j hj, if_pos ⟨z, p⟩, hb]
      · rw [u4 j hj, if_pos z, hb]
        exact v_31 ⟨b, hb2⟩
    · obtain ⟨v, v1, v2, v3⟩ := dots j hj
      refine ⟨v, v1, Or.inl hm, ?_, ?_⟩
      · rw [b22 j hj, if_neg (fun y => z y.1), a22 j hj]
        exact v2
      · rw [u4 j hj, if_neg z]
        exact v3
end ZT8
