/-! THE PAINTER, 13: THE WHOLE LINE -/
section ZTD
variable {σ μ s t : zSt}
theorem c_fb {bk : Int32} {o : zSt} : ∀ (n i : Nat) (s : zSt), i ≤ 256 → zdC σ s → s.1 25 = o.1 25 → s.1 23 = o.1 23 → (∀ j : Nat, j < i → s.1 27 j = if o.1 27 j = 0 then bk else o.1 27 j) → (∀ j : Nat, i ≤ j → s.1 27 j = o.1 27 j) → zpc (fX3_fillBack_2 n s bk (Int32.ofNat i)) (fun r => zdC σ r ∧ r.1 25 = o.1 25 ∧ r.1 23 = o.1 23 ∧ ∀ j : Nat, j < 256 → r.1 27 j = if o.1 27 j = 0 then bk else o.1 27 j) := by
  intro n
  induction n with
  | zero => intro i s _ _ _ _ _ _; exact zpc_none
  | succ n ih =>
    intro i s hi hd e25 e23 hin hout
    show zpc (fX3_fillBack_2_body (fX3_fillBack_2 n) s bk (Int32.ofNat i)) _
    unfold fX3_fillBack_2_body fX3_fillBack_25
    refine zpc_if (fun q => zpc_some ?_) (fun q => ?_)
    · have := (z_ofL (k := 256) (by omega) rfl).mp q
      exact ⟨hd, e25, e23, fun j hj => hin j (by omega)⟩
    have hi2 : i < 256 := by
      have : ¬ 256 ≤ i := fun z => q ((z_ofL (c := 256) (k := 256) (i := i) (by omega) rfl).mpr z)
      omega
    rw [z_ofC (by omega), z_ofS (by omega)]
    have c27 : zgi s 27 i = o.1 27 i := hout i (by omega)
    rw [c27]
    refine zpc_ck (zpc_if (fun p => zpc_ck (zpc_bv (fun s1 g1 => zpc_bv (fun v ev => ?_)))) (fun p => zpc_bv (fun v ev => ?_)))
    · subst ev
      refine ih (i + 1) s1 (by omega) (by rw [g1]; exact zQ.wi hd rfl) (by rw [g1, zsi_ne (by decide)]; exact e25) (by rw [g1, zsi_ne (by decide)]; exact e23) (fun j hj => ?_) (fun j hj => by rw [g1, zsi_nj (by omega)]; exact hout j (by omega))
      by_cases z : j = i
      · rw [z, g1, zsi_ej, if_pos p]
      · rw [g1, zsi_nj z]; exact hin j (by omega)
    · subst ev
      refine ih (i + 1) s (by omega) hd e25 e23 (fun j hj => ?_) (fun j hj => hout j (by omega))
      by_cases z : j = i
      · rw [z, if_neg p]; exact hout i (by omega)
      · exact hin j (by omega)
/-- the class's dots of an old mode -/
theorem c_old (hs : zdC σ s) {m L : Int32} : zpc (fX3_drawOld s m L) (fun r => zdC σ r ∧ r.1 25 = s.1 25 ∧ r.1 23 = s.1 23 ∧ ∀ j : Nat, j < 256 → r.1 27 j = oDt σ m L j) := by
  have g2 : s.1 23 (2 : Int32).toNatClampNeg = σ.1 23 2 := hs.r (j := 2) (by decide)
  have g7 : s.1 23 (7 : Int32).toNatClampNeg = σ.1 23 7 := hs.r (j := 7) (by decide)
  unfold fX3_drawOld
  refine zpc_bi (p_held (x := 2) (zr_c (by decide))) (fun s1 v1 e1 => zpc_bv (fun v15 e15 => ?_))
  cases e1
  rw [g2] at e15
  have e15 : v15 = oNa σ := e15
  subst e15
  refine zpc_if (fun m1 => ?_) (fun m1 => ?_)
  · unfold fX3_drawText fJ7_fill_53178_k27
    refine zpc_bu (P := fun r => zdC σ r ∧ r.1 25 = s.1 25 ∧ r.1 23 = s.1 23 ∧ ∀ j : Nat, j < 256 → r.1 27 j = oTd σ L j) ?_ (fun r q => zpc_some ?_)
    · refine zpc_bi (p_held (x := 7) (zr_c (by decide))) (fun s1 v1 e1 => ?_)
      cases e1
      rw [g7]
      refine zpc_bu (c_fill27 (σ := σ) (o := s) (v := 0) zfuel 0 s (by decide) hs rfl rfl (fun j hj => absurd hj (by omega))) (fun s1 q => ?_)
      obtain ⟨q1, q2, q3, q4⟩ := q
      refine c_21 (σ := σ) (o := s) zfuel 0 s1 (by decide) q1 q2 q3 (fun j hj => ?_) (fun j h1 h2 => q4 j h2)
      rw [q4 j (by omega)]
      unfold oTd
      rw [if_neg (fun y => by omega)]
    · obtain ⟨q1, q2, q3, q4⟩ := q
      refine ⟨q1, q2, q3, fun j hj => ?_⟩
      rw [q4 j hj]
      unfold oDt
      rw [if_pos m1]
  · refine zpc_mono (c_31 (σ := σ) (o := s) zfuel 0 s (by decide) hs rfl rfl (fun j hj => absurd hj (by omega))) (fun r q => ?_)
    obtain ⟨q1, q2, q3, q4⟩ := q
    refine ⟨q1, q2, q3, fun j hj => ?_⟩
    rw [q4 j hj]
    unfold oDt
    rw [if_neg m1]
theorem zDr_all : zDr := fun s t h lt => by
  have r20 : zr 0 312 (s.1 23 20) := h.2.1.at (k := 23) (j := 20) rfl
  have hh := (zht_r (s.1 23 0) (s.1 23 1)).2
  have hL : zr 0 239 (s.1 23 20) := ⟨r20.1, by omega⟩
  rw [h.e20]
  refine zp2_mono (P := zFi s t) ?_ (fun r r' q => ⟨q.1, zQ.mono q.2.1 rfl rfl, q.2.2⟩)
  obtain ⟨L, eL⟩ : ∃ L, L = s.1 23 20 := ⟨_, rfl⟩
  have hs0 : zdC s s := zQ.rf
  have hd0 : zdM t t := zQ.rf
  have p20 := p_held (s := s) (x := 20) (zr_c (by decide))
  rw [show s.1 23 (20 : Int32).toNatClampNeg = L from eL.symm] at p20
  rw [← eL] at hL
  rw [← eL]
  unfold fX3_draw fX12_draws
  refine zp2_bil p20 (fun s1 v1 e1 => ?_)
  cases e1
  refine zp2_ifl (fun q => absurd q (zq_lt hL rfl (by decide))) (fun _ => zp2_ifl (fun _ => ?_) (fun q => absurd (zq_ltt hL rfl (by decide)) q))
  refine zp2_bil p_modeC (fun s1 v1 e1 => ?_)
  cases e1
  have pm := p_modeM (μ := t) (by rw [h.e0]; exact h.r0) (by rw [h.e1]; exact h.r1)
  rw [h.e0, h.e1] at pm
  refine zp2_bir pm (fun t1 v1 e1 => ?_)
  cases e1
  have f7 : t.1 3 (47 + (7 : Int32)).toNatClampNeg = s.1 23 7 := h.ej hd0 (j := 7) (by decide)
  have r7 := h.rj (j := 7) (by decide)
  obtain ⟨c, ec⟩ := z_byteF r7
  obtain ⟨b1, b2⟩ := v_bk c
  rw [← ec] at b1 b2
  have hst0 : zStt s t := ⟨h.e15, h.2.1.at (k := 23) (j := 15) rfl⟩
  have hp0 : ∀ j : Nat, j < 61440 → t.1 9 j = s.1 25 j := fun j hj => by
    have z := h.1.e (z_pn25_0 (d := j) hj)
    rw [Nat.zero_add] at z
    exact z
  -- one back colour
  have main : ∀ (b : Nat) (y z : Int32), b < 32 → (zmd (s.1 23 0) (s.1 23 1) = 4 ∨ b < 16) → y + (s.1 23 7 &&& 15) = Int32.ofNat b → z = Int32.ofNat b → zp2 (fX3_draw_41 s L (zmd (s.1 23 0) (s.1 23 1)) y) (fX12_draws_32 t L z) (zFi s t) := fun b y z hb hb2 ey ez => by
    unfold fX3_draw_41 fX12_draws_32
    refine zp2_bil (p_held (x := 7) (zr_c (by decide))) (fun s1 v1 e1 => zp2_bvl (fun v7 e7 => ?_))
    cases e1
    have e7 : v7 = Int32.ofNat b := by rw [e7]; exact ey
    refine zp2_bil (p_held (x := 1) (zr_c (by decide))) (fun s1 v1 e1 => ?_)
    cases e1
    rw [show s.1 23 (1 : Int32).toNatClampNeg = s.1 23 1 from rfl, e7, ez]
    refine m_35 (o := t) zfuel 0 t (by decide) hd0 rfl rfl (fun j hj => absurd hj (by omega)) (fun t1 hd1 e3 e9 hb4 => ?_)
    have f1 : t1.1 3 48 = s.1 23 1 := h.ej hd1 (j := 1) (by decide)
    have f0 : t1.1 3 47 = s.1 23 0 := h.ej hd1 (j := 0) (by decide)
    have b6 := p_bit_1_6 (μ := t1) (by rw [f1]; exact h.r1)
    rw [f1] at b6
    have pm1 := p_modeM (μ := t1) (by rw [f0]; exact h.r0) (by rw [f1]; exact h.r1)
    rw [f0, f1] at pm1
    have st1 : ∀ (r : zSt) (t2 : zSt), r.1 23 = s.1 23 → t2.1 3 = t1.1 3 → zStt r t2 := fun r t2 a c => by
      unfold zStt
      rw [a, c, e3]
      exact hst0
    have pp1 : ∀ (r : zSt) (t2 : zSt), r.1 25 = s.1 25 → t2.1 9 = t1.1 9 → ∀ j : Nat, j < 61440 → t2.1 9 j = r.1 25 j := fun r t2 a c j hj => by
      rw [a, c, e9]
      exact hp0 j hj
    have bk31 : Int32.ofNat b &&& 31 = Int32.ofNat b := v_31 ⟨b, hb⟩
    refine zp2_bir b6 (fun t2 v2 e2 => ?_)
    cases e2
    by_cases q : s.1 23 1 &&& 64 = 0
    · -- no picture
      refine zp2_ifl (fun _ => ?_) (fun z => absurd q z)
      rw [if_pos q]
      refine zp2_ifr (fun z => absurd z (by decide)) (fun _ => ?_)
      unfold fX12_draws_200 fX12_draws_300
      refine zp2_bir b6 (fun t2 v2 e2 => ?_)
      cases e2
      rw [if_pos q]
      refine zp2_ifr (fun z => absurd z (by decide)) (fun _ => ?_)
      unfold fJ7_fill_53178_k27
      refine zp2_bul (c_fill27 (σ := s) (o := s) zfuel 0 s (by decide) hs0 rfl rfl (fun j hj => absurd hj (by omega))) (fun s1 w => ?_)
      obtain ⟨w1, w2, w3, w4⟩ := w
      refine t_d144 h hL w1 hd1 (st1 s1 t1 w3 rfl) (pp1 s1 t1 w2 rfl) (fun j hj => ⟨b, hb, hb2, (hb4 j hj).1, ?_⟩)
      rw [w4 j hj]
      exact bk31
    refine zp2_ifl (fun z => absurd z q) (fun _ => ?_)
    rw [if_neg q]
    refine zp2_ifr (fun _ => ?_) (fun z => absurd rfl z)
    refine zp2_bir pm1 (fun t2 v2 e2 => ?_)
    cases e2
    by_cases m4 : zmd (s.1 23 0) (s.1 23 1) = 4
    · refine zp2_ifl (fun _ => zp2_ifr (fun _ => ?_) (fun z => absurd m4 z)) (fun z => absurd m4 z)
      exact t_mode4 h hL rfl hb m4 hs0 hd1 (st1 s t1 rfl rfl) (pp1 s t1 rfl rfl) (fun j hj => (hb4 j hj).2.2)
    · refine zp2_ifl (fun z => absurd z m4) (fun _ => zp2_ifr (fun z => absurd z m4) (fun _ => ?_))
      have hb16 : b < 16 := hb2.resolve_left m4
      unfold fX12_draws_200
      refine zp2_bir b6 (fun t2 v2 e2 => ?_)
      cases e2
      rw [if_neg q]
      refine zp2_ifr (fun _ => ?_) (fun z => absurd rfl z)
      refine zp2_bul (c_old (m := zmd (s.1 23 0) (s.1 23 1)) (L := L) hs0) (fun s1 w => ?_)
      obtain ⟨w1, w2, w3, w4⟩ := w
      refine m_213 h hL m4 (o := t1) zfuel 0 t1 (by decide) hd1 rfl rfl (fun j hj => (hb4 j hj).2.2) (fun j hj => absurd hj (by omega)) (fun t2 hd2 a3 a9 a24 a22 => ?_)
      have f0' : t2.1 3 47 = s.1 23 0 := h.ej hd2 (j := 0) (by decide)
      have f1' : t2.1 3 48 = s.1 23 1 := h.ej hd2 (j := 1) (by decide)
      have pm2 := p_modeM (μ := t2) (by rw [f0']; exact h.r0) (by rw [f1']; exact h.r1)
      rw [f0', f1'] at pm2
      refine zp2_bir pm2 (fun t3 v3 e3' => ?_)
      cases e3'
      unfold fX12_draws_264
      -- the end: sprites over the rest, the back colour where nothing is
      have tail : ∀ (r t3 : zSt), zdC s r → zdM t t3 → r.1 25 = s1.1 25 → t3.1 22 = t2.1 22 → t3.1 9 = t2.1 9 → zStt r t3 → (∀ j : Nat, j < 256 → zr 0 15 (t3.1 24 j) ∧ r.1 27 j = (if t3.1 24 j ≤ 0 then s1.1 27 j else t3.1 24 j)) → zp2 (fX3_draw_139 r L (zmd (s.1 23 0) (s.1 23 1)) (Int32.ofNat b)) (fX12_draws_266 zfuel t3 L 0) (zFi s t) := fun r t3 c1 c2 c3 c4 c5 c6 c7 => by
        unfold fX3_draw_139 fX3_fillBack
        refine zp2_bul (c_fb (σ := s) (o := r) zfuel 0 r (by decide) c1 rfl rfl (fun j hj => absurd hj (by omega)) (fun _ _ => rfl)) (fun r2 d => ?_)
        obtain ⟨d1, d2, d3, d4⟩ := d
        refine m_266 (μ := t) (o := t3) zfuel 0 t3 (by decide) c2 rfl rfl rfl (fun j hj => absurd hj (by omega)) (fun _ _ => rfl) (fun t4 hd4 g3 g9 g22 => ?_)
        refine t_d144 h hL d1 hd4 ?_ (fun j hj => ?_) (fun j hj => ?_)
        · unfold zStt
          rw [d3, g3]
          exact c6
        · rw [g9, c5, a9, d2, c3, w2, e9]
          exact hp0 j hj
        · obtain ⟨x1, x2⟩ := c7 j hj
          rw [g22 j hj, d4 j hj, x2, c4, a22 j hj, w4 j hj]
          have rD := oDt_r h (m := zmd (s.1 23 0) (s.1 23 1)) (L := L) (j := j)
          obtain ⟨e, ee⟩ := z_F (m := 16) rD (by decide)
          obtain ⟨g, eg⟩ := z_F (m := 16) x1 (by decide)
          have lift : ∀ i : Fin 16, Int32.ofNat i.val &&& 31 = Int32.ofNat i.val := fun i => v_31 ⟨i.val, by have := i.isLt; omega⟩
          by_cases n : t3.1 24 j ≤ 0
          · rw [if_pos n, if_pos n]
            by_cases p : oDt s (zmd (s.1 23 0) (s.1 23 1)) L j = 0
            · rw [if_pos p]
              exact ⟨b, hb, Or.inr hb16, rfl, bk31⟩
            · rw [if_neg p, ee]
              exact ⟨e.val, by have := e.isLt; omega, Or.inr e.isLt, rfl, lift e⟩
          · rw [if_neg n, if_neg n]
            have n0 : ¬ t3.1 24 j = 0 := fun z => n (by rw [z]; decide)
            rw [if_neg n0, eg]
            exact ⟨g.val, by have := g.isLt; omega, Or.inr g.isLt, rfl, lift g⟩
      by_cases m1 : zmd (s.1 23 0) (s.1 23 1) = 1
      · refine zp2_ifl (fun _ => zp2_ifr (fun _ => ?_) (fun z => absurd m1 z)) (fun z => absurd m1 z)
        refine tail s1 t2 w1 hd2 rfl rfl rfl (st1 s1 t2 w3 a3) (fun j hj => ?_)
        rw [(a24 j hj).1, if_pos (by decide)]
        exact ⟨zr_c (by decide), rfl⟩
      · refine zp2_ifl (fun z => absurd z m1) (fun _ => zp2_ifr (fun z => absurd z m1) (fun _ => ?_))
        refine zp2_buu (t_osprites h w1 hd2 (st1 s1 t2 w3 a3) a24) (fun r t3 q' => ?_)
        obtain ⟨y1, y2, y3, y4, y5, y6, y7⟩ := q'
        exact tail r t3 y1 y2 y3 y4 y5 y6 y7
  have cl := c.isLt
  by_cases m4 : zmd (s.1 23 0) (s.1 23 1) = 4
  · refine zp2_ifl (fun _ => zp2_ifr (fun _ => zp2_bir p_reg (fun t1 v1 e1 => zp2_ckr ?_)) (fun z => absurd m4 z)) (fun z => absurd m4 z)
    cases e1
    rw [f7, b2]
    have k16 := (v_16p ⟨c.val % 16, by omega⟩).1
    exact main (16 + c.val % 16) 16 _ (by omega) (Or.inl m4) (by rw [b1]; exact k16) k16
  · refine zp2_ifl (fun z => absurd z m4) (fun _ => zp2_ifr (fun z => absurd z m4) (fun _ => zp2_bir p_reg (fun t1 v1 e1 => zp2_ckr ?_)))
    cases e1
    rw [f7, b2]
    exact main (c.val % 16) 0 _ (by omega) (Or.inr (by omega)) (by rw [b1]; exact (v_16p ⟨c.val % 16, by omega⟩).2) rfl
theorem zLe_all : zLe := zLe_of zDr_all
end ZTD
