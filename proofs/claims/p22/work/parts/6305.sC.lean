section ZJN0
theorem s_X5_popPair {G : Nat → Int} {σ : zSt} (hσ : zIC G σ) {x1 : Int32} (h_x1 : zr (0) (3) x1) : zok (fX5_popPair σ x1) (zAi (zIC G) (fun v : Int32 => zr (10) (10) v)) := by
  unfold fX5_popPair
  refine zok_ai (s_X5_pop hσ) (fun σ1 v2 i1 h2 => ?_)
  refine zok_if (fun q3 => ?_) (fun q3 => ?_)
  · have h4 := zc_eql (3) (3) q3 h_x1 (zr_c (lo := 3) (hi := 3) (by decide)) (by decide)
    refine zok_bu (s_X5_putPairAt i1 (zr_w (zr_c (lo := 0) (hi := 0) (by decide)) (by decide)) (zr_w h2 (by decide))) (fun σ4 i5 => ?_)
    exact zok_pai i5 (s_X5_popPair_25 i5.P)
  have h6 := zc_nel (0) (2) q3 h_x1 (zr_c (lo := 3) (hi := 3) (by decide)) (by decide)
  refine zok_bu (s_X5_putPair i1 (zr_w h6 (by decide)) (zr_w h2 (by decide))) (fun σ3 i7 => ?_)
  exact zok_pai i7 (s_X5_popPair_25 i7.P)
theorem s_X5_changeWithOther {G : Nat → Int} {σ : zSt} (hσ : zIC G σ) {x1 : Int32} (h_x1 : zr (0) (7) x1) : zok (fX5_changeWithOther σ x1) (zIC G) := by
  unfold fX5_changeWithOther
  refine zok_ck (zin_ok h_x1 (by decide)) ?_
  refine zok_br (rC_21 hσ.sg _ (z_ix h_x1 (by decide))) (fun v1 e2 h1 => ?_)
  refine zok_ck (zin_ok (zr_add (lo := 8) (hi := 15) h_x1 (zr_c (lo := 8) (hi := 8) (by decide)) (by decide)) (by decide)) ?_
  refine zok_ck (zin_ok h_x1 (by decide)) ?_
  refine zok_bs (hσ.wi 0 7 (z_ix h_x1 (by decide)) (rC_21 hσ.sg _ (z_ix (zr_add (lo := 8) (hi := 15) h_x1 (zr_c (lo := 8) (hi := 8) (by decide)) (by decide)) (by decide))) (by decide +kernel)) (fun σ2 e4 i3 => ?_)
  refine zok_ck (zin_ok (zr_add (lo := 8) (hi := 15) h_x1 (zr_c (lo := 8) (hi := 8) (by decide)) (by decide)) (by decide)) ?_
  refine zok_bs (i3.wi 8 15 (z_ix (zr_add (lo := 8) (hi := 15) h_x1 (zr_c (lo := 8) (hi := 8) (by decide)) (by decide)) (by decide)) h1 (by decide +kernel)) (fun σ3 e6 i5 => ?_)
  exact zok_some i5
theorem s_X5_leave_41_body {G : Nat → Int} {σ : zSt} {k41 : zSt → Int32 → Option (zSt × Int32)} {Mk41 : Int} (hk41 : ∀ (σ : zSt) (x2 : Int32), zIC G σ → zr (2) (8) x2 → (8) - x2.toInt < Mk41 → zok (k41 σ x2) (zAi (zIC G) (fun v : Int32 => zr (4) (10) v))) (hσ : zIC G σ) {x2 : Int32} (h_x2 : zr (2) (8) x2) (hMk41 : (8) - x2.toInt ≤ Mk41) : zok (fX5_leave_41_body k41 σ x2) (zAi (zIC G) (fun v : Int32 => zr (4) (10) v)) := by
  unfold fX5_leave_41_body
  refine zok_if (fun q1 => ?_) (fun q1 => ?_)
  · have h2 := zc_ltr (8) q1 (zr_c (lo := 7) (hi := 7) (by decide)) h_x2 (by decide)
    exact zok_sai hσ (zr_w (zr_c (lo := 4) (hi := 4) (by decide)) (by decide))
  have h3 := zc_lel (7) (z_nlt q1) h_x2 (zr_c (lo := 7) (hi := 7) (by decide)) (by decide)
  refine zok_bu (s_X5_changeWithOther hσ (zr_w h3 (by decide))) (fun σ1 i4 => ?_)
  refine zok_br (zr_add (lo := 3) (hi := 8) h3 (zr_c (lo := 1) (hi := 1) (by decide)) (by decide)) (fun v2 e6 h5 => ?_)
  exact hk41 _ _ i4 (zr_w h5 (by decide)) (by rw [e6]; have := z_tadd (y := (1 : Int32)) h3 (zr_c (lo := 1) (hi := 1) (by decide)) (by decide); have e9 : (1 : Int32).toInt = 1 := rfl; omega) 
theorem s_X5_leave_41 {G : Nat → Int} : ∀ (n : Nat) {σ : zSt} (hσ : zIC G σ) {x2 : Int32} (h_x2 : zr (2) (8) x2) (hm : (8) - x2.toInt < n), zok (fX5_leave_41 n σ x2) (zAi (zIC G) (fun v : Int32 => zr (4) (10) v)) := by
  intro n
  induction n with
  | zero => intro σ hσ x2 h_x2 hm ; have h9 := h_x2.1; have h8 := h_x2.2; exfalso; omega
  | succ n ih => intro σ hσ x2 h_x2 hm ; exact s_X5_leave_41_body (fun σ x2 hσ h_x2 hm1 => ih hσ h_x2 (by omega)) hσ h_x2 (Int.le_refl _)
theorem s_X5_leave {G : Nat → Int} {σ : zSt} (hσ : zIC G σ) {x1 : Int32} (h_x1 : zr (0) (3) x1) : zok (fX5_leave σ x1) (zAi (zIC G) (fun v : Int32 => zr (4) (10) v)) := by
  unfold fX5_leave
  refine zok_if (fun q1 => ?_) (fun q1 => ?_)
  · have h2 := zc_eql (0) (0) q1 h_x1 (zr_c (lo := 0) (hi := 0) (by decide)) (by decide)
    refine zok_ai (s_X5_pop hσ) (fun σ3 v4 i3 h4 => ?_)
    refine zok_bu (s_X5_goTo i3 h4) (fun σ5 i5 => ?_)
    exact zok_sai i5 (zr_w (zr_c (lo := 10) (hi := 10) (by decide)) (by decide))
  have h6 := zc_nel (1) (3) q1 h_x1 (zr_c (lo := 0) (hi := 0) (by decide)) (by decide)
  refine zok_if (fun q7 => ?_) (fun q7 => ?_)
  · have h8 := zc_eql (1) (1) q7 h6 (zr_c (lo := 1) (hi := 1) (by decide)) (by decide)
    exact (s_X5_leave_41 zfuel hσ (zr_w (zr_c (lo := 2) (hi := 2) (by decide)) (by decide)) (by decide))
  have h9 := zc_nel (2) (3) q7 h6 (zr_c (lo := 1) (hi := 1) (by decide)) (by decide)
  refine zok_if (fun q10 => ?_) (fun q10 => ?_)
  · have h11 := zc_eql (2) (2) q10 h9 (zr_c (lo := 2) (hi := 2) (by decide)) (by decide)
    refine zok_pi (s_X5_hl hσ.P) (fun v7 h12 => ?_)
    refine zok_ck rfl ?_
    refine zok_bs (hσ.wi 19 19 (by decide) h12 (by decide +kernel)) (fun σ8 e14 i13 => ?_)
    exact zok_sai i13 (zr_w (zr_c (lo := 4) (hi := 4) (by decide)) (by decide))
  have h15 := zc_nel (3) (3) q10 h9 (zr_c (lo := 2) (hi := 2) (by decide)) (by decide)
  refine zok_pi (s_X5_hl hσ.P) (fun v10 h16 => ?_)
  refine zok_ck rfl ?_
  refine zok_bs (hσ.wi 18 18 (by decide) h16 (by decide +kernel)) (fun σ11 e18 i17 => ?_)
  exact zok_sai i17 (zr_w (zr_c (lo := 6) (hi := 6) (by decide)) (by decide))
theorem s_X5_lastQuarter_196 {G : Nat → Int} {σ : zSt} (hσ : zIC G σ) {x2 : Int32} (h_x2 : zr (0) (7) x2) : zok (fX5_lastQuarter_196 σ x2) (zAi (zIC G) (fun v : Int32 => zr (4) (17) v)) := by
  unfold fX5_lastQuarter_196
  refine zok_ck rfl ?_
  refine zok_bu (s_X5_push hσ (rC_22 hσ.sg _ (by decide))) (fun σ1 i1 => ?_)
  refine zok_bu (s_X5_goTo i1 (zr_w (zr_mul (lo := 0) (hi := 56) (zr_c (lo := 8) (hi := 8) (by decide)) h_x2 (by decide)) (by decide))) (fun σ2 i2 => ?_)
  exact zok_sai i2 (zr_w (zr_c (lo := 11) (hi := 11) (by decide)) (by decide))
theorem s_X5_lastQuarter_178 {G : Nat → Int} {σ : zSt} (hσ : zIC G σ) {s0 : Int32} (h_s0 : zr (0) (65535) s0) : zok (fX5_lastQuarter_178 σ s0) (zAi (zIC G) (fun v : Int32 => zr (4) (17) v)) := by
  unfold fX5_lastQuarter_178
  refine zok_bu (s_X5_push hσ h_s0) (fun σ3 i1 => ?_)
  exact zok_sai i1 (zr_w (zr_c (lo := 11) (hi := 11) (by decide)) (by decide))
theorem s_X5_lastQuarter_130 {σ : zSt} (hσ : zPC σ) : zok (fX5_lastQuarter_130 σ ) (zPi σ (fun v : Int32 => zr (4) (17) v)) := by
  unfold fX5_lastQuarter_130
  exact zok_spi (zr_w (zr_c (lo := 10) (hi := 10) (by decide)) (by decide))
theorem s_X5_lastQuarter_96 {σ : zSt} (hσ : zPC σ) {s0 : Int32} (h_s0 : zr (4) (10) s0) : zok (fX5_lastQuarter_96 σ s0) (zPi σ (fun v : Int32 => zr (4) (17) v)) := by
  unfold fX5_lastQuarter_96
  exact zok_spi (zr_w h_s0 (by decide))
theorem s_X5_lastQuarter {G : Nat → Int} {σ : zSt} (hσ : zIC G σ) {x1 : Int32} (h_x1 : zr (0) (255) x1) : zok (fX5_lastQuarter σ x1) (zAi (zIC G) (fun v : Int32 => zr (4) (17) v)) := by
  unfold fX5_lastQuarter
  refine zok_br (zr_andr (lo := 0) (hi := 7) (zr_c (lo := 7) (hi := 7) (by decide)) (by decide)) (fun v4 e2 h1 => ?_)
  refine zok_if (fun q3 => ?_) (fun q3 => ?_)
  · have h4 := zc_eql (0) (0) q3 (zr_andr (lo := 0) (hi := 7) (zr_c (lo := 7) (hi := 7) (by decide)) (by decide)) (zr_c (lo := 0) (hi := 0) (by decide)) (by decide)
    refine zok_pi (s_X5_holds hσ.P h1) (fun v6 h5 => ?_)
    refine zok_if (fun q6 => ?_) (fun q6 => ?_)
    · have h7 := zc_eql (0) (0) q6 h5 (zr_c (lo := 0) (hi := 0) (by decide)) (by decide)
      exact zok_sai hσ (zr_w (zr_c (lo := 5) (hi := 5) (by decide)) (by decide))
    have h8 := zc_nel (1) (1) q6 h5 (zr_c (lo := 0) (hi := 0) (by decide)) (by decide)
    refine zok_ai (s_X5_pop hσ) (fun σ7 v8 i9 h10 => ?_)
    refine zok_bu (s_X5_goTo i9 h10) (fun σ9 i11 => ?_)
    exact zok_sai i11 (zr_w (zr_c (lo := 11) (hi := 11) (by decide)) (by decide))
  have h12 := zc_nel (1) (7) q3 (zr_andr (lo := 0) (hi := 7) (zr_c (lo := 7) (hi := 7) (by decide)) (by decide)) (zr_c (lo := 0) (hi := 0) (by decide)) (by decide)
  refine zok_if (fun q13 => ?_) (fun q13 => ?_)
  · have h14 := zc_eql (1) (1) q13 h12 (zr_c (lo := 1) (hi := 1) (by decide)) (by decide)
    refine zok_if (fun q15 => ?_) (fun q15 => ?_)
    · have h16 := zc_eql (0) (0) q15 (zr_andr (lo := 0) (hi := 1) (zr_c (lo := 1) (hi := 1) (by decide)) (by decide)) (zr_c (lo := 0) (hi := 0) (by decide)) (by decide)
      refine zok_ai (s_X5_popPair hσ (zr_shr (lo := 0) (hi := 3) 1 (by decide) h1 (by decide))) (fun σ12 v13 i17 h18 => ?_)
      exact zok_pai i17 (s_X5_lastQuarter_96 i17.P (zr_w h18 (by decide)))
    have h19 := zc_nel (1) (1) q15 (zr_andr (lo := 0) (hi := 1) (zr_c (lo := 1) (hi := 1) (by decide)) (by decide)) (zr_c (lo := 0) (hi := 0) (by decide)) (by decide)
    refine zok_ai (s_X5_leave hσ (zr_shr (lo := 0) (hi := 3) 1 (by decide) h1 (by decide))) (fun σ10 v11 i20 h21 => ?_)
    exact zok_pai i20 (s_X5_lastQuarter_96 i20.P h21)
  have h22 := zc_nel (2) (7) q13 h12 (zr_c (lo := 1) (hi := 1) (by decide)) (by decide)
  refine zok_if (fun q23 => ?_) (fun q23 => ?_)
  · have h24 := zc_eql (2) (2) q23 h22 (zr_c (lo := 2) (hi := 2) (by decide)) (by decide)
    refine zok_ai (s_X5_fetchWord hσ) (fun σ14 v15 i25 h26 => ?_)
    refine zok_ck rfl ?_
    refine zok_bs (i25.wi 20 20 (by decide) h26 (by decide +kernel)) (fun σ16 e28 i27 => ?_)
    refine zok_pi (s_X5_holds i27.P h1) (fun v18 h29 => ?_)
    refine zok_if (fun q30 => ?_) (fun q30 => ?_)
    · have h31 := zc_eql (0) (0) q30 h29 (zr_c (lo := 0) (hi := 0) (by decide)) (by decide)
      exact zok_pai i27 (s_X5_lastQuarter_130 i27.P)
    have h32 := zc_nel (1) (1) q30 h29 (zr_c (lo := 0) (hi := 0) (by decide)) (by decide)
    refine zok_ck rfl ?_
    refine zok_ck rfl ?_
    refine zok_bs (i27.wi 19 19 (by decide) (rC_22 i27.sg _ (by decide)) (by decide +kernel)) (fun σ19 e34 i33 => ?_)
    exact zok_pai i33 (s_X5_lastQuarter_130 i33.P)
  have h35 := zc_nel (3) (7) q23 h22 (zr_c (lo := 2) (hi := 2) (by decide)) (by decide)
  refine zok_if (fun q36 => ?_) (fun q36 => ?_)
  · have h37 := zc_eql (3) (3) q36 h35 (zr_c (lo := 3) (hi := 3) (by decide)) (by decide)
    exact (s_X5_lastQuarter_196 hσ h1)
  have h38 := zc_nel (4) (7) q36 h35 (zr_c (lo := 3) (hi := 3) (by decide)) (by decide)
  refine zok_if (fun q39 => ?_) (fun q39 => ?_)
  · have h40 := zc_eql (4) (4) q39 h38 (zr_c (lo := 4) (hi := 4) (by decide)) (by decide)
    refine zok_pi (s_X5_holds hσ.P h1) (fun v21 h41 => ?_)
    refine zok_ai (s_X5_callIf hσ h41) (fun σ22 v23 i42 h43 => ?_)
    exact zok_sai i42 (zr_w h43 (by decide))
  have h44 := zc_nel (5) (7) q39 h38 (zr_c (lo := 4) (hi := 4) (by decide)) (by decide)
  refine zok_if (fun q45 => ?_) (fun q45 => ?_)
  · have h46 := zc_eql (5) (5) q45 h44 (zr_c (lo := 5) (hi := 5) (by decide)) (by decide)
    refine zok_if (fun q47 => ?_) (fun q47 => ?_)
    · have h48 := zc_eql (1) (1) q47 (zr_andr (lo := 0) (hi := 1) (zr_c (lo := 1) (hi := 1) (by decide)) (by decide)) (zr_c (lo := 1) (hi := 1) (by decide)) (by decide)
      refine zok_ai (s_X5_callIf hσ (zr_w (zr_c (lo := 1) (hi := 1) (by decide)) (by decide))) (fun σ28 v29 i49 h50 => ?_)
      exact zok_sai i49 (zr_w h50 (by decide))
    have h51 := zc_nel (0) (0) q47 (zr_andr (lo := 0) (hi := 1) (zr_c (lo := 1) (hi := 1) (by decide)) (by decide)) (zr_c (lo := 1) (hi := 1) (by decide)) (by decide)
    refine zok_if (fun q52 => ?_) (fun q52 => ?_)
    · have h53 := zc_eql (6) (6) q52 h1 (zr_c (lo := 6) (hi := 6) (by decide)) (by decide)
      refine zok_pi (s_X5_pairAt hσ.P (zr_w (zr_c (lo := 0) (hi := 0) (by decide)) (by decide))) (fun v27 h54 => ?_)
      exact (s_X5_lastQuarter_178 hσ h54)
    refine zok_pi (s_X5_pair hσ.P (zr_shr (lo := 0) (hi := 3) 1 (by decide) h1 (by decide))) (fun v25 h55 => ?_)
    exact (s_X5_lastQuarter_178 hσ h55)
  have h56 := zc_nel (6) (7) q45 h44 (zr_c (lo := 5) (hi := 5) (by decide)) (by decide)
  refine zok_if (fun q57 => ?_) (fun q57 => ?_)
  · have h58 := zc_eql (6) (6) q57 h56 (zr_c (lo := 6) (hi := 6) (by decide)) (by decide)
    refine zok_ai (s_X5_fetch hσ) (fun σ30 v31 i59 h60 => ?_)
    refine zok_bu (s_X5_doWith i59 h1 h60) (fun σ32 i61 => ?_)
    exact zok_sai i61 (zr_w (zr_c (lo := 7) (hi := 7) (by decide)) (by decide))
  have h62 := zc_nel (7) (7) q57 h56 (zr_c (lo := 6) (hi := 6) (by decide)) (by decide)
  exact (s_X5_lastQuarter_196 hσ h1)
theorem s_X5_doWithRegister_33 {σ : zSt} (hσ : zPC σ) {s0 : Int32} (h_s0 : zr (4) (7) s0) : zok (fX5_doWithRegister_33 σ s0) (zPi σ (fun v : Int32 => zr (4) (7) v)) := by
  unfold fX5_doWithRegister_33
  exact zok_spi h_s0
theorem s_X5_doWithRegister {G : Nat → Int} {σ : zSt} (hσ : zIC G σ) {x1 : Int32} (h_x1 : zr (0) (255) x1) : zok (fX5_doWithRegister σ x1) (zAi (zIC G) (fun v : Int32 => zr (4) (7) v)) := by
  unfold fX5_doWithRegister
  refine zok_pi (s_X5_one hσ.P (zr_andr (lo := 0) (hi := 7) (zr_c (lo := 7) (hi := 7) (by decide)) (by decide))) (fun v2 h1 => ?_)
  refine zok_bu (s_X5_doWith hσ (zr_andr (lo := 0) (hi := 7) (zr_c (lo := 7) (hi := 7) (by decide)) (by decide)) h1) (fun σ3 i2 => ?_)
  refine zok_if (fun q3 => ?_) (fun q3 => ?_)
  · have h4 := zc_eql (6) (6) q3 (zr_andr (lo := 0) (hi := 7) (zr_c (lo := 7) (hi := 7) (by decide)) (by decide)) (zr_c (lo := 6) (hi := 6) (by decide)) (by decide)
    exact zok_pai i2 (s_X5_doWithRegister_33 i2.P (zr_w (zr_c (lo := 7) (hi := 7) (by decide)) (by decide)))
  exact zok_pai i2 (s_X5_doWithRegister_33 i2.P (zr_w (zr_c (lo := 4) (hi := 4) (by decide)) (by decide)))
theorem s_X5_move_56 {σ : zSt} (hσ : zPC σ) {s0 : Int32} (h_s0 : zr (4) (7) s0) : zok (fX5_move_56 σ s0) (zPi σ (fun v : Int32 => zr (4) (7) v)) := by
  unfold fX5_move_56
  exact zok_spi h_s0
theorem s_X5_move_50 {σ : zSt} (hσ : zPC σ) : zok (fX5_move_50 σ ) (zPi σ (fun v : Int32 => zr (4) (7) v)) := by
  unfold fX5_move_50
  exact (s_X5_move_56 hσ (zr_w (zr_c (lo := 7) (hi := 7) (by decide)) (by decide)))
theorem s_X5_move {G : Nat → Int} {σ : zSt} (hσ : zIC G σ) {x1 : Int32} (h_x1 : zr (0) (255) x1) : zok (fX5_move σ x1) (zAi (zIC G) (fun v : Int32 => zr (4) (7) v)) := by
  unfold fX5_move
  refine zok_if (fun q1 => ?_) (fun q1 => ?_)
  · have h2 := zc_eql (118) (118) q1 h_x1 (zr_c (lo := 118) (hi := 118) (by decide)) (by decide)
    refine zok_ck rfl ?_
    refine zok_bs (hσ.wi 26 26 (by decide) (zr_c (lo := 1) (hi := 1) (by decide)) (by decide +kernel)) (fun σ6 e4 i3 => ?_)
    exact zok_sai i3 (zr_w (zr_c (lo := 4) (hi := 4) (by decide)) (by decide))
  refine zok_br (zr_andr (lo := 0) (hi := 7) (zr_c (lo := 7) (hi := 7) (by decide)) (by decide)) (fun v1 e6 h5 => ?_)
  refine zok_br (zr_andr (lo := 0) (hi := 7) (zr_c (lo := 7) (hi := 7) (by decide)) (by decide)) (fun v2 e8 h7 => ?_)
  refine zok_pi (s_X5_one hσ.P h7) (fun v4 h9 => ?_)
  refine zok_bu (s_X5_putOne hσ h5 h9) (fun σ5 i10 => ?_)
  refine zok_if (fun q11 => ?_) (fun q11 => ?_)
  · have h12 := zc_eql (6) (6) q11 h5 (zr_c (lo := 6) (hi := 6) (by decide)) (by decide)
    exact zok_pai i10 (s_X5_move_50 i10.P)
  refine zok_if (fun q13 => ?_) (fun q13 => ?_)
  · have h14 := zc_eql (6) (6) q13 h7 (zr_c (lo := 6) (hi := 6) (by decide)) (by decide)
    exact zok_pai i10 (s_X5_move_50 i10.P)
  exact zok_pai i10 (s_X5_move_56 i10.P (zr_w (zr_c (lo := 4) (hi := 4) (by decide)) (by decide)))
theorem s_X5_adjustA_202 {G : Nat → Int} {σ : zSt} (hσ : zIC G σ) {x4 : Int32} (h_x4 : zr (0) (1) x4) {s0 : Int32} (h_s0 : zr (0) (16) s0) {s1 : Int32} (h_s1 : zr (0) (255) s1) {s2 : Int32} (h_s2 : zr (1) (1) s2) : zok (fX5_adjustA_202 σ x4 s0 s1 s2) (zIC G) := by
  unfold fX5_adjustA_202
  refine zok_ck rfl ?_
  refine zok_ck (zin_ok h_s2 (by decide)) ?_
  refine zok_bs (hσ.wi 1 1 (z_ix h_s2 (by decide)) (zr_or (lo := 0) (hi := 255) 8 (zr_or (lo := 0) (hi := 255) 8 (zr_or (lo := 0) (hi := 255) 8 h_s1 h_s0 (by decide)) (zr_andr (lo := 0) (hi := 2) (zr_c (lo := 2) (hi := 2) (by decide)) (by decide)) (by decide)) h_x4 (by decide)) (by decide +kernel)) (fun σ1 e2 i1 => ?_)
  exact zok_some i1
theorem s_X5_adjustA_161 {G : Nat → Int} {σ : zSt} (hσ : zIC G σ) {x4 : Int32} (h_x4 : zr (0) (1) x4) {x6 : Int32} (h_x6 : zr (0) (1) x6) {s0 : Int32} (h_s0 : zr (-102) (357) s0) : zok (fX5_adjustA_161 σ x4 x6 s0) (zIC G) := by
  unfold fX5_adjustA_161
  refine zok_br (zr_andr (lo := 0) (hi := 255) (zr_c (lo := 255) (hi := 255) (by decide)) (by decide)) (fun v2 e2 h1 => ?_)
  refine zok_ck rfl ?_
  refine zok_bs (hσ.wi 0 0 (by decide) h1 (by decide +kernel)) (fun σ3 e4 i3 => ?_)
  refine zok_pi (s_X5_by i3.P h1) (fun v5 h5 => ?_)
  refine zok_pi (s_X5_parity i3.P h1) (fun v7 h6 => ?_)
  refine zok_if (fun q7 => ?_) (fun q7 => ?_)
  · have h8 := zc_eql (0) (0) q7 h_x6 (zr_c (lo := 0) (hi := 0) (by decide)) (by decide)
    exact (s_X5_adjustA_202 i3 h_x4 (zr_w (zr_c (lo := 0) (hi := 0) (by decide)) (by decide)) (zr_or (lo := 0) (hi := 255) 8 h5 h6 (by decide)) (zr_c (lo := 1) (hi := 1) (by decide)))
  have h9 := zc_nel (1) (1) q7 h_x6 (zr_c (lo := 0) (hi := 0) (by decide)) (by decide)
  exact (s_X5_adjustA_202 i3 h_x4 (zr_w (zr_c (lo := 16) (hi := 16) (by decide)) (by decide)) (zr_or (lo := 0) (hi := 255) 8 h5 h6 (by decide)) (zr_c (lo := 1) (hi := 1) (by decide)))
theorem s_X5_adjustA_134 {G : Nat → Int} {σ : zSt} (hσ : zIC G σ) {x3 : Int32} (h_x3 : zr (0) (1) x3) {x4 : Int32} (h_x4 : zr (0) (1) x4) {x5 : Int32} (h_x5 : zr (0) (102) x5) {s0 : Int32} (h_s0 : zr (0) (1) s0) : zok (fX5_adjustA_134 σ x3 x4 x5 s0) (zIC G) := by
  unfold fX5_adjustA_134
  refine zok_if (fun q1 => ?_) (fun q1 => ?_)
  · have h2 := zc_eql (0) (0) q1 h_x3 (zr_c (lo := 0) (hi := 0) (by decide)) (by decide)
    refine zok_ck rfl ?_
    exact (s_X5_adjustA_161 hσ h_x4 h_s0 (zr_w (zr_add (lo := 0) (hi := 357) (rC_21 hσ.sg _ (by decide)) h_x5 (by decide)) (by decide)))
  have h3 := zc_nel (1) (1) q1 h_x3 (zr_c (lo := 0) (hi := 0) (by decide)) (by decide)
  refine zok_ck rfl ?_
  exact (s_X5_adjustA_161 hσ h_x4 h_s0 (zr_w (zr_sub (lo := -102) (hi := 255) (rC_21 hσ.sg _ (by decide)) h_x5 (by decide)) (by decide)))
theorem s_X5_adjustA_119 {G : Nat → Int} {σ : zSt} (hσ : zIC G σ) {x3 : Int32} (h_x3 : zr (1) (1) x3) {x4 : Int32} (h_x4 : zr (0) (1) x4) {x5 : Int32} (h_x5 : zr (0) (102) x5) : zok (fX5_adjustA_119 σ x3 x4 x5) (zIC G) := by
  unfold fX5_adjustA_119
  exact (s_X5_adjustA_134 hσ (zr_w h_x3 (by decide)) h_x4 h_x5 (zr_w (zr_c (lo := 0) (hi := 0) (by decide)) (by decide)))
theorem s_X5_adjustA_98 {G : Nat → Int} {σ : zSt} (hσ : zIC G σ) {x1 : Int32} (h_x1 : zr (0) (15) x1) {x2 : Int32} (h_x2 : zr (0) (1) x2) {x3 : Int32} (h_x3 : zr (0) (1) x3) {x4 : Int32} (h_x4 : zr (0) (1) x4) {s0 : Int32} (h_s0 : zr (0) (96) s0) {s1 : Int32} (h_s1 : zr (0) (6) s1) : zok (fX5_adjustA_98 σ x1 x2 x3 x4 s0 s1) (zIC G) := by
  unfold fX5_adjustA_98
  refine zok_br (zr_add (lo := 0) (hi := 102) h_s1 h_s0 (by decide)) (fun v8 e2 h1 => ?_)
  refine zok_if (fun q3 => ?_) (fun q3 => ?_)
  · have h4 := zc_eql (0) (0) q3 h_x3 (zr_c (lo := 0) (hi := 0) (by decide)) (by decide)
    refine zok_if (fun q5 => ?_) (fun q5 => ?_)
    · have h6 := zc_lel (9) q5 h_x1 (zr_c (lo := 9) (hi := 9) (by decide)) (by decide)
      exact (s_X5_adjustA_134 hσ (zr_w h4 (by decide)) h_x4 h1 (zr_w (zr_c (lo := 0) (hi := 0) (by decide)) (by decide)))
    have h7 := zc_ltr (10) (z_nle q5) (zr_c (lo := 9) (hi := 9) (by decide)) h_x1 (by decide)
    exact (s_X5_adjustA_134 hσ (zr_w h4 (by decide)) h_x4 h1 (zr_w (zr_c (lo := 1) (hi := 1) (by decide)) (by decide)))
  have h8 := zc_nel (1) (1) q3 h_x3 (zr_c (lo := 0) (hi := 0) (by decide)) (by decide)
  refine zok_if (fun q9 => ?_) (fun q9 => ?_)
  · have h10 := zc_eql (0) (0) q9 h_x2 (zr_c (lo := 0) (hi := 0) (by decide)) (by decide)
    exact (s_X5_adjustA_119 hσ h8 h_x4 h1)
  have h11 := zc_nel (1) (1) q9 h_x2 (zr_c (lo := 0) (hi := 0) (by decide)) (by decide)
  refine zok_if (fun q12 => ?_) (fun q12 => ?_)
  · have h13 := zc_ler (6) q12 (zr_c (lo := 6) (hi := 6) (by decide)) h_x1 (by decide)
    exact (s_X5_adjustA_119 hσ h8 h_x4 h1)
  have h14 := zc_ltl (5) (z_nle q12) h_x1 (zr_c (lo := 6) (hi := 6) (by decide)) (by decide)
  exact (s_X5_adjustA_134 hσ (zr_w h8 (by decide)) h_x4 h1 (zr_w (zr_c (lo := 1) (hi := 1) (by decide)) (by decide)))
theorem s_X5_adjustA_87 {G : Nat → Int} {σ : zSt} (hσ : zIC G σ) {x1 : Int32} (h_x1 : zr (0) (15) x1) {x2 : Int32} (h_x2 : zr (0) (1) x2) {x3 : Int32} (h_x3 : zr (0) (1) x3) {x4 : Int32} (h_x4 : zr (0) (1) x4) {s0 : Int32} (h_s0 : zr (0) (6) s0) : zok (fX5_adjustA_87 σ x1 x2 x3 x4 s0) (zIC G) := by
  unfold fX5_adjustA_87
  refine zok_if (fun q1 => ?_) (fun q1 => ?_)
  · have h2 := zc_eql (0) (0) q1 h_x4 (zr_c (lo := 0) (hi := 0) (by decide)) (by decide)
    exact (s_X5_adjustA_98 hσ h_x1 h_x2 h_x3 (zr_w h2 (by decide)) (zr_w (zr_c (lo := 0) (hi := 0) (by decide)) (by decide)) h_s0)
  have h3 := zc_nel (1) (1) q1 h_x4 (zr_c (lo := 0) (hi := 0) (by decide)) (by decide)
  exact (s_X5_adjustA_98 hσ h_x1 h_x2 h_x3 (zr_w h3 (by decide)) (zr_w (zr_c (lo := 96) (hi := 96) (by decide)) (by decide)) h_s0)
theorem s_X5_adjustA_81 {G : Nat → Int} {σ : zSt} (hσ : zIC G σ) {x1 : Int32} (h_x1 : zr (0) (15) x1) {x2 : Int32} (h_x2 : zr (0) (1) x2) {x3 : Int32} (h_x3 : zr (0) (1) x3) {x4 : Int32} (h_x4 : zr (0) (1) x4) : zok (fX5_adjustA_81 σ x1 x2 x3 x4) (zIC G) := by
  unfold fX5_adjustA_81
  exact (s_X5_adjustA_87 hσ h_x1 h_x2 h_x3 h_x4 (zr_w (zr_c (lo := 6) (hi := 6) (by decide)) (by decide)))
theorem s_X5_adjustA_69 {G : Nat → Int} {σ : zSt} (hσ : zIC G σ) {x1 : Int32} (h_x1 : zr (0) (15) x1) {x2 : Int32} (h_x2 : zr (0) (1) x2) {x3 : Int32} (h_x3 : zr (0) (1) x3) {s0 : Int32} (h_s0 : zr (0) (1) s0) : zok (fX5_adjustA_69 σ x1 x2 x3 s0) (zIC G) := by
  unfold fX5_adjustA_69
  refine zok_if (fun q1 => ?_) (fun q1 => ?_)
  · have h2 := zc_ltr (10) q1 (zr_c (lo := 9) (hi := 9) (by decide)) h_x1 (by decide)
    exact (s_X5_adjustA_81 hσ (zr_w h2 (by decide)) h_x2 h_x3 h_s0)
  have h3 := zc_lel (9) (z_nlt q1) h_x1 (zr_c (lo := 9) (hi := 9) (by decide)) (by decide)
  refine zok_if (fun q4 => ?_) (fun q4 => ?_)
  · have h5 := zc_eql (0) (0) q4 h_x2 (zr_c (lo := 0) (hi := 0) (by decide)) (by decide)
    exact (s_X5_adjustA_87 hσ (zr_w h3 (by decide)) (zr_w h5 (by decide)) h_x3 h_s0 (zr_w (zr_c (lo := 0) (hi := 0) (by decide)) (by decide)))
  have h6 := zc_nel (1) (1) q4 h_x2 (zr_c (lo := 0) (hi := 0) (by decide)) (by decide)
  exact (s_X5_adjustA_81 hσ (zr_w h3 (by decide)) (zr_w h6 (by decide)) h_x3 h_s0)
theorem s_X5_adjustA_44 {G : Nat → Int} {σ : zSt} (hσ : zIC G σ) {x1 : Int32} (h_x1 : zr (0) (15) x1) {x2 : Int32} (h_x2 : zr (0) (1) x2) {s0 : Int32} (h_s0 : zr (0) (1) s0) : zok (fX5_adjustA_44 σ x1 x2 s0) (zIC G) := by
  unfold fX5_adjustA_44
  refine zok_ck rfl ?_
  refine zok_if (fun q1 => ?_) (fun q1 => ?_)
  · have h2 := zc_lel (153) q1 (rC_21 hσ.sg _ (by decide)) (zr_c (lo := 153) (hi := 153) (by decide)) (by decide)
    refine zok_ck rfl ?_
    exact (s_X5_adjustA_69 hσ h_x1 h_x2 h_s0 (zr_andr (lo := 0) (hi := 1) (zr_c (lo := 1) (hi := 1) (by decide)) (by decide)))
  have h3 := zc_ltr (154) (z_nle q1) (zr_c (lo := 153) (hi := 153) (by decide)) (rC_21 hσ.sg _ (by decide)) (by decide)
  exact (s_X5_adjustA_69 hσ h_x1 h_x2 h_s0 (zr_w (zr_c (lo := 1) (hi := 1) (by decide)) (by decide)))
theorem s_X5_adjustA_27 {G : Nat → Int} {σ : zSt} (hσ : zIC G σ) {x1 : Int32} (h_x1 : zr (0) (15) x1) {s0 : Int32} (h_s0 : zr (0) (1) s0) : zok (fX5_adjustA_27 σ x1 s0) (zIC G) := by
  unfold fX5_adjustA_27
  refine zok_ck rfl ?_
  refine zok_if (fun q1 => ?_) (fun q1 => ?_)
  · have h2 := zc_eql (0) (0) q1 (zr_andr (lo := 0) (hi := 2) (zr_c (lo := 2) (hi := 2) (by decide)) (by decide)) (zr_c (lo := 0) (hi := 0) (by decide)) (by decide)
    exact (s_X5_adjustA_44 hσ h_x1 h_s0 (zr_w (zr_c (lo := 0) (hi := 0) (by decide)) (by decide)))
  have h3 := zc_nel (1) (2) q1 (zr_andr (lo := 0) (hi := 2) (zr_c (lo := 2) (hi := 2) (by decide)) (by decide)) (zr_c (lo := 0) (hi := 0) (by decide)) (by decide)
  exact (s_X5_adjustA_44 hσ h_x1 h_s0 (zr_w (zr_c (lo := 1) (hi := 1) (by decide)) (by decide)))
theorem s_X5_adjustA {G : Nat → Int} {σ : zSt} (hσ : zIC G σ) : zok (fX5_adjustA σ ) (zIC G) := by
  unfold fX5_adjustA
  refine zok_ck rfl ?_
  refine zok_br (zr_andr (lo := 0) (hi := 15) (zr_c (lo := 15) (hi := 15) (by decide)) (by decide)) (fun v9 e2 h1 => ?_)
  refine zok_ck rfl ?_
  refine zok_if (fun q3 => ?_) (fun q3 => ?_)
  · have h4 := zc_eql (0) (0) q3 (zr_andr (lo := 0) (hi := 16) (zr_c (lo := 16) (hi := 16) (by decide)) (by decide)) (zr_c (lo := 0) (hi := 0) (by decide)) (by decide)
    exact (s_X5_adjustA_27 hσ h1 (zr_w (zr_c (lo := 0) (hi := 0) (by decide)) (by decide)))
  have h5 := zc_nel (1) (16) q3 (zr_andr (lo := 0) (hi := 16) (zr_c (lo := 16) (hi := 16) (by decide)) (by decide)) (zr_c (lo := 0) (hi := 0) (by decide)) (by decide)
  exact (s_X5_adjustA_27 hσ h1 (zr_w (zr_c (lo := 1) (hi := 1) (by decide)) (by decide)))
theorem s_X5_changeA_130 {G : Nat → Int} {σ : zSt} (hσ : zIC G σ) {s0 : Int32} (h_s0 : zr (1) (16) s0) {s1 : Int32} (h_s1 : zr (0) (196) s1) {s2 : Int32} (h_s2 : zr (1) (1) s2) : zok (fX5_changeA_130 σ s0 s1 s2) (zIC G) := by
  unfold fX5_changeA_130
  refine zok_ck rfl ?_
  refine zok_ck (zin_ok h_s2 (by decide)) ?_
  refine zok_bs (hσ.wi 1 1 (z_ix h_s2 (by decide)) (zr_or (lo := 0) (hi := 255) 8 (zr_or (lo := 0) (hi := 255) 8 h_s1 h_s0 (by decide)) (zr_andr (lo := 0) (hi := 40) (zr_c (lo := 40) (hi := 40) (by decide)) (by decide)) (by decide)) (by decide +kernel)) (fun σ1 e2 i1 => ?_)
  exact zok_some i1
theorem s_X5_changeA {G : Nat → Int} {σ : zSt} (hσ : zIC G σ) {x1 : Int32} (h_x1 : zr (0) (7) x1) : zok (fX5_changeA σ x1) (zIC G) := by
  unfold fX5_changeA
  refine zok_ck rfl ?_
  refine zok_br (zr_andr (lo := 0) (hi := 196) (zr_c (lo := 196) (hi := 196) (by decide)) (by decide)) (fun v2 e2 h1 => ?_)
  refine zok_ck rfl ?_
  refine zok_br (zr_andr (lo := 0) (hi := 1) (zr_c (lo := 1) (hi := 1) (by decide)) (by decide)) (fun v3 e4 h3 => ?_)
  refine zok_if (fun q5 => ?_) (fun q5 => ?_)
  · have h6 := zc_eql (4) (4) q5 h_x1 (zr_c (lo := 4) (hi := 4) (by decide)) (by decide)
    refine zok_bu (s_X5_adjustA hσ) (fun σ4 i7 => ?_)
    exact zok_some i7
  refine zok_if (fun q8 => ?_) (fun q8 => ?_)
  · have h9 := zc_eql (5) (5) q8 h_x1 (zr_c (lo := 5) (hi := 5) (by decide)) (by decide)
    refine zok_ck rfl ?_
    refine zok_ck rfl ?_
    refine zok_bs (hσ.wi 0 0 (by decide) (zr_xor (lo := 0) (hi := 255) 8 (rC_21 hσ.sg _ (by decide)) (zr_c (lo := 255) (hi := 255) (by decide)) (by decide)) (by decide +kernel)) (fun σ5 e11 i10 => ?_)
    refine zok_ck rfl ?_
    refine zok_ck rfl ?_
    refine zok_bs (i10.wi 1 1 (by decide) (zr_or (lo := 0) (hi := 255) 8 (zr_or (lo := 0) (hi := 255) 8 (zr_or (lo := 0) (hi := 255) 8 (zr_or (lo := 0) (hi := 255) 8 h1 h3 (by decide)) (zr_c (lo := 16) (hi := 16) (by decide)) (by decide)) (zr_c (lo := 2) (hi := 2) (by decide)) (by decide)) (zr_andr (lo := 0) (hi := 40) (zr_c (lo := 40) (hi := 40) (by decide)) (by decide)) (by decide)) (by decide +kernel)) (fun σ6 e13 i12 => ?_)
    exact zok_some i12
  refine zok_if (fun q14 => ?_) (fun q14 => ?_)
  · have h15 := zc_eql (6) (6) q14 h_x1 (zr_c (lo := 6) (hi := 6) (by decide)) (by decide)
    refine zok_ck rfl ?_
    refine zok_ck rfl ?_
    refine zok_bs (hσ.wi 1 1 (by decide) (zr_or (lo := 0) (hi := 255) 8 (zr_or (lo := 0) (hi := 255) 8 h1 (zr_c (lo := 1) (hi := 1) (by decide)) (by decide)) (zr_andr (lo := 0) (hi := 40) (zr_c (lo := 40) (hi := 40) (by decide)) (by decide)) (by decide)) (by decide +kernel)) (fun σ7 e17 i16 => ?_)
    exact zok_some i16
  refine zok_if (fun q18 => ?_) (fun q18 => ?_)
  · have h19 := zc_eql (7) (7) q18 h_x1 (zr_c (lo := 7) (hi := 7) (by decide)) (by decide)
    refine zok_if (fun q20 => ?_) (fun q20 => ?_)
    · have h21 := zc_eql (0) (0) q20 h3 (zr_c (lo := 0) (hi := 0) (by decide)) (by decide)
      exact (s_X5_changeA_130 hσ (zr_w (zr_c (lo := 1) (hi := 1) (by decide)) (by decide)) h1 (zr_c (lo := 1) (hi := 1) (by decide)))
    have h22 := zc_nel (1) (1) q20 h3 (zr_c (lo := 0) (hi := 0) (by decide)) (by decide)
    exact (s_X5_changeA_130 hσ (zr_w (zr_c (lo := 16) (hi := 16) (by decide)) (by decide)) h1 (zr_c (lo := 1) (hi := 1) (by decide)))
  have h23 := zc_nel (0) (6) q18 h_x1 (zr_c (lo := 7) (hi := 7) (by decide)) (by decide)
  refine zok_ck rfl ?_
  refine zok_ai (s_X5_turn hσ (zr_w h23 (by decide)) (rC_21 hσ.sg _ (by decide))) (fun σ8 v9 i24 h25 => ?_)
  refine zok_ck rfl ?_
  refine zok_bs (i24.wi 0 0 (by decide) h25 (by decide +kernel)) (fun σ10 e27 i26 => ?_)
  refine zok_ck rfl ?_
  refine zok_ck rfl ?_
  refine zok_bs (i26.wi 1 1 (by decide) (zr_or (lo := 0) (hi := 255) 8 h1 (zr_andr (lo := 0) (hi := 41) (zr_c (lo := 41) (hi := 41) (by decide)) (by decide)) (by decide)) (by decide +kernel)) (fun σ11 e29 i28 => ?_)
  exact zok_some i28
theorem s_X5_oneLess_53 {G : Nat → Int} {σ : zSt} (hσ : zIC G σ) {x2 : Int32} (h_x2 : zr (0) (255) x2) {s0 : Int32} (h_s0 : zr (0) (4) s0) {s1 : Int32} (h_s1 : zr (0) (255) s1) {s2 : Int32} (h_s2 : zr (1) (1) s2) : zok (fX5_oneLess_53 σ x2 s0 s1 s2) (zAi (zIC G) (fun v : Int32 => zr (0) (255) v)) := by
  unfold fX5_oneLess_53
  refine zok_ck (zin_ok h_s2 (by decide)) ?_
  refine zok_bs (hσ.wi 1 1 (z_ix h_s2 (by decide)) (zr_or (lo := 0) (hi := 255) 8 (zr_or (lo := 0) (hi := 255) 8 h_s1 h_s0 (by decide)) (zr_c (lo := 2) (hi := 2) (by decide)) (by decide)) (by decide +kernel)) (fun σ1 e2 i1 => ?_)
  exact zok_sai i1 h_x2
theorem s_X5_oneLess_41 {G : Nat → Int} {σ : zSt} (hσ : zIC G σ) {x2 : Int32} (h_x2 : zr (0) (255) x2) {s0 : Int32} (h_s0 : zr (0) (16) s0) {s1 : Int32} (h_s1 : zr (0) (255) s1) {s2 : Int32} (h_s2 : zr (1) (1) s2) : zok (fX5_oneLess_41 σ x2 s0 s1 s2) (zAi (zIC G) (fun v : Int32 => zr (0) (255) v)) := by
  unfold fX5_oneLess_41
  refine zok_if (fun q1 => ?_) (fun q1 => ?_)
  · have h2 := zc_eql (127) (127) q1 h_x2 (zr_c (lo := 127) (hi := 127) (by decide)) (by decide)
    exact (s_X5_oneLess_53 hσ (zr_w h2 (by decide)) (zr_w (zr_c (lo := 4) (hi := 4) (by decide)) (by decide)) (zr_or (lo := 0) (hi := 255) 8 h_s1 h_s0 (by decide)) h_s2)
  exact (s_X5_oneLess_53 hσ h_x2 (zr_w (zr_c (lo := 0) (hi := 0) (by decide)) (by decide)) (zr_or (lo := 0) (hi := 255) 8 h_s1 h_s0 (by decide)) h_s2)
theorem s_X5_oneLess {G : Nat → Int} {σ : zSt} (hσ : zIC G σ) {x1 : Int32} (h_x1 : zr (0) (255) x1) : zok (fX5_oneLess σ x1) (zAi (zIC G) (fun v : Int32 => zr (0) (255) v)) := by
  unfold fX5_oneLess
  refine zok_br (zr_andr (lo := 0) (hi := 255) (zr_c (lo := 255) (hi := 255) (by decide)) (by decide)) (fun v2 e2 h1 => ?_)
  refine zok_ck rfl ?_
  refine zok_pi (s_X5_by hσ.P h1) (fun v4 h3 => ?_)
  refine zok_if (fun q4 => ?_) (fun q4 => ?_)
  · have h5 := zc_eql (15) (15) q4 (zr_andr (lo := 0) (hi := 15) (zr_c (lo := 15) (hi := 15) (by decide)) (by decide)) (zr_c (lo := 15) (hi := 15) (by decide)) (by decide)
    exact (s_X5_oneLess_41 hσ h1 (zr_w (zr_c (lo := 16) (hi := 16) (by decide)) (by decide)) (zr_or (lo := 0) (hi := 255) 8 (zr_andr (lo := 0) (hi := 1) (zr_c (lo := 1) (hi := 1) (by decide)) (by decide)) h3 (by decide)) (zr_c (lo := 1) (hi := 1) (by decide)))
  have h6 := zc_nel (0) (14) q4 (zr_andr (lo := 0) (hi := 15) (zr_c (lo := 15) (hi := 15) (by decide)) (by decide)) (zr_c (lo := 15) (hi := 15) (by decide)) (by decide)
  exact (s_X5_oneLess_41 hσ h1 (zr_w (zr_c (lo := 0) (hi := 0) (by decide)) (by decide)) (zr_or (lo := 0) (hi := 255) 8 (zr_andr (lo := 0) (hi := 1) (zr_c (lo := 1) (hi := 1) (by decide)) (by decide)) h3 (by decide)) (zr_c (lo := 1) (hi := 1) (by decide)))
theorem s_X5_oneMore_52 {G : Nat → Int} {σ : zSt} (hσ : zIC G σ) {x2 : Int32} (h_x2 : zr (0) (255) x2) {s0 : Int32} (h_s0 : zr (0) (4) s0) {s1 : Int32} (h_s1 : zr (0) (255) s1) {s2 : Int32} (h_s2 : zr (1) (1) s2) : zok (fX5_oneMore_52 σ x2 s0 s1 s2) (zAi (zIC G) (fun v : Int32 => zr (0) (255) v)) := by
  unfold fX5_oneMore_52
  refine zok_ck (zin_ok h_s2 (by decide)) ?_
  refine zok_bs (hσ.wi 1 1 (z_ix h_s2 (by decide)) (zr_or (lo := 0) (hi := 255) 8 h_s1 h_s0 (by decide)) (by decide +kernel)) (fun σ1 e2 i1 => ?_)
  exact zok_sai i1 h_x2
theorem s_X5_oneMore_39 {G : Nat → Int} {σ : zSt} (hσ : zIC G σ) {x2 : Int32} (h_x2 : zr (0) (255) x2) {s0 : Int32} (h_s0 : zr (0) (16) s0) {s1 : Int32} (h_s1 : zr (0) (255) s1) {s2 : Int32} (h_s2 : zr (1) (1) s2) : zok (fX5_oneMore_39 σ x2 s0 s1 s2) (zAi (zIC G) (fun v : Int32 => zr (0) (255) v)) := by
  unfold fX5_oneMore_39
  refine zok_if (fun q1 => ?_) (fun q1 => ?_)
  · have h2 := zc_eql (128) (128) q1 h_x2 (zr_c (lo := 128) (hi := 128) (by decide)) (by decide)
    exact (s_X5_oneMore_52 hσ (zr_w h2 (by decide)) (zr_w (zr_c (lo := 4) (hi := 4) (by decide)) (by decide)) (zr_or (lo := 0) (hi := 255) 8 h_s1 h_s0 (by decide)) h_s2)
  exact (s_X5_oneMore_52 hσ h_x2 (zr_w (zr_c (lo := 0) (hi := 0) (by decide)) (by decide)) (zr_or (lo := 0) (hi := 255) 8 h_s1 h_s0 (by decide)) h_s2)
theorem s_X5_oneMore {G : Nat → Int} {σ : zSt} (hσ : zIC G σ) {x1 : Int32} (h_x1 : zr (0) (255) x1) : zok (fX5_oneMore σ x1) (zAi (zIC G) (fun v : Int32 => zr (0) (255) v)) := by
  unfold fX5_oneMore
  refine zok_br (zr_andr (lo := 0) (hi := 255) (zr_c (lo := 255) (hi := 255) (by decide)) (by decide)) (fun v2 e2 h1 => ?_)
  refine zok_ck rfl ?_
  refine zok_pi (s_X5_by hσ.P h1) (fun v4 h3 => ?_)
  refine zok_if (fun q4 => ?_) (fun q4 => ?_)
  · have h5 := zc_eql (0) (0) q4 (zr_andr (lo := 0) (hi := 15) (zr_c (lo := 15) (hi := 15) (by decide)) (by decide)) (zr_c (lo := 0) (hi := 0) (by decide)) (by decide)
    exact (s_X5_oneMore_39 hσ h1 (zr_w (zr_c (lo := 16) (hi := 16) (by decide)) (by decide)) (zr_or (lo := 0) (hi := 255) 8 (zr_andr (lo := 0) (hi := 1) (zr_c (lo := 1) (hi := 1) (by decide)) (by decide)) h3 (by decide)) (zr_c (lo := 1) (hi := 1) (by decide)))
  have h6 := zc_nel (1) (15) q4 (zr_andr (lo := 0) (hi := 15) (zr_c (lo := 15) (hi := 15) (by decide)) (by decide)) (zr_c (lo := 0) (hi := 0) (by decide)) (by decide)
  exact (s_X5_oneMore_39 hσ h1 (zr_w (zr_c (lo := 0) (hi := 0) (by decide)) (by decide)) (zr_or (lo := 0) (hi := 255) 8 (zr_andr (lo := 0) (hi := 1) (zr_c (lo := 1) (hi := 1) (by decide)) (by decide)) h3 (by decide)) (zr_c (lo := 1) (hi := 1) (by decide)))
theorem s_X5_far_78 {σ : zSt} (hσ : zPC σ) : zok (fX5_far_78 σ ) (zPi σ (fun v : Int32 => zr (7) (16) v)) := by
  unfold fX5_far_78
  exact zok_spi (zr_w (zr_c (lo := 16) (hi := 16) (by decide)) (by decide))
theorem s_X5_far_152 {σ : zSt} (hσ : zPC σ) {s0 : Int32} (h_s0 : zr (7) (13) s0) : zok (fX5_far_152 σ s0) (zPi σ (fun v : Int32 => zr (7) (16) v)) := by
  unfold fX5_far_152
  exact zok_spi (zr_w h_s0 (by decide))
theorem s_X5_far_140 {σ : zSt} (hσ : zPC σ) {x1 : Int32} (h_x1 : zr (0) (7) x1) : zok (fX5_far_140 σ x1) (zPi σ (fun v : Int32 => zr (7) (16) v)) := by
  unfold fX5_far_140
  refine zok_if (fun q1 => ?_) (fun q1 => ?_)
  · have h2 := zc_ler (4) q1 (zr_c (lo := 4) (hi := 4) (by decide)) h_x1 (by decide)
    exact (s_X5_far_152 hσ (zr_w (zr_c (lo := 13) (hi := 13) (by decide)) (by decide)))
  have h3 := zc_ltl (3) (z_nle q1) h_x1 (zr_c (lo := 4) (hi := 4) (by decide)) (by decide)
  exact (s_X5_far_152 hσ (zr_w (zr_c (lo := 7) (hi := 7) (by decide)) (by decide)))
theorem s_X5_far_32 {G : Nat → Int} {σ : zSt} (hσ : zIC G σ) {x1 : Int32} (h_x1 : zr (0) (7) x1) {x2 : Int32} (h_x2 : zr (0) (1) x2) {s0 : Int32} (h_s0 : zr (0) (65535) s0) : zok (fX5_far_32 σ x1 x2 s0) (zAi (zIC G) (fun v : Int32 => zr (7) (16) v)) := by
  unfold fX5_far_32
  refine zok_ck rfl ?_
  refine zok_bs (hσ.wi 20 20 (by decide) (zr_andr (lo := 0) (hi := 65535) (zr_c (lo := 65535) (hi := 65535) (by decide)) (by decide)) (by decide +kernel)) (fun σ1 e2 i1 => ?_)
  refine zok_if (fun q3 => ?_) (fun q3 => ?_)
  · have h4 := zc_eql (2) (2) q3 (zr_shr (lo := 0) (hi := 3) 1 (by decide) h_x1 (by decide)) (zr_c (lo := 2) (hi := 2) (by decide)) (by decide)
    refine zok_if (fun q5 => ?_) (fun q5 => ?_)
    · have h6 := zc_eql (0) (0) q5 h_x2 (zr_c (lo := 0) (hi := 0) (by decide)) (by decide)
      refine zok_pi (s_X5_hl i1.P) (fun v8 h7 => ?_)
      refine zok_bu (s_X5_writeWord i1 h_s0 h7) (fun σ9 i8 => ?_)
      exact zok_pai i8 (s_X5_far_78 i8.P)
    have h9 := zc_nel (1) (1) q5 h_x2 (zr_c (lo := 0) (hi := 0) (by decide)) (by decide)
    refine zok_pi (s_X5_readWord i1.P h_s0) (fun v11 h10 => ?_)
    refine zok_bu (s_X5_putHl i1 (zr_w h10 (by decide))) (fun σ12 i11 => ?_)
    exact zok_pai i11 (s_X5_far_78 i11.P)
  refine zok_if (fun q12 => ?_) (fun q12 => ?_)
  · have h13 := zc_eql (0) (0) q12 h_x2 (zr_c (lo := 0) (hi := 0) (by decide)) (by decide)
    refine zok_ck rfl ?_
    refine zok_bu (s_X2_write i1 (zr_w h_s0 (by decide)) (rC_21 i1.sg _ (by decide))) (fun σ2 i14 => ?_)
    refine zok_ck rfl ?_
    refine zok_ck rfl ?_
    refine zok_bs (i14.wi 20 20 (by decide) (zr_or (lo := 0) (hi := 65535) 16 (zr_shl (lo := 0) (hi := 65280) 8 (by decide) (rC_21 i14.sg _ (by decide)) (by decide)) (zr_andr (lo := 0) (hi := 255) (zr_c (lo := 255) (hi := 255) (by decide)) (by decide)) (by decide)) (by decide +kernel)) (fun σ3 e16 i15 => ?_)
    exact zok_pai i15 (s_X5_far_140 i15.P h_x1)
  have h17 := zc_nel (1) (1) q12 h_x2 (zr_c (lo := 0) (hi := 0) (by decide)) (by decide)
  refine zok_pi (s_X2_read i1.P) (fun v5 h18 => ?_)
  refine zok_ck rfl ?_
  refine zok_bs (i1.wi 0 0 (by decide) h18 (by decide +kernel)) (fun σ6 e20 i19 => ?_)
  exact zok_pai i19 (s_X5_far_140 i19.P h_x1)
theorem s_X5_far_12 {G : Nat → Int} {σ : zSt} (hσ : zIC G σ) {x1 : Int32} (h_x1 : zr (0) (7) x1) {s0 : Int32} (h_s0 : zr (0) (1) s0) : zok (fX5_far_12 σ x1 s0) (zAi (zIC G) (fun v : Int32 => zr (7) (16) v)) := by
  unfold fX5_far_12
  refine zok_if (fun q1 => ?_) (fun q1 => ?_)
  · have h2 := zc_ler (4) q1 (zr_c (lo := 4) (hi := 4) (by decide)) h_x1 (by decide)
    refine zok_ai (s_X5_fetchWord hσ) (fun σ13 v14 i3 h4 => ?_)
    exact (s_X5_far_32 i3 (zr_w h2 (by decide)) h_s0 h4)
  have h5 := zc_ltl (3) (z_nle q1) h_x1 (zr_c (lo := 4) (hi := 4) (by decide)) (by decide)
  refine zok_pi (s_X5_pair hσ.P (zr_w (zr_shr (lo := 0) (hi := 1) 1 (by decide) h5 (by decide)) (by decide))) (fun v16 h6 => ?_)
  exact (s_X5_far_32 hσ (zr_w h5 (by decide)) h_s0 h6)
theorem s_X5_far {G : Nat → Int} {σ : zSt} (hσ : zIC G σ) {x1 : Int32} (h_x1 : zr (0) (7) x1) : zok (fX5_far σ x1) (zAi (zIC G) (fun v : Int32 => zr (7) (16) v)) := by
  unfold fX5_far
  refine zok_if (fun q1 => ?_) (fun q1 => ?_)
  · have h2 := zc_eql (1) (1) q1 (zr_andr (lo := 0) (hi := 1) (zr_c (lo := 1) (hi := 1) (by decide)) (by decide)) (zr_c (lo := 1) (hi := 1) (by decide)) (by decide)
    exact (s_X5_far_12 hσ h_x1 (zr_w (zr_c (lo := 1) (hi := 1) (by decide)) (by decide)))
  have h3 := zc_nel (0) (0) q1 (zr_andr (lo := 0) (hi := 1) (zr_c (lo := 1) (hi := 1) (by decide)) (by decide)) (zr_c (lo := 1) (hi := 1) (by decide)) (by decide)
  exact (s_X5_far_12 hσ h_x1 (zr_w (zr_c (lo := 0) (hi := 0) (by decide)) (by decide)))
theorem s_X5_loadPair {G : Nat → Int} {σ : zSt} (hσ : zIC G σ) {x1 : Int32} (h_x1 : zr (0) (3) x1) : zok (fX5_loadPair σ x1) (zAi (zIC G) (fun v : Int32 => zr (10) (10) v)) := by
  unfold fX5_loadPair
  refine zok_ai (s_X5_fetchWord hσ) (fun σ1 v2 i1 h2 => ?_)
  refine zok_bu (s_X5_putPair i1 h_x1 (zr_w h2 (by decide))) (fun σ3 i3 => ?_)
  exact zok_sai i3 (zr_c (lo := 10) (hi := 10) (by decide))
theorem s_X5_addPair {G : Nat → Int} {σ : zSt} (hσ : zIC G σ) {x1 : Int32} (h_x1 : zr (0) (3) x1) : zok (fX5_addPair σ x1) (zAi (zIC G) (fun v : Int32 => zr (11) (11) v)) := by
  unfold fX5_addPair
  refine zok_pi (s_X5_hl hσ.P) (fun v2 h1 => ?_)
  refine zok_pi (s_X5_pair hσ.P h_x1) (fun v4 h2 => ?_)
  refine zok_br (zr_add (lo := 0) (hi := 131070) h1 h2 (by decide)) (fun v5 e4 h3 => ?_)
  refine zok_ck rfl ?_
  refine zok_bs (hσ.wi 20 20 (by decide) (zr_andr (lo := 0) (hi := 65535) (zr_c (lo := 65535) (hi := 65535) (by decide)) (by decide)) (by decide +kernel)) (fun σ6 e6 i5 => ?_)
  refine zok_bu (s_X5_putHl i5 (zr_w h3 (by decide))) (fun σ7 i7 => ?_)
  refine zok_ck rfl ?_
  refine zok_ck rfl ?_
  refine zok_bs (i7.wi 1 1 (by decide) (zr_or (lo := 0) (hi := 255) 8 (zr_or (lo := 0) (hi := 255) 8 (zr_or (lo := 0) (hi := 255) 8 (zr_andr (lo := 0) (hi := 196) (zr_c (lo := 196) (hi := 196) (by decide)) (by decide)) (zr_andr (lo := 0) (hi := 40) (zr_c (lo := 40) (hi := 40) (by decide)) (by decide)) (by decide)) (zr_andr (lo := 0) (hi := 16) (zr_c (lo := 16) (hi := 16) (by decide)) (by decide)) (by decide)) (zr_shr (lo := 0) (hi := 1) 16 (by decide) h3 (by decide)) (by decide)) (by decide +kernel)) (fun σ8 e9 i8 => ?_)
  exact zok_sai i8 (zr_c (lo := 11) (hi := 11) (by decide))
theorem s_X5_near_20 {σ : zSt} (hσ : zPC σ) : zok (fX5_near_20 σ ) (zPi σ (fun v : Int32 => zr (4) (13) v)) := by
  unfold fX5_near_20
  exact zok_spi (zr_w (zr_c (lo := 4) (hi := 4) (by decide)) (by decide))
theorem s_X5_near_133 {σ : zSt} (hσ : zPC σ) {s0 : Int32} (h_s0 : zr (0) (1) s0) {s1 : Int32} (h_s1 : zr (7) (12) s1) : zok (fX5_near_133 σ s0 s1) (zPi σ (fun v : Int32 => zr (4) (13) v)) := by
  unfold fX5_near_133
  exact zok_spi (zr_w (zr_add (lo := 7) (hi := 13) h_s1 h_s0 (by decide)) (by decide))
theorem s_X5_near_123 {σ : zSt} (hσ : zPC σ) {x1 : Int32} (h_x1 : zr (2) (7) x1) {s0 : Int32} (h_s0 : zr (7) (12) s0) : zok (fX5_near_123 σ x1 s0) (zPi σ (fun v : Int32 => zr (4) (13) v)) := by
  unfold fX5_near_123
  refine zok_if (fun q1 => ?_) (fun q1 => ?_)
  · have h2 := zc_eql (2) (2) q1 h_x1 (zr_c (lo := 2) (hi := 2) (by decide)) (by decide)
    exact (s_X5_near_133 hσ (zr_w (zr_c (lo := 1) (hi := 1) (by decide)) (by decide)) h_s0)
  have h3 := zc_nel (3) (7) q1 h_x1 (zr_c (lo := 2) (hi := 2) (by decide)) (by decide)
  exact (s_X5_near_133 hσ (zr_w (zr_c (lo := 0) (hi := 0) (by decide)) (by decide)) h_s0)
theorem s_X5_near_112 {σ : zSt} (hσ : zPC σ) {x1 : Int32} (h_x1 : zr (2) (7) x1) {x3 : Int32} (h_x3 : zr (0) (1) x3) : zok (fX5_near_112 σ x1 x3) (zPi σ (fun v : Int32 => zr (4) (13) v)) := by
  unfold fX5_near_112
  refine zok_if (fun q1 => ?_) (fun q1 => ?_)
  · have h2 := zc_eql (0) (0) q1 h_x3 (zr_c (lo := 0) (hi := 0) (by decide)) (by decide)
    exact (s_X5_near_123 hσ h_x1 (zr_w (zr_c (lo := 7) (hi := 7) (by decide)) (by decide)))
  have h3 := zc_nel (1) (1) q1 h_x3 (zr_c (lo := 0) (hi := 0) (by decide)) (by decide)
  exact (s_X5_near_123 hσ h_x1 (zr_w (zr_c (lo := 12) (hi := 12) (by decide)) (by decide)))
theorem s_X5_near_92 {G : Nat → Int} {σ : zSt} (hσ : zIC G σ) {x1 : Int32} (h_x1 : zr (2) (7) x1) {x2 : Int32} (h_x2 : zr (-128) (127) x2) {x3 : Int32} (h_x3 : zr (0) (1) x3) : zok (fX5_near_92 σ x1 x2 x3) (zAi (zIC G) (fun v : Int32 => zr (4) (13) v)) := by
  unfold fX5_near_92
  refine zok_if (fun q1 => ?_) (fun q1 => ?_)
  · have h2 := zc_eql (0) (0) q1 h_x3 (zr_c (lo := 0) (hi := 0) (by decide)) (by decide)
    exact zok_pai hσ (s_X5_near_112 hσ.P h_x1 (zr_w h2 (by decide)))
  have h3 := zc_nel (1) (1) q1 h_x3 (zr_c (lo := 0) (hi := 0) (by decide)) (by decide)
  refine zok_ck rfl ?_
  refine zok_bu (s_X5_goTo hσ (zr_andr (lo := 0) (hi := 65535) (zr_c (lo := 65535) (hi := 65535) (by decide)) (by decide))) (fun σ1 i4 => ?_)
  exact zok_pai i4 (s_X5_near_112 i4.P h_x1 (zr_w h3 (by decide)))
theorem s_X5_near_91 {G : Nat → Int} {σ : zSt} (hσ : zIC G σ) {x1 : Int32} (h_x1 : zr (2) (2) x1) {x2 : Int32} (h_x2 : zr (-128) (127) x2) {s0 : Int32} (h_s0 : zr (0) (1) s0) : zok (fX5_near_91 σ x1 x2 s0) (zAi (zIC G) (fun v : Int32 => zr (4) (13) v)) := by
  unfold fX5_near_91
  exact (s_X5_near_92 hσ (zr_w h_x1 (by decide)) h_x2 h_s0)
theorem s_X5_near_53 {G : Nat → Int} {σ : zSt} (hσ : zIC G σ) {x1 : Int32} (h_x1 : zr (2) (7) x1) {x2 : Int32} (h_x2 : zr (-128) (127) x2) {s0 : Int32} (h_s0 : zr (0) (1) s0) : zok (fX5_near_53 σ x1 x2 s0) (zAi (zIC G) (fun v : Int32 => zr (4) (13) v)) := by
  unfold fX5_near_53
  refine zok_if (fun q1 => ?_) (fun q1 => ?_)
  · have h2 := zc_eql (2) (2) q1 h_x1 (zr_c (lo := 2) (hi := 2) (by decide)) (by decide)
    refine zok_ck rfl ?_
    refine zok_ck rfl ?_
    refine zok_bs (hσ.wi 2 2 (by decide) (zr_andr (lo := 0) (hi := 255) (zr_c (lo := 255) (hi := 255) (by decide)) (by decide)) (by decide +kernel)) (fun σ2 e4 i3 => ?_)
    refine zok_ck rfl ?_
    refine zok_if (fun q5 => ?_) (fun q5 => ?_)
    · have h6 := zc_eql (0) (0) q5 (rC_21 i3.sg _ (by decide)) (zr_c (lo := 0) (hi := 0) (by decide)) (by decide)
      exact (s_X5_near_91 i3 h2 h_x2 (zr_w (zr_c (lo := 0) (hi := 0) (by decide)) (by decide)))
    have h7 := zc_nel (1) (255) q5 (rC_21 i3.sg _ (by decide)) (zr_c (lo := 0) (hi := 0) (by decide)) (by decide)
    exact (s_X5_near_91 i3 h2 h_x2 (zr_w (zr_c (lo := 1) (hi := 1) (by decide)) (by decide)))
  have h8 := zc_nel (3) (7) q1 h_x1 (zr_c (lo := 2) (hi := 2) (by decide)) (by decide)
  exact (s_X5_near_92 hσ (zr_w h8 (by decide)) h_x2 h_s0)
theorem s_X5_near_48 {G : Nat → Int} {σ : zSt} (hσ : zIC G σ) {x1 : Int32} (h_x1 : zr (3) (7) x1) {x2 : Int32} (h_x2 : zr (-128) (127) x2) : zok (fX5_near_48 σ x1 x2) (zAi (zIC G) (fun v : Int32 => zr (4) (13) v)) := by
  unfold fX5_near_48
  exact (s_X5_near_53 hσ (zr_w h_x1 (by decide)) h_x2 (zr_w (zr_c (lo := 1) (hi := 1) (by decide)) (by decide)))
theorem s_X5_near_52 {G : Nat → Int} {σ : zSt} (hσ : zIC G σ) {x1 : Int32} (h_x1 : zr (2) (7) x1) {x2 : Int32} (h_x2 : zr (-128) (127) x2) : zok (fX5_near_52 σ x1 x2) (zAi (zIC G) (fun v : Int32 => zr (4) (13) v)) := by
  unfold fX5_near_52
  exact (s_X5_near_53 hσ h_x1 h_x2 (zr_w (zr_c (lo := 0) (hi := 0) (by decide)) (by decide)))
theorem s_X5_near {G : Nat → Int} {σ : zSt} (hσ : zIC G σ) {x1 : Int32} (h_x1 : zr (0) (7) x1) : zok (fX5_near σ x1) (zAi (zIC G) (fun v : Int32 => zr (4) (13) v)) := by
  unfold fX5_near
  refine zok_if (fun q1 => ?_) (fun q1 => ?_)
  · have h2 := zc_ler (2) q1 (zr_c (lo := 2) (hi := 2) (by decide)) h_x1 (by decide)
    refine zok_ai (s_X5_fetch hσ) (fun σ3 v4 i3 h4 => ?_)
    refine zok_br (zr_i8 (lo := -128) (hi := 127) (by decide)) (fun v5 e6 h5 => ?_)
    refine zok_if (fun q7 => ?_) (fun q7 => ?_)
    · have h8 := zc_eql (3) (3) q7 h2 (zr_c (lo := 3) (hi := 3) (by decide)) (by decide)
      exact (s_X5_near_48 i3 (zr_w h8 (by decide)) h5)
    refine zok_if (fun q9 => ?_) (fun q9 => ?_)
    · have h10 := zc_lel (3) q9 h2 (zr_c (lo := 3) (hi := 3) (by decide)) (by decide)
      exact (s_X5_near_52 i3 (zr_w h10 (by decide)) h5)
    have h11 := zc_ltr (4) (z_nle q9) (zr_c (lo := 3) (hi := 3) (by decide)) h2 (by decide)
    refine zok_pi (s_X5_holds i3.P (zr_w (zr_sub (lo := 0) (hi := 3) h11 (zr_c (lo := 4) (hi := 4) (by decide)) (by decide)) (by decide))) (fun v7 h12 => ?_)
    refine zok_if (fun q13 => ?_) (fun q13 => ?_)
    · have h14 := zc_eql (0) (0) q13 h12 (zr_c (lo := 0) (hi := 0) (by decide)) (by decide)
      exact (s_X5_near_52 i3 (zr_w h11 (by decide)) h5)
    have h15 := zc_nel (1) (1) q13 h12 (zr_c (lo := 0) (hi := 0) (by decide)) (by decide)
    exact (s_X5_near_48 i3 (zr_w h11 (by decide)) h5)
  have h16 := zc_ltl (1) (z_nle q1) h_x1 (zr_c (lo := 2) (hi := 2) (by decide)) (by decide)
  refine zok_if (fun q17 => ?_) (fun q17 => ?_)
  · have h18 := zc_eql (1) (1) q17 h16 (zr_c (lo := 1) (hi := 1) (by decide)) (by decide)
    refine zok_bu (s_X5_changeWithOther hσ (zr_w (zr_c (lo := 0) (hi := 0) (by decide)) (by decide))) (fun σ8 i19 => ?_)
    refine zok_bu (s_X5_changeWithOther i19 (zr_w (zr_c (lo := 1) (hi := 1) (by decide)) (by decide))) (fun σ9 i20 => ?_)
    exact zok_pai i20 (s_X5_near_20 i20.P)
  have h21 := zc_nel (0) (0) q17 h16 (zr_c (lo := 1) (hi := 1) (by decide)) (by decide)
  exact zok_pai hσ (s_X5_near_20 hσ.P)
theorem s_X5_firstQuarter_193 {σ : zSt} (hσ : zPC σ) {s0 : Int32} (h_s0 : zr (7) (10) s0) : zok (fX5_firstQuarter_193 σ s0) (zPi σ (fun v : Int32 => zr (4) (16) v)) := by
  unfold fX5_firstQuarter_193
  exact zok_spi (zr_w h_s0 (by decide))
theorem s_X5_firstQuarter_170 {σ : zSt} (hσ : zPC σ) {s0 : Int32} (h_s0 : zr (4) (11) s0) : zok (fX5_firstQuarter_170 σ s0) (zPi σ (fun v : Int32 => zr (4) (16) v)) := by
  unfold fX5_firstQuarter_170
  exact zok_spi (zr_w h_s0 (by decide))
theorem s_X5_firstQuarter_143 {σ : zSt} (hσ : zPC σ) {s0 : Int32} (h_s0 : zr (4) (11) s0) : zok (fX5_firstQuarter_143 σ s0) (zPi σ (fun v : Int32 => zr (4) (16) v)) := by
  unfold fX5_firstQuarter_143
  exact zok_spi (zr_w h_s0 (by decide))
theorem s_X5_firstQuarter_110 {G : Nat → Int} {σ : zSt} (hσ : zIC G σ) {s0 : Int32} (h_s0 : zr (-1) (1) s0) {s1 : Int32} (h_s1 : zr (0) (65535) s1) {s2 : Int32} (h_s2 : zr (0) (3) s2) : zok (fX5_firstQuarter_110 σ s0 s1 s2) (zAi (zIC G) (fun v : Int32 => zr (4) (16) v)) := by
  unfold fX5_firstQuarter_110
  refine zok_bu (s_X5_putPair hσ h_s2 (zr_add (lo := -1) (hi := 65536) h_s1 h_s0 (by decide))) (fun σ1 i1 => ?_)
  exact zok_sai i1 (zr_w (zr_c (lo := 6) (hi := 6) (by decide)) (by decide))
theorem s_X5_firstQuarter_81 {σ : zSt} (hσ : zPC σ) {s0 : Int32} (h_s0 : zr (10) (11) s0) : zok (fX5_firstQuarter_81 σ s0) (zPi σ (fun v : Int32 => zr (4) (16) v)) := by
  unfold fX5_firstQuarter_81
  exact zok_spi (zr_w h_s0 (by decide))
theorem s_X5_firstQuarter {G : Nat → Int} {σ : zSt} (hσ : zIC G σ) {x1 : Int32} (h_x1 : zr (0) (255) x1) : zok (fX5_firstQuarter σ x1) (zAi (zIC G) (fun v : Int32 => zr (4) (16) v)) := by
  unfold fX5_firstQuarter
  refine zok_br (zr_andr (lo := 0) (hi := 7) (zr_c (lo := 7) (hi := 7) (by decide)) (by decide)) (fun v2 e2 h1 => ?_)
  refine zok_if (fun q3 => ?_) (fun q3 => ?_)
  · have h4 := zc_eql (0) (0) q3 (zr_andr (lo := 0) (hi := 7) (zr_c (lo := 7) (hi := 7) (by decide)) (by decide)) (zr_c (lo := 0) (hi := 0) (by decide)) (by decide)
    refine zok_ai (s_X5_near hσ h1) (fun σ3 v4 i5 h6 => ?_)
    exact zok_sai i5 (zr_w h6 (by decide))
  have h7 := zc_nel (1) (7) q3 (zr_andr (lo := 0) (hi := 7) (zr_c (lo := 7) (hi := 7) (by decide)) (by decide)) (zr_c (lo := 0) (hi := 0) (by decide)) (by decide)
  refine zok_if (fun q8 => ?_) (fun q8 => ?_)
  · have h9 := zc_eql (1) (1) q8 h7 (zr_c (lo := 1) (hi := 1) (by decide)) (by decide)
    refine zok_if (fun q10 => ?_) (fun q10 => ?_)
    · have h11 := zc_eql (0) (0) q10 (zr_andr (lo := 0) (hi := 1) (zr_c (lo := 1) (hi := 1) (by decide)) (by decide)) (zr_c (lo := 0) (hi := 0) (by decide)) (by decide)
      refine zok_ai (s_X5_loadPair hσ (zr_shr (lo := 0) (hi := 3) 1 (by decide) h1 (by decide))) (fun σ7 v8 i12 h13 => ?_)
      exact zok_pai i12 (s_X5_firstQuarter_81 i12.P (zr_w h13 (by decide)))
    have h14 := zc_nel (1) (1) q10 (zr_andr (lo := 0) (hi := 1) (zr_c (lo := 1) (hi := 1) (by decide)) (by decide)) (zr_c (lo := 0) (hi := 0) (by decide)) (by decide)
    refine zok_ai (s_X5_addPair hσ (zr_shr (lo := 0) (hi := 3) 1 (by decide) h1 (by decide))) (fun σ5 v6 i15 h16 => ?_)
    exact zok_pai i15 (s_X5_firstQuarter_81 i15.P (zr_w h16 (by decide)))
  have h17 := zc_nel (2) (7) q8 h7 (zr_c (lo := 1) (hi := 1) (by decide)) (by decide)
  refine zok_if (fun q18 => ?_) (fun q18 => ?_)
  · have h19 := zc_eql (2) (2) q18 h17 (zr_c (lo := 2) (hi := 2) (by decide)) (by decide)
    refine zok_ai (s_X5_far hσ h1) (fun σ9 v10 i20 h21 => ?_)
    exact zok_sai i20 (zr_w h21 (by decide))
  have h22 := zc_nel (3) (7) q18 h17 (zr_c (lo := 2) (hi := 2) (by decide)) (by decide)
  refine zok_if (fun q23 => ?_) (fun q23 => ?_)
  · have h24 := zc_eql (3) (3) q23 h22 (zr_c (lo := 3) (hi := 3) (by decide)) (by decide)
    refine zok_pi (s_X5_pair hσ.P (zr_shr (lo := 0) (hi := 3) 1 (by decide) h1 (by decide))) (fun v12 h25 => ?_)
    refine zok_if (fun q26 => ?_) (fun q26 => ?_)
    · have h27 := zc_eql (0) (0) q26 (zr_andr (lo := 0) (hi := 1) (zr_c (lo := 1) (hi := 1) (by decide)) (by decide)) (zr_c (lo := 0) (hi := 0) (by decide)) (by decide)
      exact (s_X5_firstQuarter_110 hσ (zr_w (zr_c (lo := 1) (hi := 1) (by decide)) (by decide)) h25 (zr_shr (lo := 0) (hi := 3) 1 (by decide) h1 (by decide)))
    have h28 := zc_nel (1) (1) q26 (zr_andr (lo := 0) (hi := 1) (zr_c (lo := 1) (hi := 1) (by decide)) (by decide)) (zr_c (lo := 0) (hi := 0) (by decide)) (by decide)
    exact (s_X5_firstQuarter_110 hσ (zr_w (zr_c (lo := -1) (hi := -1) (by decide)) (by decide)) h25 (zr_shr (lo := 0) (hi := 3) 1 (by decide) h1 (by decide)))
  have h29 := zc_nel (4) (7) q23 h22 (zr_c (lo := 3) (hi := 3) (by decide)) (by decide)
  refine zok_if (fun q30 => ?_) (fun q30 => ?_)
  · have h31 := zc_eql (4) (4) q30 h29 (zr_c (lo := 4) (hi := 4) (by decide)) (by decide)
    refine zok_pi (s_X5_one hσ.P h1) (fun v14 h32 => ?_)
    refine zok_ai (s_X5_oneMore hσ h32) (fun σ15 v16 i33 h34 => ?_)
    refine zok_bu (s_X5_putOne i33 h1 h34) (fun σ17 i35 => ?_)
    refine zok_if (fun q36 => ?_) (fun q36 => ?_)
    · have h37 := zc_eql (6) (6) q36 h1 (zr_c (lo := 6) (hi := 6) (by decide)) (by decide)
      exact zok_pai i35 (s_X5_firstQuarter_143 i35.P (zr_w (zr_c (lo := 11) (hi := 11) (by decide)) (by decide)))
    exact zok_pai i35 (s_X5_firstQuarter_143 i35.P (zr_w (zr_c (lo := 4) (hi := 4) (by decide)) (by decide)))
  have h38 := zc_nel (5) (7) q30 h29 (zr_c (lo := 4) (hi := 4) (by decide)) (by decide)
  refine zok_if (fun q39 => ?_) (fun q39 => ?_)
  · have h40 := zc_eql (5) (5) q39 h38 (zr_c (lo := 5) (hi := 5) (by decide)) (by decide)
    refine zok_pi (s_X5_one hσ.P h1) (fun v19 h41 => ?_)
    refine zok_ai (s_X5_oneLess hσ h41) (fun σ20 v21 i42 h43 => ?_)
    refine zok_bu (s_X5_putOne i42 h1 h43) (fun σ22 i44 => ?_)
    refine zok_if (fun q45 => ?_) (fun q45 => ?_)
    · have h46 := zc_eql (6) (6) q45 h1 (zr_c (lo := 6) (hi := 6) (by decide)) (by decide)
      exact zok_pai i44 (s_X5_firstQuarter_170 i44.P (zr_w (zr_c (lo := 11) (hi := 11) (by decide)) (by decide)))
    exact zok_pai i44 (s_X5_firstQuarter_170 i44.P (zr_w (zr_c (lo := 4) (hi := 4) (by decide)) (by decide)))
  have h47 := zc_nel (6) (7) q39 h38 (zr_c (lo := 5) (hi := 5) (by decide)) (by decide)
  refine zok_if (fun q48 => ?_) (fun q48 => ?_)
  · have h49 := zc_eql (6) (6) q48 h47 (zr_c (lo := 6) (hi := 6) (by decide)) (by decide)
    refine zok_ai (s_X5_fetch hσ) (fun σ23 v24 i50 h51 => ?_)
    refine zok_bu (s_X5_putOne i50 h1 h51) (fun σ25 i52 => ?_)
    refine zok_if (fun q53 => ?_) (fun q53 => ?_)
    · have h54 := zc_eql (6) (6) q53 h1 (zr_c (lo := 6) (hi := 6) (by decide)) (by decide)
      exact zok_pai i52 (s_X5_firstQuarter_193 i52.P (zr_w (zr_c (lo := 10) (hi := 10) (by decide)) (by decide)))
    exact zok_pai i52 (s_X5_firstQuarter_193 i52.P (zr_w (zr_c (lo := 7) (hi := 7) (by decide)) (by decide)))
  have h55 := zc_nel (7) (7) q48 h47 (zr_c (lo := 6) (hi := 6) (by decide)) (by decide)
  refine zok_bu (s_X5_changeA hσ h1) (fun σ26 i56 => ?_)
  exact zok_sai i56 (zr_w (zr_c (lo := 4) (hi := 4) (by decide)) (by decide))
theorem s_X5_carryOn_90 {G : Nat → Int} {σ : zSt} (hσ : zIC G σ) : zok (fX5_carryOn_90 σ ) (zAi (zIC G) (fun v : Int32 => zr (4) (31) v)) := by
  unfold fX5_carryOn_90
  refine zok_ck rfl ?_
  refine zok_bs (hσ.wi 28 28 (by decide) (zr_c (lo := 1) (hi := 1) (by decide)) (by decide +kernel)) (fun σ1 e2 i1 => ?_)
  exact zok_sai i1 (zr_w (zr_c (lo := 4) (hi := 4) (by decide)) (by decide))
theorem s_X5_carryOn_193 {σ : zSt} (hσ : zPC σ) {s0 : Int32} (h_s0 : zr (8) (21) s0) : zok (fX5_carryOn_193 σ s0) (zPi σ (fun v : Int32 => zr (4) (31) v)) := by
  unfold fX5_carryOn_193
  exact zok_spi (zr_w h_s0 (by decide))
theorem s_X5_carryOn_275 {σ : zSt} (hσ : zPC σ) {s0 : Int32} (h_s0 : zr (4) (19) s0) {s1 : Int32} (h_s1 : zr (0) (12) s1) : zok (fX5_carryOn_275 σ s0 s1) (zPi σ (fun v : Int32 => zr (4) (31) v)) := by
  unfold fX5_carryOn_275
  exact zok_spi (zr_add (lo := 4) (hi := 31) h_s1 h_s0 (by decide))
theorem s_X5_carryOn_141 {G : Nat → Int} {σ : zSt} (hσ : zIC G σ) {x1 : Int32} (h_x1 : zr (0) (255) x1) {x2 : Int32} (h_x2 : zr (0) (12) x2) : zok (fX5_carryOn_141 σ x1 x2) (zAi (zIC G) (fun v : Int32 => zr (4) (31) v)) := by
  unfold fX5_carryOn_141
  refine zok_if (fun q1 => ?_) (fun q1 => ?_)
  · have h2 := zc_eql (203) (203) q1 h_x1 (zr_c (lo := 203) (hi := 203) (by decide)) (by decide)
    refine zok_ai (s_X5_fetchOp hσ) (fun σ18 v19 i3 h4 => ?_)
    refine zok_ai (s_X5_turns i3 h4) (fun σ20 v21 i5 h6 => ?_)
    exact zok_sai i5 (zr_w h6 (by decide))
  refine zok_if (fun q7 => ?_) (fun q7 => ?_)
  · have h8 := zc_eql (237) (237) q7 h_x1 (zr_c (lo := 237) (hi := 237) (by decide)) (by decide)
    refine zok_ai (s_X5_fetchOp hσ) (fun σ12 v13 i9 h10 => ?_)
    refine zok_if (fun q11 => ?_) (fun q11 => ?_)
    · have h12 := zc_eql (160) (160) q11 (zr_andr (lo := 0) (hi := 228) (zr_c (lo := 228) (hi := 228) (by decide)) (by decide)) (zr_c (lo := 160) (hi := 160) (by decide)) (by decide)
      refine zok_ai (s_X5_block i9 h10) (fun σ16 v17 i13 h14 => ?_)
      exact zok_pai i13 (s_X5_carryOn_193 i13.P (zr_w h14 (by decide)))
    refine zok_ai (s_X5_behindEd i9 h10) (fun σ14 v15 i15 h16 => ?_)
    exact zok_pai i15 (s_X5_carryOn_193 i15.P (zr_w h16 (by decide)))
  refine zok_if (fun q17 => ?_) (fun q17 => ?_)
  · have h18 := zc_eql (0) (0) q17 (zr_shr (lo := 0) (hi := 3) 6 (by decide) h_x1 (by decide)) (zr_c (lo := 0) (hi := 0) (by decide)) (by decide)
    refine zok_ai (s_X5_firstQuarter hσ h_x1) (fun σ2 v3 i19 h20 => ?_)
    exact zok_sai i19 (zr_w (zr_add (lo := 4) (hi := 28) h_x2 h20 (by decide)) (by decide))
  have h21 := zc_nel (1) (3) q17 (zr_shr (lo := 0) (hi := 3) 6 (by decide) h_x1 (by decide)) (zr_c (lo := 0) (hi := 0) (by decide)) (by decide)
  refine zok_if (fun q22 => ?_) (fun q22 => ?_)
  · have h23 := zc_eql (1) (1) q22 h21 (zr_c (lo := 1) (hi := 1) (by decide)) (by decide)
    refine zok_ai (s_X5_move hσ h_x1) (fun σ4 v5 i24 h25 => ?_)
    exact zok_sai i24 (zr_w (zr_add (lo := 4) (hi := 19) h_x2 h25 (by decide)) (by decide))
  have h26 := zc_nel (2) (3) q22 h21 (zr_c (lo := 1) (hi := 1) (by decide)) (by decide)
  refine zok_if (fun q27 => ?_) (fun q27 => ?_)
  · have h28 := zc_eql (2) (2) q27 h26 (zr_c (lo := 2) (hi := 2) (by decide)) (by decide)
    refine zok_ai (s_X5_doWithRegister hσ h_x1) (fun σ6 v7 i29 h30 => ?_)
    exact zok_sai i29 (zr_w (zr_add (lo := 4) (hi := 19) h_x2 h30 (by decide)) (by decide))
  have h31 := zc_nel (3) (3) q27 h26 (zr_c (lo := 2) (hi := 2) (by decide)) (by decide)
  refine zok_if (fun q32 => ?_) (fun q32 => ?_)
  · have h33 := zc_eql (3) (3) q32 (zr_andr (lo := 0) (hi := 7) (zr_c (lo := 7) (hi := 7) (by decide)) (by decide)) (zr_c (lo := 3) (hi := 3) (by decide)) (by decide)
    refine zok_ai (s_X5_exchange hσ (zr_andr (lo := 0) (hi := 7) (zr_c (lo := 7) (hi := 7) (by decide)) (by decide))) (fun σ10 v11 i34 h35 => ?_)
    exact zok_pai i34 (s_X5_carryOn_275 i34.P h35 h_x2)
  refine zok_ai (s_X5_lastQuarter hσ h_x1) (fun σ8 v9 i36 h37 => ?_)
  exact zok_pai i36 (s_X5_carryOn_275 i36.P (zr_w h37 (by decide)) h_x2)
theorem s_X5_carryOn_115 {G : Nat → Int} {σ : zSt} (hσ : zIC G σ) {s0 : Int32} (h_s0 : zr (16) (17) s0) : zok (fX5_carryOn_115 σ s0) (zAi (zIC G) (fun v : Int32 => zr (4) (31) v)) := by
  unfold fX5_carryOn_115
  refine zok_bs (hσ.sp1 h_s0 (by decide)) (fun σ22 e2 i1 => ?_)
  refine zok_ai (s_X5_fetchOp i1) (fun σ23 v24 i3 h4 => ?_)
  refine zok_if (fun q5 => ?_) (fun q5 => ?_)
  · have h6 := zc_eql (203) (203) q5 h4 (zr_c (lo := 203) (hi := 203) (by decide)) (by decide)
    refine zok_ai (s_X5_turnBeside i3) (fun σ27 v28 i7 h8 => ?_)
    exact zok_sai i7 (zr_w h8 (by decide))
  refine zok_ai (s_X5_takePlace i3 h4) (fun σ25 v26 i9 h10 => ?_)
  exact (s_X5_carryOn_141 i9 h4 (zr_w h10 (by decide)))
theorem s_X5_carryOn_54 {G : Nat → Int} {σ : zSt} (hσ : zIC G σ) {x1 : Int32} (h_x1 : zr (221) (253) x1) : zok (fX5_carryOn_54 σ x1) (zAi (zIC G) (fun v : Int32 => zr (4) (31) v)) := by
  unfold fX5_carryOn_54
  refine zok_ck rfl ?_
  refine zok_pi (s_X2_read hσ.P) (fun v30 h1 => ?_)
  refine zok_if (fun q2 => ?_) (fun q2 => ?_)
  · have h3 := zc_eql (221) (221) q2 h1 (zr_c (lo := 221) (hi := 221) (by decide)) (by decide)
    exact (s_X5_carryOn_90 hσ)
  refine zok_if (fun q4 => ?_) (fun q4 => ?_)
  · have h5 := zc_eql (237) (237) q4 h1 (zr_c (lo := 237) (hi := 237) (by decide)) (by decide)
    exact (s_X5_carryOn_90 hσ)
  refine zok_if (fun q6 => ?_) (fun q6 => ?_)
  · have h7 := zc_eql (253) (253) q6 h1 (zr_c (lo := 253) (hi := 253) (by decide)) (by decide)
    exact (s_X5_carryOn_90 hσ)
  refine zok_if (fun q8 => ?_) (fun q8 => ?_)
  · have h9 := zc_eql (221) (221) q8 h_x1 (zr_c (lo := 221) (hi := 221) (by decide)) (by decide)
    exact (s_X5_carryOn_115 hσ (zr_w (zr_c (lo := 16) (hi := 16) (by decide)) (by decide)))
  have h10 := zc_nel (222) (253) q8 h_x1 (zr_c (lo := 221) (hi := 221) (by decide)) (by decide)
  exact (s_X5_carryOn_115 hσ (zr_w (zr_c (lo := 17) (hi := 17) (by decide)) (by decide)))
theorem s_X5_carryOn {G : Nat → Int} {σ : zSt} (hσ : zIC G σ) : zok (fX5_carryOn σ ) (zAi (zIC G) (fun v : Int32 => zr (4) (31) v)) := by
  unfold fX5_carryOn
  refine zok_ck rfl ?_
  refine zok_if (fun q1 => ?_) (fun q1 => ?_)
  · have h2 := zc_eql (1) (1) q1 (rC_26 hσ.sg _ (by decide)) (zr_c (lo := 1) (hi := 1) (by decide)) (by decide)
    refine zok_bu (s_X5_growR hσ) (fun σ37 i3 => ?_)
    exact zok_sai i3 (zr_w (zr_c (lo := 4) (hi := 4) (by decide)) (by decide))
  have h4 := zc_nel (0) (0) q1 (rC_26 hσ.sg _ (by decide)) (zr_c (lo := 1) (hi := 1) (by decide)) (by decide)
  refine zok_bs (hσ.sp0 (zr_c (lo := 6) (hi := 6) (by decide)) (by decide)) (fun σ31 e6 i5 => ?_)
  refine zok_pi (s_X5_pairAt i5.P (zr_w (zr_c (lo := 6) (hi := 6) (by decide)) (by decide))) (fun v33 h7 => ?_)
  refine zok_bs (i5.wi 5 5 (by decide) h7 (by decide +kernel)) (fun σ34 e9 i8 => ?_)
  refine zok_ai (s_X5_fetchOp i8) (fun σ35 v36 i10 h11 => ?_)
  refine zok_if (fun q12 => ?_) (fun q12 => ?_)
  · have h13 := zc_eql (221) (221) q12 h11 (zr_c (lo := 221) (hi := 221) (by decide)) (by decide)
    exact (s_X5_carryOn_54 i10 (zr_w h13 (by decide)))
  refine zok_if (fun q14 => ?_) (fun q14 => ?_)
  · have h15 := zc_eql (253) (253) q14 h11 (zr_c (lo := 253) (hi := 253) (by decide)) (by decide)
    exact (s_X5_carryOn_54 i10 (zr_w h15 (by decide)))
  exact (s_X5_carryOn_141 i10 h11 (zr_w (zr_c (lo := 0) (hi := 0) (by decide)) (by decide)))
theorem s_X6_size_k11 {σ : zSt} (hσ : zPC σ) : zok (fX6_size_k11 σ ) (zPi σ (fun v : Int32 => True)) := by
  unfold fX6_size_k11
  exact zok_spi trivial
theorem s_X6_size_k12 {σ : zSt} (hσ : zPC σ) : zok (fX6_size_k12 σ ) (zPi σ (fun v : Int32 => True)) := by
  unfold fX6_size_k12
  exact zok_spi trivial
theorem s_X6_takeFirst_k11 {G : Nat → Int} {σ : zSt} (hσ : zIC G σ) : zok (fX6_takeFirst_k11 σ ) (zAL (zIC G) (fun v : Int64 => True)) := by
  unfold fX6_takeFirst_k11
  refine zok_if (fun q1 => ?_) (fun q1 => ?_)
  · have h2 := zc_eql (0) (0) q1 zr_any (zr_c (lo := 0) (hi := 0) (by decide)) (by decide)
    exact zok_sal hσ trivial
  refine zok_ck (zin_ok (zr_andr (lo := 0) (hi := 4095) (zr_c (lo := 4095) (hi := 4095) (by decide)) (by decide)) (by decide)) ?_
  refine zok_bv (fun v1 e4 => ?_)
  refine zok_bs (hσ.wk (by decide)) (fun σ2 e6 i5 => ?_)
  refine zok_bs (i5.wk (by decide)) (fun σ3 e8 i7 => ?_)
  exact zok_sal i7 trivial
theorem s_X6_takeFirst_k12 {G : Nat → Int} {σ : zSt} (hσ : zIC G σ) : zok (fX6_takeFirst_k12 σ ) (zAL (zIC G) (fun v : Int64 => True)) := by
  unfold fX6_takeFirst_k12
  refine zok_if (fun q1 => ?_) (fun q1 => ?_)
  · have h2 := zc_eql (0) (0) q1 zr_any (zr_c (lo := 0) (hi := 0) (by decide)) (by decide)
    exact zok_sal hσ trivial
  refine zok_ck (zin_ok (zr_andr (lo := 0) (hi := 4095) (zr_c (lo := 4095) (hi := 4095) (by decide)) (by decide)) (by decide)) ?_
  refine zok_bv (fun v1 e4 => ?_)
  refine zok_bs (hσ.wk (by decide)) (fun σ2 e6 i5 => ?_)
  refine zok_bs (i5.wk (by decide)) (fun σ3 e8 i7 => ?_)
  exact zok_sal i7 trivial
theorem s_J7_fill_53178_k30_5_body {G : Nat → Int} {σ : zSt} {k5 : zSt → Int32 → Int32 → Int32 → Option (zSt)} {Mk5 : Int} (hk5 : ∀ (σ : zSt) (x1 : Int32) (x2 : Int32) (x3 : Int32), zIC G σ → zr (0) (0) x1 → zr (0) (19) x2 → zr (19) (19) x3 → (19) - x2.toInt < Mk5 → zok (k5 σ x1 x2 x3) (zIC G)) (hσ : zIC G σ) {x1 : Int32} (h_x1 : zr (0) (0) x1) {x2 : Int32} (h_x2 : zr (0) (19) x2) {x3 : Int32} (h_x3 : zr (19) (19) x3) (hMk5 : (19) - x2.toInt ≤ Mk5) : zok (fJ7_fill_53178_k30_5_body k5 σ x1 x2 x3) (zIC G) := by
  unfold fJ7_fill_53178_k30_5_body
  refine zok_if (fun q1 => ?_) (fun q1 => ?_)
  · have h2 := zc_ler (19) q1 h_x3 h_x2 (by decide)
    exact zok_some hσ
  have h3 := zc_ltl (18) (z_nle q1) h_x2 h_x3 (by decide)
  refine zok_ck (zin_ok h3 (by decide)) ?_
  refine zok_bs (hσ.wi 0 18 (z_ix h3 (by decide)) h_x1 (by decide +kernel)) (fun σ1 e5 i4 => ?_)
  refine zok_br (zr_add (lo := 1) (hi := 19) h3 (zr_c (lo := 1) (hi := 1) (by decide)) (by decide)) (fun v2 e7 h6 => ?_)
  exact hk5 _ _ _ _ i4 h_x1 (zr_w h6 (by decide)) h_x3 (by rw [e7]; have := z_tadd (y := (1 : Int32)) h3 (zr_c (lo := 1) (hi := 1) (by decide)) (by decide); have e9 : (1 : Int32).toInt = 1 := rfl; omega) 
theorem s_J7_fill_53178_k30_5 {G : Nat → Int} : ∀ (n : Nat) {σ : zSt} (hσ : zIC G σ) {x1 : Int32} (h_x1 : zr (0) (0) x1) {x2 : Int32} (h_x2 : zr (0) (19) x2) {x3 : Int32} (h_x3 : zr (19) (19) x3) (hm : (19) - x2.toInt < n), zok (fJ7_fill_53178_k30_5 n σ x1 x2 x3) (zIC G) := by
  intro n
  induction n with
  | zero => intro σ hσ x1 h_x1 x2 h_x2 x3 h_x3 hm ; have h9 := h_x2.1; have h8 := h_x2.2; exfalso; omega
  | succ n ih => intro σ hσ x1 h_x1 x2 h_x2 x3 h_x3 hm ; exact s_J7_fill_53178_k30_5_body (fun σ x1 x2 x3 hσ h_x1 h_x2 h_x3 hm1 => ih hσ h_x1 h_x2 h_x3 (by omega)) hσ h_x1 h_x2 h_x3 (Int.le_refl _)
theorem s_J7_fill_53178_k30 {G : Nat → Int} {σ : zSt} (hσ : zIC G σ) {x1 : Int32} (h_x1 : zr (0) (0) x1) : zok (fJ7_fill_53178_k30 σ x1) (zIC G) := by
  unfold fJ7_fill_53178_k30
  exact (s_J7_fill_53178_k30_5 zfuel hσ h_x1 (zr_w (zr_c (lo := 0) (hi := 0) (by decide)) (by decide)) (zr_c (lo := 19) (hi := 19) (by decide)) (by decide))
theorem s_J7_fill_fda19_k30_10_body {G : Nat → Int} {σ : zSt} {k10 : zSt → Int32 → Int32 → Int32 → Option (zSt)} {Mk10 : Int} (hk10 : ∀ (σ : zSt) (x2 : Int32) (x3 : Int32) (x4 : Int32), zIC G σ → zr (13) (13) x2 → zr (15) (15) x3 → zr (9) (13) x4 → (13) - x4.toInt < Mk10 → zok (k10 σ x2 x3 x4) (zIC G)) (hσ : zIC G σ) {x2 : Int32} (h_x2 : zr (13) (13) x2) {x3 : Int32} (h_x3 : zr (15) (15) x3) {x4 : Int32} (h_x4 : zr (9) (13) x4) (hMk10 : (13) - x4.toInt ≤ Mk10) : zok (fJ7_fill_fda19_k30_10_body k10 σ x2 x3 x4) (zIC G) := by
  unfold fJ7_fill_fda19_k30_10_body
  refine zok_if (fun q1 => ?_) (fun q1 => ?_)
  · have h2 := zc_ler (13) q1 h_x2 h_x4 (by decide)
    exact zok_some hσ
  have h3 := zc_ltl (12) (z_nle q1) h_x4 h_x2 (by decide)
  refine zok_ck (zin_ok h3 (by decide)) ?_
  refine zok_bs (hσ.wi 9 12 (z_ix h3 (by decide)) h_x3 (by decide +kernel)) (fun σ1 e5 i4 => ?_)
  refine zok_br (zr_add (lo := 10) (hi := 13) h3 (zr_c (lo := 1) (hi := 1) (by decide)) (by decide)) (fun v2 e7 h6 => ?_)
  exact hk10 _ _ _ _ i4 h_x2 h_x3 (zr_w h6 (by decide)) (by rw [e7]; have := z_tadd (y := (1 : Int32)) h3 (zr_c (lo := 1) (hi := 1) (by decide)) (by decide); have e9 : (1 : Int32).toInt = 1 := rfl; omega) 
theorem s_J7_fill_fda19_k30_10 {G : Nat → Int} : ∀ (n : Nat) {σ : zSt} (hσ : zIC G σ) {x2 : Int32} (h_x2 : zr (13) (13) x2) {x3 : Int32} (h_x3 : zr (15) (15) x3) {x4 : Int32} (h_x4 : zr (9) (13) x4) (hm : (13) - x4.toInt < n), zok (fJ7_fill_fda19_k30_10 n σ x2 x3 x4) (zIC G) := by
  intro n
  induction n with
  | zero => intro σ hσ x2 h_x2 x3 h_x3 x4 h_x4 hm ; have h9 := h_x4.1; have h8 := h_x4.2; exfalso; omega
  | succ n ih => intro σ hσ x2 h_x2 x3 h_x3 x4 h_x4 hm ; exact s_J7_fill_fda19_k30_10_body (fun σ x2 x3 x4 hσ h_x2 h_x3 h_x4 hm1 => ih hσ h_x2 h_x3 h_x4 (by omega)) hσ h_x2 h_x3 h_x4 (Int.le_refl _)
theorem s_J7_fill_fda19_k30 {G : Nat → Int} {σ : zSt} (hσ : zIC G σ) {x1 : Int32} (h_x1 : zr (9) (9) x1) {x2 : Int32} (h_x2 : zr (13) (13) x2) {x3 : Int32} (h_x3 : zr (15) (15) x3) : zok (fJ7_fill_fda19_k30 σ x1 x2 x3) (zIC G) := by
  unfold fJ7_fill_fda19_k30
  refine zok_pu (s_rangeCheck (zr_c (lo := 19) (hi := 19) (by decide)) h_x1 h_x2 (by decide)) ?_
  exact (s_J7_fill_fda19_k30_10 zfuel hσ h_x2 h_x3 (zr_w h_x1 (by decide)) (z_su h_x1 (by decide)))
theorem s_X7_clear {G : Nat → Int} {σ : zSt} (hσ : zIC G σ) : zok (fX7_clear σ ) (zIC G) := by
  unfold fX7_clear
  refine zok_bu (s_J7_fill_53178_k30 hσ (zr_c (lo := 0) (hi := 0) (by decide))) (fun σ1 i1 => ?_)
  refine zok_bu (s_J7_fill_fda19_k30 i1 (zr_c (lo := 9) (hi := 9) (by decide)) (zr_c (lo := 13) (hi := 13) (by decide)) (zr_c (lo := 15) (hi := 15) (by decide))) (fun σ2 i2 => ?_)
  refine zok_ck rfl ?_
  refine zok_bs (i2.wi 16 16 (by decide) (zr_c (lo := 32768) (hi := 32768) (by decide)) (by decide +kernel)) (fun σ3 e4 i3 => ?_)
  refine zok_ck rfl ?_
  refine zok_bs (i3.wi 18 18 (by decide) (zr_c (lo := 255) (hi := 255) (by decide)) (by decide +kernel)) (fun σ4 e6 i5 => ?_)
  exact zok_some i5
theorem s_X7_keep {G : Nat → Int} {σ : zSt} (hσ : zIC G σ) : zok (fX7_keep σ ) (zIC G) := by
  unfold fX7_keep
  refine zok_ck (by decide) ?_
  refine zok_bs (hσ.wc (by decide +kernel) rfl rfl) (fun σ1 e2 i1 => ?_)
  exact zok_some i1
theorem s_X7_bringBack {G : Nat → Int} {σ : zSt} (hσ : zIC G σ) : zok (fX7_bringBack σ ) (zIC G) := by
  unfold fX7_bringBack
  refine zok_ck (by decide) ?_
  refine zok_bs (hσ.wc (by decide +kernel) rfl rfl) (fun σ1 e2 i1 => ?_)
  exact zok_some i1
theorem s_X7_value_20 {σ : zSt} (hσ : zPC σ) {s0 : Int32} : zok (fX7_value_20 σ s0) (zPi σ (fun v : Int32 => True)) := by
  unfold fX7_value_20
  exact zok_spi trivial
theorem s_X7_value {σ : zSt} (hσ : zPC σ) {x1 : Int32} (h_x1 : zr (0) (18) x1) : zok (fX7_value σ x1) (zPi σ (fun v : Int32 => True)) := by
  unfold fX7_value
  refine zok_if (fun q1 => ?_) (fun q1 => ?_)
  · exact zr_no (zc_ltl (-1) q1 h_x1 (zr_c (lo := 0) (hi := 0) (by decide)) (by decide)) (by decide)
  refine zok_if (fun q2 => ?_) (fun q2 => ?_)
  · exact zr_no (zc_lel (18) q2 (zr_c (lo := 19) (hi := 19) (by decide)) h_x1 (by decide)) (by decide)
  refine zok_ck (zin_ok h_x1 (by decide)) ?_
  exact (s_X7_value_20 hσ)
theorem s_X8_take {G : Nat → Int} {σ : zSt} (hσ : zIC G σ) : zok (fX8_take σ ) (zAi (zIC G) (fun v : Int32 => zr (0) (255) v)) := by
  unfold fX8_take
  refine zok_pi (s_X2_read hσ.P) (fun v2 h1 => ?_)
  refine zok_bs (hσ.wi 4 4 (by decide) zr_any (by decide +kernel)) (fun σ3 e3 i2 => ?_)
  exact zok_sai i2 h1
theorem s_X8_putSign_29 {σ : zSt} (hσ : zPC σ) : zok (fX8_putSign_29 σ ) (zPu σ) := by
  unfold fX8_putSign_29
  exact zok_spu
theorem s_X8_putSign {G : Nat → Int} {σ : zSt} (hσ : zIC G σ) {x1 : Int32} : zok (fX8_putSign σ x1) (zIC G) := by
  unfold fX8_putSign
  refine zok_if (fun q1 => ?_) (fun q1 => ?_)
  · have h2 := zc_ler (32) q1 (zr_c (lo := 32) (hi := 32) (by decide)) (rC_9 hσ.sg _ (by decide)) (by decide)
    exact zok_pau hσ (s_X8_putSign_29 hσ.P)
  have h3 := zc_ltl (31) (z_nle q1) (rC_9 hσ.sg _ (by decide)) (zr_c (lo := 32) (hi := 32) (by decide)) (by decide)
  refine zok_ck (zin_ok h3 (by decide)) ?_
  refine zok_bs (hσ.wk (by decide)) (fun σ1 e5 i4 => ?_)
  refine zok_bs (i4.wi 2 2 (by decide) (zr_add (lo := 1) (hi := 32) (z_tr e5 rfl h3) (zr_c (lo := 1) (hi := 1) (by decide)) (by decide)) (by decide +kernel)) (fun σ2 e7 i6 => ?_)
  exact zok_pau i6 (s_X8_putSign_29 i6.P)
theorem s_X8_putByte {G : Nat → Int} {σ : zSt} (hσ : zIC G σ) {x1 : Int32} : zok (fX8_putByte σ x1) (zIC G) := by
  unfold fX8_putByte
  refine zok_ck (by decide) ?_
  refine zok_ck (zin_ok (zr_andr (lo := 0) (hi := 15) (zr_c (lo := 15) (hi := 15) (by decide)) (by decide)) (by decide)) ?_
  refine zok_bu (s_X8_putSign hσ) (fun σ1 i1 => ?_)
  refine zok_ck (by decide) ?_
  refine zok_ck (zin_ok (zr_andr (lo := 0) (hi := 15) (zr_c (lo := 15) (hi := 15) (by decide)) (by decide)) (by decide)) ?_
  refine zok_bu (s_X8_putSign i1) (fun σ2 i2 => ?_)
  exact zok_some i2
theorem s_X8_putWord {G : Nat → Int} {σ : zSt} (hσ : zIC G σ) {x1 : Int32} : zok (fX8_putWord σ x1) (zIC G) := by
  unfold fX8_putWord
  refine zok_bu (s_X8_putByte hσ) (fun σ1 i1 => ?_)
  refine zok_bu (s_X8_putByte i1) (fun σ2 i2 => ?_)
  exact zok_some i2
theorem s_X8_putHl_35 {G : Nat → Int} {σ : zSt} (hσ : zIC G σ) {s0 : Int32} : zok (fX8_putHl_35 σ s0) (zIC G) := by
  unfold fX8_putHl_35
  refine zok_bu (s_X8_putSign hσ) (fun σ1 i1 => ?_)
  exact zok_some i1
theorem s_X8_putHl_15 {G : Nat → Int} {σ : zSt} (hσ : zIC G σ) {s0 : Int32} (h_s0 : zr (104) (105) s0) : zok (fX8_putHl_15 σ s0) (zIC G) := by
  unfold fX8_putHl_15
  refine zok_bu (s_X8_putSign hσ) (fun σ2 i1 => ?_)
  refine zok_if (fun q2 => ?_) (fun q2 => ?_)
  · have h3 := zc_eql (0) (0) q2 zr_any (zr_c (lo := 0) (hi := 0) (by decide)) (by decide)
    exact (s_X8_putHl_35 i1)
  exact (s_X8_putHl_35 i1)
theorem s_X8_putHl {G : Nat → Int} {σ : zSt} (hσ : zIC G σ) : zok (fX8_putHl σ ) (zIC G) := by
  unfold fX8_putHl
  refine zok_if (fun q1 => ?_) (fun q1 => ?_)
  · have h2 := zc_eql (0) (0) q1 zr_any (zr_c (lo := 0) (hi := 0) (by decide)) (by decide)
    exact (s_X8_putHl_15 hσ (zr_w (zr_c (lo := 104) (hi := 104) (by decide)) (by decide)))
  exact (s_X8_putHl_15 hσ (zr_w (zr_c (lo := 105) (hi := 105) (by decide)) (by decide)))
theorem s_X8_putPlace_45 {G : Nat → Int} {σ : zSt} (hσ : zIC G σ) {s0 : Int32} (h_s0 : zr (-2147483648) (128) s0) : zok (fX8_putPlace_45 σ s0) (zIC G) := by
  unfold fX8_putPlace_45
  refine zok_bu (s_X8_putByte hσ) (fun σ1 i1 => ?_)
  refine zok_bu (s_X8_putSign i1) (fun σ2 i2 => ?_)
  exact zok_some i2
theorem s_X8_putPlace_25 {G : Nat → Int} {σ : zSt} (hσ : zIC G σ) {x1 : Int32} {s0 : Int32} (h_s0 : zr (43) (45) s0) : zok (fX8_putPlace_25 σ x1 s0) (zIC G) := by
  unfold fX8_putPlace_25
  refine zok_bu (s_X8_putSign hσ) (fun σ3 i1 => ?_)
  refine zok_if (fun q2 => ?_) (fun q2 => ?_)
  · have h3 := zc_ler (128) q2 (zr_c (lo := 128) (hi := 128) (by decide)) zr_any (by decide)
    exact (s_X8_putPlace_45 i1 (zr_w (zr_sub (lo := -2147483391) (hi := 128) (zr_c (lo := 256) (hi := 256) (by decide)) h3 (by decide)) (by decide)))
  have h4 := zc_ltl (127) (z_nle q2) zr_any (zr_c (lo := 128) (hi := 128) (by decide)) (by decide)
  exact (s_X8_putPlace_45 i1 (zr_w h4 (by decide)))
theorem s_X8_putPlace {G : Nat → Int} {σ : zSt} (hσ : zIC G σ) {x1 : Int32} : zok (fX8_putPlace σ x1) (zIC G) := by
  unfold fX8_putPlace
  refine zok_bu (s_X8_putSign hσ) (fun σ4 i1 => ?_)
  refine zok_bu (s_X8_putHl i1) (fun σ5 i2 => ?_)
  refine zok_if (fun q3 => ?_) (fun q3 => ?_)
  · have h4 := zc_ler (128) q3 (zr_c (lo := 128) (hi := 128) (by decide)) zr_any (by decide)
    exact (s_X8_putPlace_25 i2 (zr_w (zr_c (lo := 45) (hi := 45) (by decide)) (by decide)))
  have h5 := zc_ltl (127) (z_nle q3) zr_any (zr_c (lo := 128) (hi := 128) (by decide)) (by decide)
  exact (s_X8_putPlace_25 i2 (zr_w (zr_c (lo := 43) (hi := 43) (by decide)) (by decide)))
theorem s_X8_putName_46 {G : Nat → Int} {σ : zSt} {k5 : zSt → Nat → Int32 → Int32 → Int32 → Option (zSt)} {Mk5 : Int} (hk5 : ∀ (σ : zSt) (n1 : Nat) (x2 : Int32) (x3 : Int32) (x4 : Int32), zIC G σ → n1 ∈ ([2, 3, 4, 5] : List Nat) → zr (0) (19) x4 → (19) - x4.toInt < Mk5 → zok (k5 σ n1 x2 x3 x4) (zIC G)) (hσ : zIC G σ) {n1 : Nat} (h_n1 : n1 ∈ ([2, 3, 4, 5] : List Nat)) {x2 : Int32} {x3 : Int32} {x4 : Int32} (h_x4 : zr (0) (18) x4) (hMk5 : (19) - x4.toInt ≤ Mk5) : zok (fX8_putName_46 k5 σ n1 x2 x3 x4) (zIC G) := by
  unfold fX8_putName_46
  refine zok_br (zr_add (lo := 1) (hi := 19) h_x4 (zr_c (lo := 1) (hi := 1) (by decide)) (by decide)) (fun v1 e2 h1 => ?_)
  exact hk5 _ _ _ _ _ hσ h_n1 (zr_w h1 (by decide)) (by rw [e2]; have := z_tadd (y := (1 : Int32)) h_x4 (zr_c (lo := 1) (hi := 1) (by decide)) (by decide); have e9 : (1 : Int32).toInt = 1 := rfl; omega) 
theorem s_X8_putName_5_body {G : Nat → Int} {σ : zSt} {k5 : zSt → Nat → Int32 → Int32 → Int32 → Option (zSt)} {Mk5 : Int} (hk5 : ∀ (σ : zSt) (n1 : Nat) (x2 : Int32) (x3 : Int32) (x4 : Int32), zIC G σ → n1 ∈ ([2, 3, 4, 5] : List Nat) → zr (0) (19) x4 → (19) - x4.toInt < Mk5 → zok (k5 σ n1 x2 x3 x4) (zIC G)) (hσ : zIC G σ) {n1 : Nat} (h_n1 : n1 ∈ ([2, 3, 4, 5] : List Nat)) {x2 : Int32} {x3 : Int32} {x4 : Int32} (h_x4 : zr (0) (19) x4) (hMk5 : (19) - x4.toInt ≤ Mk5) : zok (fX8_putName_5_body k5 σ n1 x2 x3 x4) (zIC G) := by
  unfold fX8_putName_5_body
  refine zok_ck (decide_eq_true (z_memlt h_n1 (by decide))) ?_
  refine zok_if (fun q1 => ?_) (fun q1 => ?_)
  · exact zok_some hσ
  have h2 := zc_ltl (18) (z_nle q1) h_x4 (zkN_r (m := 19) h_n1 (by decide +kernel)) (by decide)
  have h3 := zc_ltr (1) (z_nle q1) h_x4 (zkN_r (m := 19) h_n1 (by decide +kernel)) (by decide)
  refine zok_ck (decide_eq_true (z_memlt h_n1 (by decide))) ?_
  refine zok_ck (zin_k q1 h2 (by decide)) ?_
  refine zok_if (fun q4 => ?_) (fun q4 => ?_)
  · have h5 := zc_eql (59) (59) q4 zr_any (zr_c (lo := 59) (hi := 59) (by decide)) (by decide)
    refine zok_bv (fun v3 e7 => ?_)
    exact (s_X8_putName_46 hk5 hσ h_n1 h2 hMk5)
  refine zok_if (fun q8 => ?_) (fun q8 => ?_)
  · refine zok_ck (decide_eq_true (z_memlt h_n1 (by decide))) ?_
    refine zok_ck (zin_k q1 h2 (by decide)) ?_
    refine zok_bu (s_X8_putSign hσ) (fun σ2 i9 => ?_)
    exact (s_X8_putName_46 hk5 i9 h_n1 h2 hMk5)
  exact (s_X8_putName_46 hk5 hσ h_n1 h2 hMk5)
theorem s_X8_putName_5 {G : Nat → Int} : ∀ (n : Nat) {σ : zSt} (hσ : zIC G σ) {n1 : Nat} (h_n1 : n1 ∈ ([2, 3, 4, 5] : List Nat)) {x2 : Int32} {x3 : Int32} {x4 : Int32} (h_x4 : zr (0) (19) x4) (hm : (19) - x4.toInt < n), zok (fX8_putName_5 n σ n1 x2 x3 x4) (zIC G) := by
  intro n
  induction n with
  | zero => intro σ hσ n1 h_n1 x2 x3 x4 h_x4 hm ; have h9 := h_x4.1; have h8 := h_x4.2; exfalso; omega
  | succ n ih => intro σ hσ n1 h_n1 x2 x3 x4 h_x4 hm ; exact s_X8_putName_5_body (fun σ n1 x2 x3 x4 hσ h_n1 h_x4 hm1 => ih hσ h_n1 h_x4 (by omega)) hσ h_n1 h_x4 (Int.le_refl _)
theorem s_X8_putName {G : Nat → Int} {σ : zSt} (hσ : zIC G σ) {n1 : Nat} (h_n1 : n1 ∈ ([2, 3, 4, 5] : List Nat)) {x2 : Int32} : zok (fX8_putName σ n1 x2) (zIC G) := by
  unfold fX8_putName
  exact (s_X8_putName_5 zfuel hσ h_n1 (zr_w (zr_c (lo := 0) (hi := 0) (by decide)) (by decide)) (by decide))
theorem s_X8_putOne_78 {σ : zSt} (hσ : zPC σ) : zok (fX8_putOne_78 σ ) (zPu σ) := by
  unfold fX8_putOne_78
  exact zok_spu
theorem s_X8_putOne_71 {G : Nat → Int} {σ : zSt} (hσ : zIC G σ) {x1 : Int32} : zok (fX8_putOne_71 σ x1) (zIC G) := by
  unfold fX8_putOne_71
  refine zok_bu (s_X8_putName hσ (by decide)) (fun σ1 i1 => ?_)
  exact zok_pau i1 (s_X8_putOne_78 i1.P)
theorem s_X8_putOne_65 {G : Nat → Int} {σ : zSt} (hσ : zIC G σ) {s0 : Int32} (h_s0 : zr (104) (108) s0) : zok (fX8_putOne_65 σ s0) (zIC G) := by
  unfold fX8_putOne_65
  refine zok_bu (s_X8_putSign hσ) (fun σ2 i1 => ?_)
  exact zok_pau i1 (s_X8_putOne_78 i1.P)
theorem s_X8_putOne_34 {G : Nat → Int} {σ : zSt} (hσ : zIC G σ) {x1 : Int32} (h_x1 : zr (4) (5) x1) : zok (fX8_putOne_34 σ x1) (zIC G) := by
  unfold fX8_putOne_34
  refine zok_if (fun q1 => ?_) (fun q1 => ?_)
  · have h2 := zc_eql (0) (0) q1 zr_any (zr_c (lo := 0) (hi := 0) (by decide)) (by decide)
    exact (s_X8_putOne_71 hσ)
  refine zok_if (fun q3 => ?_) (fun q3 => ?_)
  · have h4 := zc_eql (0) (0) q3 zr_any (zr_c (lo := 0) (hi := 0) (by decide)) (by decide)
    refine zok_bu (s_X8_putHl hσ) (fun σ3 i5 => ?_)
    refine zok_if (fun q6 => ?_) (fun q6 => ?_)
    · have h7 := zc_eql (4) (4) q6 h_x1 (zr_c (lo := 4) (hi := 4) (by decide)) (by decide)
      exact (s_X8_putOne_65 i5 (zr_w (zr_c (lo := 104) (hi := 104) (by decide)) (by decide)))
    have h8 := zc_nel (5) (5) q6 h_x1 (zr_c (lo := 4) (hi := 4) (by decide)) (by decide)
    exact (s_X8_putOne_65 i5 (zr_w (zr_c (lo := 108) (hi := 108) (by decide)) (by decide)))
  exact (s_X8_putOne_71 hσ)
theorem s_X8_putOne_24 {G : Nat → Int} {σ : zSt} (hσ : zIC G σ) {x1 : Int32} : zok (fX8_putOne_24 σ x1) (zIC G) := by
  unfold fX8_putOne_24
  refine zok_if (fun q1 => ?_) (fun q1 => ?_)
  · have h2 := zc_eql (4) (4) q1 zr_any (zr_c (lo := 4) (hi := 4) (by decide)) (by decide)
    exact (s_X8_putOne_34 hσ (zr_w h2 (by decide)))
  refine zok_if (fun q3 => ?_) (fun q3 => ?_)
  · have h4 := zc_eql (5) (5) q3 zr_any (zr_c (lo := 5) (hi := 5) (by decide)) (by decide)
    exact (s_X8_putOne_34 hσ (zr_w h4 (by decide)))
  exact (s_X8_putOne_71 hσ)
theorem s_X8_putOne {G : Nat → Int} {σ : zSt} (hσ : zIC G σ) {x1 : Int32} : zok (fX8_putOne σ x1) (zIC G) := by
  unfold fX8_putOne
  refine zok_if (fun q1 => ?_) (fun q1 => ?_)
  · have h2 := zc_eql (6) (6) q1 zr_any (zr_c (lo := 6) (hi := 6) (by decide)) (by decide)
    refine zok_if (fun q3 => ?_) (fun q3 => ?_)
    · have h4 := zc_eql (0) (0) q3 zr_any (zr_c (lo := 0) (hi := 0) (by decide)) (by decide)
      exact (s_X8_putOne_24 hσ)
    refine zok_ai (s_X8_take hσ) (fun σ4 v5 i5 h6 => ?_)
    refine zok_bu (s_X8_putPlace i5) (fun σ6 i7 => ?_)
    exact zok_pau i7 (s_X8_putOne_78 i7.P)
  exact (s_X8_putOne_24 hσ)
theorem s_X8_putTurned_59 {σ : zSt} (hσ : zPC σ) : zok (fX8_putTurned_59 σ ) (zPu σ) := by
  unfold fX8_putTurned_59
  exact zok_spu
theorem s_X8_putTurned {G : Nat → Int} {σ : zSt} (hσ : zIC G σ) : zok (fX8_putTurned σ ) (zIC G) := by
  unfold fX8_putTurned
  refine zok_if (fun q1 => ?_) (fun q1 => ?_)
  · have h2 := zc_eql (0) (0) q1 zr_any (zr_c (lo := 0) (hi := 0) (by decide)) (by decide)
    refine zok_bu (s_X8_putName hσ (by decide)) (fun σ4 i3 => ?_)
    exact zok_some i3
  refine zok_bu (s_X8_putPlace hσ) (fun σ1 i4 => ?_)
  refine zok_if (fun q5 => ?_) (fun q5 => ?_)
  · have h6 := zc_eql (1) (1) q5 zr_any (zr_c (lo := 1) (hi := 1) (by decide)) (by decide)
    exact zok_pau i4 (s_X8_putTurned_59 i4.P)
  refine zok_if (fun q7 => ?_) (fun q7 => ?_)
  · have h8 := zc_eql (6) (6) q7 zr_any (zr_c (lo := 6) (hi := 6) (by decide)) (by decide)
    exact zok_pau i4 (s_X8_putTurned_59 i4.P)
  refine zok_bu (s_X8_putSign i4) (fun σ2 i9 => ?_)
  refine zok_bu (s_X8_putName i9 (by decide)) (fun σ3 i10 => ?_)
  exact zok_pau i10 (s_X8_putTurned_59 i10.P)
theorem s_X8_putPair_28 {σ : zSt} (hσ : zPC σ) : zok (fX8_putPair_28 σ ) (zPu σ) := by
  unfold fX8_putPair_28
  exact zok_spu
theorem s_X8_putPair {G : Nat → Int} {σ : zSt} (hσ : zIC G σ) {n1 : Nat} (h_n1 : n1 ∈ ([3, 4] : List Nat)) : zok (fX8_putPair σ n1) (zIC G) := by
  unfold fX8_putPair
  refine zok_if (fun q1 => ?_) (fun q1 => ?_)
  · have h2 := zc_eql (2) (2) q1 (zr_shr (lo := -1073741824) (hi := 1073741823) 1 (by decide) zr_any (by decide)) (zr_c (lo := 2) (hi := 2) (by decide)) (by decide)
    refine zok_bu (s_X8_putHl hσ) (fun σ2 i3 => ?_)
    exact zok_pau i3 (s_X8_putPair_28 i3.P)
  refine zok_bu (s_X8_putName hσ (z_memsub h_n1 (by decide))) (fun σ1 i4 => ?_)
  exact zok_pau i4 (s_X8_putPair_28 i4.P)
theorem s_X8_putMeant_275 {σ : zSt} (hσ : zPC σ) : zok (fX8_putMeant_275 σ ) (zPu σ) := by
  unfold fX8_putMeant_275
  exact zok_spu
theorem s_X8_putMeant_256 {G : Nat → Int} {σ : zSt} (hσ : zIC G σ) : zok (fX8_putMeant_256 σ ) (zIC G) := by
  unfold fX8_putMeant_256
  refine zok_ai (s_X8_take hσ) (fun σ1 v2 i1 h2 => ?_)
  refine zok_bu (s_X8_putWord i1) (fun σ3 i3 => ?_)
  exact zok_pau i3 (s_X8_putMeant_275 i3.P)
theorem s_X8_putMeant {G : Nat → Int} {σ : zSt} (hσ : zIC G σ) {x1 : Int32} (h_x1 : zr (65) (90) x1) : zok (fX8_putMeant σ x1) (zIC G) := by
  unfold fX8_putMeant
  refine zok_if (fun q1 => ?_) (fun q1 => ?_)
  · have h2 := zc_eql (66) (66) q1 h_x1 (zr_c (lo := 66) (hi := 66) (by decide)) (by decide)
    refine zok_bu (s_X8_putSign hσ) (fun σ4 i3 => ?_)
    exact zok_pau i3 (s_X8_putMeant_275 i3.P)
  refine zok_if (fun q4 => ?_) (fun q4 => ?_)
  · have h5 := zc_eql (67) (67) q4 h_x1 (zr_c (lo := 67) (hi := 67) (by decide)) (by decide)
    refine zok_bu (s_X8_putName hσ (by decide)) (fun σ5 i6 => ?_)
    exact zok_pau i6 (s_X8_putMeant_275 i6.P)
  refine zok_if (fun q7 => ?_) (fun q7 => ?_)
  · have h8 := zc_eql (68) (68) q7 h_x1 (zr_c (lo := 68) (hi := 68) (by decide)) (by decide)
    refine zok_bu (s_X8_putName hσ (by decide)) (fun σ6 i9 => ?_)
    exact zok_pau i9 (s_X8_putMeant_275 i9.P)
  refine zok_if (fun q10 => ?_) (fun q10 => ?_)
  · have h11 := zc_eql (69) (69) q10 h_x1 (zr_c (lo := 69) (hi := 69) (by decide)) (by decide)
    exact (s_X8_putMeant_256 hσ)
  refine zok_if (fun q12 => ?_) (fun q12 => ?_)
  · have h13 := zc_eql (70) (70) q12 h_x1 (zr_c (lo := 70) (hi := 70) (by decide)) (by decide)
    exact (s_X8_putMeant_256 hσ)
  refine zok_if (fun q14 => ?_) (fun q14 => ?_)
  · have h15 := zc_eql (71) (71) q14 h_x1 (zr_c (lo := 71) (hi := 71) (by decide)) (by decide)
    exact (s_X8_putMeant_256 hσ)
  refine zok_if (fun q16 => ?_) (fun q16 => ?_)
  · have h17 := zc_eql (72) (72) q16 h_x1 (zr_c (lo := 72) (hi := 72) (by decide)) (by decide)
    exact (s_X8_putMeant_256 hσ)
  refine zok_if (fun q18 => ?_) (fun q18 => ?_)
  · have h19 := zc_eql (73) (73) q18 h_x1 (zr_c (lo := 73) (hi := 73) (by decide)) (by decide)
    exact (s_X8_putMeant_256 hσ)
  refine zok_if (fun q20 => ?_) (fun q20 => ?_)
  · have h21 := zc_eql (74) (74) q20 h_x1 (zr_c (lo := 74) (hi := 74) (by decide)) (by decide)
    refine zok_bu (s_X8_putHl hσ) (fun σ7 i22 => ?_)
    exact zok_pau i22 (s_X8_putMeant_275 i22.P)
  refine zok_if (fun q23 => ?_) (fun q23 => ?_)
  · have h24 := zc_eql (75) (75) q23 h_x1 (zr_c (lo := 75) (hi := 75) (by decide)) (by decide)
    exact (s_X8_putMeant_256 hσ)
  refine zok_if (fun q25 => ?_) (fun q25 => ?_)
  · have h26 := zc_eql (76) (76) q25 h_x1 (zr_c (lo := 76) (hi := 76) (by decide)) (by decide)
    exact (s_X8_putMeant_256 hσ)
  refine zok_if (fun q27 => ?_) (fun q27 => ?_)
  · have h28 := zc_eql (77) (77) q27 h_x1 (zr_c (lo := 77) (hi := 77) (by decide)) (by decide)
    exact (s_X8_putMeant_256 hσ)
  refine zok_if (fun q29 => ?_) (fun q29 => ?_)
  · have h30 := zc_eql (78) (78) q29 h_x1 (zr_c (lo := 78) (hi := 78) (by decide)) (by decide)
    refine zok_ai (s_X8_take hσ) (fun σ8 v9 i31 h32 => ?_)
    refine zok_bu (s_X8_putByte i31) (fun σ10 i33 => ?_)
    exact zok_pau i33 (s_X8_putMeant_275 i33.P)
  refine zok_if (fun q34 => ?_) (fun q34 => ?_)
  · have h35 := zc_eql (79) (79) q34 h_x1 (zr_c (lo := 79) (hi := 79) (by decide)) (by decide)
    exact (s_X8_putMeant_256 hσ)
  refine zok_if (fun q36 => ?_) (fun q36 => ?_)
  · have h37 := zc_eql (80) (80) q36 h_x1 (zr_c (lo := 80) (hi := 80) (by decide)) (by decide)
    refine zok_bu (s_X8_putPair hσ (by decide)) (fun σ11 i38 => ?_)
    exact zok_pau i38 (s_X8_putMeant_275 i38.P)
  refine zok_if (fun q39 => ?_) (fun q39 => ?_)
  · have h40 := zc_eql (81) (81) q39 h_x1 (zr_c (lo := 81) (hi := 81) (by decide)) (by decide)
    refine zok_bu (s_X8_putPair hσ (by decide)) (fun σ12 i41 => ?_)
    exact zok_pau i41 (s_X8_putMeant_275 i41.P)
  refine zok_if (fun q42 => ?_) (fun q42 => ?_)
  · have h43 := zc_eql (82) (82) q42 h_x1 (zr_c (lo := 82) (hi := 82) (by decide)) (by decide)
    exact (s_X8_putMeant_256 hσ)
  refine zok_if (fun q44 => ?_) (fun q44 => ?_)
  · have h45 := zc_eql (83) (83) q44 h_x1 (zr_c (lo := 83) (hi := 83) (by decide)) (by decide)
    exact (s_X8_putMeant_256 hσ)
  refine zok_if (fun q46 => ?_) (fun q46 => ?_)
  · have h47 := zc_eql (84) (84) q46 h_x1 (zr_c (lo := 84) (hi := 84) (by decide)) (by decide)
    refine zok_bu (s_X8_putTurned hσ) (fun σ13 i48 => ?_)
    exact zok_pau i48 (s_X8_putMeant_275 i48.P)
  refine zok_if (fun q49 => ?_) (fun q49 => ?_)
  · have h50 := zc_eql (85) (85) q49 h_x1 (zr_c (lo := 85) (hi := 85) (by decide)) (by decide)
    exact (s_X8_putMeant_256 hσ)
  refine zok_if (fun q51 => ?_) (fun q51 => ?_)
  · have h52 := zc_eql (86) (86) q51 h_x1 (zr_c (lo := 86) (hi := 86) (by decide)) (by decide)
    refine zok_bu (s_X8_putByte hσ) (fun σ14 i53 => ?_)
    exact zok_pau i53 (s_X8_putMeant_275 i53.P)
  refine zok_if (fun q54 => ?_) (fun q54 => ?_)
  · have h55 := zc_eql (87) (87) q54 h_x1 (zr_c (lo := 87) (hi := 87) (by decide)) (by decide)
    refine zok_ai (s_X8_take hσ) (fun σ15 v16 i56 h57 => ?_)
    refine zok_ai (s_X8_take i56) (fun σ17 v18 i58 h59 => ?_)
    refine zok_bu (s_X8_putWord i58) (fun σ19 i60 => ?_)
    exact zok_pau i60 (s_X8_putMeant_275 i60.P)
  refine zok_if (fun q61 => ?_) (fun q61 => ?_)
  · have h62 := zc_eql (88) (88) q61 h_x1 (zr_c (lo := 88) (hi := 88) (by decide)) (by decide)
    exact (s_X8_putMeant_256 hσ)
  refine zok_if (fun q63 => ?_) (fun q63 => ?_)
  · have h64 := zc_eql (89) (89) q63 h_x1 (zr_c (lo := 89) (hi := 89) (by decide)) (by decide)
    refine zok_bu (s_X8_putOne hσ) (fun σ20 i65 => ?_)
    exact zok_pau i65 (s_X8_putMeant_275 i65.P)
  refine zok_if (fun q66 => ?_) (fun q66 => ?_)
  · have h67 := zc_eql (90) (90) q66 h_x1 (zr_c (lo := 90) (hi := 90) (by decide)) (by decide)
    refine zok_bu (s_X8_putOne hσ) (fun σ21 i68 => ?_)
    exact zok_pau i68 (s_X8_putMeant_275 i68.P)
  have h69 := zc_nel (65) (89) q66 h_x1 (zr_c (lo := 90) (hi := 90) (by decide)) (by decide)
  exact (s_X8_putMeant_256 hσ)
theorem s_X8_put_110 {G : Nat → Int} {σ : zSt} {k41 : zSt → Nat → Int32 → Int32 → Int32 → Option (zSt)} {Mk41 : Int} (hk41 : ∀ (σ : zSt) (n1 : Nat) (x2 : Int32) (x3 : Int32) (x4 : Int32), zIC G σ → n1 ∈ ([0, 6, 7, 8, 9, 10, 11, 12, 13, 14, 15, 16, 17, 18, 19, 20, 21, 22, 23, 24, 25, 26, 27, 28, 29, 30, 31, 32, 33, 34, 35, 36, 37, 38, 39, 40, 41, 42, 43] : List Nat) → zr (1) (400) x2 → zr (0) (75) x4 → (75) - x4.toInt < Mk41 → zok (k41 σ n1 x2 x3 x4) (zIC G)) (hσ : zIC G σ) {n1 : Nat} (h_n1 : n1 ∈ ([0, 6, 7, 8, 9, 10, 11, 12, 13, 14, 15, 16, 17, 18, 19, 20, 21, 22, 23, 24, 25, 26, 27, 28, 29, 30, 31, 32, 33, 34, 35, 36, 37, 38, 39, 40, 41, 42, 43] : List Nat)) {x2 : Int32} (h_x2 : zr (1) (400) x2) {x3 : Int32} {x4 : Int32} (h_x4 : zr (0) (74) x4) (hMk41 : (75) - x4.toInt ≤ Mk41) : zok (fX8_put_110 k41 σ n1 x2 x3 x4) (zIC G) := by
  unfold fX8_put_110
  refine zok_br (zr_add (lo := 1) (hi := 75) h_x4 (zr_c (lo := 1) (hi := 1) (by decide)) (by decide)) (fun v3 e2 h1 => ?_)
  exact hk41 _ _ _ _ _ hσ h_n1 h_x2 (zr_w h1 (by decide)) (by rw [e2]; have := z_tadd (y := (1 : Int32)) h_x4 (zr_c (lo := 1) (hi := 1) (by decide)) (by decide); have e9 : (1 : Int32).toInt = 1 := rfl; omega) 
end ZJN0
section ZJN1
theorem s_X8_put_104 {G : Nat → Int} {σ : zSt} {k41 : zSt → Nat → Int32 → Int32 → Int32 → Option (zSt)} {Mk41 : Int} (hk41 : ∀ (σ : zSt) (n1 : Nat) (x2 : Int32) (x3 : Int32) (x4 : Int32), zIC G σ → n1 ∈ ([0, 6, 7, 8, 9, 10, 11, 12, 13, 14, 15, 16, 17, 18, 19, 20, 21, 22, 23, 24, 25, 26, 27, 28, 29, 30, 31, 32, 33, 34, 35, 36, 37, 38, 39, 40, 41, 42, 43] : List Nat) → zr (1) (400) x2 → zr (0) (75) x4 → (75) - x4.toInt < Mk41 → zok (k41 σ n1 x2 x3 x4) (zIC G)) (hσ : zIC G σ) {n1 : Nat} (h_n1 : n1 ∈ ([0, 6, 7, 8, 9, 10, 11, 12, 13, 14, 15, 16, 17, 18, 19, 20, 21, 22, 23, 24, 25, 26, 27, 28, 29, 30, 31, 32, 33, 34, 35, 36, 37, 38, 39, 40, 41, 42, 43] : List Nat)) {x2 : Int32} (h_x2 : zr (1) (400) x2) {x3 : Int32} {x4 : Int32} (h_x4 : zr (0) (74) x4) {x5 : Int32} (hMk41 : (75) - x4.toInt ≤ Mk41) : zok (fX8_put_104 k41 σ n1 x2 x3 x4 x5) (zIC G) := by
  unfold fX8_put_104
  refine zok_bu (s_X8_putSign hσ) (fun σ4 i1 => ?_)
  exact (s_X8_put_110 hk41 i1 h_n1 h_x2 h_x4 hMk41)
theorem s_X8_put_41_body {G : Nat → Int} {σ : zSt} {k41 : zSt → Nat → Int32 → Int32 → Int32 → Option (zSt)} {Mk41 : Int} (hk41 : ∀ (σ : zSt) (n1 : Nat) (x2 : Int32) (x3 : Int32) (x4 : Int32), zIC G σ → n1 ∈ ([0, 6, 7, 8, 9, 10, 11, 12, 13, 14, 15, 16, 17, 18, 19, 20, 21, 22, 23, 24, 25, 26, 27, 28, 29, 30, 31, 32, 33, 34, 35, 36, 37, 38, 39, 40, 41, 42, 43] : List Nat) → zr (1) (400) x2 → zr (0) (75) x4 → (75) - x4.toInt < Mk41 → zok (k41 σ n1 x2 x3 x4) (zIC G)) (hσ : zIC G σ) {n1 : Nat} (h_n1 : n1 ∈ ([0, 6, 7, 8, 9, 10, 11, 12, 13, 14, 15, 16, 17, 18, 19, 20, 21, 22, 23, 24, 25, 26, 27, 28, 29, 30, 31, 32, 33, 34, 35, 36, 37, 38, 39, 40, 41, 42, 43] : List Nat)) {x2 : Int32} (h_x2 : zr (1) (400) x2) {x3 : Int32} {x4 : Int32} (h_x4 : zr (0) (75) x4) (hMk41 : (75) - x4.toInt ≤ Mk41) : zok (fX8_put_41_body k41 σ n1 x2 x3 x4) (zIC G) := by
  unfold fX8_put_41_body
  refine zok_ck (decide_eq_true (z_memlt h_n1 (by decide))) ?_
  refine zok_if (fun q1 => ?_) (fun q1 => ?_)
  · exact zok_some hσ
  have h2 := zc_ltl (74) (z_nle q1) h_x4 (zkN_r (m := 75) h_n1 (by decide +kernel)) (by decide)
  have h3 := zc_ltr (1) (z_nle q1) h_x4 (zkN_r (m := 75) h_n1 (by decide +kernel)) (by decide)
  refine zok_ck (decide_eq_true (z_memlt h_n1 (by decide))) ?_
  refine zok_ck (zin_k q1 h2 (by decide)) ?_
  refine zok_bv (fun v5 e5 => ?_)
  refine zok_if (fun q6 => ?_) (fun q6 => ?_)
  · have h7 := zc_eql (59) (59) q6 zr_any (zr_c (lo := 59) (hi := 59) (by decide)) (by decide)
    refine zok_bv (fun v7 e9 => ?_)
    exact (s_X8_put_110 hk41 hσ h_n1 h_x2 h2 hMk41)
  refine zok_ck (zdv_ok h_x2 (by decide)) ?_
  refine zok_if (fun q10 => ?_) (fun q10 => ?_)
  · refine zok_if (fun q11 => ?_) (fun q11 => ?_)
    · have h12 := zc_ltl (64) q11 zr_any (zr_c (lo := 65) (hi := 65) (by decide)) (by decide)
      exact (s_X8_put_104 hk41 hσ h_n1 h_x2 h2 hMk41)
    have h13 := zc_ler (65) (z_nlt q11) (zr_c (lo := 65) (hi := 65) (by decide)) zr_any (by decide)
    refine zok_if (fun q14 => ?_) (fun q14 => ?_)
    · have h15 := zc_ltr (91) q14 (zr_c (lo := 90) (hi := 90) (by decide)) h13 (by decide)
      exact (s_X8_put_104 hk41 hσ h_n1 h_x2 h2 hMk41)
    have h16 := zc_lel (90) (z_nlt q14) h13 (zr_c (lo := 90) (hi := 90) (by decide)) (by decide)
    refine zok_bu (s_X8_putMeant hσ h16) (fun σ6 i17 => ?_)
    exact (s_X8_put_110 hk41 i17 h_n1 h_x2 h2 hMk41)
  exact (s_X8_put_110 hk41 hσ h_n1 h_x2 h2 hMk41)
theorem s_X8_put_41 {G : Nat → Int} : ∀ (n : Nat) {σ : zSt} (hσ : zIC G σ) {n1 : Nat} (h_n1 : n1 ∈ ([0, 6, 7, 8, 9, 10, 11, 12, 13, 14, 15, 16, 17, 18, 19, 20, 21, 22, 23, 24, 25, 26, 27, 28, 29, 30, 31, 32, 33, 34, 35, 36, 37, 38, 39, 40, 41, 42, 43] : List Nat)) {x2 : Int32} (h_x2 : zr (1) (400) x2) {x3 : Int32} {x4 : Int32} (h_x4 : zr (0) (75) x4) (hm : (75) - x4.toInt < n), zok (fX8_put_41 n σ n1 x2 x3 x4) (zIC G) := by
  intro n
  induction n with
  | zero => intro σ hσ n1 h_n1 x2 h_x2 x3 x4 h_x4 hm ; have h9 := h_x4.1; have h8 := h_x4.2; exfalso; omega
  | succ n ih => intro σ hσ n1 h_n1 x2 h_x2 x3 x4 h_x4 hm ; exact s_X8_put_41_body (fun σ n1 x2 x3 x4 hσ h_n1 h_x2 h_x4 hm1 => ih hσ h_n1 h_x2 h_x4 (by omega)) hσ h_n1 h_x2 h_x4 (Int.le_refl _)
theorem s_X8_put_h {G : Nat → Int} : ∀ (n : Nat) {σ : zSt} (hσ : zIC G σ) {n1 : Nat} (h_n1 : n1 ∈ ([0, 6, 7, 8, 9, 10, 11, 12, 13, 14, 15, 16, 17, 18, 19, 20, 21, 22, 23, 24, 25, 26, 27, 28, 29, 30, 31, 32, 33, 34, 35, 36, 37, 38, 39, 40, 41, 42, 43] : List Nat)) {x2 x3 : Int32} (h_x2 : zr 1 400 x2) (h_x3 : zr 0 75 x3) (hr : x2.toInt ≤ x3.toInt + 1) (hm : 75 - x3.toInt < n), zok (fX8_put_4 n σ n1 x2 x3) (zIC G) := by
  intro n
  induction n with
  | zero => intro σ hσ n1 h_n1 x2 x3 h_x2 h_x3 hr hm; have := h_x3.2; exfalso; omega
  | succ n ih =>
    intro σ hσ n1 h_n1 x2 x3 h_x2 h_x3 hr hm
    show zok (fX8_put_4_body (fX8_put_4 n) σ n1 x2 x3) (zIC G)
    unfold fX8_put_4_body
    refine zok_ck (decide_eq_true (z_memlt h_n1 (by decide))) ?_
    have hN := zkN_r (m := 75) h_n1 (by decide +kernel)
    refine zok_if (fun q => ?_) (fun q => ?_)
    · exact s_X8_put_41 zfuel hσ h_n1 h_x2 (zr_c (by decide)) (by decide)
    have hx := zc_ltl (75 - 1) (z_nle q) h_x3 hN (by decide)
    refine zok_ck (decide_eq_true (z_memlt h_n1 (by decide))) ?_
    refine zok_ck (zin_k q h_x3 (by decide)) ?_
    have e1 := z_tadd hx (zr_c (lo := 1) (hi := 1) (x := 1) (by decide)) (by decide)
    have c1 : (1 : Int32).toInt = 1 := rfl
    have c0 : (0 : Int32).toInt = 0 := rfl
    have hx3 := hx.2
    have hx1 := h_x2.1
    have hx2 : zr 1 (75 + 1) x2 := ⟨hx1, by have := hx.2; omega⟩
    have k : ∀ s0 : Int32, zr 0 1 s0 → zok (fX8_put_28 (fX8_put_4 n) σ n1 x3 s0 x2) (zIC G) := fun s0 hs0 => by
      unfold fX8_put_28
      have e2 := z_tadd hx2 hs0 (by decide)
      have b1 := hs0.1
      have b2 := hs0.2
      refine zok_bv (fun v1 ev1 => zok_bv (fun v2 ev2 => ih hσ h_n1 ?_ ?_ ?_ ?_))
      · subst ev1; exact ⟨by omega, by omega⟩
      · subst ev2; have := hx.1; exact ⟨by omega, by omega⟩
      · subst ev1; subst ev2; omega
      · subst ev2; omega
    refine zok_if (fun _ => k 1 (zr_c (by decide))) (fun _ => k 0 (zr_c (by decide)))
theorem s_X8_put_4 {G : Nat → Int} (n : Nat) {σ : zSt} (hσ : zIC G σ) {n1 : Nat} (h_n1 : n1 ∈ ([0, 6, 7, 8, 9, 10, 11, 12, 13, 14, 15, 16, 17, 18, 19, 20, 21, 22, 23, 24, 25, 26, 27, 28, 29, 30, 31, 32, 33, 34, 35, 36, 37, 38, 39, 40, 41, 42, 43] : List Nat)) {x2 x3 : Int32} (h_x2 : zr (1) (1) x2) (h_x3 : zr (0) (0) x3) (hm : (0) - x3.toInt < n) (hn : zfuel ≤ n := by decide) : zok (fX8_put_4 n σ n1 x2 x3) (zIC G) :=
  s_X8_put_h n hσ h_n1 (zr_w h_x2 (by decide)) (zr_w h_x3 (by decide)) (by have := h_x2.2; have := h_x3.1; omega) (by have := h_x3.1; unfold zfuel at hn; omega)
theorem s_X8_put {G : Nat → Int} {σ : zSt} (hσ : zIC G σ) {n1 : Nat} (h_n1 : n1 ∈ ([0, 6, 7, 8, 9, 10, 11, 12, 13, 14, 15, 16, 17, 18, 19, 20, 21, 22, 23, 24, 25, 26, 27, 28, 29, 30, 31, 32, 33, 34, 35, 36, 37, 38, 39, 40, 41, 42, 43] : List Nat)) : zok (fX8_put σ n1) (zIC G) :=
  s_X8_put_4 zfuel hσ h_n1 (zr_c (by decide)) (zr_c (by decide)) (by decide) (Nat.le_refl _)
theorem s_X8_split {G : Nat → Int} {σ : zSt} (hσ : zIC G σ) {x1 : Int32} (h_x1 : zr (0) (255) x1) : zok (fX8_split σ x1) (zIC G) := by
  unfold fX8_split
  refine zok_bs (hσ.wi 5 5 (by decide) (zr_shr (lo := 0) (hi := 3) 6 (by decide) h_x1 (by decide)) (by decide +kernel)) (fun σ1 e2 i1 => ?_)
  refine zok_bs (i1.wi 6 6 (by decide) (zr_andr (lo := 0) (hi := 7) (zr_c (lo := 7) (hi := 7) (by decide)) (by decide)) (by decide +kernel)) (fun σ2 e4 i3 => ?_)
  refine zok_bs (i3.wi 7 7 (by decide) (zr_andr (lo := 0) (hi := 7) (zr_c (lo := 7) (hi := 7) (by decide)) (by decide)) (by decide +kernel)) (fun σ3 e6 i5 => ?_)
  exact zok_some i5
theorem s_X8_turnPatterns {σ : zSt} (hσ : zPC σ) : zok (fX8_turnPatterns σ ) (zPk σ (fun v : Nat => v ∈ ([6, 7, 8, 9] : List Nat))) := by
  unfold fX8_turnPatterns
  refine zok_if (fun q1 => ?_) (fun q1 => ?_)
  · have h2 := zc_eql (0) (0) q1 zr_any (zr_c (lo := 0) (hi := 0) (by decide)) (by decide)
    exact zok_spk (by decide)
  refine zok_if (fun q3 => ?_) (fun q3 => ?_)
  · have h4 := zc_eql (1) (1) q3 zr_any (zr_c (lo := 1) (hi := 1) (by decide)) (by decide)
    exact zok_spk (by decide)
  refine zok_if (fun q5 => ?_) (fun q5 => ?_)
  · have h6 := zc_eql (2) (2) q5 zr_any (zr_c (lo := 2) (hi := 2) (by decide)) (by decide)
    exact zok_spk (by decide)
  exact zok_spk (by decide)
theorem s_X8_blockPatterns_17 {σ : zSt} (hσ : zPC σ) {s0 : Int32} : zok (fX8_blockPatterns_17 σ s0) (zPk σ (fun v : Nat => v ∈ ([0, 10, 11, 12, 13] : List Nat))) := by
  unfold fX8_blockPatterns_17
  refine zok_if (fun q1 => ?_) (fun q1 => ?_)
  · have h2 := zc_eql (0) (0) q1 zr_any (zr_c (lo := 0) (hi := 0) (by decide)) (by decide)
    exact zok_spk (by decide)
  refine zok_if (fun q3 => ?_) (fun q3 => ?_)
  · have h4 := zc_eql (1) (1) q3 zr_any (zr_c (lo := 1) (hi := 1) (by decide)) (by decide)
    exact zok_spk (by decide)
  refine zok_if (fun q5 => ?_) (fun q5 => ?_)
  · have h6 := zc_eql (2) (2) q5 zr_any (zr_c (lo := 2) (hi := 2) (by decide)) (by decide)
    exact zok_spk (by decide)
  refine zok_if (fun q7 => ?_) (fun q7 => ?_)
  · have h8 := zc_eql (3) (3) q7 zr_any (zr_c (lo := 3) (hi := 3) (by decide)) (by decide)
    exact zok_spk (by decide)
  exact zok_spk (by decide)
theorem s_X8_blockPatterns {σ : zSt} (hσ : zPC σ) : zok (fX8_blockPatterns σ ) (zPk σ (fun v : Nat => v ∈ ([0, 10, 11, 12, 13] : List Nat))) := by
  unfold fX8_blockPatterns
  refine zok_if (fun q1 => ?_) (fun q1 => ?_)
  · have h2 := zc_ler (4) q1 (zr_c (lo := 4) (hi := 4) (by decide)) zr_any (by decide)
    exact (s_X8_blockPatterns_17 hσ)
  have h3 := zc_ltl (3) (z_nle q1) zr_any (zr_c (lo := 4) (hi := 4) (by decide)) (by decide)
  exact (s_X8_blockPatterns_17 hσ)
theorem s_X8_morePatterns_114 {σ : zSt} (hσ : zPC σ) {s0 : Nat} (h_s0 : s0 ∈ ([21, 22] : List Nat)) : zok (fX8_morePatterns_114 σ s0) (zPk σ (fun v : Nat => v ∈ ([0, 14, 15, 16, 17, 18, 19, 20, 21, 22, 23, 24] : List Nat))) := by
  unfold fX8_morePatterns_114
  exact zok_spk (z_memsub h_s0 (by decide))
theorem s_X8_morePatterns_89 {σ : zSt} (hσ : zPC σ) {s0 : Nat} (h_s0 : s0 ∈ ([16, 17] : List Nat)) : zok (fX8_morePatterns_89 σ s0) (zPk σ (fun v : Nat => v ∈ ([0, 14, 15, 16, 17, 18, 19, 20, 21, 22, 23, 24] : List Nat))) := by
  unfold fX8_morePatterns_89
  exact zok_spk (z_memsub h_s0 (by decide))
theorem s_X8_morePatterns_72 {σ : zSt} (hσ : zPC σ) {s0 : Nat} (h_s0 : s0 ∈ ([14, 15] : List Nat)) : zok (fX8_morePatterns_72 σ s0) (zPk σ (fun v : Nat => v ∈ ([0, 14, 15, 16, 17, 18, 19, 20, 21, 22, 23, 24] : List Nat))) := by
  unfold fX8_morePatterns_72
  exact zok_spk (z_memsub h_s0 (by decide))
theorem s_X8_morePatterns {σ : zSt} (hσ : zPC σ) : zok (fX8_morePatterns σ ) (zPk σ (fun v : Nat => v ∈ ([0, 14, 15, 16, 17, 18, 19, 20, 21, 22, 23, 24] : List Nat))) := by
  unfold fX8_morePatterns
  refine zok_if (fun q1 => ?_) (fun q1 => ?_)
  · have h2 := zc_eql (1) (1) q1 zr_any (zr_c (lo := 1) (hi := 1) (by decide)) (by decide)
    refine zok_if (fun q3 => ?_) (fun q3 => ?_)
    · have h4 := zc_eql (0) (0) q3 zr_any (zr_c (lo := 0) (hi := 0) (by decide)) (by decide)
      refine zok_if (fun q5 => ?_) (fun q5 => ?_)
      · have h6 := zc_eql (6) (6) q5 zr_any (zr_c (lo := 6) (hi := 6) (by decide)) (by decide)
        exact (s_X8_morePatterns_72 hσ (by decide))
      exact (s_X8_morePatterns_72 hσ (by decide))
    refine zok_if (fun q7 => ?_) (fun q7 => ?_)
    · have h8 := zc_eql (1) (1) q7 zr_any (zr_c (lo := 1) (hi := 1) (by decide)) (by decide)
      refine zok_if (fun q9 => ?_) (fun q9 => ?_)
      · have h10 := zc_eql (6) (6) q9 zr_any (zr_c (lo := 6) (hi := 6) (by decide)) (by decide)
        exact (s_X8_morePatterns_89 hσ (by decide))
      exact (s_X8_morePatterns_89 hσ (by decide))
    refine zok_if (fun q11 => ?_) (fun q11 => ?_)
    · have h12 := zc_eql (2) (2) q11 zr_any (zr_c (lo := 2) (hi := 2) (by decide)) (by decide)
      exact zok_spk (by decide)
    refine zok_if (fun q13 => ?_) (fun q13 => ?_)
    · have h14 := zc_eql (3) (3) q13 zr_any (zr_c (lo := 3) (hi := 3) (by decide)) (by decide)
      exact zok_spk (by decide)
    refine zok_if (fun q15 => ?_) (fun q15 => ?_)
    · have h16 := zc_eql (4) (4) q15 zr_any (zr_c (lo := 4) (hi := 4) (by decide)) (by decide)
      exact zok_spk (by decide)
    refine zok_if (fun q17 => ?_) (fun q17 => ?_)
    · have h18 := zc_eql (5) (5) q17 zr_any (zr_c (lo := 5) (hi := 5) (by decide)) (by decide)
      refine zok_if (fun q19 => ?_) (fun q19 => ?_)
      · have h20 := zc_eql (1) (1) q19 zr_any (zr_c (lo := 1) (hi := 1) (by decide)) (by decide)
        exact (s_X8_morePatterns_114 hσ (by decide))
      exact (s_X8_morePatterns_114 hσ (by decide))
    refine zok_if (fun q21 => ?_) (fun q21 => ?_)
    · have h22 := zc_eql (6) (6) q21 zr_any (zr_c (lo := 6) (hi := 6) (by decide)) (by decide)
      exact zok_spk (by decide)
    exact zok_spk (by decide)
  exact zok_spk (by decide)
theorem s_X8_lastPatterns {σ : zSt} (hσ : zPC σ) : zok (fX8_lastPatterns σ ) (zPk σ (fun v : Nat => v ∈ ([36, 37, 38, 39, 40, 41, 42, 43] : List Nat))) := by
  unfold fX8_lastPatterns
  refine zok_if (fun q1 => ?_) (fun q1 => ?_)
  · have h2 := zc_eql (0) (0) q1 zr_any (zr_c (lo := 0) (hi := 0) (by decide)) (by decide)
    exact zok_spk (by decide)
  refine zok_if (fun q3 => ?_) (fun q3 => ?_)
  · have h4 := zc_eql (1) (1) q3 zr_any (zr_c (lo := 1) (hi := 1) (by decide)) (by decide)
    exact zok_spk (by decide)
  refine zok_if (fun q5 => ?_) (fun q5 => ?_)
  · have h6 := zc_eql (2) (2) q5 zr_any (zr_c (lo := 2) (hi := 2) (by decide)) (by decide)
    exact zok_spk (by decide)
  refine zok_if (fun q7 => ?_) (fun q7 => ?_)
  · have h8 := zc_eql (3) (3) q7 zr_any (zr_c (lo := 3) (hi := 3) (by decide)) (by decide)
    exact zok_spk (by decide)
  refine zok_if (fun q9 => ?_) (fun q9 => ?_)
  · have h10 := zc_eql (4) (4) q9 zr_any (zr_c (lo := 4) (hi := 4) (by decide)) (by decide)
    exact zok_spk (by decide)
  refine zok_if (fun q11 => ?_) (fun q11 => ?_)
  · have h12 := zc_eql (5) (5) q11 zr_any (zr_c (lo := 5) (hi := 5) (by decide)) (by decide)
    exact zok_spk (by decide)
  refine zok_if (fun q13 => ?_) (fun q13 => ?_)
  · have h14 := zc_eql (6) (6) q13 zr_any (zr_c (lo := 6) (hi := 6) (by decide)) (by decide)
    exact zok_spk (by decide)
  exact zok_spk (by decide)
theorem s_X8_firstPatterns {σ : zSt} (hσ : zPC σ) : zok (fX8_firstPatterns σ ) (zPk σ (fun v : Nat => v ∈ ([25, 26, 27, 28, 29, 30, 31, 32] : List Nat))) := by
  unfold fX8_firstPatterns
  refine zok_if (fun q1 => ?_) (fun q1 => ?_)
  · have h2 := zc_eql (0) (0) q1 zr_any (zr_c (lo := 0) (hi := 0) (by decide)) (by decide)
    exact zok_spk (by decide)
  refine zok_if (fun q3 => ?_) (fun q3 => ?_)
  · have h4 := zc_eql (1) (1) q3 zr_any (zr_c (lo := 1) (hi := 1) (by decide)) (by decide)
    exact zok_spk (by decide)
  refine zok_if (fun q5 => ?_) (fun q5 => ?_)
  · have h6 := zc_eql (2) (2) q5 zr_any (zr_c (lo := 2) (hi := 2) (by decide)) (by decide)
    exact zok_spk (by decide)
  refine zok_if (fun q7 => ?_) (fun q7 => ?_)
  · have h8 := zc_eql (3) (3) q7 zr_any (zr_c (lo := 3) (hi := 3) (by decide)) (by decide)
    exact zok_spk (by decide)
  refine zok_if (fun q9 => ?_) (fun q9 => ?_)
  · have h10 := zc_eql (4) (4) q9 zr_any (zr_c (lo := 4) (hi := 4) (by decide)) (by decide)
    exact zok_spk (by decide)
  refine zok_if (fun q11 => ?_) (fun q11 => ?_)
  · have h12 := zc_eql (5) (5) q11 zr_any (zr_c (lo := 5) (hi := 5) (by decide)) (by decide)
    exact zok_spk (by decide)
  refine zok_if (fun q13 => ?_) (fun q13 => ?_)
  · have h14 := zc_eql (6) (6) q13 zr_any (zr_c (lo := 6) (hi := 6) (by decide)) (by decide)
    exact zok_spk (by decide)
  exact zok_spk (by decide)
theorem s_X8_patternsOf_23 {G : Nat → Int} {σ : zSt} (hσ : zIC G σ) {s0 : Int32} (h_s0 : zr (0) (255) s0) : zok (fX8_patternsOf_23 σ s0) (zAk (zIC G) (fun v : Nat => v ∈ ([0, 6, 7, 8, 9, 10, 11, 12, 13, 14, 15, 16, 17, 18, 19, 20, 21, 22, 23, 24, 25, 26, 27, 28, 29, 30, 31, 32, 33, 34, 35, 36, 37, 38, 39, 40, 41, 42, 43] : List Nat))) := by
  unfold fX8_patternsOf_23
  refine zok_bs (hσ.wi 10 10 (by decide) h_s0 (by decide +kernel)) (fun σ1 e2 i1 => ?_)
  refine zok_ai (s_X8_take i1) (fun σ2 v3 i3 h4 => ?_)
  refine zok_bu (s_X8_split i3 h4) (fun σ4 i5 => ?_)
  refine zok_pk (s_X8_turnPatterns i5.P) (fun v6 h6 => ?_)
  exact zok_sak i5 (z_memsub h6 (by decide))
theorem s_X8_patternsOf_73 {σ : zSt} (hσ : zPC σ) {s0 : Nat} (h_s0 : s0 ∈ ([0, 10, 11, 12, 13, 14, 15, 16, 17, 18, 19, 20, 21, 22, 23, 24] : List Nat)) : zok (fX8_patternsOf_73 σ s0) (zPk σ (fun v : Nat => v ∈ ([0, 6, 7, 8, 9, 10, 11, 12, 13, 14, 15, 16, 17, 18, 19, 20, 21, 22, 23, 24, 25, 26, 27, 28, 29, 30, 31, 32, 33, 34, 35, 36, 37, 38, 39, 40, 41, 42, 43] : List Nat))) := by
  unfold fX8_patternsOf_73
  exact zok_spk (z_memsub h_s0 (by decide))
theorem s_X8_patternsOf_126 {σ : zSt} (hσ : zPC σ) {s0 : Nat} (h_s0 : s0 ∈ ([33, 34] : List Nat)) : zok (fX8_patternsOf_126 σ s0) (zPk σ (fun v : Nat => v ∈ ([0, 6, 7, 8, 9, 10, 11, 12, 13, 14, 15, 16, 17, 18, 19, 20, 21, 22, 23, 24, 25, 26, 27, 28, 29, 30, 31, 32, 33, 34, 35, 36, 37, 38, 39, 40, 41, 42, 43] : List Nat))) := by
  unfold fX8_patternsOf_126
  exact zok_spk (z_memsub h_s0 (by decide))
theorem s_X8_patternsOf {G : Nat → Int} {σ : zSt} (hσ : zIC G σ) {x1 : Int32} (h_x1 : zr (0) (255) x1) : zok (fX8_patternsOf σ x1) (zAk (zIC G) (fun v : Nat => v ∈ ([0, 6, 7, 8, 9, 10, 11, 12, 13, 14, 15, 16, 17, 18, 19, 20, 21, 22, 23, 24, 25, 26, 27, 28, 29, 30, 31, 32, 33, 34, 35, 36, 37, 38, 39, 40, 41, 42, 43] : List Nat))) := by
  unfold fX8_patternsOf
  refine zok_if (fun q1 => ?_) (fun q1 => ?_)
  · have h2 := zc_eql (203) (203) q1 h_x1 (zr_c (lo := 203) (hi := 203) (by decide)) (by decide)
    refine zok_if (fun q3 => ?_) (fun q3 => ?_)
    · have h4 := zc_eql (0) (0) q3 zr_any (zr_c (lo := 0) (hi := 0) (by decide)) (by decide)
      exact (s_X8_patternsOf_23 hσ (zr_w (zr_c (lo := 0) (hi := 0) (by decide)) (by decide)))
    refine zok_ai (s_X8_take hσ) (fun σ19 v20 i5 h6 => ?_)
    exact (s_X8_patternsOf_23 i5 h6)
  refine zok_if (fun q7 => ?_) (fun q7 => ?_)
  · have h8 := zc_eql (237) (237) q7 h_x1 (zr_c (lo := 237) (hi := 237) (by decide)) (by decide)
    refine zok_ai (s_X8_take hσ) (fun σ12 v13 i9 h10 => ?_)
    refine zok_bu (s_X8_split i9 h10) (fun σ14 i11 => ?_)
    refine zok_if (fun q12 => ?_) (fun q12 => ?_)
    · have h13 := zc_eql (2) (2) q12 zr_any (zr_c (lo := 2) (hi := 2) (by decide)) (by decide)
      refine zok_pk (s_X8_blockPatterns i11.P) (fun v18 h14 => ?_)
      exact zok_pak i11 (s_X8_patternsOf_73 i11.P (z_memsub h14 (by decide)))
    refine zok_pk (s_X8_morePatterns i11.P) (fun v16 h15 => ?_)
    exact zok_pak i11 (s_X8_patternsOf_73 i11.P (z_memsub h15 (by decide)))
  refine zok_bu (s_X8_split hσ h_x1) (fun σ7 i16 => ?_)
  refine zok_if (fun q17 => ?_) (fun q17 => ?_)
  · have h18 := zc_eql (0) (0) q17 zr_any (zr_c (lo := 0) (hi := 0) (by decide)) (by decide)
    refine zok_pk (s_X8_firstPatterns i16.P) (fun v9 h19 => ?_)
    exact zok_sak i16 (z_memsub h19 (by decide))
  refine zok_if (fun q20 => ?_) (fun q20 => ?_)
  · have h21 := zc_eql (1) (1) q20 zr_any (zr_c (lo := 1) (hi := 1) (by decide)) (by decide)
    refine zok_if (fun q22 => ?_) (fun q22 => ?_)
    · have h23 := zc_eql (118) (118) q22 h_x1 (zr_c (lo := 118) (hi := 118) (by decide)) (by decide)
      exact zok_pak i16 (s_X8_patternsOf_126 i16.P (by decide))
    exact zok_pak i16 (s_X8_patternsOf_126 i16.P (by decide))
  refine zok_if (fun q24 => ?_) (fun q24 => ?_)
  · have h25 := zc_eql (2) (2) q24 zr_any (zr_c (lo := 2) (hi := 2) (by decide)) (by decide)
    exact zok_sak i16 (by decide)
  refine zok_pk (s_X8_lastPatterns i16.P) (fun v11 h26 => ?_)
  exact zok_sak i16 (z_memsub h26 (by decide))
theorem s_X8_write_82 {G : Nat → Int} {σ : zSt} (hσ : zIC G σ) : zok (fX8_write_82 σ ) (zAi (zIC G) (fun v : Int32 => True)) := by
  unfold fX8_write_82
  refine zok_bu (s_X8_put hσ (by decide)) (fun σ1 i1 => ?_)
  exact zok_sai i1 trivial
theorem s_X8_write_124 {G : Nat → Int} {σ : zSt} (hσ : zIC G σ) {x2 : Int32} (h_x2 : zr (0) (255) x2) : zok (fX8_write_124 σ x2) (zAi (zIC G) (fun v : Int32 => True)) := by
  unfold fX8_write_124
  refine zok_ak (s_X8_patternsOf hσ h_x2) (fun σ2 v3 i1 h2 => ?_)
  refine zok_bu (s_X8_put i1 h2) (fun σ4 i3 => ?_)
  exact zok_sai i3 trivial
theorem s_X8_write_108 {G : Nat → Int} {σ : zSt} (hσ : zIC G σ) {s0 : Int32} (h_s0 : zr (120) (121) s0) : zok (fX8_write_108 σ s0) (zAi (zIC G) (fun v : Int32 => True)) := by
  unfold fX8_write_108
  refine zok_bs (hσ.wi 8 8 (by decide) h_s0 (by decide +kernel)) (fun σ5 e2 i1 => ?_)
  refine zok_ai (s_X8_take i1) (fun σ6 v7 i3 h4 => ?_)
  refine zok_pi (s_X5_meansPlace i3.P h4) (fun v9 h5 => ?_)
  refine zok_ck (zbo_ok h5 (by decide)) ?_
  refine zok_bs (i3.wi 9 9 (by decide) h5 (by decide +kernel)) (fun σ10 e7 i6 => ?_)
  exact (s_X8_write_124 i6 h4)
theorem s_X8_write_47 {G : Nat → Int} {σ : zSt} (hσ : zIC G σ) {x2 : Int32} (h_x2 : zr (221) (253) x2) : zok (fX8_write_47 σ x2) (zAi (zIC G) (fun v : Int32 => True)) := by
  unfold fX8_write_47
  refine zok_pi (s_X2_read hσ.P) (fun v12 h1 => ?_)
  refine zok_if (fun q2 => ?_) (fun q2 => ?_)
  · have h3 := zc_eql (221) (221) q2 h1 (zr_c (lo := 221) (hi := 221) (by decide)) (by decide)
    exact (s_X8_write_82 hσ)
  refine zok_if (fun q4 => ?_) (fun q4 => ?_)
  · have h5 := zc_eql (237) (237) q4 h1 (zr_c (lo := 237) (hi := 237) (by decide)) (by decide)
    exact (s_X8_write_82 hσ)
  refine zok_if (fun q6 => ?_) (fun q6 => ?_)
  · have h7 := zc_eql (253) (253) q6 h1 (zr_c (lo := 253) (hi := 253) (by decide)) (by decide)
    exact (s_X8_write_82 hσ)
  refine zok_if (fun q8 => ?_) (fun q8 => ?_)
  · have h9 := zc_eql (221) (221) q8 h_x2 (zr_c (lo := 221) (hi := 221) (by decide)) (by decide)
    exact (s_X8_write_108 hσ (zr_w (zr_c (lo := 120) (hi := 120) (by decide)) (by decide)))
  have h10 := zc_nel (222) (253) q8 h_x2 (zr_c (lo := 221) (hi := 221) (by decide)) (by decide)
  exact (s_X8_write_108 hσ (zr_w (zr_c (lo := 121) (hi := 121) (by decide)) (by decide)))
theorem s_X8_write {G : Nat → Int} {σ : zSt} (hσ : zIC G σ) {x1 : Int32} : zok (fX8_write σ x1) (zAi (zIC G) (fun v : Int32 => True)) := by
  unfold fX8_write
  refine zok_bs (hσ.wi 3 3 (by decide) (zr_andr (lo := 0) (hi := 65535) (zr_c (lo := 65535) (hi := 65535) (by decide)) (by decide)) (by decide +kernel)) (fun σ13 e2 i1 => ?_)
  refine zok_bs (i1.wi 4 4 (by decide) (zr_c (lo := 0) (hi := 0) (by decide)) (by decide +kernel)) (fun σ14 e4 i3 => ?_)
  refine zok_bs (i3.wi 2 2 (by decide) (zr_c (lo := 0) (hi := 0) (by decide)) (by decide +kernel)) (fun σ15 e6 i5 => ?_)
  refine zok_bs (i5.wi 8 8 (by decide) (zr_c (lo := 0) (hi := 0) (by decide)) (by decide +kernel)) (fun σ16 e8 i7 => ?_)
  refine zok_ck rfl ?_
  refine zok_bs (i7.wi 9 9 (by decide) (zr_c (lo := 0) (hi := 0) (by decide)) (by decide +kernel)) (fun σ17 e10 i9 => ?_)
  refine zok_ai (s_X8_take i9) (fun σ18 v19 i11 h12 => ?_)
  refine zok_if (fun q13 => ?_) (fun q13 => ?_)
  · have h14 := zc_eql (221) (221) q13 h12 (zr_c (lo := 221) (hi := 221) (by decide)) (by decide)
    exact (s_X8_write_47 i11 (zr_w h14 (by decide)))
  refine zok_if (fun q15 => ?_) (fun q15 => ?_)
  · have h16 := zc_eql (253) (253) q15 h12 (zr_c (lo := 253) (hi := 253) (by decide)) (by decide)
    exact (s_X8_write_47 i11 (zr_w h16 (by decide)))
  exact (s_X8_write_124 i11 h12)
theorem s_X8_eightFrom_39 {σ : zSt} {k6 : zSt → Int32 → Int64 → Int32 → Option (zSt × Int64)} {Mk6 : Int} (hk6 : ∀ (x1 : Int32) (x2 : Int64) (x4 : Int32), zr (0) (31) x1 → zr (-1) (7) x4 → x4.toInt - (-1) < Mk6 → zok (k6 σ x1 x2 x4) (zPl σ (fun v : Int64 => True))) (hσ : zPC σ) {x1 : Int32} (h_x1 : zr (0) (31) x1) {x2 : Int64} {x4 : Int32} (h_x4 : zr (0) (7) x4) {s0 : Int32} (hMk6 : x4.toInt - (-1) ≤ Mk6) : zok (fX8_eightFrom_39 k6 σ x1 x2 x4 s0) (zPl σ (fun v : Int64 => True)) := by
  unfold fX8_eightFrom_39
  refine zok_bv (fun v1 e2 => ?_)
  refine zok_br (zr_add (lo := -1) (hi := 6) h_x4 (zr_c (lo := -1) (hi := -1) (by decide)) (by decide)) (fun v2 e4 h3 => ?_)
  exact hk6 _ _ _  h_x1 (zr_w h3 (by decide)) (by rw [e4]; have := z_tadd (y := (-1 : Int32)) h_x4 (zr_c (lo := -1) (hi := -1) (by decide)) (by decide); have e9 : (-1 : Int32).toInt = -1 := rfl; omega) 
theorem s_X8_eightFrom_38 {σ : zSt} {k6 : zSt → Int32 → Int64 → Int32 → Option (zSt × Int64)} {Mk6 : Int} (hk6 : ∀ (x1 : Int32) (x2 : Int64) (x4 : Int32), zr (0) (31) x1 → zr (-1) (7) x4 → x4.toInt - (-1) < Mk6 → zok (k6 σ x1 x2 x4) (zPl σ (fun v : Int64 => True))) (hσ : zPC σ) {x1 : Int32} (h_x1 : zr (0) (31) x1) {x2 : Int64} {x4 : Int32} (h_x4 : zr (0) (7) x4) (hMk6 : x4.toInt - (-1) ≤ Mk6) : zok (fX8_eightFrom_38 k6 σ x1 x2 x4) (zPl σ (fun v : Int64 => True)) := by
  unfold fX8_eightFrom_38
  exact (s_X8_eightFrom_39 hk6 hσ h_x1 h_x4 hMk6)
theorem s_X8_eightFrom_6_body {σ : zSt} {k6 : zSt → Int32 → Int64 → Int32 → Option (zSt × Int64)} {Mk6 : Int} (hk6 : ∀ (x1 : Int32) (x2 : Int64) (x4 : Int32), zr (0) (31) x1 → zr (-1) (7) x4 → x4.toInt - (-1) < Mk6 → zok (k6 σ x1 x2 x4) (zPl σ (fun v : Int64 => True))) (hσ : zPC σ) {x1 : Int32} (h_x1 : zr (0) (31) x1) {x2 : Int64} {x4 : Int32} (h_x4 : zr (-1) (7) x4) (hMk6 : x4.toInt - (-1) ≤ Mk6) : zok (fX8_eightFrom_6_body k6 σ x1 x2 x4) (zPl σ (fun v : Int64 => True)) := by
  unfold fX8_eightFrom_6_body
  refine zok_if (fun q1 => ?_) (fun q1 => ?_)
  · have h2 := zc_ltl (-1) q1 h_x4 (zr_c (lo := 0) (hi := 0) (by decide)) (by decide)
    exact zok_spl trivial
  have h3 := zc_ler (0) (z_nlt q1) (zr_c (lo := 0) (hi := 0) (by decide)) h_x4 (by decide)
  refine zok_if (fun q4 => ?_) (fun q4 => ?_)
  · exact zr_no (zc_ltl (-1) q4 h_x1 (zr_c (lo := 0) (hi := 0) (by decide)) (by decide)) (by decide)
  refine zok_if (fun q5 => ?_) (fun q5 => ?_)
  · have h6 := zc_lel (31) q5 (zr_sub (lo := -7) (hi := 32) (rC_9 hσ.sg _ (by decide)) h3 (by decide)) h_x1 (by decide)
    exact (s_X8_eightFrom_38 hk6 hσ h_x1 h3 hMk6)
  have h7 := zc_ltr (1) (z_nle q5) h_x1 (zr_sub (lo := -7) (hi := 32) (rC_9 hσ.sg _ (by decide)) h3 (by decide)) (by decide)
  refine zok_ck (z_ef hσ.sg h3 q5 q4) ?_
  exact (s_X8_eightFrom_39 hk6 hσ h_x1 h3 hMk6)
theorem s_X8_eightFrom_6 {σ : zSt} (hσ : zPC σ) : ∀ (n : Nat) {x1 : Int32} (h_x1 : zr (0) (31) x1) {x2 : Int64} {x4 : Int32} (h_x4 : zr (-1) (7) x4) (hm : x4.toInt - (-1) < n), zok (fX8_eightFrom_6 n σ x1 x2 x4) (zPl σ (fun v : Int64 => True)) := by
  intro n
  induction n with
  | zero => intro x1 h_x1 x2 x4 h_x4 hm ; have h9 := h_x4.1; have h8 := h_x4.2; exfalso; omega
  | succ n ih => intro x1 h_x1 x2 x4 h_x4 hm ; exact s_X8_eightFrom_6_body (fun x1 x2 x4 h_x1 h_x4 hm1 => ih h_x1 h_x4 (by omega)) hσ h_x1 h_x4 (Int.le_refl _)
theorem s_X8_eightFrom {σ : zSt} (hσ : zPC σ) {x1 : Int32} (h_x1 : zr (0) (31) x1) : zok (fX8_eightFrom σ x1) (zPl σ (fun v : Int64 => True)) := by
  unfold fX8_eightFrom
  exact (s_X8_eightFrom_6 hσ zfuel h_x1 (zr_w (zr_c (lo := 7) (hi := 7) (by decide)) (by decide)) (by decide))
theorem s_J7_fill_53178_k21_5_body {G : Nat → Int} {σ : zSt} {k5 : zSt → Int32 → Int32 → Int32 → Option (zSt)} {Mk5 : Int} (hk5 : ∀ (σ : zSt) (x1 : Int32) (x2 : Int32) (x3 : Int32), zIC G σ → zr (0) (0) x1 → zr (0) (16384) x2 → zr (16384) (16384) x3 → (16384) - x2.toInt < Mk5 → zok (k5 σ x1 x2 x3) (zIC G)) (hσ : zIC G σ) {x1 : Int32} (h_x1 : zr (0) (0) x1) {x2 : Int32} (h_x2 : zr (0) (16384) x2) {x3 : Int32} (h_x3 : zr (16384) (16384) x3) (hMk5 : (16384) - x2.toInt ≤ Mk5) : zok (fJ7_fill_53178_k21_5_body k5 σ x1 x2 x3) (zIC G) := by
  unfold fJ7_fill_53178_k21_5_body
  refine zok_if (fun q1 => ?_) (fun q1 => ?_)
  · have h2 := zc_ler (16384) q1 h_x3 h_x2 (by decide)
    exact zok_some hσ
  have h3 := zc_ltl (16383) (z_nle q1) h_x2 h_x3 (by decide)
  refine zok_ck (zin_ok h3 (by decide)) ?_
  refine zok_bs (hσ.wi 0 16383 (z_ix h3 (by decide)) h_x1 (by decide +kernel)) (fun σ1 e5 i4 => ?_)
  refine zok_br (zr_add (lo := 1) (hi := 16384) h3 (zr_c (lo := 1) (hi := 1) (by decide)) (by decide)) (fun v2 e7 h6 => ?_)
  exact hk5 _ _ _ _ i4 h_x1 (zr_w h6 (by decide)) h_x3 (by rw [e7]; have := z_tadd (y := (1 : Int32)) h3 (zr_c (lo := 1) (hi := 1) (by decide)) (by decide); have e9 : (1 : Int32).toInt = 1 := rfl; omega) 
theorem s_J7_fill_53178_k21_5 {G : Nat → Int} : ∀ (n : Nat) {σ : zSt} (hσ : zIC G σ) {x1 : Int32} (h_x1 : zr (0) (0) x1) {x2 : Int32} (h_x2 : zr (0) (16384) x2) {x3 : Int32} (h_x3 : zr (16384) (16384) x3) (hm : (16384) - x2.toInt < n), zok (fJ7_fill_53178_k21_5 n σ x1 x2 x3) (zIC G) := by
  intro n
  induction n with
  | zero => intro σ hσ x1 h_x1 x2 h_x2 x3 h_x3 hm ; have h9 := h_x2.1; have h8 := h_x2.2; exfalso; omega
  | succ n ih => intro σ hσ x1 h_x1 x2 h_x2 x3 h_x3 hm ; exact s_J7_fill_53178_k21_5_body (fun σ x1 x2 x3 hσ h_x1 h_x2 h_x3 hm1 => ih hσ h_x1 h_x2 h_x3 (by omega)) hσ h_x1 h_x2 h_x3 (Int.le_refl _)
theorem s_J7_fill_53178_k21 {G : Nat → Int} {σ : zSt} (hσ : zIC G σ) {x1 : Int32} (h_x1 : zr (0) (0) x1) : zok (fJ7_fill_53178_k21 σ x1) (zIC G) := by
  unfold fJ7_fill_53178_k21
  exact (s_J7_fill_53178_k21_5 zfuel hσ h_x1 (zr_w (zr_c (lo := 0) (hi := 0) (by decide)) (by decide)) (zr_c (lo := 16384) (hi := 16384) (by decide)) (by decide))
theorem s_J7_fill_53178_k23_5_body {G : Nat → Int} {σ : zSt} {k5 : zSt → Int32 → Int32 → Int32 → Option (zSt)} {Mk5 : Int} (hk5 : ∀ (σ : zSt) (x1 : Int32) (x2 : Int32) (x3 : Int32), zIC G σ → zr (0) (0) x1 → zr (0) (96) x2 → zr (96) (96) x3 → (96) - x2.toInt < Mk5 → zok (k5 σ x1 x2 x3) (zIC G)) (hσ : zIC G σ) {x1 : Int32} (h_x1 : zr (0) (0) x1) {x2 : Int32} (h_x2 : zr (0) (96) x2) {x3 : Int32} (h_x3 : zr (96) (96) x3) (hMk5 : (96) - x2.toInt ≤ Mk5) : zok (fJ7_fill_53178_k23_5_body k5 σ x1 x2 x3) (zIC G) := by
  unfold fJ7_fill_53178_k23_5_body
  refine zok_if (fun q1 => ?_) (fun q1 => ?_)
  · have h2 := zc_ler (96) q1 h_x3 h_x2 (by decide)
    exact zok_some hσ
  have h3 := zc_ltl (95) (z_nle q1) h_x2 h_x3 (by decide)
  refine zok_ck (zin_ok h3 (by decide)) ?_
  refine zok_bs (hσ.wi 0 95 (z_ix h3 (by decide)) h_x1 (by decide +kernel)) (fun σ1 e5 i4 => ?_)
  refine zok_br (zr_add (lo := 1) (hi := 96) h3 (zr_c (lo := 1) (hi := 1) (by decide)) (by decide)) (fun v2 e7 h6 => ?_)
  exact hk5 _ _ _ _ i4 h_x1 (zr_w h6 (by decide)) h_x3 (by rw [e7]; have := z_tadd (y := (1 : Int32)) h3 (zr_c (lo := 1) (hi := 1) (by decide)) (by decide); have e9 : (1 : Int32).toInt = 1 := rfl; omega) 
theorem s_J7_fill_53178_k23_5 {G : Nat → Int} : ∀ (n : Nat) {σ : zSt} (hσ : zIC G σ) {x1 : Int32} (h_x1 : zr (0) (0) x1) {x2 : Int32} (h_x2 : zr (0) (96) x2) {x3 : Int32} (h_x3 : zr (96) (96) x3) (hm : (96) - x2.toInt < n), zok (fJ7_fill_53178_k23_5 n σ x1 x2 x3) (zIC G) := by
  intro n
  induction n with
  | zero => intro σ hσ x1 h_x1 x2 h_x2 x3 h_x3 hm ; have h9 := h_x2.1; have h8 := h_x2.2; exfalso; omega
  | succ n ih => intro σ hσ x1 h_x1 x2 h_x2 x3 h_x3 hm ; exact s_J7_fill_53178_k23_5_body (fun σ x1 x2 x3 hσ h_x1 h_x2 h_x3 hm1 => ih hσ h_x1 h_x2 h_x3 (by omega)) hσ h_x1 h_x2 h_x3 (Int.le_refl _)
theorem s_J7_fill_53178_k23 {G : Nat → Int} {σ : zSt} (hσ : zIC G σ) {x1 : Int32} (h_x1 : zr (0) (0) x1) : zok (fJ7_fill_53178_k23 σ x1) (zIC G) := by
  unfold fJ7_fill_53178_k23
  exact (s_J7_fill_53178_k23_5 zfuel hσ h_x1 (zr_w (zr_c (lo := 0) (hi := 0) (by decide)) (by decide)) (zr_c (lo := 96) (hi := 96) (by decide)) (by decide))
theorem s_X9_clear {G : Nat → Int} {σ : zSt} (hσ : zIC G σ) : zok (fX9_clear σ ) (zIC G) := by
  unfold fX9_clear
  refine zok_bu (s_J7_fill_53178_k21 hσ (zr_c (lo := 0) (hi := 0) (by decide))) (fun σ1 i1 => ?_)
  refine zok_bu (s_J7_fill_53178_k23 i1 (zr_c (lo := 0) (hi := 0) (by decide))) (fun σ2 i2 => ?_)
  exact zok_some i2
theorem s_X9_keep {G : Nat → Int} {σ : zSt} (hσ : zIC G σ) : zok (fX9_keep σ ) (zIC G) := by
  unfold fX9_keep
  refine zok_ck (by decide) ?_
  refine zok_bs (hσ.wc (by decide +kernel) rfl rfl) (fun σ1 e2 i1 => ?_)
  refine zok_ck (by decide) ?_
  refine zok_bs (i1.wc (by decide +kernel) rfl rfl) (fun σ2 e4 i3 => ?_)
  exact zok_some i3
theorem s_X9_bringBack {G : Nat → Int} {σ : zSt} (hσ : zIC G σ) : zok (fX9_bringBack σ ) (zIC G) := by
  unfold fX9_bringBack
  refine zok_ck (by decide) ?_
  refine zok_bs (hσ.wc (by decide +kernel) rfl rfl) (fun σ1 e2 i1 => ?_)
  refine zok_ck (by decide) ?_
  refine zok_bs (i1.wc (by decide +kernel) rfl rfl) (fun σ2 e4 i3 => ?_)
  exact zok_some i3
theorem s_X9_has_27 {σ : zSt} (hσ : zPC σ) {s0 : Int32} (h_s0 : zr (0) (1) s0) : zok (fX9_has_27 σ s0) (zPi σ (fun v : Int32 => zr (0) (1) v)) := by
  unfold fX9_has_27
  refine zok_ck (zbo_ok h_s0 (by decide)) ?_
  exact zok_spi h_s0
theorem s_X9_has_26 {σ : zSt} (hσ : zPC σ) : zok (fX9_has_26 σ ) (zPi σ (fun v : Int32 => zr (0) (1) v)) := by
  unfold fX9_has_26
  exact (s_X9_has_27 hσ (zr_w (zr_c (lo := 0) (hi := 0) (by decide)) (by decide)))
theorem s_X9_has_22 {σ : zSt} (hσ : zPC σ) : zok (fX9_has_22 σ ) (zPi σ (fun v : Int32 => zr (0) (1) v)) := by
  unfold fX9_has_22
  exact (s_X9_has_27 hσ (zr_w (zr_c (lo := 1) (hi := 1) (by decide)) (by decide)))
theorem s_X9_has_10 {σ : zSt} (hσ : zPC σ) {x0 : Int32} : zok (fX9_has_10 σ x0) (zPi σ (fun v : Int32 => zr (0) (1) v)) := by
  unfold fX9_has_10
  refine zok_if (fun q1 => ?_) (fun q1 => ?_)
  · have h2 := zc_ltl (31) q1 zr_any (zr_c (lo := 32) (hi := 32) (by decide)) (by decide)
    exact (s_X9_has_26 hσ)
  have h3 := zc_ler (32) (z_nlt q1) (zr_c (lo := 32) (hi := 32) (by decide)) zr_any (by decide)
  refine zok_if (fun q4 => ?_) (fun q4 => ?_)
  · have h5 := zc_ler (96) q4 (zr_c (lo := 96) (hi := 96) (by decide)) h3 (by decide)
    exact (s_X9_has_26 hσ)
  have h6 := zc_ltl (95) (z_nle q4) h3 (zr_c (lo := 96) (hi := 96) (by decide)) (by decide)
  exact (s_X9_has_22 hσ)
theorem s_X9_has {σ : zSt} (hσ : zPC σ) {x0 : Int32} : zok (fX9_has σ x0) (zPi σ (fun v : Int32 => zr (0) (1) v)) := by
  unfold fX9_has
  refine zok_if (fun q1 => ?_) (fun q1 => ?_)
  · have h2 := zc_ltl (-1) q1 zr_any (zr_c (lo := 0) (hi := 0) (by decide)) (by decide)
    exact (s_X9_has_10 hσ)
  have h3 := zc_ler (0) (z_nlt q1) (zr_c (lo := 0) (hi := 0) (by decide)) zr_any (by decide)
  refine zok_if (fun q4 => ?_) (fun q4 => ?_)
  · have h5 := zc_lel (25) q4 h3 (zr_c (lo := 25) (hi := 25) (by decide)) (by decide)
    exact (s_X9_has_22 hσ)
  have h6 := zc_ltr (26) (z_nle q4) (zr_c (lo := 25) (hi := 25) (by decide)) h3 (by decide)
  exact (s_X9_has_10 hσ)
theorem s_X9_asks_54 {σ : zSt} (hσ : zPC σ) {s0 : Int32} (h_s0 : zr (0) (1) s0) : zok (fX9_asks_54 σ s0) (zPi σ (fun v : Int32 => zr (0) (1) v)) := by
  unfold fX9_asks_54
  refine zok_ck (zbo_ok h_s0 (by decide)) ?_
  exact zok_spi h_s0
theorem s_X9_asks_53 {σ : zSt} (hσ : zPC σ) : zok (fX9_asks_53 σ ) (zPi σ (fun v : Int32 => zr (0) (1) v)) := by
  unfold fX9_asks_53
  exact (s_X9_asks_54 hσ (zr_w (zr_c (lo := 0) (hi := 0) (by decide)) (by decide)))
theorem s_X9_asks_49 {σ : zSt} (hσ : zPC σ) : zok (fX9_asks_49 σ ) (zPi σ (fun v : Int32 => zr (0) (1) v)) := by
  unfold fX9_asks_49
  exact (s_X9_asks_54 hσ (zr_w (zr_c (lo := 1) (hi := 1) (by decide)) (by decide)))
theorem s_X9_asks_26 {σ : zSt} (hσ : zPC σ) : zok (fX9_asks_26 σ ) (zPi σ (fun v : Int32 => zr (0) (1) v)) := by
  unfold fX9_asks_26
  refine zok_ck rfl ?_
  refine zok_if (fun q1 => ?_) (fun q1 => ?_)
  · have h2 := zc_eql (0) (0) q1 (zr_andr (lo := 0) (hi := 16) (zr_c (lo := 16) (hi := 16) (by decide)) (by decide)) (zr_c (lo := 0) (hi := 0) (by decide)) (by decide)
    exact (s_X9_asks_53 hσ)
  have h3 := zc_nel (1) (16) q1 (zr_andr (lo := 0) (hi := 16) (zr_c (lo := 16) (hi := 16) (by decide)) (by decide)) (zr_c (lo := 0) (hi := 0) (by decide)) (by decide)
  refine zok_ck rfl ?_
  refine zok_if (fun q4 => ?_) (fun q4 => ?_)
  · have h5 := zc_eql (1) (1) q4 zr_any (zr_c (lo := 1) (hi := 1) (by decide)) (by decide)
    exact (s_X9_asks_49 hσ)
  exact (s_X9_asks_53 hσ)
theorem s_X9_asks {σ : zSt} (hσ : zPC σ) : zok (fX9_asks σ ) (zPi σ (fun v : Int32 => zr (0) (1) v)) := by
  unfold fX9_asks
  refine zok_ck rfl ?_
  refine zok_if (fun q1 => ?_) (fun q1 => ?_)
  · have h2 := zc_eql (0) (0) q1 (zr_andr (lo := 0) (hi := 32) (zr_c (lo := 32) (hi := 32) (by decide)) (by decide)) (zr_c (lo := 0) (hi := 0) (by decide)) (by decide)
    exact (s_X9_asks_26 hσ)
  have h3 := zc_nel (1) (32) q1 (zr_andr (lo := 0) (hi := 32) (zr_c (lo := 32) (hi := 32) (by decide)) (by decide)) (zr_c (lo := 0) (hi := 0) (by decide)) (by decide)
  refine zok_ck rfl ?_
  refine zok_if (fun q4 => ?_) (fun q4 => ?_)
  · have h5 := zc_eql (0) (0) q4 (zr_andr (lo := 0) (hi := 128) (zr_c (lo := 128) (hi := 128) (by decide)) (by decide)) (zr_c (lo := 0) (hi := 0) (by decide)) (by decide)
    exact (s_X9_asks_26 hσ)
  have h6 := zc_nel (1) (128) q4 (zr_andr (lo := 0) (hi := 128) (zr_c (lo := 128) (hi := 128) (by decide)) (by decide)) (zr_c (lo := 0) (hi := 0) (by decide)) (by decide)
  exact (s_X9_asks_49 hσ)
theorem s_X9_value_85 {σ : zSt} (hσ : zPC σ) {x1 : Int32} : zok (fX9_value_85 σ x1) (zPi σ (fun v : Int32 => True)) := by
  unfold fX9_value_85
  refine zok_pi (s_X9_held hσ) (fun v2 h1 => ?_)
  exact zok_spi trivial
theorem s_X9_value_64 {σ : zSt} (hσ : zPC σ) {s0 : Int32} (h_s0 : zr (0) (1) s0) : zok (fX9_value_64 σ s0) (zPi σ (fun v : Int32 => True)) := by
  unfold fX9_value_64
  exact zok_spi trivial
theorem s_X9_value {σ : zSt} (hσ : zPC σ) {x1 : Int32} : zok (fX9_value σ x1) (zPi σ (fun v : Int32 => True)) := by
  unfold fX9_value
  refine zok_if (fun q1 => ?_) (fun q1 => ?_)
  · have h2 := zc_eql (17) (17) q1 zr_any (zr_c (lo := 17) (hi := 17) (by decide)) (by decide)
    refine zok_pi (s_X9_asks hσ) (fun v4 h3 => ?_)
    refine zok_if (fun q4 => ?_) (fun q4 => ?_)
    · have h5 := zc_eql (0) (0) q4 h3 (zr_c (lo := 0) (hi := 0) (by decide)) (by decide)
      exact (s_X9_value_64 hσ (zr_w (zr_c (lo := 0) (hi := 0) (by decide)) (by decide)))
    have h6 := zc_nel (1) (1) q4 h3 (zr_c (lo := 0) (hi := 0) (by decide)) (by decide)
    exact (s_X9_value_64 hσ (zr_w (zr_c (lo := 1) (hi := 1) (by decide)) (by decide)))
  refine zok_if (fun q7 => ?_) (fun q7 => ?_)
  · have h8 := zc_eql (18) (18) q7 zr_any (zr_c (lo := 18) (hi := 18) (by decide)) (by decide)
    exact (s_X9_value_85 hσ)
  refine zok_if (fun q9 => ?_) (fun q9 => ?_)
  · have h10 := zc_eql (19) (19) q9 zr_any (zr_c (lo := 19) (hi := 19) (by decide)) (by decide)
    exact (s_X9_value_85 hσ)
  refine zok_if (fun q11 => ?_) (fun q11 => ?_)
  · have h12 := zc_eql (20) (20) q11 zr_any (zr_c (lo := 20) (hi := 20) (by decide)) (by decide)
    exact (s_X9_value_85 hσ)
  refine zok_if (fun q13 => ?_) (fun q13 => ?_)
  · have h14 := zc_eql (21) (21) q13 zr_any (zr_c (lo := 21) (hi := 21) (by decide)) (by decide)
    exact (s_X9_value_85 hσ)
  refine zok_if (fun q15 => ?_) (fun q15 => ?_)
  · have h16 := zc_eql (22) (22) q15 zr_any (zr_c (lo := 22) (hi := 22) (by decide)) (by decide)
    refine zok_pi (s_X9_mode hσ) (fun v6 h17 => ?_)
    exact zok_spi trivial
  refine zok_if (fun q18 => ?_) (fun q18 => ?_)
  · have h19 := zc_eql (23) (23) q18 zr_any (zr_c (lo := 23) (hi := 23) (by decide)) (by decide)
    refine zok_pi (s_X9_height hσ) (fun v8 h20 => ?_)
    exact zok_spi trivial
  refine zok_if (fun q21 => ?_) (fun q21 => ?_)
  · have h22 := zc_eql (24) (24) q21 zr_any (zr_c (lo := 24) (hi := 24) (by decide)) (by decide)
    refine zok_pi (s_X9_hCount hσ) (fun v10 h23 => ?_)
    exact zok_spi trivial
  refine zok_if (fun q24 => ?_) (fun q24 => ?_)
  · have h25 := zc_eql (25) (25) q24 zr_any (zr_c (lo := 25) (hi := 25) (by decide)) (by decide)
    refine zok_pi (s_X9_vCount hσ) (fun v12 h26 => ?_)
    exact zok_spi trivial
  exact (s_X9_value_85 hσ)
theorem s_X9_eightFrom_6_body {σ : zSt} {k6 : zSt → Int32 → Int64 → Int32 → Option (zSt × Int64)} {Mk6 : Int} (hk6 : ∀ (x1 : Int32) (x2 : Int64) (x4 : Int32), zr (-1) (7) x4 → x4.toInt - (-1) < Mk6 → zok (k6 σ x1 x2 x4) (zPl σ (fun v : Int64 => True))) (hσ : zPC σ) {x1 : Int32} {x2 : Int64} {x4 : Int32} (h_x4 : zr (-1) (7) x4) (hMk6 : x4.toInt - (-1) ≤ Mk6) : zok (fX9_eightFrom_6_body k6 σ x1 x2 x4) (zPl σ (fun v : Int64 => True)) := by
  unfold fX9_eightFrom_6_body
  refine zok_if (fun q1 => ?_) (fun q1 => ?_)
  · have h2 := zc_ltl (-1) q1 h_x4 (zr_c (lo := 0) (hi := 0) (by decide)) (by decide)
    exact zok_spl trivial
  have h3 := zc_ler (0) (z_nlt q1) (zr_c (lo := 0) (hi := 0) (by decide)) h_x4 (by decide)
  refine zok_ck (zin_ok (zr_andr (lo := 0) (hi := 16383) (zr_c (lo := 16383) (hi := 16383) (by decide)) (by decide)) (by decide)) ?_
  refine zok_bv (fun v1 e5 => ?_)
  refine zok_br (zr_add (lo := -1) (hi := 6) h3 (zr_c (lo := -1) (hi := -1) (by decide)) (by decide)) (fun v2 e7 h6 => ?_)
  exact hk6 _ _ _  (zr_w h6 (by decide)) (by rw [e7]; have := z_tadd (y := (-1 : Int32)) h3 (zr_c (lo := -1) (hi := -1) (by decide)) (by decide); have e9 : (-1 : Int32).toInt = -1 := rfl; omega) 
theorem s_X9_eightFrom_6 {σ : zSt} (hσ : zPC σ) : ∀ (n : Nat) {x1 : Int32} {x2 : Int64} {x4 : Int32} (h_x4 : zr (-1) (7) x4) (hm : x4.toInt - (-1) < n), zok (fX9_eightFrom_6 n σ x1 x2 x4) (zPl σ (fun v : Int64 => True)) := by
  intro n
  induction n with
  | zero => intro x1 x2 x4 h_x4 hm ; have h9 := h_x4.1; have h8 := h_x4.2; exfalso; omega
  | succ n ih => intro x1 x2 x4 h_x4 hm ; exact s_X9_eightFrom_6_body (fun x1 x2 x4 h_x4 hm1 => ih h_x4 (by omega)) hσ h_x4 (Int.le_refl _)
theorem s_X9_eightFrom {σ : zSt} (hσ : zPC σ) {x1 : Int32} : zok (fX9_eightFrom σ x1) (zPl σ (fun v : Int64 => True)) := by
  unfold fX9_eightFrom
  exact (s_X9_eightFrom_6 hσ zfuel (zr_w (zr_c (lo := 7) (hi := 7) (by decide)) (by decide)) (by decide))
theorem zsi_twice {σ : zSt} {k j : Nat} {v w : Int32} : zsi (zsi σ k j v) k j w = zsi σ k j w := by
  refine Prod.ext (funext fun a => funext fun b => ?_) rfl
  rw [zsi_at, zsi_at, zsi_at]
  split <;> rfl
theorem s_X9_passes {G : Nat → Int} {σ : zSt} (hσ : zIC G σ) {x1 : Int32} (h_x1 : zr (1) (31) x1) : zok (fX9_passes σ x1) (zAi (zIC G) (fun v : Int32 => zr (0) (1) v)) := by
  unfold fX9_passes
  refine zok_ck rfl (zok_ck rfl ?_)
  have hb := rC_42 hσ.sg (21 : Int32).toNatClampNeg (by decide)
  have hs := zr_add (lo := 0) (hi := 258) hb h_x1 (by decide)
  refine zok_bv (fun σ1 e1 => ?_)
  refine zok_ck rfl ?_
  have er : zgi σ1 23 (21 : Int32).toNatClampNeg = zgi σ 23 (21 : Int32).toNatClampNeg + x1 := by rw [e1]; unfold zgi; rw [zsi_ej]
  have c228 : (228 : Int32).toInt = 228 := rfl
  refine zok_if (fun q => ?_) (fun q => ?_)
  · have q1 := Int32.le_iff_toInt_le.mp q
    rw [er] at q1
    have h2 : zr 228 258 (zgi σ 23 (21 : Int32).toNatClampNeg + x1) := ⟨by omega, hs.2⟩
    refine zok_ck rfl (zok_ck rfl ?_)
    have i2 : zIC G (zsi σ1 23 ((21 : Int32).toNatClampNeg) ((zgi σ1 23 (21 : Int32).toNatClampNeg) - 228)) := by
      rw [er, e1, zsi_twice]
      exact hσ.wi 21 21 (by decide) (zr_sub (lo := 0) (hi := 30) h2 (zr_c (lo := 228) (hi := 228) (x := 228) (by decide)) (by decide)) (by decide +kernel)
    refine zok_bs i2 (fun σ2 e2 i2 => ?_)
    refine zok_ck rfl ?_
    exact zok_sai i2 (zr_c (by decide))
  · have q1 := Int32.lt_iff_toInt_lt.mp (z_nle q)
    rw [er] at q1
    refine zok_ck rfl ?_
    refine zok_sai ?_ (zr_c (by decide))
    rw [e1]
    exact hσ.wi 21 21 (by decide) (show zr 0 227 _ from ⟨hs.1, by omega⟩) (by decide +kernel)
theorem s_X9_goesToNextLine_159 {σ : zSt} (hσ : zPC σ) {x2 : Int32} (h_x2 : zr (0) (1) x2) : zok (fX9_goesToNextLine_159 σ x2) (zPi σ (fun v : Int32 => zr (0) (1) v)) := by
  unfold fX9_goesToNextLine_159
  refine zok_ck (zbo_ok h_x2 (by decide)) ?_
  exact zok_spi h_x2
theorem s_X9_goesToNextLine_133 {G : Nat → Int} {σ : zSt} (hσ : zIC G σ) {x1 : Int32} (h_x1 : zr (192) (240) x1) {x2 : Int32} (h_x2 : zr (0) (1) x2) : zok (fX9_goesToNextLine_133 σ x1 x2) (zAi (zIC G) (fun v : Int32 => zr (0) (1) v)) := by
  unfold fX9_goesToNextLine_133
  refine zok_ck rfl ?_
  refine zok_if (fun q1 => ?_) (fun q1 => ?_)
  · have h2 := zc_eql (193) (241) q1 zr_any (zr_add (lo := 193) (hi := 241) h_x1 (zr_c (lo := 1) (hi := 1) (by decide)) (by decide)) (by decide)
    refine zok_ck rfl ?_
    refine zok_ck rfl ?_
    refine zok_bs (hσ.wi 15 15 (by decide) (zr_or (lo := 0) (hi := 255) 8 (rC_40 hσ.sg _ (by decide)) (zr_c (lo := 128) (hi := 128) (by decide)) (by decide)) (by decide +kernel)) (fun σ1 e4 i3 => ?_)
    exact zok_pai i3 (s_X9_goesToNextLine_159 i3.P h_x2)
  exact zok_pai hσ (s_X9_goesToNextLine_159 hσ.P h_x2)
theorem s_X9_goesToNextLine_106 {G : Nat → Int} {σ : zSt} (hσ : zIC G σ) {x1 : Int32} (h_x1 : zr (192) (240) x1) {s0 : Int32} (h_s0 : zr (0) (1) s0) : zok (fX9_goesToNextLine_106 σ x1 s0) (zAi (zIC G) (fun v : Int32 => zr (0) (1) v)) := by
  unfold fX9_goesToNextLine_106
  refine zok_if (fun q1 => ?_) (fun q1 => ?_)
  · have h2 := zc_eql (0) (0) q1 h_s0 (zr_c (lo := 0) (hi := 0) (by decide)) (by decide)
    exact (s_X9_goesToNextLine_133 hσ h_x1 (zr_w h2 (by decide)))
  have h3 := zc_nel (1) (1) q1 h_s0 (zr_c (lo := 0) (hi := 0) (by decide)) (by decide)
  refine zok_ck rfl ?_
  refine zok_bs (hσ.wi 20 20 (by decide) (zr_c (lo := 0) (hi := 0) (by decide)) (by decide +kernel)) (fun σ2 e5 i4 => ?_)
  refine zok_ck rfl ?_
  refine zok_ck rfl ?_
  refine zok_bs (i4.wi 19 19 (by decide) (rC_35 i4.sg _ (by decide)) (by decide +kernel)) (fun σ3 e7 i6 => ?_)
  exact (s_X9_goesToNextLine_133 i6 h_x1 (zr_w h3 (by decide)))
theorem s_X9_goesToNextLine_76 {G : Nat → Int} {σ : zSt} (hσ : zIC G σ) {x1 : Int32} (h_x1 : zr (192) (240) x1) : zok (fX9_goesToNextLine_76 σ x1) (zAi (zIC G) (fun v : Int32 => zr (0) (1) v)) := by
  unfold fX9_goesToNextLine_76
  refine zok_ck rfl ?_
  refine zok_ck rfl ?_
  refine zok_bs (hσ.wi 20 20 (by decide) zr_any (by decide +kernel)) (fun σ4 e2 i1 => ?_)
  refine zok_ck rfl ?_
  refine zok_if (fun q3 => ?_) (fun q3 => ?_)
  · have h4 := zc_ltl (2147483646) q3 zr_any zr_any (by decide)
    have h5 := zc_ltr (-2147483647) q3 zr_any zr_any (by decide)
    exact (s_X9_goesToNextLine_106 i1 h_x1 (zr_w (zr_c (lo := 0) (hi := 0) (by decide)) (by decide)))
  exact (s_X9_goesToNextLine_106 i1 h_x1 (zr_w (zr_c (lo := 1) (hi := 1) (by decide)) (by decide)))
theorem s_X9_goesToNextLine {G : Nat → Int} {σ : zSt} (hσ : zIC G σ) : zok (fX9_goesToNextLine σ ) (zAi (zIC G) (fun v : Int32 => zr (0) (1) v)) := by
  unfold fX9_goesToNextLine
  refine zok_pi (s_X9_height hσ.P) (fun v6 h1 => ?_)
  refine zok_ck rfl ?_
  refine zok_if (fun q2 => ?_) (fun q2 => ?_)
  · have h3 := zc_lel (240) q2 zr_any h1 (by decide)
    refine zok_ck rfl ?_
    refine zok_ck rfl ?_
    refine zok_bs (hσ.wi 18 18 (by decide) zr_any (by decide +kernel)) (fun σ7 e5 i4 => ?_)
    refine zok_ck rfl ?_
    refine zok_if (fun q6 => ?_) (fun q6 => ?_)
    · have h7 := zc_ler (0) q6 (zr_c (lo := 0) (hi := 0) (by decide)) zr_any (by decide)
      exact (s_X9_goesToNextLine_76 i4 h1)
    have h8 := zc_ltl (-1) (z_nle q6) zr_any (zr_c (lo := 0) (hi := 0) (by decide)) (by decide)
    refine zok_ck rfl ?_
    refine zok_ck rfl ?_
    refine zok_bs (i4.wi 18 18 (by decide) (rC_35 i4.sg _ (by decide)) (by decide +kernel)) (fun σ8 e10 i9 => ?_)
    refine zok_ck rfl ?_
    refine zok_bs (i9.wi 16 16 (by decide) (zr_c (lo := 1) (hi := 1) (by decide)) (by decide +kernel)) (fun σ9 e12 i11 => ?_)
    exact (s_X9_goesToNextLine_76 i11 h1)
  have h13 := zc_ltr (193) (z_nle q2) h1 zr_any (by decide)
  refine zok_ck rfl ?_
  refine zok_ck rfl ?_
  refine zok_bs (hσ.wi 18 18 (by decide) (rC_35 hσ.sg _ (by decide)) (by decide +kernel)) (fun σ10 e15 i14 => ?_)
  exact (s_X9_goesToNextLine_76 i14 h1)
theorem s_J7_fill_53178_k32_5_body {G : Nat → Int} {σ : zSt} {k5 : zSt → Int32 → Int32 → Int32 → Option (zSt)} {Mk5 : Int} (hk5 : ∀ (σ : zSt) (x1 : Int32) (x2 : Int32) (x3 : Int32), zIC G σ → zr (0) (0) x1 → zr (0) (272) x2 → zr (272) (272) x3 → (272) - x2.toInt < Mk5 → zok (k5 σ x1 x2 x3) (zIC G)) (hσ : zIC G σ) {x1 : Int32} (h_x1 : zr (0) (0) x1) {x2 : Int32} (h_x2 : zr (0) (272) x2) {x3 : Int32} (h_x3 : zr (272) (272) x3) (hMk5 : (272) - x2.toInt ≤ Mk5) : zok (fJ7_fill_53178_k32_5_body k5 σ x1 x2 x3) (zIC G) := by
  unfold fJ7_fill_53178_k32_5_body
  refine zok_if (fun q1 => ?_) (fun q1 => ?_)
  · have h2 := zc_ler (272) q1 h_x3 h_x2 (by decide)
    exact zok_some hσ
  have h3 := zc_ltl (271) (z_nle q1) h_x2 h_x3 (by decide)
  refine zok_ck (zin_ok h3 (by decide)) ?_
  refine zok_bs (hσ.wi 0 271 (z_ix h3 (by decide)) h_x1 (by decide +kernel)) (fun σ1 e5 i4 => ?_)
  refine zok_br (zr_add (lo := 1) (hi := 272) h3 (zr_c (lo := 1) (hi := 1) (by decide)) (by decide)) (fun v2 e7 h6 => ?_)
  exact hk5 _ _ _ _ i4 h_x1 (zr_w h6 (by decide)) h_x3 (by rw [e7]; have := z_tadd (y := (1 : Int32)) h3 (zr_c (lo := 1) (hi := 1) (by decide)) (by decide); have e9 : (1 : Int32).toInt = 1 := rfl; omega) 
theorem s_J7_fill_53178_k32_5 {G : Nat → Int} : ∀ (n : Nat) {σ : zSt} (hσ : zIC G σ) {x1 : Int32} (h_x1 : zr (0) (0) x1) {x2 : Int32} (h_x2 : zr (0) (272) x2) {x3 : Int32} (h_x3 : zr (272) (272) x3) (hm : (272) - x2.toInt < n), zok (fJ7_fill_53178_k32_5 n σ x1 x2 x3) (zIC G) := by
  intro n
  induction n with
  | zero => intro σ hσ x1 h_x1 x2 h_x2 x3 h_x3 hm ; have h9 := h_x2.1; have h8 := h_x2.2; exfalso; omega
  | succ n ih => intro σ hσ x1 h_x1 x2 h_x2 x3 h_x3 hm ; exact s_J7_fill_53178_k32_5_body (fun σ x1 x2 x3 hσ h_x1 h_x2 h_x3 hm1 => ih hσ h_x1 h_x2 h_x3 (by omega)) hσ h_x1 h_x2 h_x3 (Int.le_refl _)
theorem s_J7_fill_53178_k32 {G : Nat → Int} {σ : zSt} (hσ : zIC G σ) {x1 : Int32} (h_x1 : zr (0) (0) x1) : zok (fJ7_fill_53178_k32 σ x1) (zIC G) := by
  unfold fJ7_fill_53178_k32
  exact (s_J7_fill_53178_k32_5 zfuel hσ h_x1 (zr_w (zr_c (lo := 0) (hi := 0) (by decide)) (by decide)) (zr_c (lo := 272) (hi := 272) (by decide)) (by decide))
theorem s_X10_clear_h {G : Nat → Int} : ∀ (n : Nat) {σ : zSt} (hσ : zIC G σ) {x2 : Int32} (h_x2 : zr 128 272 x2) (h8 : x2.toInt % 8 = 0) (hm : 272 - x2.toInt < n), zok (fX10_clear_36 n σ x2) (zIC G) := by
  intro n
  induction n with
  | zero => intro σ hσ x2 h_x2 h8 hm; have := h_x2.2; exfalso; omega
  | succ n ih =>
    intro σ hσ x2 h_x2 h8 hm
    show zok (fX10_clear_36_body (fX10_clear_36 n) σ x2) (zIC G)
    unfold fX10_clear_36_body
    refine zok_if (fun q => zok_some hσ) (fun q => ?_)
    have c272 : (272 : Int32).toInt = 272 := rfl
    have q1 := Int32.lt_iff_toInt_lt.mp (z_nle q)
    have hx : zr 128 264 x2 := ⟨h_x2.1, by omega⟩
    have h0 := zr_add (lo := 128) (hi := 264) hx (zr_c (lo := 0) (hi := 0) (x := 0) (by decide)) (by decide)
    have h1 := zr_add (lo := 129) (hi := 265) hx (zr_c (lo := 1) (hi := 1) (x := 1) (by decide)) (by decide)
    have e8 := z_tadd hx (zr_c (lo := 8) (hi := 8) (x := 8) (by decide)) (by decide)
    have c8 : (8 : Int32).toInt = 8 := rfl
    refine zok_ck (zin_ok h0 (by decide)) ?_
    refine zok_bs (hσ.wi 128 264 (z_ix h0 (by decide)) (zr_any) (by decide +kernel)) (fun σ1 e1 i1 => ?_)
    refine zok_ck (zin_ok h1 (by decide)) ?_
    refine zok_bs (i1.wi 129 265 (z_ix h1 (by decide)) (zr_any) (by decide +kernel)) (fun σ2 e2 i2 => ?_)
    refine zok_bv (fun v3 e3 => ih i2 ?_ ?_ ?_)
    · subst e3; have := hx.1; have := hx.2; exact ⟨by omega, by omega⟩
    · subst e3; omega
    · subst e3; omega
theorem s_X10_clear_36 {G : Nat → Int} (n : Nat) {σ : zSt} (hσ : zIC G σ) {x2 : Int32} (h_x2 : zr (128) (128) x2) (hm : (128) - x2.toInt < n) (hn : zfuel ≤ n := by decide) : zok (fX10_clear_36 n σ x2) (zIC G) :=
  s_X10_clear_h n hσ (zr_w h_x2 (by decide)) (by have := h_x2.1; have := h_x2.2; omega) (by have := h_x2.1; unfold zfuel at hn; omega)
theorem s_X10_clear {G : Nat → Int} {σ : zSt} (hσ : zIC G σ) : zok (fX10_clear σ ) (zIC G) := by
  unfold fX10_clear
  refine zok_ck rfl ?_
  refine zok_bv (fun v4 e2 => ?_)
  refine zok_bu (s_J7_fill_53178_k32 hσ (zr_c (lo := 0) (hi := 0) (by decide))) (fun σ5 i3 => ?_)
  refine zok_ck rfl ?_
  refine zok_bs (i3.wi 66 66 (by decide) zr_any (by decide +kernel)) (fun σ6 e5 i4 => ?_)
  refine zok_ck rfl ?_
  refine zok_bs (i4.wi 65 65 (by decide) (zr_c (lo := 1) (hi := 1) (by decide)) (by decide +kernel)) (fun σ7 e7 i6 => ?_)
  exact (s_X10_clear_36 zfuel i6 (zr_c (lo := 128) (hi := 128) (by decide)) (by decide))
theorem s_X10_keep {G : Nat → Int} {σ : zSt} (hσ : zIC G σ) : zok (fX10_keep σ ) (zIC G) := by
  unfold fX10_keep
  refine zok_ck (by decide) ?_
  refine zok_bs (hσ.wc (by decide +kernel) rfl rfl) (fun σ1 e2 i1 => ?_)
  exact zok_some i1
theorem s_X10_bringBack {G : Nat → Int} {σ : zSt} (hσ : zIC G σ) : zok (fX10_bringBack σ ) (zIC G) := by
  unfold fX10_bringBack
  refine zok_ck (by decide) ?_
  refine zok_bs (hσ.wc (by decide +kernel) rfl rfl) (fun σ1 e2 i1 => ?_)
  exact zok_some i1
theorem s_X10_has_37 {σ : zSt} (hσ : zPC σ) {s0 : Int32} (h_s0 : zr (0) (1) s0) : zok (fX10_has_37 σ s0) (zPi σ (fun v : Int32 => zr (0) (1) v)) := by
  unfold fX10_has_37
  refine zok_ck (zbo_ok h_s0 (by decide)) ?_
  exact zok_spi h_s0
theorem s_X10_has_36 {σ : zSt} (hσ : zPC σ) : zok (fX10_has_36 σ ) (zPi σ (fun v : Int32 => zr (0) (1) v)) := by
  unfold fX10_has_36
  exact (s_X10_has_37 hσ (zr_w (zr_c (lo := 0) (hi := 0) (by decide)) (by decide)))
theorem s_X10_has_32 {σ : zSt} (hσ : zPC σ) : zok (fX10_has_32 σ ) (zPi σ (fun v : Int32 => zr (0) (1) v)) := by
  unfold fX10_has_32
  exact (s_X10_has_37 hσ (zr_w (zr_c (lo := 1) (hi := 1) (by decide)) (by decide)))
theorem s_X10_has_10 {σ : zSt} (hσ : zPC σ) {x0 : Int32} : zok (fX10_has_10 σ x0) (zPi σ (fun v : Int32 => zr (0) (1) v)) := by
  unfold fX10_has_10
  refine zok_if (fun q1 => ?_) (fun q1 => ?_)
  · have h2 := zc_ltl (127) q1 zr_any (zr_c (lo := 128) (hi := 128) (by decide)) (by decide)
    exact (s_X10_has_36 hσ)
  have h3 := zc_ler (128) (z_nlt q1) (zr_c (lo := 128) (hi := 128) (by decide)) zr_any (by decide)
  refine zok_if (fun q4 => ?_) (fun q4 => ?_)
  · have h5 := zc_ler (272) q4 (zr_c (lo := 272) (hi := 272) (by decide)) h3 (by decide)
    exact (s_X10_has_36 hσ)
  have h6 := zc_ltl (271) (z_nle q4) h3 (zr_c (lo := 272) (hi := 272) (by decide)) (by decide)
  refine zok_if (fun q7 => ?_) (fun q7 => ?_)
  · have h8 := zc_ltr (6) q7 (zr_c (lo := 5) (hi := 5) (by decide)) (zr_andr (lo := 0) (hi := 7) (zr_c (lo := 7) (hi := 7) (by decide)) (by decide)) (by decide)
    exact (s_X10_has_36 hσ)
  have h9 := zc_lel (5) (z_nlt q7) (zr_andr (lo := 0) (hi := 7) (zr_c (lo := 7) (hi := 7) (by decide)) (by decide)) (zr_c (lo := 5) (hi := 5) (by decide)) (by decide)
  exact (s_X10_has_32 hσ)
theorem s_X10_has {σ : zSt} (hσ : zPC σ) {x0 : Int32} : zok (fX10_has σ x0) (zPi σ (fun v : Int32 => zr (0) (1) v)) := by
  unfold fX10_has
  refine zok_if (fun q1 => ?_) (fun q1 => ?_)
  · have h2 := zc_ltl (-1) q1 zr_any (zr_c (lo := 0) (hi := 0) (by decide)) (by decide)
    exact (s_X10_has_10 hσ)
  have h3 := zc_ler (0) (z_nlt q1) (zr_c (lo := 0) (hi := 0) (by decide)) zr_any (by decide)
  refine zok_if (fun q4 => ?_) (fun q4 => ?_)
  · have h5 := zc_lel (67) q4 h3 (zr_c (lo := 67) (hi := 67) (by decide)) (by decide)
    exact (s_X10_has_32 hσ)
  have h6 := zc_ltr (68) (z_nle q4) (zr_c (lo := 67) (hi := 67) (by decide)) h3 (by decide)
  exact (s_X10_has_10 hσ)
theorem s_X11_clearAll {G : Nat → Int} {σ : zSt} (hσ : zIC G σ) : zok (fX11_clearAll σ ) (zIC G) := by
  unfold fX11_clearAll
  refine zok_bu (s_X2_clearPages hσ) (fun σ1 i1 => ?_)
  refine zok_bu (s_X9_clear i1) (fun σ2 i2 => ?_)
  refine zok_bu (s_X7_clear i2) (fun σ3 i3 => ?_)
  refine zok_bu (s_X10_clear i3) (fun σ4 i4 => ?_)
  refine zok_bu (s_X4_clear i4) (fun σ5 i5 => ?_)
  refine zok_bu (s_X5_clear i5) (fun σ6 i6 => ?_)
  exact zok_some i6
theorem s_X11_load_28 {σ : zSt} (hσ : zPC σ) {x1 : Int32} (h_x1 : zr (0) (2) x1) : zok (fX11_load_28 σ x1) (zPi σ (fun v : Int32 => zr (0) (2) v)) := by
  unfold fX11_load_28
  exact zok_spi h_x1
theorem s_X11_load {G : Nat → Int} {σ : zSt} (hσ : zEC [0, 1] G σ) : zok (fX11_load σ ) (zAi (zEC [0, 1] G) (fun v : Int32 => zr (0) (2) v)) := by
  unfold fX11_load
  refine zok_ai (hσ.uEi (by decide) (fun G1 hG => s_X2_takeTape hG)) (fun σ1 v2 i1 h2 => ?_)
  refine zok_if (fun q3 => ?_) (fun q3 => ?_)
  · have h4 := zc_eql (0) (0) q3 h2 (zr_c (lo := 0) (hi := 0) (by decide)) (by decide)
    refine zok_bu (i1.upu (fun G1 hG => s_X2_clearRam hG)) (fun σ3 i5 => ?_)
    refine zok_bu (i5.upu (fun G1 hG => s_X11_clearAll hG)) (fun σ4 i6 => ?_)
    refine zok_ck rfl ?_
    refine zok_bs (i6.wi 11 11 (by decide) (zr_c (lo := 0) (hi := 0) (by decide)) (by decide +kernel)) (fun σ5 e8 i7 => ?_)
    exact zok_pai i7 (s_X11_load_28 i7.P (zr_w h4 (by decide)))
  have h9 := zc_nel (1) (2) q3 h2 (zr_c (lo := 0) (hi := 0) (by decide)) (by decide)
  exact zok_pai i1 (s_X11_load_28 i1.P (zr_w h9 (by decide)))
theorem s_X11_endLine_62 {σ : zSt} (hσ : zPC σ) : zok (fX11_endLine_62 σ ) (zPu σ) := by
  unfold fX11_endLine_62
  exact zok_spu
theorem s_X11_endLine_26 {G : Nat → Int} {σ : zSt} (hσ : zIC G σ) : zok (fX11_endLine_26 σ ) (zIC G) := by
  unfold fX11_endLine_26
  refine zok_ai (s_X9_goesToNextLine hσ) (fun σ1 v2 i1 h2 => ?_)
  refine zok_if (fun q3 => ?_) (fun q3 => ?_)
  · have h4 := zc_eql (0) (0) q3 h2 (zr_c (lo := 0) (hi := 0) (by decide)) (by decide)
    exact zok_pau i1 (s_X11_endLine_62 i1.P)
  have h5 := zc_nel (1) (1) q3 h2 (zr_c (lo := 0) (hi := 0) (by decide)) (by decide)
  refine zok_bu (s_X0_countPicture i1) (fun σ3 i6 => ?_)
  refine zok_pl (s_X0_count i6.P (zr_w (zr_c (lo := 2) (hi := 2) (by decide)) (by decide))) (fun v5 h7 => ?_)
  refine zok_bu (s_X1_carryOutPlans i6) (fun σ6 i8 => ?_)
  exact zok_pau i8 (s_X11_endLine_62 i8.P)
theorem s_X11_endLine {G : Nat → Int} {σ : zSt} (hσ : zIC G σ) : zok (fX11_endLine σ ) (zIC G) := by
  unfold fX11_endLine
  refine zok_pi (s_X9_held hσ.P) (fun v8 h1 => ?_)
  refine zok_pi (s_X9_height hσ.P) (fun v10 h2 => ?_)
  refine zok_if (fun q3 => ?_) (fun q3 => ?_)
  · have h4 := zc_ler (192) q3 h2 zr_any (by decide)
    exact (s_X11_endLine_26 hσ)
  have h5 := zc_ltl (239) (z_nle q3) zr_any h2 (by decide)
  refine zok_bu (s_X3_draw hσ) (fun σ11 i6 => ?_)
  exact (s_X11_endLine_26 i6)
theorem s_X11_run_135 {σ : zSt} (hσ : zPC σ) {x5 : Int32} (h_x5 : zr (0) (1000000) x5) : zok (fX11_run_135 σ x5) (zPi σ (fun v : Int32 => zr (0) (1000000) v)) := by
  unfold fX11_run_135
  exact zok_spi h_x5
theorem s_X11_run_120 {G : Nat → Int} {σ : zSt} {k15 : zSt → Int32 → Int64 → Int32 → Option (zSt × Int32)} {Mk15 : Int} (hk15 : ∀ (σ : zSt) (x1 : Int32) (x3 : Int64) (x5 : Int32), zIC G σ → zr (1) (1000000) x1 → zr (0) (1000000) x5 → (1000000) - x5.toInt < Mk15 → zok (k15 σ x1 x3 x5) (zAi (zIC G) (fun v : Int32 => zr (0) (1000000) v))) (hσ : zIC G σ) {x1 : Int32} (h_x1 : zr (1) (1000000) x1) {x3 : Int64} {x5 : Int32} (h_x5 : zr (0) (999999) x5) {x7 : Int32} (h_x7 : zr (1) (31) x7) (hMk15 : (1000000) - x5.toInt ≤ Mk15) : zok (fX11_run_120 k15 σ x1 x3 x5 x7) (zAi (zIC G) (fun v : Int32 => zr (0) (1000000) v)) := by
  unfold fX11_run_120
  refine zok_bu (s_X0_pass hσ h_x7) (fun σ1 i1 => ?_)
  refine zok_br (zr_add (lo := 1) (hi := 1000000) h_x5 (zr_c (lo := 1) (hi := 1) (by decide)) (by decide)) (fun v2 e3 h2 => ?_)
  exact hk15 _ _ _ _ i1 h_x1 (zr_w h2 (by decide)) (by rw [e3]; have := z_tadd (y := (1 : Int32)) h_x5 (zr_c (lo := 1) (hi := 1) (by decide)) (by decide); have e9 : (1 : Int32).toInt = 1 := rfl; omega) 
theorem s_X11_run_104 {G : Nat → Int} {σ : zSt} {k15 : zSt → Int32 → Int64 → Int32 → Option (zSt × Int32)} {Mk15 : Int} (hk15 : ∀ (σ : zSt) (x1 : Int32) (x3 : Int64) (x5 : Int32), zIC G σ → zr (1) (1000000) x1 → zr (0) (1000000) x5 → (1000000) - x5.toInt < Mk15 → zok (k15 σ x1 x3 x5) (zAi (zIC G) (fun v : Int32 => zr (0) (1000000) v))) (hσ : zIC G σ) {x1 : Int32} (h_x1 : zr (1) (1000000) x1) {x3 : Int64} {x5 : Int32} (h_x5 : zr (0) (999999) x5) {x7 : Int32} (h_x7 : zr (1) (31) x7) (hMk15 : (1000000) - x5.toInt ≤ Mk15) : zok (fX11_run_104 k15 σ x1 x3 x5 x7) (zAi (zIC G) (fun v : Int32 => zr (0) (1000000) v)) := by
  unfold fX11_run_104
  refine zok_ai (s_X9_passes hσ h_x7) (fun σ3 v4 i1 h2 => ?_)
  refine zok_if (fun q3 => ?_) (fun q3 => ?_)
  · have h4 := zc_eql (0) (0) q3 h2 (zr_c (lo := 0) (hi := 0) (by decide)) (by decide)
    exact (s_X11_run_120 hk15 i1 h_x1 h_x5 h_x7 hMk15)
  have h5 := zc_nel (1) (1) q3 h2 (zr_c (lo := 0) (hi := 0) (by decide)) (by decide)
  refine zok_bu (s_X11_endLine i1) (fun σ5 i6 => ?_)
  exact (s_X11_run_120 hk15 i6 h_x1 h_x5 h_x7 hMk15)
theorem s_X11_run_65 {G : Nat → Int} {σ : zSt} {k15 : zSt → Int32 → Int64 → Int32 → Option (zSt × Int32)} {Mk15 : Int} (hk15 : ∀ (σ : zSt) (x1 : Int32) (x3 : Int64) (x5 : Int32), zIC G σ → zr (1) (1000000) x1 → zr (0) (1000000) x5 → (1000000) - x5.toInt < Mk15 → zok (k15 σ x1 x3 x5) (zAi (zIC G) (fun v : Int32 => zr (0) (1000000) v))) (hσ : zIC G σ) {x1 : Int32} (h_x1 : zr (1) (1000000) x1) {x3 : Int64} {x5 : Int32} (h_x5 : zr (0) (999999) x5) {x6 : Int32} (hMk15 : (1000000) - x5.toInt ≤ Mk15) : zok (fX11_run_65 k15 σ x1 x3 x5 x6) (zAi (zIC G) (fun v : Int32 => zr (0) (1000000) v)) := by
  unfold fX11_run_65
  refine zok_bu (s_X1_noteStep hσ) (fun σ6 i1 => ?_)
  refine zok_pi (s_X9_asks i1.P) (fun v8 h2 => ?_)
  refine zok_ai (s_X5_answerCalls i1 h2) (fun σ9 v10 i3 h4 => ?_)
  refine zok_if (fun q5 => ?_) (fun q5 => ?_)
  · have h6 := zc_eql (0) (0) q5 h4 (zr_c (lo := 0) (hi := 0) (by decide)) (by decide)
    refine zok_ai (s_X5_carryOn i3) (fun σ11 v12 i7 h8 => ?_)
    exact (s_X11_run_104 hk15 i7 h_x1 h_x5 (zr_w h8 (by decide)) hMk15)
  have h9 := zc_nel (1) (19) q5 h4 (zr_c (lo := 0) (hi := 0) (by decide)) (by decide)
  exact (s_X11_run_104 hk15 i3 h_x1 h_x5 (zr_w h9 (by decide)) hMk15)
theorem s_X11_run_15_body {G : Nat → Int} {σ : zSt} {k15 : zSt → Int32 → Int64 → Int32 → Option (zSt × Int32)} {Mk15 : Int} (hk15 : ∀ (σ : zSt) (x1 : Int32) (x3 : Int64) (x5 : Int32), zIC G σ → zr (1) (1000000) x1 → zr (0) (1000000) x5 → (1000000) - x5.toInt < Mk15 → zok (k15 σ x1 x3 x5) (zAi (zIC G) (fun v : Int32 => zr (0) (1000000) v))) (hσ : zIC G σ) {x1 : Int32} (h_x1 : zr (1) (1000000) x1) {x3 : Int64} {x5 : Int32} (h_x5 : zr (0) (1000000) x5) (hMk15 : (1000000) - x5.toInt ≤ Mk15) : zok (fX11_run_15_body k15 σ x1 x3 x5) (zAi (zIC G) (fun v : Int32 => zr (0) (1000000) v)) := by
  unfold fX11_run_15_body
  refine zok_if (fun q1 => ?_) (fun q1 => ?_)
  · have h2 := zc_ler (1) q1 h_x1 h_x5 (by decide)
    exact zok_pai hσ (s_X11_run_135 hσ.P (zr_w h2 (by decide)))
  have h3 := zc_ltl (999999) (z_nle q1) h_x5 h_x1 (by decide)
  refine zok_pl (s_X0_count hσ.P (zr_w (zr_c (lo := 2) (hi := 2) (by decide)) (by decide))) (fun v14 h4 => ?_)
  refine zok_if (fun q5 => ?_) (fun q5 => ?_)
  · exact zok_pai hσ (s_X11_run_135 hσ.P (zr_w h3 (by decide)))
  refine zok_pi (s_X5_value hσ.P (zr_w (zr_c (lo := 19) (hi := 19) (by decide)) (by decide))) (fun v16 h6 => ?_)
  refine zok_if (fun q7 => ?_) (fun q7 => ?_)
  · have h8 := zc_lel (0) q7 h3 (zr_c (lo := 0) (hi := 0) (by decide)) (by decide)
    exact (s_X11_run_65 hk15 hσ h_x1 (zr_w h8 (by decide)) hMk15)
  have h9 := zc_ltr (1) (z_nle q7) (zr_c (lo := 0) (hi := 0) (by decide)) h3 (by decide)
  refine zok_pi (s_X1_isStop hσ.P) (fun v18 h10 => ?_)
  refine zok_if (fun q11 => ?_) (fun q11 => ?_)
  · have h12 := zc_eql (0) (0) q11 h10 (zr_c (lo := 0) (hi := 0) (by decide)) (by decide)
    exact (s_X11_run_65 hk15 hσ h_x1 (zr_w h9 (by decide)) hMk15)
  have h13 := zc_nel (1) (1) q11 h10 (zr_c (lo := 0) (hi := 0) (by decide)) (by decide)
  exact zok_pai hσ (s_X11_run_135 hσ.P (zr_w h9 (by decide)))
theorem s_X11_run_15 {G : Nat → Int} : ∀ (n : Nat) {σ : zSt} (hσ : zIC G σ) {x1 : Int32} (h_x1 : zr (1) (1000000) x1) {x3 : Int64} {x5 : Int32} (h_x5 : zr (0) (1000000) x5) (hm : (1000000) - x5.toInt < n), zok (fX11_run_15 n σ x1 x3 x5) (zAi (zIC G) (fun v : Int32 => zr (0) (1000000) v)) := by
  intro n
  induction n with
  | zero => intro σ hσ x1 h_x1 x3 x5 h_x5 hm ; have h9 := h_x5.1; have h8 := h_x5.2; exfalso; omega
  | succ n ih => intro σ hσ x1 h_x1 x3 x5 h_x5 hm ; exact s_X11_run_15_body (fun σ x1 x3 x5 hσ h_x1 h_x5 hm1 => ih hσ h_x1 h_x5 (by omega)) hσ h_x1 h_x5 (Int.le_refl _)
theorem s_X11_run {G : Nat → Int} {σ : zSt} (hσ : zIC G σ) {x1 : Int32} (h_x1 : zr (1) (1000000) x1) {x2 : Int32} (h_x2 : zr (1) (20001) x2) : zok (fX11_run σ x1 x2) (zAi (zIC G) (fun v : Int32 => zr (0) (1000000) v)) := by
  unfold fX11_run
  refine zok_pl (s_X0_count hσ.P (zr_w (zr_c (lo := 2) (hi := 2) (by decide)) (by decide))) (fun v20 h1 => ?_)
  refine zok_bv (fun v21 e3 => ?_)
  exact (s_X11_run_15 zfuel hσ h_x1 (zr_w (zr_c (lo := 0) (hi := 0) (by decide)) (by decide)) (by decide))
theorem s_X11_reset {G : Nat → Int} {σ : zSt} (hσ : zIC G σ) : zok (fX11_reset σ ) (zIC G) := by
  unfold fX11_reset
  refine zok_bu (s_X11_clearAll hσ) (fun σ1 i1 => ?_)
  exact zok_some i1
theorem s_X11_pause_26 {σ : zSt} (hσ : zPC σ) {s0 : Int32} (h_s0 : zr (0) (1) s0) : zok (fX11_pause_26 σ s0) (zPi σ (fun v : Int32 => zr (0) (1) v)) := by
  unfold fX11_pause_26
  refine zok_ck (zbo_ok h_s0 (by decide)) ?_
  exact zok_spi h_s0
theorem s_X11_pause_14 {σ : zSt} (hσ : zPC σ) : zok (fX11_pause_14 σ ) (zPi σ (fun v : Int32 => zr (0) (1) v)) := by
  unfold fX11_pause_14
  refine zok_if (fun q1 => ?_) (fun q1 => ?_)
  · have h2 := zc_eql (0) (0) q1 zr_any (zr_c (lo := 0) (hi := 0) (by decide)) (by decide)
    exact (s_X11_pause_26 hσ (zr_w (zr_c (lo := 1) (hi := 1) (by decide)) (by decide)))
  exact (s_X11_pause_26 hσ (zr_w (zr_c (lo := 0) (hi := 0) (by decide)) (by decide)))
theorem s_X11_pause {G : Nat → Int} {σ : zSt} (hσ : zIC G σ) : zok (fX11_pause σ ) (zAi (zIC G) (fun v : Int32 => zr (0) (1) v)) := by
  unfold fX11_pause
  refine zok_if (fun q1 => ?_) (fun q1 => ?_)
  · have h2 := zc_eql (0) (0) q1 zr_any (zr_c (lo := 0) (hi := 0) (by decide)) (by decide)
    refine zok_bu (s_X5_askForPause hσ) (fun σ1 i3 => ?_)
    exact zok_pai i3 (s_X11_pause_14 i3.P)
  exact zok_pai hσ (s_X11_pause_14 hσ.P)
theorem s_X11_start {G : Nat → Int} {σ : zSt} (hσ : zIC G σ) {x1 : Int32} (h_x1 : zr (0) (1) x1) : zok (fX11_start σ x1) (zIC G) := by
  unfold fX11_start
  refine zok_bu (s_X4_holdStart hσ h_x1) (fun σ1 i1 => ?_)
  exact zok_some i1
theorem s_X11_tell {G : Nat → Int} {σ : zSt} (hσ : zIC G σ) {x1 : Int32} : zok (fX11_tell σ x1) (zAi (zIC G) (fun v : Int32 => True)) := by
  unfold fX11_tell
  refine zok_ai (s_X8_write hσ) (fun σ1 v2 i1 h2 => ?_)
  exact zok_sai i1 trivial
theorem s_X11_save {G : Nat → Int} {σ : zSt} (hσ : zEC [1] G σ) : zok (fX11_save σ ) (zEC [1] G) := by
  unfold fX11_save
  refine zok_bu (hσ.upu (fun G1 hG => s_X2_keep hG)) (fun σ1 i1 => ?_)
  refine zok_bu (i1.upu (fun G1 hG => s_X9_keep hG)) (fun σ2 i2 => ?_)
  refine zok_bu (i2.upu (fun G1 hG => s_X3_keep hG)) (fun σ3 i3 => ?_)
  refine zok_bu (i3.upu (fun G1 hG => s_X7_keep hG)) (fun σ4 i4 => ?_)
  refine zok_bu (i4.upu (fun G1 hG => s_X10_keep hG)) (fun σ5 i5 => ?_)
  refine zok_bu (i5.upu (fun G1 hG => s_X4_keep hG)) (fun σ6 i6 => ?_)
  refine zok_bu (i6.upu (fun G1 hG => s_X5_keep hG)) (fun σ7 i7 => ?_)
  refine zok_bu (i7.upu (fun G1 hG => s_X0_keep hG)) (fun σ8 i8 => ?_)
  refine zok_bu (i8.upu (fun G1 hG => s_X1_keep hG)) (fun σ9 i9 => ?_)
  refine zok_ck rfl ?_
  refine zok_bs (i9.wi 11 11 (by decide) (zr_c (lo := 1) (hi := 1) (by decide)) (by decide +kernel)) (fun σ10 e11 i10 => ?_)
  exact zok_some i10
theorem s_X11_peek {σ : zSt} (hσ : zPC σ) {x1 : Int32} : zok (fX11_peek σ x1) (zPi σ (fun v : Int32 => zr (0) (255) v)) := by
  unfold fX11_peek
  refine zok_pi (s_X2_read hσ) (fun v2 h1 => ?_)
  exact zok_spi h1
theorem s_X11_poke {G : Nat → Int} {σ : zSt} (hσ : zIC G σ) {x1 : Int32} {x2 : Int32} : zok (fX11_poke σ x1 x2) (zIC G) := by
  unfold fX11_poke
  refine zok_bu (s_X2_write hσ (zr_w (zr_andr (lo := 0) (hi := 65535) (zr_c (lo := 65535) (hi := 65535) (by decide)) (by decide)) (by decide)) (zr_andr (lo := 0) (hi := 255) (zr_c (lo := 255) (hi := 255) (by decide)) (by decide))) (fun σ1 i1 => ?_)
  exact zok_some i1
theorem s_X11_in {G : Nat → Int} {σ : zSt} (hσ : zIC G σ) {x1 : Int32} : zok (fX11_in σ x1) (zAi (zIC G) (fun v : Int32 => zr (0) (255) v)) := by
  unfold fX11_in
  refine zok_ai (s_X4_read hσ (zr_andr (lo := 0) (hi := 255) (zr_c (lo := 255) (hi := 255) (by decide)) (by decide))) (fun σ1 v2 i1 h2 => ?_)
  exact zok_sai i1 h2
theorem s_X11_out {G : Nat → Int} {σ : zSt} (hσ : zIC G σ) {x1 : Int32} {x2 : Int32} : zok (fX11_out σ x1 x2) (zIC G) := by
  unfold fX11_out
  refine zok_bu (s_X4_write hσ (zr_andr (lo := 0) (hi := 255) (zr_c (lo := 255) (hi := 255) (by decide)) (by decide)) (zr_andr (lo := 0) (hi := 255) (zr_c (lo := 255) (hi := 255) (by decide)) (by decide))) (fun σ1 i1 => ?_)
  exact zok_some i1
theorem s_X11_wipe {G : Nat → Int} {σ : zSt} (hσ : zIC G σ) : zok (fX11_wipe σ ) (zIC G) := by
  unfold fX11_wipe
  refine zok_bu (s_X2_clearBattery hσ) (fun σ1 i1 => ?_)
  exact zok_some i1
theorem s_X11_video {σ : zSt} (hσ : zPC σ) {x1 : Int32} : zok (fX11_video σ x1) (zPl σ (fun v : Int64 => True)) := by
  unfold fX11_video
  refine zok_pl (s_X9_eightFrom hσ) (fun v2 h1 => ?_)
  exact zok_spl trivial
theorem s_X11_trace {σ : zSt} (hσ : zPC σ) {x1 : Int32} : zok (fX11_trace σ x1) (zPi σ (fun v : Int32 => True)) := by
  unfold fX11_trace
  refine zok_pi (s_X1_stepBack hσ) (fun v2 h1 => ?_)
  exact zok_spi trivial
theorem s_X11_feed_11 {G : Nat → Int} {σ : zSt} (hσ : zIC G σ) : zok (fX11_feed_11 σ ) (zTi (zIC G) ([1, 2] : List Nat)) := by
  unfold fX11_feed_11
  exact zok_ti1 hσ (by decide)
theorem s_X11_feed_79 {G : Nat → Int} {σ : zSt} {k48 : zSt → Int32 → Int64 → Int64 → Int64 → Int32 → Option (zRi)} {Mk48 : Int} (hk48 : ∀ (σ : zSt) (x1 : Int32) (x2 : Int64) (x4 : Int64) (x6 : Int64) (x8 : Int32), zEC [0] G σ → zr (1) (24) x1 → zr (0) (24) x8 → (24) - x8.toInt < Mk48 → zok (k48 σ x1 x2 x4 x6 x8) (zTi (zEC [0] G) ([1, 2] : List Nat))) (hσ : zEC [0] G σ) {x1 : Int32} (h_x1 : zr (1) (24) x1) {x2 : Int64} {x4 : Int64} {x6 : Int64} {x8 : Int32} (h_x8 : zr (0) (23) x8) {s0 : Int64} (hMk48 : (24) - x8.toInt ≤ Mk48) : zok (fX11_feed_79 k48 σ x1 x2 x4 x6 x8 s0) (zTi (zEC [0] G) ([1, 2] : List Nat)) := by
  unfold fX11_feed_79
  refine zok_bu (s_X2_addToTape hσ (zr_andr (lo := 0) (hi := 255) (zr_c (lo := 255) (hi := 255) (by decide)) (by decide))) (fun σ1 i1 => ?_)
  refine zok_br (zr_add (lo := 1) (hi := 24) h_x8 (zr_c (lo := 1) (hi := 1) (by decide)) (by decide)) (fun v2 e3 h2 => ?_)
  exact hk48 _ _ _ _ _ _ i1 h_x1 (zr_w h2 (by decide)) (by rw [e3]; have := z_tadd (y := (1 : Int32)) h_x8 (zr_c (lo := 1) (hi := 1) (by decide)) (by decide); have e9 : (1 : Int32).toInt = 1 := rfl; omega) 
theorem s_X11_feed_48_body {G : Nat → Int} {σ : zSt} {k48 : zSt → Int32 → Int64 → Int64 → Int64 → Int32 → Option (zRi)} {Mk48 : Int} (hk48 : ∀ (σ : zSt) (x1 : Int32) (x2 : Int64) (x4 : Int64) (x6 : Int64) (x8 : Int32), zEC [0] G σ → zr (1) (24) x1 → zr (0) (24) x8 → (24) - x8.toInt < Mk48 → zok (k48 σ x1 x2 x4 x6 x8) (zTi (zEC [0] G) ([1, 2] : List Nat))) (hσ : zEC [0] G σ) {x1 : Int32} (h_x1 : zr (1) (24) x1) {x2 : Int64} {x4 : Int64} {x6 : Int64} {x8 : Int32} (h_x8 : zr (0) (24) x8) (hMk48 : (24) - x8.toInt ≤ Mk48) : zok (fX11_feed_48_body k48 σ x1 x2 x4 x6 x8) (zTi (zEC [0] G) ([1, 2] : List Nat)) := by
  unfold fX11_feed_48_body
  refine zok_if (fun q1 => ?_) (fun q1 => ?_)
  · have h2 := zc_ler (1) q1 h_x1 h_x8 (by decide)
    exact zok_ti0 hσ
  have h3 := zc_ltl (23) (z_nle q1) h_x8 h_x1 (by decide)
  refine zok_if (fun q4 => ?_) (fun q4 => ?_)
  · have h5 := zc_ler (8) q4 (zr_c (lo := 8) (hi := 8) (by decide)) h3 (by decide)
    refine zok_if (fun q6 => ?_) (fun q6 => ?_)
    · have h7 := zc_ler (16) q6 (zr_c (lo := 16) (hi := 16) (by decide)) h5 (by decide)
      exact (s_X11_feed_79 hk48 hσ h_x1 (zr_w h7 (by decide)) hMk48)
    have h8 := zc_ltl (15) (z_nle q6) h5 (zr_c (lo := 16) (hi := 16) (by decide)) (by decide)
    exact (s_X11_feed_79 hk48 hσ h_x1 (zr_w h8 (by decide)) hMk48)
  have h9 := zc_ltl (7) (z_nle q4) h3 (zr_c (lo := 8) (hi := 8) (by decide)) (by decide)
  exact (s_X11_feed_79 hk48 hσ h_x1 (zr_w h9 (by decide)) hMk48)
theorem s_X11_feed_48 {G : Nat → Int} : ∀ (n : Nat) {σ : zSt} (hσ : zEC [0] G σ) {x1 : Int32} (h_x1 : zr (1) (24) x1) {x2 : Int64} {x4 : Int64} {x6 : Int64} {x8 : Int32} (h_x8 : zr (0) (24) x8) (hm : (24) - x8.toInt < n), zok (fX11_feed_48 n σ x1 x2 x4 x6 x8) (zTi (zEC [0] G) ([1, 2] : List Nat)) := by
  intro n
  induction n with
  | zero => intro σ hσ x1 h_x1 x2 x4 x6 x8 h_x8 hm ; have h9 := h_x8.1; have h8 := h_x8.2; exfalso; omega
  | succ n ih => intro σ hσ x1 h_x1 x2 x4 x6 x8 h_x8 hm ; exact s_X11_feed_48_body (fun σ x1 x2 x4 x6 x8 hσ h_x1 h_x8 hm1 => ih hσ h_x1 h_x8 (by omega)) hσ h_x1 h_x8 (Int.le_refl _)
theorem s_X11_feed {G : Nat → Int} {σ : zSt} (hσ : zEC [0] G σ) {x1 : Int32} {x2 : Int64} {x4 : Int64} {x6 : Int64} : zok (fX11_feed σ x1 x2 x4 x6) (zTi (zEC [0] G) ([1, 2] : List Nat)) := by
  unfold fX11_feed
  refine zok_if (fun q1 => ?_) (fun q1 => ?_)
  · have h2 := zc_ltl (0) q1 zr_any (zr_c (lo := 1) (hi := 1) (by decide)) (by decide)
    exact (hσ.upTi (fun G1 hG => s_X11_feed_11 hG))
  have h3 := zc_ler (1) (z_nlt q1) (zr_c (lo := 1) (hi := 1) (by decide)) zr_any (by decide)
  refine zok_if (fun q4 => ?_) (fun q4 => ?_)
  · have h5 := zc_lel (24) q4 h3 (zr_c (lo := 24) (hi := 24) (by decide)) (by decide)
    refine zok_if (fun q6 => ?_) (fun q6 => ?_)
    · have h7 := zc_lel (262656) q6 (zr_add (lo := 1) (hi := 262680) (rC_0 hσ.sg _ (by decide)) h5 (by decide)) (zr_c (lo := 262656) (hi := 262656) (by decide)) (by decide)
      exact (s_X11_feed_48 zfuel hσ h5 (zr_w (zr_c (lo := 0) (hi := 0) (by decide)) (by decide)) (by decide))
    have h8 := zc_ltr (262657) (z_nle q6) (zr_c (lo := 262656) (hi := 262656) (by decide)) (zr_add (lo := 1) (hi := 262680) (rC_0 hσ.sg _ (by decide)) h5 (by decide)) (by decide)
    exact zok_ti1 hσ (by decide)
  have h9 := zc_ltr (25) (z_nle q4) (zr_c (lo := 24) (hi := 24) (by decide)) h3 (by decide)
  exact (hσ.upTi (fun G1 hG => s_X11_feed_11 hG))
theorem s_X11_grow_19 {G : Nat → Int} {σ : zSt} (hσ : zIC G σ) : zok (fX11_grow_19 σ ) (zTi (zIC G) ([1, 2] : List Nat)) := by
  unfold fX11_grow_19
  exact zok_ti1 hσ (by decide)
theorem s_X11_grow {G : Nat → Int} {σ : zSt} (hσ : zEC [0] G σ) {x1 : Int32} : zok (fX11_grow σ x1) (zTi (zEC [0] G) ([1, 2] : List Nat)) := by
  unfold fX11_grow
  refine zok_br (rC_0 hσ.sg _ (by decide)) (fun v1 e2 h1 => ?_)
  refine zok_if (fun q3 => ?_) (fun q3 => ?_)
  · have h4 := zc_ltl (262655) q3 zr_any h1 (by decide)
    exact (hσ.upTi (fun G1 hG => s_X11_grow_19 hG))
  have h5 := zc_ler (0) (z_nlt q3) h1 zr_any (by decide)
  refine zok_if (fun q6 => ?_) (fun q6 => ?_)
  · have h7 := zc_lel (262656) q6 h5 (zr_c (lo := 262656) (hi := 262656) (by decide)) (by decide)
    refine zok_if (fun q8 => ?_) (fun q8 => ?_)
    · have h9 := zc_eql (0) (0) q8 h1 (zr_c (lo := 0) (hi := 0) (by decide)) (by decide)
      exact zok_ti1 hσ (by decide)
    have h10 := zc_nel (1) (262656) q8 h1 (zr_c (lo := 0) (hi := 0) (by decide)) (by decide)
    refine zok_bu (s_X2_repeatTape hσ h7) (fun σ2 i11 => ?_)
    exact zok_ti0 i11
  have h12 := zc_ltr (262657) (z_nle q6) (zr_c (lo := 262656) (hi := 262656) (by decide)) h5 (by decide)
  exact (hσ.upTi (fun G1 hG => s_X11_grow_19 hG))
theorem s_X11_patch_18 {G : Nat → Int} {σ : zSt} (hσ : zIC G σ) : zok (fX11_patch_18 σ ) (zTu (zIC G) ([1] : List Nat)) := by
  unfold fX11_patch_18
  exact zok_tu1 hσ (by decide)
theorem s_X11_patch {G : Nat → Int} {σ : zSt} (hσ : zIC G σ) {x1 : Int32} {x2 : Int64} : zok (fX11_patch σ x1 x2) (zTu (zIC G) ([1] : List Nat)) := by
  unfold fX11_patch
  refine zok_if (fun q1 => ?_) (fun q1 => ?_)
  · have h2 := zc_ltl (-1) q1 zr_any (zr_c (lo := 0) (hi := 0) (by decide)) (by decide)
    exact (s_X11_patch_18 hσ)
  have h3 := zc_ler (0) (z_nlt q1) (zr_c (lo := 0) (hi := 0) (by decide)) zr_any (by decide)
  refine zok_if (fun q4 => ?_) (fun q4 => ?_)
  · have h5 := zc_lel (262648) q4 h3 (zr_sub (lo := -8) (hi := 262648) (rC_0 hσ.sg _ (by decide)) (zr_c (lo := 8) (hi := 8) (by decide)) (by decide)) (by decide)
    have h6 := zc_ler (0) q4 h3 (zr_sub (lo := -8) (hi := 262648) (rC_0 hσ.sg _ (by decide)) (zr_c (lo := 8) (hi := 8) (by decide)) (by decide)) (by decide)
    refine zok_bu (s_X2_changeTape hσ h5) (fun σ1 i7 => ?_)
    exact zok_tu0 i7
  exact (s_X11_patch_18 hσ)
theorem s_X11_card_10 {G : Nat → Int} {σ : zSt} (hσ : zIC G σ) : zok (fX11_card_10 σ ) (zTi (zIC G) ([1] : List Nat)) := by
  unfold fX11_card_10
  exact zok_ti1 hσ (by decide)
theorem s_X11_card {G : Nat → Int} {σ : zSt} (hσ : zIC G σ) {x1 : Int32} : zok (fX11_card σ x1) (zTi (zIC G) ([1] : List Nat)) := by
  unfold fX11_card
  refine zok_if (fun q1 => ?_) (fun q1 => ?_)
  · have h2 := zc_ltl (-1) q1 zr_any (zr_c (lo := 0) (hi := 0) (by decide)) (by decide)
    exact (s_X11_card_10 hσ)
  have h3 := zc_ler (0) (z_nlt q1) (zr_c (lo := 0) (hi := 0) (by decide)) zr_any (by decide)
  refine zok_if (fun q4 => ?_) (fun q4 => ?_)
  · have h5 := zc_lel (7) q4 h3 (zr_c (lo := 7) (hi := 7) (by decide)) (by decide)
    refine zok_pi (s_X2_aboutCard hσ.P h5) (fun v2 h6 => ?_)
    exact zok_ti0 hσ
  have h7 := zc_ltr (8) (z_nle q4) (zr_c (lo := 7) (hi := 7) (by decide)) h3 (by decide)
  exact (s_X11_card_10 hσ)
theorem s_X11_step_12 {G : Nat → Int} {σ : zSt} (hσ : zIC G σ) : zok (fX11_step_12 σ ) (zTi (zIC G) ([1] : List Nat)) := by
  unfold fX11_step_12
  exact zok_ti1 hσ (by decide)
theorem s_X11_step {G : Nat → Int} {σ : zSt} (hσ : zIC G σ) {x1 : Int32} : zok (fX11_step σ x1) (zTi (zIC G) ([1] : List Nat)) := by
  unfold fX11_step
  refine zok_if (fun q1 => ?_) (fun q1 => ?_)
  · have h2 := zc_ltl (0) q1 zr_any (zr_c (lo := 1) (hi := 1) (by decide)) (by decide)
    exact (s_X11_step_12 hσ)
  have h3 := zc_ler (1) (z_nlt q1) (zr_c (lo := 1) (hi := 1) (by decide)) zr_any (by decide)
  refine zok_if (fun q4 => ?_) (fun q4 => ?_)
  · have h5 := zc_lel (20000) q4 h3 (zr_c (lo := 20000) (hi := 20000) (by decide)) (by decide)
    refine zok_ai (s_X11_run hσ (zr_w h5 (by decide)) (zr_w (zr_add (lo := 2) (hi := 20001) h5 (zr_c (lo := 1) (hi := 1) (by decide)) (by decide)) (by decide))) (fun σ1 v2 i6 h7 => ?_)
    exact zok_ti0 i6
  have h8 := zc_ltr (20001) (z_nle q4) (zr_c (lo := 20000) (hi := 20000) (by decide)) h3 (by decide)
  exact (s_X11_step_12 hσ)
theorem s_X11_picture_10 {G : Nat → Int} {σ : zSt} (hσ : zIC G σ) : zok (fX11_picture_10 σ ) (zTi (zIC G) ([1] : List Nat)) := by
  unfold fX11_picture_10
  exact zok_ti1 hσ (by decide)
theorem s_X11_picture {G : Nat → Int} {σ : zSt} (hσ : zIC G σ) {x1 : Int32} : zok (fX11_picture σ x1) (zTi (zIC G) ([1] : List Nat)) := by
  unfold fX11_picture
  refine zok_if (fun q1 => ?_) (fun q1 => ?_)
  · have h2 := zc_ltl (0) q1 zr_any (zr_c (lo := 1) (hi := 1) (by decide)) (by decide)
    exact (s_X11_picture_10 hσ)
  have h3 := zc_ler (1) (z_nlt q1) (zr_c (lo := 1) (hi := 1) (by decide)) zr_any (by decide)
  refine zok_if (fun q4 => ?_) (fun q4 => ?_)
  · have h5 := zc_lel (3) q4 h3 (zr_c (lo := 3) (hi := 3) (by decide)) (by decide)
    refine zok_ai (s_X11_run hσ (zr_w (zr_c (lo := 1000000) (hi := 1000000) (by decide)) (by decide)) (zr_w h5 (by decide))) (fun σ1 v2 i6 h7 => ?_)
    exact zok_ti0 i6
  have h8 := zc_ltr (4) (z_nle q4) (zr_c (lo := 3) (hi := 3) (by decide)) h3 (by decide)
  exact (s_X11_picture_10 hσ)
theorem s_X11_press {G : Nat → Int} {σ : zSt} (hσ : zIC G σ) {x1 : Int32} {x2 : Int32} : zok (fX11_press σ x1 x2) (zTu (zIC G) ([1] : List Nat)) := by
  unfold fX11_press
  refine zok_pi (s_X4_canPress hσ.P) (fun v2 h1 => ?_)
  refine zok_if (fun q2 => ?_) (fun q2 => ?_)
  · have h3 := zc_eql (0) (0) q2 h1 (zr_c (lo := 0) (hi := 0) (by decide)) (by decide)
    exact zok_tu1 hσ (by decide)
  have h4 := zc_nel (1) (1) q2 h1 (zr_c (lo := 0) (hi := 0) (by decide)) (by decide)
  refine zok_bu (s_X4_holdButtons hσ) (fun σ3 i5 => ?_)
  exact zok_tu0 i5
theorem s_X11_line_9 {G : Nat → Int} {σ : zSt} (hσ : zIC G σ) : zok (fX11_line_9 σ ) (zTu (zIC G) ([1] : List Nat)) := by
  unfold fX11_line_9
  exact zok_tu1 hσ (by decide)
theorem s_X11_line {G : Nat → Int} {σ : zSt} (hσ : zIC G σ) {x1 : Int32} {x2 : Int32} (h_x2 : zr (0) (1) x2) : zok (fX11_line σ x1 x2) (zTu (zIC G) ([1] : List Nat)) := by
  unfold fX11_line
  refine zok_if (fun q1 => ?_) (fun q1 => ?_)
  · have h2 := zc_ltl (-1) q1 zr_any (zr_c (lo := 0) (hi := 0) (by decide)) (by decide)
    exact (s_X11_line_9 hσ)
  have h3 := zc_ler (0) (z_nlt q1) (zr_c (lo := 0) (hi := 0) (by decide)) zr_any (by decide)
  refine zok_if (fun q4 => ?_) (fun q4 => ?_)
  · have h5 := zc_lel (1) q4 h3 (zr_c (lo := 1) (hi := 1) (by decide)) (by decide)
    refine zok_bu (s_X4_moveLine hσ h5 h_x2) (fun σ1 i6 => ?_)
    exact zok_tu0 i6
  have h7 := zc_ltr (2) (z_nle q4) (zr_c (lo := 1) (hi := 1) (by decide)) h3 (by decide)
  exact (s_X11_line_9 hσ)
theorem s_X11_plan_19 {G : Nat → Int} {σ : zSt} (hσ : zIC G σ) : zok (fX11_plan_19 σ ) (zTi (zIC G) ([1, 2] : List Nat)) := by
  unfold fX11_plan_19
  exact zok_ti1 hσ (by decide)
theorem s_X11_plan {G : Nat → Int} {σ : zSt} (hσ : zIC G σ) {x1 : Int32} {x2 : Int32} {x3 : Int32} : zok (fX11_plan σ x1 x2 x3) (zTi (zIC G) ([1, 2] : List Nat)) := by
  unfold fX11_plan
  refine zok_pi (s_X1_leastPlan hσ.P) (fun v2 h1 => ?_)
  refine zok_if (fun q2 => ?_) (fun q2 => ?_)
  · have h3 := zc_ltl (2147483646) q2 zr_any zr_any (by decide)
    have h4 := zc_ltr (-2147483647) q2 zr_any zr_any (by decide)
    exact (s_X11_plan_19 hσ)
  refine zok_pi (s_X4_canPress hσ.P) (fun v4 h5 => ?_)
  refine zok_if (fun q6 => ?_) (fun q6 => ?_)
  · have h7 := zc_eql (0) (0) q6 h5 (zr_c (lo := 0) (hi := 0) (by decide)) (by decide)
    exact (s_X11_plan_19 hσ)
  have h8 := zc_nel (1) (1) q6 h5 (zr_c (lo := 0) (hi := 0) (by decide)) (by decide)
  refine zok_pi (s_X1_plansWaiting hσ.P) (fun v6 h9 => ?_)
  refine zok_if (fun q10 => ?_) (fun q10 => ?_)
  · have h11 := zc_ltl (255) q10 zr_any (zr_c (lo := 256) (hi := 256) (by decide)) (by decide)
    refine zok_ai (s_X1_addPlan hσ) (fun σ7 v8 i12 h13 => ?_)
    exact zok_ti0 i12
  have h14 := zc_ler (256) (z_nlt q10) (zr_c (lo := 256) (hi := 256) (by decide)) zr_any (by decide)
  exact zok_ti1 hσ (by decide)
theorem s_X11_text_15 {G : Nat → Int} {σ : zSt} (hσ : zIC G σ) : zok (fX11_text_15 σ ) (zTl (zIC G) ([3] : List Nat)) := by
  unfold fX11_text_15
  exact zok_tl1 hσ (by decide)
theorem s_X11_text {G : Nat → Int} {σ : zSt} (hσ : zIC G σ) {x1 : Int32} : zok (fX11_text σ x1) (zTl (zIC G) ([3] : List Nat)) := by
  unfold fX11_text
  refine zok_if (fun q1 => ?_) (fun q1 => ?_)
  · have h2 := zc_ltl (-1) q1 zr_any (zr_c (lo := 0) (hi := 0) (by decide)) (by decide)
    exact (s_X11_text_15 hσ)
  have h3 := zc_ler (0) (z_nlt q1) (zr_c (lo := 0) (hi := 0) (by decide)) zr_any (by decide)
  refine zok_if (fun q4 => ?_) (fun q4 => ?_)
  · have h5 := zc_ltl (31) q4 h3 (rC_9 hσ.sg _ (by decide)) (by decide)
    have h6 := zc_ltr (1) q4 h3 (rC_9 hσ.sg _ (by decide)) (by decide)
    refine zok_pl (s_X8_eightFrom hσ.P h5) (fun v2 h7 => ?_)
    exact zok_tl0 hσ
  exact (s_X11_text_15 hσ)
theorem s_X11_stop_10 {G : Nat → Int} {σ : zSt} (hσ : zIC G σ) : zok (fX11_stop_10 σ ) (zTi (zIC G) ([1, 2] : List Nat)) := by
  unfold fX11_stop_10
  exact zok_ti1 hσ (by decide)
theorem s_X11_stop {G : Nat → Int} {σ : zSt} (hσ : zIC G σ) {x1 : Int32} {x2 : Int32} (h_x2 : zr (0) (1) x2) : zok (fX11_stop σ x1 x2) (zTi (zIC G) ([1, 2] : List Nat)) := by
  unfold fX11_stop
  refine zok_if (fun q1 => ?_) (fun q1 => ?_)
  · have h2 := zc_ltl (-1) q1 zr_any (zr_c (lo := 0) (hi := 0) (by decide)) (by decide)
    exact (s_X11_stop_10 hσ)
  have h3 := zc_ler (0) (z_nlt q1) (zr_c (lo := 0) (hi := 0) (by decide)) zr_any (by decide)
  refine zok_if (fun q4 => ?_) (fun q4 => ?_)
  · have h5 := zc_lel (65535) q4 h3 (zr_c (lo := 65535) (hi := 65535) (by decide)) (by decide)
    refine zok_pi (s_X1_stopsBeside hσ.P h5) (fun v2 h6 => ?_)
    refine zok_if (fun q7 => ?_) (fun q7 => ?_)
    · have h8 := zc_ltl (7) q7 h6 (zr_c (lo := 8) (hi := 8) (by decide)) (by decide)
      refine zok_ai (s_X1_changeStop hσ h5 h_x2) (fun σ3 v4 i9 h10 => ?_)
      exact zok_ti0 i9
    have h11 := zc_ler (8) (z_nlt q7) (zr_c (lo := 8) (hi := 8) (by decide)) h6 (by decide)
    exact zok_ti1 hσ (by decide)
  have h12 := zc_ltr (65536) (z_nle q4) (zr_c (lo := 65535) (hi := 65535) (by decide)) h3 (by decide)
  exact (s_X11_stop_10 hσ)
theorem s_X11_restore {G : Nat → Int} {σ : zSt} (hσ : zIC G σ) : zok (fX11_restore σ ) (zTu (zIC G) ([2] : List Nat)) := by
  unfold fX11_restore
  refine zok_if (fun q1 => ?_) (fun q1 => ?_)
  · have h2 := zc_eql (0) (0) q1 zr_any (zr_c (lo := 0) (hi := 0) (by decide)) (by decide)
    exact zok_tu1 hσ (by decide)
  refine zok_bu (s_X2_bringBack hσ) (fun σ1 i3 => ?_)
  refine zok_bu (s_X9_bringBack i3) (fun σ2 i4 => ?_)
  refine zok_bu (s_X3_bringBack i4) (fun σ3 i5 => ?_)
  refine zok_bu (s_X7_bringBack i5) (fun σ4 i6 => ?_)
  refine zok_bu (s_X10_bringBack i6) (fun σ5 i7 => ?_)
  refine zok_bu (s_X4_bringBack i7) (fun σ6 i8 => ?_)
  refine zok_bu (s_X5_bringBack i8) (fun σ7 i9 => ?_)
  refine zok_bu (s_X0_bringBack i9) (fun σ8 i10 => ?_)
  refine zok_bu (s_X1_bringBack i10) (fun σ9 i11 => ?_)
  exact zok_tu0 i11
theorem s_X11_register_10 {G : Nat → Int} {σ : zSt} (hσ : zIC G σ) : zok (fX11_register_10 σ ) (zTi (zIC G) ([1] : List Nat)) := by
  unfold fX11_register_10
  exact zok_ti1 hσ (by decide)
theorem s_X11_register {G : Nat → Int} {σ : zSt} (hσ : zIC G σ) {x1 : Int32} : zok (fX11_register σ x1) (zTi (zIC G) ([1] : List Nat)) := by
  unfold fX11_register
  refine zok_if (fun q1 => ?_) (fun q1 => ?_)
  · have h2 := zc_ltl (-1) q1 zr_any (zr_c (lo := 0) (hi := 0) (by decide)) (by decide)
    exact (s_X11_register_10 hσ)
  have h3 := zc_ler (0) (z_nlt q1) (zr_c (lo := 0) (hi := 0) (by decide)) zr_any (by decide)
  refine zok_if (fun q4 => ?_) (fun q4 => ?_)
  · have h5 := zc_lel (26) q4 h3 (zr_c (lo := 26) (hi := 26) (by decide)) (by decide)
    refine zok_pi (s_X5_value hσ.P (zr_w h5 (by decide))) (fun v2 h6 => ?_)
    exact zok_ti0 hσ
  have h7 := zc_ltr (27) (z_nle q4) (zr_c (lo := 26) (hi := 26) (by decide)) h3 (by decide)
  exact (s_X11_register_10 hσ)
theorem s_X11_set_10 {G : Nat → Int} {σ : zSt} (hσ : zIC G σ) : zok (fX11_set_10 σ ) (zTu (zIC G) ([1] : List Nat)) := by
  unfold fX11_set_10
  exact zok_tu1 hσ (by decide)
theorem s_X11_set {G : Nat → Int} {σ : zSt} (hσ : zIC G σ) {x1 : Int32} {x2 : Int32} : zok (fX11_set σ x1 x2) (zTu (zIC G) ([1] : List Nat)) := by
  unfold fX11_set
  refine zok_if (fun q1 => ?_) (fun q1 => ?_)
  · have h2 := zc_ltl (-1) q1 zr_any (zr_c (lo := 0) (hi := 0) (by decide)) (by decide)
    exact (s_X11_set_10 hσ)
  have h3 := zc_ler (0) (z_nlt q1) (zr_c (lo := 0) (hi := 0) (by decide)) zr_any (by decide)
  refine zok_if (fun q4 => ?_) (fun q4 => ?_)
  · have h5 := zc_lel (25) q4 h3 (zr_c (lo := 25) (hi := 25) (by decide)) (by decide)
    refine zok_bu (s_X5_change hσ h5) (fun σ1 i6 => ?_)
    exact zok_tu0 i6
  have h7 := zc_ltr (26) (z_nle q4) (zr_c (lo := 25) (hi := 25) (by decide)) h3 (by decide)
  exact (s_X11_set_10 hσ)
theorem s_X11_battery_11 {G : Nat → Int} {σ : zSt} (hσ : zIC G σ) : zok (fX11_battery_11 σ ) (zTi (zIC G) ([3] : List Nat)) := by
  unfold fX11_battery_11
  exact zok_ti1 hσ (by decide)
theorem s_X11_battery {G : Nat → Int} {σ : zSt} (hσ : zIC G σ) {x1 : Int32} : zok (fX11_battery σ x1) (zTi (zIC G) ([3] : List Nat)) := by
  unfold fX11_battery
  refine zok_if (fun q1 => ?_) (fun q1 => ?_)
  · have h2 := zc_ltl (-1) q1 zr_any (zr_c (lo := 0) (hi := 0) (by decide)) (by decide)
    exact (s_X11_battery_11 hσ)
  have h3 := zc_ler (0) (z_nlt q1) (zr_c (lo := 0) (hi := 0) (by decide)) zr_any (by decide)
  refine zok_if (fun q4 => ?_) (fun q4 => ?_)
  · have h5 := zc_ltl (32767) q4 h3 (zr_c (lo := 32768) (hi := 32768) (by decide)) (by decide)
    refine zok_pi (s_X2_batteryByte hσ.P h5) (fun v2 h6 => ?_)
    exact zok_ti0 hσ
  have h7 := zc_ler (32768) (z_nlt q4) (zr_c (lo := 32768) (hi := 32768) (by decide)) h3 (by decide)
  exact (s_X11_battery_11 hσ)
theorem s_X11_chip {G : Nat → Int} {σ : zSt} (hσ : zIC G σ) {x1 : Int32} : zok (fX11_chip σ x1) (zTi (zIC G) ([1] : List Nat)) := by
  unfold fX11_chip
  refine zok_pi (s_X9_has hσ.P) (fun v2 h1 => ?_)
  refine zok_if (fun q2 => ?_) (fun q2 => ?_)
  · have h3 := zc_eql (0) (0) q2 h1 (zr_c (lo := 0) (hi := 0) (by decide)) (by decide)
    exact zok_ti1 hσ (by decide)
  have h4 := zc_nel (1) (1) q2 h1 (zr_c (lo := 0) (hi := 0) (by decide)) (by decide)
  refine zok_pi (s_X9_value hσ.P) (fun v4 h5 => ?_)
  exact zok_ti0 hσ
theorem s_X11_dot_30 {G : Nat → Int} {σ : zSt} (hσ : zIC G σ) : zok (fX11_dot_30 σ ) (zTi (zIC G) ([3] : List Nat)) := by
  unfold fX11_dot_30
  exact zok_ti1 hσ (by decide)
theorem s_X11_dot {G : Nat → Int} {σ : zSt} (hσ : zIC G σ) {x1 : Int32} {x2 : Int32} : zok (fX11_dot σ x1 x2) (zTi (zIC G) ([3] : List Nat)) := by
  unfold fX11_dot
  refine zok_if (fun q1 => ?_) (fun q1 => ?_)
  · have h2 := zc_ltl (-1) q1 zr_any (zr_c (lo := 0) (hi := 0) (by decide)) (by decide)
    exact (s_X11_dot_30 hσ)
  have h3 := zc_ler (0) (z_nlt q1) (zr_c (lo := 0) (hi := 0) (by decide)) zr_any (by decide)
  refine zok_pi (s_X3_width hσ.P) (fun v2 h4 => ?_)
  refine zok_if (fun q5 => ?_) (fun q5 => ?_)
  · have h6 := zc_ler (160) q5 h4 h3 (by decide)
    exact (s_X11_dot_30 hσ)
  have h7 := zc_ltl (255) (z_nle q5) h3 h4 (by decide)
  refine zok_if (fun q8 => ?_) (fun q8 => ?_)
  · have h9 := zc_ltl (-1) q8 zr_any (zr_c (lo := 0) (hi := 0) (by decide)) (by decide)
    exact (s_X11_dot_30 hσ)
  have h10 := zc_ler (0) (z_nlt q8) (zr_c (lo := 0) (hi := 0) (by decide)) zr_any (by decide)
  refine zok_pi (s_X3_height hσ.P) (fun v4 h11 => ?_)
  refine zok_if (fun q12 => ?_) (fun q12 => ?_)
  · have h13 := zc_ltl (239) q12 h10 h11 (by decide)
    refine zok_pi (s_X3_dotAt hσ.P h7 h13) (fun v6 h14 => ?_)
    exact zok_ti0 hσ
  have h15 := zc_ler (144) (z_nlt q12) h11 h10 (by decide)
  exact (s_X11_dot_30 hσ)
theorem s_X11_row_15 {G : Nat → Int} {σ : zSt} (hσ : zIC G σ) : zok (fX11_row_15 σ ) (zTi (zIC G) ([3] : List Nat)) := by
  unfold fX11_row_15
  exact zok_ti1 hσ (by decide)
end ZJN1
