theorem s_X5_putOne {G : Nat → Int} {σ : zSt} (hσ : zIC G σ) {x1 : Int32} (h_x1 : zr (0) (7) x1) {x2 : Int32} (h_x2 : zr (0) (255) x2) : zok (fX5_putOne σ x1 x2) (zIC G) := by
  unfold fX5_putOne
  refine zok_if (fun q1 => ?_) (fun q1 => ?_)
  · have h2 := zc_eql (4) (4) q1 h_x1 (zr_c (lo := 4) (hi := 4) (by decide)) (by decide)
    refine zok_bu (s_X5_putPairHalf hσ (zr_w (zr_c (lo := 6) (hi := 6) (by decide)) (by decide)) h_x2) (fun σ1 i3 => ?_)
    exact zok_pau i3 (s_X5_putOne_88 i3.P)
  refine zok_if (fun q4 => ?_) (fun q4 => ?_)
  · have h5 := zc_eql (5) (5) q4 h_x1 (zr_c (lo := 5) (hi := 5) (by decide)) (by decide)
    refine zok_bu (s_X5_putPairHalf hσ (zr_w (zr_c (lo := 7) (hi := 7) (by decide)) (by decide)) h_x2) (fun σ2 i6 => ?_)
    exact zok_pau i6 (s_X5_putOne_88 i6.P)
  refine zok_if (fun q7 => ?_) (fun q7 => ?_)
  · have h8 := zc_eql (6) (6) q7 h_x1 (zr_c (lo := 6) (hi := 6) (by decide)) (by decide)
    refine zok_bu (s_X2_write hσ (zr_w (rC_6 hσ.sg _ (by decide)) (by decide)) h_x2) (fun σ3 i9 => ?_)
    exact zok_pau i9 (s_X5_putOne_88 i9.P)
  refine zok_if (fun q10 => ?_) (fun q10 => ?_)
  · have h11 := zc_eql (7) (7) q10 h_x1 (zr_c (lo := 7) (hi := 7) (by decide)) (by decide)
    refine zok_ck rfl ?_
    refine zok_bs (hσ.wi 0 0 (by decide) h_x2 (by decide +kernel)) (fun σ4 e13 i12 => ?_)
    exact zok_pau i12 (s_X5_putOne_88 i12.P)
  have h14 := zc_nel (0) (6) q10 h_x1 (zr_c (lo := 7) (hi := 7) (by decide)) (by decide)
  refine zok_ck (zin_ok (zr_add (lo := 2) (hi := 5) (zr_c (lo := 2) (hi := 2) (by decide)) (zr_andr (lo := 0) (hi := 3) (zr_c (lo := 3) (hi := 3) (by decide)) (by decide)) (by decide)) (by decide)) ?_
  refine zok_bs (hσ.wi 2 5 (z_ix (zr_add (lo := 2) (hi := 5) (zr_c (lo := 2) (hi := 2) (by decide)) (zr_andr (lo := 0) (hi := 3) (zr_c (lo := 3) (hi := 3) (by decide)) (by decide)) (by decide)) (by decide)) h_x2 (by decide +kernel)) (fun σ5 e16 i15 => ?_)
  exact zok_pau i15 (s_X5_putOne_88 i15.P)
theorem s_X5_turnBeside_128 {σ : zSt} (hσ : zPC σ) : zok (fX5_turnBeside_128 σ ) (zPi σ (fun v : Int32 => zr (20) (23) v)) := by
  unfold fX5_turnBeside_128
  exact zok_spi (zr_w (zr_c (lo := 23) (hi := 23) (by decide)) (by decide))
theorem s_X5_turnBeside {G : Nat → Int} {σ : zSt} (hσ : zIC G σ) : zok (fX5_turnBeside σ ) (zAi (zIC G) (fun v : Int32 => zr (20) (23) v)) := by
  unfold fX5_turnBeside
  refine zok_ck (zin_ok (rC_5 hσ.sg _ (by decide)) (by decide)) ?_
  refine zok_ai (s_X5_fetch hσ) (fun σ1 v2 i1 h2 => ?_)
  refine zok_ck rfl ?_
  refine zok_bs (i1.wi 20 20 (by decide) (zr_andr (lo := 0) (hi := 65535) (zr_c (lo := 65535) (hi := 65535) (by decide)) (by decide)) (by decide +kernel)) (fun σ3 e4 i3 => ?_)
  refine zok_ck rfl ?_
  refine zok_bs (i3.wi 5 5 (by decide) (rC_22 i3.sg _ (by decide)) (by decide +kernel)) (fun σ4 e6 i5 => ?_)
  refine zok_bs (i5.sp0 (zr_c (lo := 6) (hi := 6) (by decide)) (by decide)) (fun σ5 e8 i7 => ?_)
  refine zok_ai (s_X5_fetch i7) (fun σ6 v7 i9 h10 => ?_)
  refine zok_pi (s_X2_read i9.P) (fun v9 h11 => ?_)
  refine zok_if (fun q12 => ?_) (fun q12 => ?_)
  · have h13 := zc_eql (1) (1) q12 (zr_shr (lo := 0) (hi := 3) 6 (by decide) h10 (by decide)) (zr_c (lo := 1) (hi := 1) (by decide)) (by decide)
    refine zok_ck rfl ?_
    refine zok_bu (s_X5_askBit i9 (zr_andr (lo := 0) (hi := 7) (zr_c (lo := 7) (hi := 7) (by decide)) (by decide)) h11 (zr_shr (lo := 0) (hi := 255) 8 (by decide) (rC_22 i9.sg _ (by decide)) (by decide))) (fun σ14 i14 => ?_)
    exact zok_sai i14 (zr_w (zr_c (lo := 20) (hi := 20) (by decide)) (by decide))
  refine zok_ai (s_X5_turned i9 h10 h11) (fun σ10 v11 i15 h16 => ?_)
  refine zok_bu (s_X2_write i15 (zr_w (rC_6 i15.sg _ (by decide)) (by decide)) h16) (fun σ12 i17 => ?_)
  refine zok_if (fun q18 => ?_) (fun q18 => ?_)
  · have h19 := zc_eql (6) (6) q18 (zr_andr (lo := 0) (hi := 7) (zr_c (lo := 7) (hi := 7) (by decide)) (by decide)) (zr_c (lo := 6) (hi := 6) (by decide)) (by decide)
    exact zok_pai i17 (s_X5_turnBeside_128 i17.P)
  refine zok_bu (s_X5_putOne i17 (zr_andr (lo := 0) (hi := 7) (zr_c (lo := 7) (hi := 7) (by decide)) (by decide)) h16) (fun σ13 i20 => ?_)
  exact zok_pai i20 (s_X5_turnBeside_128 i20.P)
theorem s_X5_meansPlace_97 {σ : zSt} (hσ : zPC σ) {s0 : Int32} (h_s0 : zr (0) (1) s0) : zok (fX5_meansPlace_97 σ s0) (zPi σ (fun v : Int32 => zr (0) (1) v)) := by
  unfold fX5_meansPlace_97
  refine zok_ck (zbo_ok h_s0 (by decide)) ?_
  exact zok_spi h_s0
theorem s_X5_meansPlace_86 {σ : zSt} (hσ : zPC σ) {s0 : Int32} (h_s0 : zr (0) (1) s0) : zok (fX5_meansPlace_86 σ s0) (zPi σ (fun v : Int32 => zr (0) (1) v)) := by
  unfold fX5_meansPlace_86
  refine zok_ck (zbo_ok h_s0 (by decide)) ?_
  exact zok_spi h_s0
theorem s_X5_meansPlace_85 {σ : zSt} (hσ : zPC σ) : zok (fX5_meansPlace_85 σ ) (zPi σ (fun v : Int32 => zr (0) (1) v)) := by
  unfold fX5_meansPlace_85
  exact (s_X5_meansPlace_86 hσ (zr_w (zr_c (lo := 0) (hi := 0) (by decide)) (by decide)))
theorem s_X5_meansPlace_29 {σ : zSt} (hσ : zPC σ) {x0 : Int32} (h_x0 : zr (0) (255) x0) {x1 : Int32} (h_x1 : zr (0) (1) x1) {s0 : Int32} (h_s0 : zr (0) (1) s0) : zok (fX5_meansPlace_29 σ x0 x1 s0) (zPi σ (fun v : Int32 => zr (0) (1) v)) := by
  unfold fX5_meansPlace_29
  refine zok_if (fun q1 => ?_) (fun q1 => ?_)
  · have h2 := zc_eql (0) (0) q1 (zr_shr (lo := 0) (hi := 3) 6 (by decide) h_x0 (by decide)) (zr_c (lo := 0) (hi := 0) (by decide)) (by decide)
    refine zok_if (fun q3 => ?_) (fun q3 => ?_)
    · have h4 := zc_eql (0) (0) q3 h_x1 (zr_c (lo := 0) (hi := 0) (by decide)) (by decide)
      exact (s_X5_meansPlace_85 hσ)
    have h5 := zc_nel (1) (1) q3 h_x1 (zr_c (lo := 0) (hi := 0) (by decide)) (by decide)
    refine zok_if (fun q6 => ?_) (fun q6 => ?_)
    · have h7 := zc_ltl (3) q6 (zr_andr (lo := 0) (hi := 7) (zr_c (lo := 7) (hi := 7) (by decide)) (by decide)) (zr_c (lo := 4) (hi := 4) (by decide)) (by decide)
      exact (s_X5_meansPlace_85 hσ)
    have h8 := zc_ler (4) (z_nlt q6) (zr_c (lo := 4) (hi := 4) (by decide)) (zr_andr (lo := 0) (hi := 7) (zr_c (lo := 7) (hi := 7) (by decide)) (by decide)) (by decide)
    refine zok_if (fun q9 => ?_) (fun q9 => ?_)
    · have h10 := zc_ltr (7) q9 (zr_c (lo := 6) (hi := 6) (by decide)) h8 (by decide)
      exact (s_X5_meansPlace_85 hσ)
    have h11 := zc_lel (6) (z_nlt q9) h8 (zr_c (lo := 6) (hi := 6) (by decide)) (by decide)
    exact (s_X5_meansPlace_86 hσ (zr_w (zr_c (lo := 1) (hi := 1) (by decide)) (by decide)))
  have h12 := zc_nel (1) (3) q1 (zr_shr (lo := 0) (hi := 3) 6 (by decide) h_x0 (by decide)) (zr_c (lo := 0) (hi := 0) (by decide)) (by decide)
  refine zok_if (fun q13 => ?_) (fun q13 => ?_)
  · have h14 := zc_eql (1) (1) q13 h12 (zr_c (lo := 1) (hi := 1) (by decide)) (by decide)
    refine zok_if (fun q15 => ?_) (fun q15 => ?_)
    · exact (s_X5_meansPlace_97 hσ (zr_w (zr_c (lo := 0) (hi := 0) (by decide)) (by decide)))
    exact (s_X5_meansPlace_97 hσ (zr_w (zr_c (lo := 1) (hi := 1) (by decide)) (by decide)))
  have h16 := zc_nel (2) (3) q13 h12 (zr_c (lo := 1) (hi := 1) (by decide)) (by decide)
  refine zok_if (fun q17 => ?_) (fun q17 => ?_)
  · have h18 := zc_eql (2) (2) q17 h16 (zr_c (lo := 2) (hi := 2) (by decide)) (by decide)
    refine zok_ck (zbo_ok h_s0 (by decide)) ?_
    exact zok_spi h_s0
  have h19 := zc_nel (3) (3) q17 h16 (zr_c (lo := 2) (hi := 2) (by decide)) (by decide)
  refine zok_ck rfl ?_
  exact zok_spi (zr_w (zr_c (lo := 0) (hi := 0) (by decide)) (by decide))
theorem s_X5_meansPlace_14 {σ : zSt} (hσ : zPC σ) {x0 : Int32} (h_x0 : zr (0) (255) x0) {s0 : Int32} (h_s0 : zr (0) (1) s0) : zok (fX5_meansPlace_14 σ x0 s0) (zPi σ (fun v : Int32 => zr (0) (1) v)) := by
  unfold fX5_meansPlace_14
  refine zok_if (fun q1 => ?_) (fun q1 => ?_)
  · have h2 := zc_eql (6) (6) q1 (zr_andr (lo := 0) (hi := 7) (zr_c (lo := 7) (hi := 7) (by decide)) (by decide)) (zr_c (lo := 6) (hi := 6) (by decide)) (by decide)
    exact (s_X5_meansPlace_29 hσ h_x0 h_s0 (zr_w (zr_c (lo := 1) (hi := 1) (by decide)) (by decide)))
  exact (s_X5_meansPlace_29 hσ h_x0 h_s0 (zr_w (zr_c (lo := 0) (hi := 0) (by decide)) (by decide)))
theorem s_X5_meansPlace {σ : zSt} (hσ : zPC σ) {x0 : Int32} (h_x0 : zr (0) (255) x0) : zok (fX5_meansPlace σ x0) (zPi σ (fun v : Int32 => zr (0) (1) v)) := by
  unfold fX5_meansPlace
  refine zok_if (fun q1 => ?_) (fun q1 => ?_)
  · have h2 := zc_eql (48) (48) q1 (zr_andr (lo := 0) (hi := 56) (zr_c (lo := 56) (hi := 56) (by decide)) (by decide)) (zr_c (lo := 48) (hi := 48) (by decide)) (by decide)
    exact (s_X5_meansPlace_14 hσ h_x0 (zr_w (zr_c (lo := 1) (hi := 1) (by decide)) (by decide)))
  exact (s_X5_meansPlace_14 hσ h_x0 (zr_w (zr_c (lo := 0) (hi := 0) (by decide)) (by decide)))
theorem s_X5_takePlace_64 {σ : zSt} (hσ : zPC σ) {s0 : Int32} (h_s0 : zr (9) (12) s0) : zok (fX5_takePlace_64 σ s0) (zPi σ (fun v : Int32 => zr (4) (12) v)) := by
  unfold fX5_takePlace_64
  exact zok_spi (zr_w h_s0 (by decide))
theorem s_X5_takePlace {G : Nat → Int} {σ : zSt} (hσ : zIC G σ) {x1 : Int32} (h_x1 : zr (0) (255) x1) : zok (fX5_takePlace σ x1) (zAi (zIC G) (fun v : Int32 => zr (4) (12) v)) := by
  unfold fX5_takePlace
  refine zok_pi (s_X5_meansPlace hσ.P h_x1) (fun v2 h1 => ?_)
  refine zok_if (fun q2 => ?_) (fun q2 => ?_)
  · have h3 := zc_eql (0) (0) q2 h1 (zr_c (lo := 0) (hi := 0) (by decide)) (by decide)
    exact zok_sai hσ (zr_w (zr_c (lo := 4) (hi := 4) (by decide)) (by decide))
  have h4 := zc_nel (1) (1) q2 h1 (zr_c (lo := 0) (hi := 0) (by decide)) (by decide)
  refine zok_ck (zin_ok (rC_5 hσ.sg _ (by decide)) (by decide)) ?_
  refine zok_ai (s_X5_fetch hσ) (fun σ3 v4 i5 h6 => ?_)
  refine zok_ck rfl ?_
  refine zok_bs (i5.wi 20 20 (by decide) (zr_andr (lo := 0) (hi := 65535) (zr_c (lo := 65535) (hi := 65535) (by decide)) (by decide)) (by decide +kernel)) (fun σ5 e8 i7 => ?_)
  refine zok_ck rfl ?_
  refine zok_bs (i7.wi 5 5 (by decide) (rC_22 i7.sg _ (by decide)) (by decide +kernel)) (fun σ6 e10 i9 => ?_)
  refine zok_bs (i9.sp0 (zr_c (lo := 6) (hi := 6) (by decide)) (by decide)) (fun σ7 e12 i11 => ?_)
  refine zok_if (fun q13 => ?_) (fun q13 => ?_)
  · have h14 := zc_eql (54) (54) q13 h_x1 (zr_c (lo := 54) (hi := 54) (by decide)) (by decide)
    exact zok_pai i11 (s_X5_takePlace_64 i11.P (zr_w (zr_c (lo := 9) (hi := 9) (by decide)) (by decide)))
  exact zok_pai i11 (s_X5_takePlace_64 i11.P (zr_w (zr_c (lo := 12) (hi := 12) (by decide)) (by decide)))
theorem s_X5_one_96 {σ : zSt} (hσ : zPC σ) {s0 : Int32} (h_s0 : zr (0) (255) s0) : zok (fX5_one_96 σ s0) (zPi σ (fun v : Int32 => zr (0) (255) v)) := by
  unfold fX5_one_96
  exact zok_spi h_s0
theorem s_X5_one_63 {σ : zSt} (hσ : zPC σ) {s0 : Int32} (h_s0 : zr (0) (255) s0) : zok (fX5_one_63 σ s0) (zPi σ (fun v : Int32 => zr (0) (255) v)) := by
  unfold fX5_one_63
  exact zok_spi h_s0
theorem s_X5_one {σ : zSt} (hσ : zPC σ) {x1 : Int32} (h_x1 : zr (0) (7) x1) : zok (fX5_one σ x1) (zPi σ (fun v : Int32 => zr (0) (255) v)) := by
  unfold fX5_one
  refine zok_if (fun q1 => ?_) (fun q1 => ?_)
  · have h2 := zc_eql (4) (4) q1 h_x1 (zr_c (lo := 4) (hi := 4) (by decide)) (by decide)
    refine zok_if (fun q3 => ?_) (fun q3 => ?_)
    · have h4 := zc_eql (6) (6) q3 (rC_5 hσ.sg _ (by decide)) (zr_c (lo := 6) (hi := 6) (by decide)) (by decide)
      refine zok_ck rfl ?_
      exact (s_X5_one_63 hσ (rC_21 hσ.sg _ (by decide)))
    have h5 := zc_nel (7) (17) q3 (rC_5 hσ.sg _ (by decide)) (zr_c (lo := 6) (hi := 6) (by decide)) (by decide)
    have h6 := xC_sp hσ.sp h5 (by decide)
    refine zok_ck (zin_ok h6 (by decide)) ?_
    exact (s_X5_one_63 hσ (zr_shr (lo := 0) (hi := 255) 8 (by decide) (rC_22 hσ.sg _ (z_ix h6 (by decide))) (by decide)))
  refine zok_if (fun q7 => ?_) (fun q7 => ?_)
  · have h8 := zc_eql (5) (5) q7 h_x1 (zr_c (lo := 5) (hi := 5) (by decide)) (by decide)
    refine zok_if (fun q9 => ?_) (fun q9 => ?_)
    · have h10 := zc_eql (6) (6) q9 (rC_5 hσ.sg _ (by decide)) (zr_c (lo := 6) (hi := 6) (by decide)) (by decide)
      refine zok_ck rfl ?_
      exact (s_X5_one_96 hσ (rC_21 hσ.sg _ (by decide)))
    have h11 := zc_nel (7) (17) q9 (rC_5 hσ.sg _ (by decide)) (zr_c (lo := 6) (hi := 6) (by decide)) (by decide)
    have h12 := xC_sp hσ.sp h11 (by decide)
    refine zok_ck (zin_ok h12 (by decide)) ?_
    exact (s_X5_one_96 hσ (zr_andr (lo := 0) (hi := 255) (zr_c (lo := 255) (hi := 255) (by decide)) (by decide)))
  refine zok_if (fun q13 => ?_) (fun q13 => ?_)
  · have h14 := zc_eql (6) (6) q13 h_x1 (zr_c (lo := 6) (hi := 6) (by decide)) (by decide)
    refine zok_pi (s_X2_read hσ) (fun v2 h15 => ?_)
    exact zok_spi h15
  refine zok_if (fun q16 => ?_) (fun q16 => ?_)
  · have h17 := zc_eql (7) (7) q16 h_x1 (zr_c (lo := 7) (hi := 7) (by decide)) (by decide)
    refine zok_ck rfl ?_
    exact zok_spi (rC_21 hσ.sg _ (by decide))
  have h18 := zc_nel (0) (6) q16 h_x1 (zr_c (lo := 7) (hi := 7) (by decide)) (by decide)
  refine zok_ck (zin_ok (zr_add (lo := 2) (hi := 5) (zr_c (lo := 2) (hi := 2) (by decide)) (zr_andr (lo := 0) (hi := 3) (zr_c (lo := 3) (hi := 3) (by decide)) (by decide)) (by decide)) (by decide)) ?_
  exact zok_spi (rC_21 hσ.sg _ (z_ix (zr_add (lo := 2) (hi := 5) (zr_c (lo := 2) (hi := 2) (by decide)) (zr_andr (lo := 0) (hi := 3) (zr_c (lo := 3) (hi := 3) (by decide)) (by decide)) (by decide)) (by decide)))
theorem s_X5_turns_63 {σ : zSt} (hσ : zPC σ) {s0 : Int32} (h_s0 : zr (8) (12) s0) : zok (fX5_turns_63 σ s0) (zPi σ (fun v : Int32 => zr (8) (15) v)) := by
  unfold fX5_turns_63
  exact zok_spi (zr_w h_s0 (by decide))
theorem s_X5_turns_47 {G : Nat → Int} {σ : zSt} (hσ : zIC G σ) {x2 : Int32} (h_x2 : zr (0) (7) x2) {s0 : Int32} (h_s0 : zr (0) (255) s0) {s1 : Int32} (h_s1 : zr (0) (255) s1) {s2 : Int32} (h_s2 : zr (0) (7) s2) : zok (fX5_turns_47 σ x2 s0 s1 s2) (zAi (zIC G) (fun v : Int32 => zr (8) (15) v)) := by
  unfold fX5_turns_47
  refine zok_bu (s_X5_askBit hσ h_s2 h_s1 h_s0) (fun σ1 i1 => ?_)
  refine zok_if (fun q2 => ?_) (fun q2 => ?_)
  · have h3 := zc_eql (6) (6) q2 h_x2 (zr_c (lo := 6) (hi := 6) (by decide)) (by decide)
    exact zok_pai i1 (s_X5_turns_63 i1.P (zr_w (zr_c (lo := 12) (hi := 12) (by decide)) (by decide)))
  exact zok_pai i1 (s_X5_turns_63 i1.P (zr_w (zr_c (lo := 8) (hi := 8) (by decide)) (by decide)))
theorem s_X5_turns_88 {σ : zSt} (hσ : zPC σ) {s0 : Int32} (h_s0 : zr (8) (15) s0) : zok (fX5_turns_88 σ s0) (zPi σ (fun v : Int32 => zr (8) (15) v)) := by
  unfold fX5_turns_88
  exact zok_spi h_s0
theorem s_X5_turns {G : Nat → Int} {σ : zSt} (hσ : zIC G σ) {x1 : Int32} (h_x1 : zr (0) (255) x1) : zok (fX5_turns σ x1) (zAi (zIC G) (fun v : Int32 => zr (8) (15) v)) := by
  unfold fX5_turns
  refine zok_br (zr_andr (lo := 0) (hi := 7) (zr_c (lo := 7) (hi := 7) (by decide)) (by decide)) (fun v2 e2 h1 => ?_)
  refine zok_pi (s_X5_one hσ.P h1) (fun v4 h3 => ?_)
  refine zok_if (fun q4 => ?_) (fun q4 => ?_)
  · have h5 := zc_eql (1) (1) q4 (zr_shr (lo := 0) (hi := 3) 6 (by decide) h_x1 (by decide)) (zr_c (lo := 1) (hi := 1) (by decide)) (by decide)
    refine zok_if (fun q6 => ?_) (fun q6 => ?_)
    · have h7 := zc_eql (6) (6) q6 h1 (zr_c (lo := 6) (hi := 6) (by decide)) (by decide)
      refine zok_ck rfl ?_
      exact (s_X5_turns_47 hσ (zr_w h7 (by decide)) (zr_shr (lo := 0) (hi := 255) 8 (by decide) (rC_22 hσ.sg _ (by decide)) (by decide)) h3 (zr_andr (lo := 0) (hi := 7) (zr_c (lo := 7) (hi := 7) (by decide)) (by decide)))
    exact (s_X5_turns_47 hσ h1 h3 h3 (zr_andr (lo := 0) (hi := 7) (zr_c (lo := 7) (hi := 7) (by decide)) (by decide)))
  refine zok_ai (s_X5_turned hσ h_x1 h3) (fun σ5 v6 i8 h9 => ?_)
  refine zok_bu (s_X5_putOne i8 h1 h9) (fun σ7 i10 => ?_)
  refine zok_if (fun q11 => ?_) (fun q11 => ?_)
  · have h12 := zc_eql (6) (6) q11 h1 (zr_c (lo := 6) (hi := 6) (by decide)) (by decide)
    exact zok_pai i10 (s_X5_turns_88 i10.P (zr_w (zr_c (lo := 15) (hi := 15) (by decide)) (by decide)))
  exact zok_pai i10 (s_X5_turns_88 i10.P (zr_w (zr_c (lo := 8) (hi := 8) (by decide)) (by decide)))
theorem s_X5_putPairAt {G : Nat → Int} {σ : zSt} (hσ : zIC G σ) {x1 : Int32} (h_x1 : zr (0) (6) x1) {x2 : Int32} (h_x2 : zr (-65536) (131071) x2) : zok (fX5_putPairAt σ x1 x2) (zIC G) := by
  unfold fX5_putPairAt
  refine zok_ck (zin_ok h_x1 (by decide)) ?_
  refine zok_bs (hσ.wi 0 6 (z_ix h_x1 (by decide)) (zr_andr (lo := 0) (hi := 255) (zr_c (lo := 255) (hi := 255) (by decide)) (by decide)) (by decide +kernel)) (fun σ1 e2 i1 => ?_)
  refine zok_ck (zin_ok (zr_add (lo := 1) (hi := 7) h_x1 (zr_c (lo := 1) (hi := 1) (by decide)) (by decide)) (by decide)) ?_
  refine zok_bs (i1.wi 1 7 (z_ix (zr_add (lo := 1) (hi := 7) h_x1 (zr_c (lo := 1) (hi := 1) (by decide)) (by decide)) (by decide)) (zr_andr (lo := 0) (hi := 255) (zr_c (lo := 255) (hi := 255) (by decide)) (by decide)) (by decide +kernel)) (fun σ2 e4 i3 => ?_)
  exact zok_some i3
theorem s_X5_tellOfPort_34 {G : Nat → Int} {σ : zSt} (hσ : zIC G σ) {x2 : Int32} (h_x2 : zr (0) (510) x2) {s0 : Int32} (h_s0 : zr (0) (17) s0) {s1 : Int32} (h_s1 : zr (0) (255) s1) {s2 : Int32} (h_s2 : zr (1) (1) s2) : zok (fX5_tellOfPort_34 σ x2 s0 s1 s2) (zIC G) := by
  unfold fX5_tellOfPort_34
  refine zok_ck rfl ?_
  refine zok_pi (s_X5_parity hσ.P (zr_xor (lo := 0) (hi := 255) 8 (zr_andr (lo := 0) (hi := 7) (zr_c (lo := 7) (hi := 7) (by decide)) (by decide)) (rC_21 hσ.sg _ (by decide)) (by decide))) (fun v2 h1 => ?_)
  refine zok_ck (zin_ok h_s2 (by decide)) ?_
  refine zok_bs (hσ.wi 1 1 (z_ix h_s2 (by decide)) (zr_or (lo := 0) (hi := 255) 8 (zr_or (lo := 0) (hi := 255) 8 h_s1 h_s0 (by decide)) h1 (by decide)) (by decide +kernel)) (fun σ3 e3 i2 => ?_)
  exact zok_some i2
theorem s_X5_tellOfPort {G : Nat → Int} {σ : zSt} (hσ : zIC G σ) {x1 : Int32} (h_x1 : zr (0) (255) x1) {x2 : Int32} (h_x2 : zr (0) (510) x2) : zok (fX5_tellOfPort σ x1 x2) (zIC G) := by
  unfold fX5_tellOfPort
  refine zok_ck rfl ?_
  refine zok_pi (s_X5_by hσ.P (rC_21 hσ.sg _ (by decide))) (fun v5 h1 => ?_)
  refine zok_if (fun q2 => ?_) (fun q2 => ?_)
  · have h3 := zc_lel (255) q2 h_x2 (zr_c (lo := 255) (hi := 255) (by decide)) (by decide)
    exact (s_X5_tellOfPort_34 hσ (zr_w h3 (by decide)) (zr_w (zr_c (lo := 0) (hi := 0) (by decide)) (by decide)) (zr_or (lo := 0) (hi := 255) 8 h1 (zr_andr (lo := 0) (hi := 2) (zr_c (lo := 2) (hi := 2) (by decide)) (by decide)) (by decide)) (zr_c (lo := 1) (hi := 1) (by decide)))
  have h4 := zc_ltr (256) (z_nle q2) (zr_c (lo := 255) (hi := 255) (by decide)) h_x2 (by decide)
  exact (s_X5_tellOfPort_34 hσ (zr_w h4 (by decide)) (zr_w (zr_c (lo := 17) (hi := 17) (by decide)) (by decide)) (zr_or (lo := 0) (hi := 255) 8 h1 (zr_andr (lo := 0) (hi := 2) (zr_c (lo := 2) (hi := 2) (by decide)) (by decide)) (by decide)) (zr_c (lo := 1) (hi := 1) (by decide)))
theorem s_X5_giveOne_105 {σ : zSt} (hσ : zPC σ) {s0 : Int32} (h_s0 : zr (0) (1) s0) : zok (fX5_giveOne_105 σ s0) (zPi σ (fun v : Int32 => zr (0) (1) v)) := by
  unfold fX5_giveOne_105
  refine zok_ck (zbo_ok h_s0 (by decide)) ?_
  exact zok_spi h_s0
theorem s_X5_giveOne {G : Nat → Int} {σ : zSt} (hσ : zIC G σ) {x1 : Int32} (h_x1 : zr (-1) (1) x1) : zok (fX5_giveOne σ x1) (zAi (zIC G) (fun v : Int32 => zr (0) (1) v)) := by
  unfold fX5_giveOne
  refine zok_pi (s_X5_pairAt hσ.P (zr_w (zr_c (lo := 6) (hi := 6) (by decide)) (by decide))) (fun v2 h1 => ?_)
  refine zok_pi (s_X2_read hσ.P) (fun v4 h2 => ?_)
  refine zok_ck rfl ?_
  refine zok_ck rfl ?_
  refine zok_bs (hσ.wi 2 2 (by decide) (zr_andr (lo := 0) (hi := 255) (zr_c (lo := 255) (hi := 255) (by decide)) (by decide)) (by decide +kernel)) (fun σ5 e4 i3 => ?_)
  refine zok_ck rfl ?_
  refine zok_bu (s_X4_write i3 (rC_21 i3.sg _ (by decide)) h2) (fun σ6 i5 => ?_)
  refine zok_pi (s_X5_pairAt i5.P (zr_w (zr_c (lo := 6) (hi := 6) (by decide)) (by decide))) (fun v8 h6 => ?_)
  refine zok_bu (s_X5_putPairAt i5 (zr_w (zr_c (lo := 6) (hi := 6) (by decide)) (by decide)) (zr_w (zr_add (lo := -1) (hi := 65536) h6 h_x1 (by decide)) (by decide))) (fun σ9 i7 => ?_)
  refine zok_pi (s_X5_pairAt i7.P (zr_w (zr_c (lo := 2) (hi := 2) (by decide)) (by decide))) (fun v11 h8 => ?_)
  refine zok_ck rfl ?_
  refine zok_bs (i7.wi 20 20 (by decide) (zr_andr (lo := 0) (hi := 65535) (zr_c (lo := 65535) (hi := 65535) (by decide)) (by decide)) (by decide +kernel)) (fun σ12 e10 i9 => ?_)
  refine zok_ck rfl ?_
  refine zok_bu (s_X5_tellOfPort i9 h2 (zr_add (lo := 0) (hi := 510) h2 (rC_21 i9.sg _ (by decide)) (by decide))) (fun σ13 i11 => ?_)
  refine zok_ck rfl ?_
  refine zok_if (fun q12 => ?_) (fun q12 => ?_)
  · have h13 := zc_eql (0) (0) q12 (rC_21 i11.sg _ (by decide)) (zr_c (lo := 0) (hi := 0) (by decide)) (by decide)
    exact zok_pai i11 (s_X5_giveOne_105 i11.P (zr_w (zr_c (lo := 0) (hi := 0) (by decide)) (by decide)))
  have h14 := zc_nel (1) (255) q12 (rC_21 i11.sg _ (by decide)) (zr_c (lo := 0) (hi := 0) (by decide)) (by decide)
  exact zok_pai i11 (s_X5_giveOne_105 i11.P (zr_w (zr_c (lo := 1) (hi := 1) (by decide)) (by decide)))
theorem s_X5_takeOne_110 {σ : zSt} (hσ : zPC σ) {s0 : Int32} (h_s0 : zr (0) (1) s0) : zok (fX5_takeOne_110 σ s0) (zPi σ (fun v : Int32 => zr (0) (1) v)) := by
  unfold fX5_takeOne_110
  refine zok_ck (zbo_ok h_s0 (by decide)) ?_
  exact zok_spi h_s0
theorem s_X5_takeOne {G : Nat → Int} {σ : zSt} (hσ : zIC G σ) {x1 : Int32} (h_x1 : zr (-1) (1) x1) : zok (fX5_takeOne σ x1) (zAi (zIC G) (fun v : Int32 => zr (0) (1) v)) := by
  unfold fX5_takeOne
  refine zok_pi (s_X5_pairAt hσ.P (zr_w (zr_c (lo := 2) (hi := 2) (by decide)) (by decide))) (fun v2 h1 => ?_)
  refine zok_ck rfl ?_
  refine zok_bs (hσ.wi 20 20 (by decide) (zr_andr (lo := 0) (hi := 65535) (zr_c (lo := 65535) (hi := 65535) (by decide)) (by decide)) (by decide +kernel)) (fun σ3 e3 i2 => ?_)
  refine zok_ck rfl ?_
  refine zok_ai (s_X4_read i2 (rC_21 i2.sg _ (by decide))) (fun σ4 v5 i4 h5 => ?_)
  refine zok_ck rfl ?_
  refine zok_ck rfl ?_
  refine zok_bs (i4.wi 2 2 (by decide) (zr_andr (lo := 0) (hi := 255) (zr_c (lo := 255) (hi := 255) (by decide)) (by decide)) (by decide +kernel)) (fun σ6 e7 i6 => ?_)
  refine zok_pi (s_X5_pairAt i6.P (zr_w (zr_c (lo := 6) (hi := 6) (by decide)) (by decide))) (fun v8 h8 => ?_)
  refine zok_bu (s_X2_write i6 (zr_w h8 (by decide)) h5) (fun σ9 i9 => ?_)
  refine zok_pi (s_X5_pairAt i9.P (zr_w (zr_c (lo := 6) (hi := 6) (by decide)) (by decide))) (fun v11 h10 => ?_)
  refine zok_bu (s_X5_putPairAt i9 (zr_w (zr_c (lo := 6) (hi := 6) (by decide)) (by decide)) (zr_w (zr_add (lo := -1) (hi := 65536) h10 h_x1 (by decide)) (by decide))) (fun σ12 i11 => ?_)
  refine zok_ck rfl ?_
  refine zok_bu (s_X5_tellOfPort i11 h5 (zr_add (lo := 0) (hi := 510) h5 (zr_andr (lo := 0) (hi := 255) (zr_c (lo := 255) (hi := 255) (by decide)) (by decide)) (by decide))) (fun σ13 i12 => ?_)
  refine zok_ck rfl ?_
  refine zok_if (fun q13 => ?_) (fun q13 => ?_)
  · have h14 := zc_eql (0) (0) q13 (rC_21 i12.sg _ (by decide)) (zr_c (lo := 0) (hi := 0) (by decide)) (by decide)
    exact zok_pai i12 (s_X5_takeOne_110 i12.P (zr_w (zr_c (lo := 0) (hi := 0) (by decide)) (by decide)))
  have h15 := zc_nel (1) (255) q13 (rC_21 i12.sg _ (by decide)) (zr_c (lo := 0) (hi := 0) (by decide)) (by decide)
  exact zok_pai i12 (s_X5_takeOne_110 i12.P (zr_w (zr_c (lo := 1) (hi := 1) (by decide)) (by decide)))
theorem s_X5_compareOne_184 {σ : zSt} (hσ : zPC σ) {s0 : Int32} (h_s0 : zr (0) (1) s0) : zok (fX5_compareOne_184 σ s0) (zPi σ (fun v : Int32 => zr (0) (1) v)) := by
  unfold fX5_compareOne_184
  refine zok_ck (zbo_ok h_s0 (by decide)) ?_
  exact zok_spi h_s0
theorem s_X5_compareOne_183 {σ : zSt} (hσ : zPC σ) : zok (fX5_compareOne_183 σ ) (zPi σ (fun v : Int32 => zr (0) (1) v)) := by
  unfold fX5_compareOne_183
  exact (s_X5_compareOne_184 hσ (zr_w (zr_c (lo := 0) (hi := 0) (by decide)) (by decide)))
theorem s_X5_compareOne_166 {G : Nat → Int} {σ : zSt} (hσ : zIC G σ) {x3 : Int32} (h_x3 : zr (0) (255) x3) {x5 : Int32} (h_x5 : zr (0) (1) x5) {s0 : Int32} (h_s0 : zr (0) (4) s0) {s1 : Int32} (h_s1 : zr (0) (255) s1) {s2 : Int32} (h_s2 : zr (1) (1) s2) : zok (fX5_compareOne_166 σ x3 x5 s0 s1 s2) (zAi (zIC G) (fun v : Int32 => zr (0) (1) v)) := by
  unfold fX5_compareOne_166
  refine zok_ck (zin_ok h_s2 (by decide)) ?_
  refine zok_bs (hσ.wi 1 1 (z_ix h_s2 (by decide)) (zr_or (lo := 0) (hi := 255) 8 (zr_or (lo := 0) (hi := 255) 8 h_s1 h_s0 (by decide)) (zr_c (lo := 2) (hi := 2) (by decide)) (by decide)) (by decide +kernel)) (fun σ1 e2 i1 => ?_)
  refine zok_if (fun q3 => ?_) (fun q3 => ?_)
  · have h4 := zc_eql (0) (0) q3 h_x5 (zr_c (lo := 0) (hi := 0) (by decide)) (by decide)
    exact zok_pai i1 (s_X5_compareOne_183 i1.P)
  have h5 := zc_nel (1) (1) q3 h_x5 (zr_c (lo := 0) (hi := 0) (by decide)) (by decide)
  refine zok_if (fun q6 => ?_) (fun q6 => ?_)
  · have h7 := zc_eql (0) (0) q6 h_x3 (zr_c (lo := 0) (hi := 0) (by decide)) (by decide)
    exact zok_pai i1 (s_X5_compareOne_183 i1.P)
  have h8 := zc_nel (1) (255) q6 h_x3 (zr_c (lo := 0) (hi := 0) (by decide)) (by decide)
  exact zok_pai i1 (s_X5_compareOne_184 i1.P (zr_w (zr_c (lo := 1) (hi := 1) (by decide)) (by decide)))
theorem s_X5_compareOne_139 {G : Nat → Int} {σ : zSt} (hσ : zIC G σ) {x3 : Int32} (h_x3 : zr (0) (255) x3) {x4 : Int32} (h_x4 : zr (0) (16) x4) {x5 : Int32} (h_x5 : zr (0) (1) x5) {x6 : Int32} (h_x6 : zr (-1) (255) x6) {s0 : Int32} (h_s0 : zr (0) (64) s0) {s1 : Int32} (h_s1 : zr (0) (255) s1) {s2 : Int32} (h_s2 : zr (1) (1) s2) : zok (fX5_compareOne_139 σ x3 x4 x5 x6 s0 s1 s2) (zAi (zIC G) (fun v : Int32 => zr (0) (1) v)) := by
  unfold fX5_compareOne_139
  refine zok_if (fun q1 => ?_) (fun q1 => ?_)
  · have h2 := zc_eql (0) (0) q1 h_x5 (zr_c (lo := 0) (hi := 0) (by decide)) (by decide)
    exact (s_X5_compareOne_166 hσ h_x3 (zr_w h2 (by decide)) (zr_w (zr_c (lo := 0) (hi := 0) (by decide)) (by decide)) (zr_or (lo := 0) (hi := 255) 8 (zr_or (lo := 0) (hi := 255) 8 (zr_or (lo := 0) (hi := 255) 8 (zr_or (lo := 0) (hi := 255) 8 h_s1 h_s0 (by decide)) h_x4 (by decide)) (zr_shl (lo := 0) (hi := 32) 4 (by decide) (zr_andr (lo := 0) (hi := 2) (zr_c (lo := 2) (hi := 2) (by decide)) (by decide)) (by decide)) (by decide)) (zr_andr (lo := 0) (hi := 8) (zr_c (lo := 8) (hi := 8) (by decide)) (by decide)) (by decide)) h_s2)
  have h3 := zc_nel (1) (1) q1 h_x5 (zr_c (lo := 0) (hi := 0) (by decide)) (by decide)
  exact (s_X5_compareOne_166 hσ h_x3 (zr_w h3 (by decide)) (zr_w (zr_c (lo := 4) (hi := 4) (by decide)) (by decide)) (zr_or (lo := 0) (hi := 255) 8 (zr_or (lo := 0) (hi := 255) 8 (zr_or (lo := 0) (hi := 255) 8 (zr_or (lo := 0) (hi := 255) 8 h_s1 h_s0 (by decide)) h_x4 (by decide)) (zr_shl (lo := 0) (hi := 32) 4 (by decide) (zr_andr (lo := 0) (hi := 2) (zr_c (lo := 2) (hi := 2) (by decide)) (by decide)) (by decide)) (by decide)) (zr_andr (lo := 0) (hi := 8) (zr_c (lo := 8) (hi := 8) (by decide)) (by decide)) (by decide)) h_s2)
theorem s_X5_compareOne_100 {G : Nat → Int} {σ : zSt} (hσ : zIC G σ) {x3 : Int32} (h_x3 : zr (0) (255) x3) {x4 : Int32} (h_x4 : zr (0) (16) x4) {s0 : Int32} (h_s0 : zr (0) (1) s0) : zok (fX5_compareOne_100 σ x3 x4 s0) (zAi (zIC G) (fun v : Int32 => zr (0) (1) v)) := by
  unfold fX5_compareOne_100
  refine zok_br (zr_sub (lo := -1) (hi := 255) h_x3 (zr_shr (lo := 0) (hi := 1) 4 (by decide) h_x4 (by decide)) (by decide)) (fun v2 e2 h1 => ?_)
  refine zok_ck rfl ?_
  refine zok_if (fun q3 => ?_) (fun q3 => ?_)
  · have h4 := zc_eql (0) (0) q3 h_x3 (zr_c (lo := 0) (hi := 0) (by decide)) (by decide)
    exact (s_X5_compareOne_139 hσ (zr_w h4 (by decide)) h_x4 h_s0 h1 (zr_w (zr_c (lo := 64) (hi := 64) (by decide)) (by decide)) (zr_w (zr_or (lo := 0) (hi := 1) 1 (zr_andr (lo := 0) (hi := 1) (zr_c (lo := 1) (hi := 1) (by decide)) (by decide)) (zr_andl (lo := 0) (hi := 0) h4 (by decide)) (by decide)) (by decide)) (zr_c (lo := 1) (hi := 1) (by decide)))
  have h5 := zc_nel (1) (255) q3 h_x3 (zr_c (lo := 0) (hi := 0) (by decide)) (by decide)
  exact (s_X5_compareOne_139 hσ (zr_w h5 (by decide)) h_x4 h_s0 h1 (zr_w (zr_c (lo := 0) (hi := 0) (by decide)) (by decide)) (zr_or (lo := 0) (hi := 255) 8 (zr_andr (lo := 0) (hi := 1) (zr_c (lo := 1) (hi := 1) (by decide)) (by decide)) (zr_andr (lo := 0) (hi := 128) (zr_c (lo := 128) (hi := 128) (by decide)) (by decide)) (by decide)) (zr_c (lo := 1) (hi := 1) (by decide)))
theorem s_X5_compareOne {G : Nat → Int} {σ : zSt} (hσ : zIC G σ) {x1 : Int32} (h_x1 : zr (-1) (1) x1) : zok (fX5_compareOne σ x1) (zAi (zIC G) (fun v : Int32 => zr (0) (1) v)) := by
  unfold fX5_compareOne
  refine zok_pi (s_X5_pairAt hσ.P (zr_w (zr_c (lo := 6) (hi := 6) (by decide)) (by decide))) (fun v4 h1 => ?_)
  refine zok_pi (s_X2_read hσ.P) (fun v6 h2 => ?_)
  refine zok_ck rfl ?_
  refine zok_br (zr_andr (lo := 0) (hi := 255) (zr_c (lo := 255) (hi := 255) (by decide)) (by decide)) (fun v7 e4 h3 => ?_)
  refine zok_ck rfl ?_
  refine zok_br (zr_andr (lo := 0) (hi := 16) (zr_c (lo := 16) (hi := 16) (by decide)) (by decide)) (fun v8 e6 h5 => ?_)
  refine zok_pi (s_X5_pairAt hσ.P (zr_w (zr_c (lo := 6) (hi := 6) (by decide)) (by decide))) (fun v10 h7 => ?_)
  refine zok_bu (s_X5_putPairAt hσ (zr_w (zr_c (lo := 6) (hi := 6) (by decide)) (by decide)) (zr_w (zr_add (lo := -1) (hi := 65536) h7 h_x1 (by decide)) (by decide))) (fun σ11 i8 => ?_)
  refine zok_pi (s_X5_pairAt i8.P (zr_w (zr_c (lo := 2) (hi := 2) (by decide)) (by decide))) (fun v13 h9 => ?_)
  refine zok_bu (s_X5_putPairAt i8 (zr_w (zr_c (lo := 2) (hi := 2) (by decide)) (by decide)) (zr_w (zr_sub (lo := -1) (hi := 65534) h9 (zr_c (lo := 1) (hi := 1) (by decide)) (by decide)) (by decide))) (fun σ14 i10 => ?_)
  refine zok_ck rfl ?_
  refine zok_ck rfl ?_
  refine zok_bs (i10.wi 20 20 (by decide) (zr_andr (lo := 0) (hi := 65535) (zr_c (lo := 65535) (hi := 65535) (by decide)) (by decide)) (by decide +kernel)) (fun σ15 e12 i11 => ?_)
  refine zok_pi (s_X5_pairAt i11.P (zr_w (zr_c (lo := 2) (hi := 2) (by decide)) (by decide))) (fun v17 h13 => ?_)
  refine zok_if (fun q14 => ?_) (fun q14 => ?_)
  · have h15 := zc_eql (0) (0) q14 h13 (zr_c (lo := 0) (hi := 0) (by decide)) (by decide)
    exact (s_X5_compareOne_100 i11 h3 h5 (zr_w (zr_c (lo := 0) (hi := 0) (by decide)) (by decide)))
  have h16 := zc_nel (1) (65535) q14 h13 (zr_c (lo := 0) (hi := 0) (by decide)) (by decide)
  exact (s_X5_compareOne_100 i11 h3 h5 (zr_w (zr_c (lo := 1) (hi := 1) (by decide)) (by decide)))
theorem s_X5_copyOne_126 {G : Nat → Int} {σ : zSt} (hσ : zIC G σ) {x3 : Int32} (h_x3 : zr (0) (1) x3) {s0 : Int32} (h_s0 : zr (0) (4) s0) {s1 : Int32} (h_s1 : zr (0) (255) s1) {s2 : Int32} (h_s2 : zr (1) (1) s2) : zok (fX5_copyOne_126 σ x3 s0 s1 s2) (zAi (zIC G) (fun v : Int32 => zr (0) (1) v)) := by
  unfold fX5_copyOne_126
  refine zok_ck (zin_ok h_s2 (by decide)) ?_
  refine zok_bs (hσ.wi 1 1 (z_ix h_s2 (by decide)) (zr_or (lo := 0) (hi := 255) 8 h_s1 h_s0 (by decide)) (by decide +kernel)) (fun σ1 e2 i1 => ?_)
  refine zok_ck (zbo_ok h_x3 (by decide)) ?_
  exact zok_sai i1 h_x3
theorem s_X5_copyOne_78 {G : Nat → Int} {σ : zSt} (hσ : zIC G σ) {x2 : Int32} (h_x2 : zr (0) (255) x2) {s0 : Int32} (h_s0 : zr (0) (1) s0) : zok (fX5_copyOne_78 σ x2 s0) (zAi (zIC G) (fun v : Int32 => zr (0) (1) v)) := by
  unfold fX5_copyOne_78
  refine zok_ck rfl ?_
  refine zok_br (zr_add (lo := 0) (hi := 510) (rC_21 hσ.sg _ (by decide)) h_x2 (by decide)) (fun v2 e2 h1 => ?_)
  refine zok_ck rfl ?_
  refine zok_if (fun q3 => ?_) (fun q3 => ?_)
  · have h4 := zc_eql (0) (0) q3 h_s0 (zr_c (lo := 0) (hi := 0) (by decide)) (by decide)
    exact (s_X5_copyOne_126 hσ (zr_w h4 (by decide)) (zr_w (zr_c (lo := 0) (hi := 0) (by decide)) (by decide)) (zr_or (lo := 0) (hi := 255) 8 (zr_or (lo := 0) (hi := 255) 8 (zr_andr (lo := 0) (hi := 193) (zr_c (lo := 193) (hi := 193) (by decide)) (by decide)) (zr_shl (lo := 0) (hi := 32) 4 (by decide) (zr_andr (lo := 0) (hi := 2) (zr_c (lo := 2) (hi := 2) (by decide)) (by decide)) (by decide)) (by decide)) (zr_andr (lo := 0) (hi := 8) (zr_c (lo := 8) (hi := 8) (by decide)) (by decide)) (by decide)) (zr_c (lo := 1) (hi := 1) (by decide)))
  have h5 := zc_nel (1) (1) q3 h_s0 (zr_c (lo := 0) (hi := 0) (by decide)) (by decide)
  exact (s_X5_copyOne_126 hσ (zr_w h5 (by decide)) (zr_w (zr_c (lo := 4) (hi := 4) (by decide)) (by decide)) (zr_or (lo := 0) (hi := 255) 8 (zr_or (lo := 0) (hi := 255) 8 (zr_andr (lo := 0) (hi := 193) (zr_c (lo := 193) (hi := 193) (by decide)) (by decide)) (zr_shl (lo := 0) (hi := 32) 4 (by decide) (zr_andr (lo := 0) (hi := 2) (zr_c (lo := 2) (hi := 2) (by decide)) (by decide)) (by decide)) (by decide)) (zr_andr (lo := 0) (hi := 8) (zr_c (lo := 8) (hi := 8) (by decide)) (by decide)) (by decide)) (zr_c (lo := 1) (hi := 1) (by decide)))
theorem s_X5_copyOne {G : Nat → Int} {σ : zSt} (hσ : zIC G σ) {x1 : Int32} (h_x1 : zr (-1) (1) x1) : zok (fX5_copyOne σ x1) (zAi (zIC G) (fun v : Int32 => zr (0) (1) v)) := by
  unfold fX5_copyOne
  refine zok_pi (s_X5_pairAt hσ.P (zr_w (zr_c (lo := 6) (hi := 6) (by decide)) (by decide))) (fun v4 h1 => ?_)
  refine zok_pi (s_X2_read hσ.P) (fun v6 h2 => ?_)
  refine zok_pi (s_X5_pairAt hσ.P (zr_w (zr_c (lo := 4) (hi := 4) (by decide)) (by decide))) (fun v8 h3 => ?_)
  refine zok_bu (s_X2_write hσ (zr_w h3 (by decide)) h2) (fun σ9 i4 => ?_)
  refine zok_pi (s_X5_pairAt i4.P (zr_w (zr_c (lo := 6) (hi := 6) (by decide)) (by decide))) (fun v11 h5 => ?_)
  refine zok_bu (s_X5_putPairAt i4 (zr_w (zr_c (lo := 6) (hi := 6) (by decide)) (by decide)) (zr_w (zr_add (lo := -1) (hi := 65536) h5 h_x1 (by decide)) (by decide))) (fun σ12 i6 => ?_)
  refine zok_pi (s_X5_pairAt i6.P (zr_w (zr_c (lo := 4) (hi := 4) (by decide)) (by decide))) (fun v14 h7 => ?_)
  refine zok_bu (s_X5_putPairAt i6 (zr_w (zr_c (lo := 4) (hi := 4) (by decide)) (by decide)) (zr_w (zr_add (lo := -1) (hi := 65536) h7 h_x1 (by decide)) (by decide))) (fun σ15 i8 => ?_)
  refine zok_pi (s_X5_pairAt i8.P (zr_w (zr_c (lo := 2) (hi := 2) (by decide)) (by decide))) (fun v17 h9 => ?_)
  refine zok_bu (s_X5_putPairAt i8 (zr_w (zr_c (lo := 2) (hi := 2) (by decide)) (by decide)) (zr_w (zr_sub (lo := -1) (hi := 65534) h9 (zr_c (lo := 1) (hi := 1) (by decide)) (by decide)) (by decide))) (fun σ18 i10 => ?_)
  refine zok_pi (s_X5_pairAt i10.P (zr_w (zr_c (lo := 2) (hi := 2) (by decide)) (by decide))) (fun v20 h11 => ?_)
  refine zok_if (fun q12 => ?_) (fun q12 => ?_)
  · have h13 := zc_eql (0) (0) q12 h11 (zr_c (lo := 0) (hi := 0) (by decide)) (by decide)
    exact (s_X5_copyOne_78 i10 h2 (zr_w (zr_c (lo := 0) (hi := 0) (by decide)) (by decide)))
  have h14 := zc_nel (1) (65535) q12 h11 (zr_c (lo := 0) (hi := 0) (by decide)) (by decide)
  exact (s_X5_copyOne_78 i10 h2 (zr_w (zr_c (lo := 1) (hi := 1) (by decide)) (by decide)))
theorem s_X5_block_88 {σ : zSt} (hσ : zPC σ) : zok (fX5_block_88 σ ) (zPi σ (fun v : Int32 => zr (16) (21) v)) := by
  unfold fX5_block_88
  exact zok_spi (zr_w (zr_c (lo := 16) (hi := 16) (by decide)) (by decide))
theorem s_X5_block_135 {σ : zSt} (hσ : zPC σ) : zok (fX5_block_135 σ ) (zPi σ (fun v : Int32 => zr (16) (21) v)) := by
  unfold fX5_block_135
  exact zok_spi (zr_w (zr_c (lo := 21) (hi := 21) (by decide)) (by decide))
theorem s_X5_block_77 {G : Nat → Int} {σ : zSt} (hσ : zIC G σ) {x1 : Int32} (h_x1 : zr (0) (255) x1) {x3 : Int32} (h_x3 : zr (0) (1) x3) : zok (fX5_block_77 σ x1 x3) (zAi (zIC G) (fun v : Int32 => zr (16) (21) v)) := by
  unfold fX5_block_77
  refine zok_if (fun q1 => ?_) (fun q1 => ?_)
  · have h2 := zc_eql (0) (0) q1 h_x3 (zr_c (lo := 0) (hi := 0) (by decide)) (by decide)
    exact zok_pai hσ (s_X5_block_88 hσ.P)
  have h3 := zc_nel (1) (1) q1 h_x3 (zr_c (lo := 0) (hi := 0) (by decide)) (by decide)
  refine zok_if (fun q4 => ?_) (fun q4 => ?_)
  · have h5 := zc_eql (0) (0) q4 (zr_andr (lo := 0) (hi := 16) (zr_c (lo := 16) (hi := 16) (by decide)) (by decide)) (zr_c (lo := 0) (hi := 0) (by decide)) (by decide)
    exact zok_pai hσ (s_X5_block_88 hσ.P)
  have h6 := zc_nel (1) (16) q4 (zr_andr (lo := 0) (hi := 16) (zr_c (lo := 16) (hi := 16) (by decide)) (by decide)) (zr_c (lo := 0) (hi := 0) (by decide)) (by decide)
  refine zok_ck rfl ?_
  refine zok_ck rfl ?_
  refine zok_bs (hσ.wi 19 19 (by decide) (zr_andr (lo := 0) (hi := 65535) (zr_c (lo := 65535) (hi := 65535) (by decide)) (by decide)) (by decide +kernel)) (fun σ1 e8 i7 => ?_)
  refine zok_if (fun q9 => ?_) (fun q9 => ?_)
  · have h10 := zc_eql (0) (0) q9 (zr_andr (lo := 0) (hi := 2) (zr_c (lo := 2) (hi := 2) (by decide)) (by decide)) (zr_c (lo := 0) (hi := 0) (by decide)) (by decide)
    refine zok_ck rfl ?_
    refine zok_ck rfl ?_
    refine zok_bs (i7.wi 20 20 (by decide) (zr_andr (lo := 0) (hi := 65535) (zr_c (lo := 65535) (hi := 65535) (by decide)) (by decide)) (by decide +kernel)) (fun σ2 e12 i11 => ?_)
    exact zok_pai i11 (s_X5_block_135 i11.P)
  have h13 := zc_nel (1) (2) q9 (zr_andr (lo := 0) (hi := 2) (zr_c (lo := 2) (hi := 2) (by decide)) (by decide)) (zr_c (lo := 0) (hi := 0) (by decide)) (by decide)
  exact zok_pai i7 (s_X5_block_135 i7.P)
theorem s_X5_block_12 {G : Nat → Int} {σ : zSt} (hσ : zIC G σ) {x1 : Int32} (h_x1 : zr (0) (255) x1) {s0 : Int32} (h_s0 : zr (-1) (1) s0) : zok (fX5_block_12 σ x1 s0) (zAi (zIC G) (fun v : Int32 => zr (16) (21) v)) := by
  unfold fX5_block_12
  refine zok_if (fun q1 => ?_) (fun q1 => ?_)
  · have h2 := zc_eql (0) (0) q1 (zr_andr (lo := 0) (hi := 3) (zr_c (lo := 3) (hi := 3) (by decide)) (by decide)) (zr_c (lo := 0) (hi := 0) (by decide)) (by decide)
    refine zok_ai (s_X5_copyOne hσ h_s0) (fun σ3 v4 i3 h4 => ?_)
    exact (s_X5_block_77 i3 h_x1 h4)
  have h5 := zc_nel (1) (3) q1 (zr_andr (lo := 0) (hi := 3) (zr_c (lo := 3) (hi := 3) (by decide)) (by decide)) (zr_c (lo := 0) (hi := 0) (by decide)) (by decide)
  refine zok_if (fun q6 => ?_) (fun q6 => ?_)
  · have h7 := zc_eql (1) (1) q6 h5 (zr_c (lo := 1) (hi := 1) (by decide)) (by decide)
    refine zok_ai (s_X5_compareOne hσ h_s0) (fun σ5 v6 i8 h9 => ?_)
    exact (s_X5_block_77 i8 h_x1 h9)
  have h10 := zc_nel (2) (3) q6 h5 (zr_c (lo := 1) (hi := 1) (by decide)) (by decide)
  refine zok_if (fun q11 => ?_) (fun q11 => ?_)
  · have h12 := zc_eql (2) (2) q11 h10 (zr_c (lo := 2) (hi := 2) (by decide)) (by decide)
    refine zok_ai (s_X5_takeOne hσ h_s0) (fun σ7 v8 i13 h14 => ?_)
    exact (s_X5_block_77 i13 h_x1 h14)
  have h15 := zc_nel (3) (3) q11 h10 (zr_c (lo := 2) (hi := 2) (by decide)) (by decide)
  refine zok_ai (s_X5_giveOne hσ h_s0) (fun σ9 v10 i16 h17 => ?_)
  exact (s_X5_block_77 i16 h_x1 h17)
theorem s_X5_block {G : Nat → Int} {σ : zSt} (hσ : zIC G σ) {x1 : Int32} (h_x1 : zr (0) (255) x1) : zok (fX5_block σ x1) (zAi (zIC G) (fun v : Int32 => zr (16) (21) v)) := by
  unfold fX5_block
  refine zok_if (fun q1 => ?_) (fun q1 => ?_)
  · have h2 := zc_eql (0) (0) q1 (zr_andr (lo := 0) (hi := 8) (zr_c (lo := 8) (hi := 8) (by decide)) (by decide)) (zr_c (lo := 0) (hi := 0) (by decide)) (by decide)
    exact (s_X5_block_12 hσ h_x1 (zr_w (zr_c (lo := 1) (hi := 1) (by decide)) (by decide)))
  have h3 := zc_nel (1) (8) q1 (zr_andr (lo := 0) (hi := 8) (zr_c (lo := 8) (hi := 8) (by decide)) (by decide)) (zr_c (lo := 0) (hi := 0) (by decide)) (by decide)
  exact (s_X5_block_12 hσ h_x1 (zr_w (zr_c (lo := -1) (hi := -1) (by decide)) (by decide)))
theorem s_X5_turnDigits_102 {G : Nat → Int} {σ : zSt} (hσ : zIC G σ) {s0 : Int32} (h_s0 : zr (0) (15) s0) {s1 : Int32} (h_s1 : zr (0) (240) s1) {s2 : Int32} (h_s2 : zr (0) (0) s2) : zok (fX5_turnDigits_102 σ s0 s1 s2) (zIC G) := by
  unfold fX5_turnDigits_102
  refine zok_ck (zin_ok h_s2 (by decide)) ?_
  refine zok_bs (hσ.wi 0 0 (z_ix h_s2 (by decide)) (zr_or (lo := 0) (hi := 255) 8 h_s1 h_s0 (by decide)) (by decide +kernel)) (fun σ1 e2 i1 => ?_)
  refine zok_ck rfl ?_
  refine zok_ck rfl ?_
  refine zok_pi (s_X5_by i1.P (rC_21 i1.sg _ (by decide))) (fun v3 h3 => ?_)
  refine zok_ck rfl ?_
  refine zok_pi (s_X5_parity i1.P (rC_21 i1.sg _ (by decide))) (fun v5 h4 => ?_)
  refine zok_ck rfl ?_
  refine zok_bs (i1.wi 1 1 (by decide) (zr_or (lo := 0) (hi := 255) 8 (zr_or (lo := 0) (hi := 255) 8 (zr_andr (lo := 0) (hi := 1) (zr_c (lo := 1) (hi := 1) (by decide)) (by decide)) h3 (by decide)) h4 (by decide)) (by decide +kernel)) (fun σ6 e6 i5 => ?_)
  exact zok_some i5
theorem s_X5_turnDigits_70 {G : Nat → Int} {σ : zSt} (hσ : zIC G σ) {x1 : Int32} (h_x1 : zr (0) (1) x1) {x3 : Int32} (h_x3 : zr (0) (255) x3) {s0 : Int32} (h_s0 : zr (0) (255) s0) {s1 : Int32} (h_s1 : zr (0) (65535) s1) : zok (fX5_turnDigits_70 σ x1 x3 s0 s1) (zIC G) := by
  unfold fX5_turnDigits_70
  refine zok_bu (s_X2_write hσ (zr_w h_s1 (by decide)) h_s0) (fun σ7 i1 => ?_)
  refine zok_ck rfl ?_
  refine zok_if (fun q2 => ?_) (fun q2 => ?_)
  · have h3 := zc_eql (0) (0) q2 h_x1 (zr_c (lo := 0) (hi := 0) (by decide)) (by decide)
    exact (s_X5_turnDigits_102 i1 (zr_shr (lo := 0) (hi := 15) 4 (by decide) h_x3 (by decide)) (zr_andr (lo := 0) (hi := 240) (zr_c (lo := 240) (hi := 240) (by decide)) (by decide)) (zr_c (lo := 0) (hi := 0) (by decide)))
  have h4 := zc_nel (1) (1) q2 h_x1 (zr_c (lo := 0) (hi := 0) (by decide)) (by decide)
  exact (s_X5_turnDigits_102 i1 (zr_andr (lo := 0) (hi := 15) (zr_c (lo := 15) (hi := 15) (by decide)) (by decide)) (zr_andr (lo := 0) (hi := 240) (zr_c (lo := 240) (hi := 240) (by decide)) (by decide)) (zr_c (lo := 0) (hi := 0) (by decide)))
theorem s_X5_turnDigits {G : Nat → Int} {σ : zSt} (hσ : zIC G σ) {x1 : Int32} (h_x1 : zr (0) (1) x1) : zok (fX5_turnDigits σ x1) (zIC G) := by
  unfold fX5_turnDigits
  refine zok_pi (s_X5_pairAt hσ.P (zr_w (zr_c (lo := 6) (hi := 6) (by decide)) (by decide))) (fun v9 h1 => ?_)
  refine zok_pi (s_X2_read hσ.P) (fun v11 h2 => ?_)
  refine zok_ck rfl ?_
  refine zok_br (zr_andr (lo := 0) (hi := 15) (zr_c (lo := 15) (hi := 15) (by decide)) (by decide)) (fun v12 e4 h3 => ?_)
  refine zok_ck rfl ?_
  refine zok_bs (hσ.wi 20 20 (by decide) (zr_andr (lo := 0) (hi := 65535) (zr_c (lo := 65535) (hi := 65535) (by decide)) (by decide)) (by decide +kernel)) (fun σ13 e6 i5 => ?_)
  refine zok_if (fun q7 => ?_) (fun q7 => ?_)
  · have h8 := zc_eql (0) (0) q7 h_x1 (zr_c (lo := 0) (hi := 0) (by decide)) (by decide)
    exact (s_X5_turnDigits_70 i5 (zr_w h8 (by decide)) h2 (zr_or (lo := 0) (hi := 255) 8 (zr_andr (lo := 0) (hi := 255) (zr_c (lo := 255) (hi := 255) (by decide)) (by decide)) h3 (by decide)) h1)
  have h9 := zc_nel (1) (1) q7 h_x1 (zr_c (lo := 0) (hi := 0) (by decide)) (by decide)
  exact (s_X5_turnDigits_70 i5 (zr_w h9 (by decide)) h2 (zr_or (lo := 0) (hi := 255) 8 (zr_shl (lo := 0) (hi := 240) 4 (by decide) h3 (by decide)) (zr_shr (lo := 0) (hi := 15) 4 (by decide) h2 (by decide)) (by decide)) h1)
theorem s_X5_moreOfA_139 {G : Nat → Int} {σ : zSt} (hσ : zIC G σ) {s0 : Int32} (h_s0 : zr (0) (4) s0) {s1 : Int32} (h_s1 : zr (0) (255) s1) {s2 : Int32} (h_s2 : zr (1) (1) s2) : zok (fX5_moreOfA_139 σ s0 s1 s2) (zAi (zIC G) (fun v : Int32 => zr (8) (18) v)) := by
  unfold fX5_moreOfA_139
  refine zok_ck (zin_ok h_s2 (by decide)) ?_
  refine zok_bs (hσ.wi 1 1 (z_ix h_s2 (by decide)) (zr_or (lo := 0) (hi := 255) 8 h_s1 h_s0 (by decide)) (by decide +kernel)) (fun σ1 e2 i1 => ?_)
  exact zok_sai i1 (zr_w (zr_c (lo := 9) (hi := 9) (by decide)) (by decide))
theorem s_X5_moreOfA_99 {G : Nat → Int} {σ : zSt} (hσ : zIC G σ) {s0 : Int32} (h_s0 : zr (0) (255) s0) {s1 : Int32} (h_s1 : zr (0) (0) s1) : zok (fX5_moreOfA_99 σ s0 s1) (zAi (zIC G) (fun v : Int32 => zr (8) (18) v)) := by
  unfold fX5_moreOfA_99
  refine zok_ck (zin_ok h_s1 (by decide)) ?_
  refine zok_bs (hσ.wi 0 0 (z_ix h_s1 (by decide)) h_s0 (by decide +kernel)) (fun σ2 e2 i1 => ?_)
  refine zok_ck rfl ?_
  refine zok_ck rfl ?_
  refine zok_pi (s_X5_by i1.P (rC_21 i1.sg _ (by decide))) (fun v4 h3 => ?_)
  refine zok_ck rfl ?_
  refine zok_if (fun q4 => ?_) (fun q4 => ?_)
  · have h5 := zc_eql (1) (1) q4 (rC_24 i1.sg _ (by decide)) (zr_c (lo := 1) (hi := 1) (by decide)) (by decide)
    exact (s_X5_moreOfA_139 i1 (zr_w (zr_c (lo := 4) (hi := 4) (by decide)) (by decide)) (zr_or (lo := 0) (hi := 255) 8 (zr_andr (lo := 0) (hi := 1) (zr_c (lo := 1) (hi := 1) (by decide)) (by decide)) h3 (by decide)) (zr_c (lo := 1) (hi := 1) (by decide)))
  have h6 := zc_nel (0) (0) q4 (rC_24 i1.sg _ (by decide)) (zr_c (lo := 1) (hi := 1) (by decide)) (by decide)
  exact (s_X5_moreOfA_139 i1 (zr_w (zr_c (lo := 0) (hi := 0) (by decide)) (by decide)) (zr_or (lo := 0) (hi := 255) 8 (zr_andr (lo := 0) (hi := 1) (zr_c (lo := 1) (hi := 1) (by decide)) (by decide)) h3 (by decide)) (zr_c (lo := 1) (hi := 1) (by decide)))
theorem s_X5_moreOfA_72 {G : Nat → Int} {σ : zSt} (hσ : zIC G σ) {x1 : Int32} (h_x1 : zr (2) (3) x1) : zok (fX5_moreOfA_72 σ x1) (zAi (zIC G) (fun v : Int32 => zr (8) (18) v)) := by
  unfold fX5_moreOfA_72
  refine zok_if (fun q1 => ?_) (fun q1 => ?_)
  · have h2 := zc_eql (2) (2) q1 h_x1 (zr_c (lo := 2) (hi := 2) (by decide)) (by decide)
    refine zok_ck rfl ?_
    exact (s_X5_moreOfA_99 hσ (rC_23 hσ.sg _ (by decide)) (zr_c (lo := 0) (hi := 0) (by decide)))
  have h3 := zc_nel (3) (3) q1 h_x1 (zr_c (lo := 2) (hi := 2) (by decide)) (by decide)
  refine zok_ck rfl ?_
  exact (s_X5_moreOfA_99 hσ (rC_23 hσ.sg _ (by decide)) (zr_c (lo := 0) (hi := 0) (by decide)))
theorem s_X5_moreOfA_155 {G : Nat → Int} {σ : zSt} (hσ : zIC G σ) {s0 : Int32} (h_s0 : zr (0) (1) s0) : zok (fX5_moreOfA_155 σ s0) (zAi (zIC G) (fun v : Int32 => zr (8) (18) v)) := by
  unfold fX5_moreOfA_155
  refine zok_bu (s_X5_turnDigits hσ h_s0) (fun σ5 i1 => ?_)
  exact zok_sai i1 (zr_w (zr_c (lo := 18) (hi := 18) (by decide)) (by decide))
theorem s_X5_moreOfA_144 {G : Nat → Int} {σ : zSt} (hσ : zIC G σ) {x1 : Int32} (h_x1 : zr (4) (5) x1) : zok (fX5_moreOfA_144 σ x1) (zAi (zIC G) (fun v : Int32 => zr (8) (18) v)) := by
  unfold fX5_moreOfA_144
  refine zok_if (fun q1 => ?_) (fun q1 => ?_)
  · have h2 := zc_eql (4) (4) q1 h_x1 (zr_c (lo := 4) (hi := 4) (by decide)) (by decide)
    exact (s_X5_moreOfA_155 hσ (zr_w (zr_c (lo := 1) (hi := 1) (by decide)) (by decide)))
  have h3 := zc_nel (5) (5) q1 h_x1 (zr_c (lo := 4) (hi := 4) (by decide)) (by decide)
  exact (s_X5_moreOfA_155 hσ (zr_w (zr_c (lo := 0) (hi := 0) (by decide)) (by decide)))
theorem s_X5_moreOfA {G : Nat → Int} {σ : zSt} (hσ : zIC G σ) {x1 : Int32} (h_x1 : zr (0) (7) x1) : zok (fX5_moreOfA σ x1) (zAi (zIC G) (fun v : Int32 => zr (8) (18) v)) := by
  unfold fX5_moreOfA
  refine zok_if (fun q1 => ?_) (fun q1 => ?_)
  · have h2 := zc_eql (0) (0) q1 h_x1 (zr_c (lo := 0) (hi := 0) (by decide)) (by decide)
    refine zok_ck rfl ?_
    refine zok_ck rfl ?_
    refine zok_bs (hσ.wi 21 21 (by decide) (rC_21 hσ.sg _ (by decide)) (by decide +kernel)) (fun σ6 e4 i3 => ?_)
    exact zok_sai i3 (zr_w (zr_c (lo := 9) (hi := 9) (by decide)) (by decide))
  have h5 := zc_nel (1) (7) q1 h_x1 (zr_c (lo := 0) (hi := 0) (by decide)) (by decide)
  refine zok_if (fun q6 => ?_) (fun q6 => ?_)
  · have h7 := zc_eql (1) (1) q6 h5 (zr_c (lo := 1) (hi := 1) (by decide)) (by decide)
    refine zok_ck rfl ?_
    refine zok_ck rfl ?_
    refine zok_bs (hσ.wi 22 22 (by decide) (rC_21 hσ.sg _ (by decide)) (by decide +kernel)) (fun σ7 e9 i8 => ?_)
    exact zok_sai i8 (zr_w (zr_c (lo := 9) (hi := 9) (by decide)) (by decide))
  have h10 := zc_nel (2) (7) q6 h5 (zr_c (lo := 1) (hi := 1) (by decide)) (by decide)
  refine zok_if (fun q11 => ?_) (fun q11 => ?_)
  · have h12 := zc_eql (2) (2) q11 h10 (zr_c (lo := 2) (hi := 2) (by decide)) (by decide)
    exact (s_X5_moreOfA_72 hσ (zr_w h12 (by decide)))
  have h13 := zc_nel (3) (7) q11 h10 (zr_c (lo := 2) (hi := 2) (by decide)) (by decide)
  refine zok_if (fun q14 => ?_) (fun q14 => ?_)
  · have h15 := zc_eql (3) (3) q14 h13 (zr_c (lo := 3) (hi := 3) (by decide)) (by decide)
    exact (s_X5_moreOfA_72 hσ (zr_w h15 (by decide)))
  have h16 := zc_nel (4) (7) q14 h13 (zr_c (lo := 3) (hi := 3) (by decide)) (by decide)
  refine zok_if (fun q17 => ?_) (fun q17 => ?_)
  · have h18 := zc_eql (4) (4) q17 h16 (zr_c (lo := 4) (hi := 4) (by decide)) (by decide)
    exact (s_X5_moreOfA_144 hσ (zr_w h18 (by decide)))
  have h19 := zc_nel (5) (7) q17 h16 (zr_c (lo := 4) (hi := 4) (by decide)) (by decide)
  refine zok_if (fun q20 => ?_) (fun q20 => ?_)
  · have h21 := zc_eql (5) (5) q20 h19 (zr_c (lo := 5) (hi := 5) (by decide)) (by decide)
    exact (s_X5_moreOfA_144 hσ (zr_w h21 (by decide)))
  have h22 := zc_nel (6) (7) q20 h19 (zr_c (lo := 5) (hi := 5) (by decide)) (by decide)
  exact zok_sai hσ (zr_w (zr_c (lo := 8) (hi := 8) (by decide)) (by decide))
theorem s_X5_pop {G : Nat → Int} {σ : zSt} (hσ : zIC G σ) : zok (fX5_pop σ ) (zAi (zIC G) (fun v : Int32 => zr (0) (65535) v)) := by
  unfold fX5_pop
  refine zok_ck rfl ?_
  refine zok_pi (s_X2_read hσ.P) (fun v2 h1 => ?_)
  refine zok_ck rfl ?_
  refine zok_pi (s_X2_read hσ.P) (fun v4 h2 => ?_)
  refine zok_br (zr_or (lo := 0) (hi := 65535) 16 h1 (zr_shl (lo := 0) (hi := 65280) 8 (by decide) h2 (by decide)) (by decide)) (fun v5 e4 h3 => ?_)
  refine zok_ck rfl ?_
  refine zok_ck rfl ?_
  refine zok_bs (hσ.wi 18 18 (by decide) (zr_andr (lo := 0) (hi := 65535) (zr_c (lo := 65535) (hi := 65535) (by decide)) (by decide)) (by decide +kernel)) (fun σ6 e6 i5 => ?_)
  exact zok_sai i5 h3
theorem s_X5_difference_72 {G : Nat → Int} {σ : zSt} (hσ : zIC G σ) {x5 : Int32} (h_x5 : zr (0) (255) x5) {s0 : Int32} (h_s0 : zr (0) (1) s0) {s1 : Int32} (h_s1 : zr (0) (255) s1) {s2 : Int32} (h_s2 : zr (1) (1) s2) : zok (fX5_difference_72 σ x5 s0 s1 s2) (zAi (zIC G) (fun v : Int32 => zr (0) (255) v)) := by
  unfold fX5_difference_72
  refine zok_ck (zin_ok h_s2 (by decide)) ?_
  refine zok_bs (hσ.wi 1 1 (z_ix h_s2 (by decide)) (zr_or (lo := 0) (hi := 255) 8 h_s1 h_s0 (by decide)) (by decide +kernel)) (fun σ1 e2 i1 => ?_)
  exact zok_sai i1 h_x5
theorem s_X5_difference_59 {G : Nat → Int} {σ : zSt} (hσ : zIC G σ) {x4 : Int32} (h_x4 : zr (-256) (255) x4) {x5 : Int32} (h_x5 : zr (0) (255) x5) {s0 : Int32} (h_s0 : zr (0) (4) s0) {s1 : Int32} (h_s1 : zr (0) (255) s1) {s2 : Int32} (h_s2 : zr (1) (1) s2) : zok (fX5_difference_59 σ x4 x5 s0 s1 s2) (zAi (zIC G) (fun v : Int32 => zr (0) (255) v)) := by
  unfold fX5_difference_59
  refine zok_if (fun q1 => ?_) (fun q1 => ?_)
  · have h2 := zc_ler (0) q1 (zr_c (lo := 0) (hi := 0) (by decide)) h_x4 (by decide)
    exact (s_X5_difference_72 hσ h_x5 (zr_w (zr_c (lo := 0) (hi := 0) (by decide)) (by decide)) (zr_or (lo := 0) (hi := 255) 8 (zr_or (lo := 0) (hi := 255) 8 h_s1 h_s0 (by decide)) (zr_c (lo := 2) (hi := 2) (by decide)) (by decide)) h_s2)
  have h3 := zc_ltl (-1) (z_nle q1) h_x4 (zr_c (lo := 0) (hi := 0) (by decide)) (by decide)
  exact (s_X5_difference_72 hσ h_x5 (zr_w (zr_c (lo := 1) (hi := 1) (by decide)) (by decide)) (zr_or (lo := 0) (hi := 255) 8 (zr_or (lo := 0) (hi := 255) 8 h_s1 h_s0 (by decide)) (zr_c (lo := 2) (hi := 2) (by decide)) (by decide)) h_s2)
theorem s_X5_difference {G : Nat → Int} {σ : zSt} (hσ : zIC G σ) {x1 : Int32} (h_x1 : zr (0) (255) x1) {x2 : Int32} (h_x2 : zr (0) (255) x2) {x3 : Int32} (h_x3 : zr (0) (1) x3) : zok (fX5_difference σ x1 x2 x3) (zAi (zIC G) (fun v : Int32 => zr (0) (255) v)) := by
  unfold fX5_difference
  refine zok_br (zr_sub (lo := -256) (hi := 255) (zr_sub (lo := -255) (hi := 255) h_x1 h_x2 (by decide)) h_x3 (by decide)) (fun v2 e2 h1 => ?_)
  refine zok_br (zr_andr (lo := 0) (hi := 255) (zr_c (lo := 255) (hi := 255) (by decide)) (by decide)) (fun v3 e4 h3 => ?_)
  refine zok_br (zr_andr (lo := 0) (hi := 128) (zr_c (lo := 128) (hi := 128) (by decide)) (by decide)) (fun v4 e6 h5 => ?_)
  refine zok_pi (s_X5_by hσ.P h3) (fun v6 h7 => ?_)
  refine zok_if (fun q8 => ?_) (fun q8 => ?_)
  · have h9 := zc_eql (0) (0) q8 h5 (zr_c (lo := 0) (hi := 0) (by decide)) (by decide)
    exact (s_X5_difference_59 hσ h1 h3 (zr_w (zr_c (lo := 0) (hi := 0) (by decide)) (by decide)) (zr_or (lo := 0) (hi := 255) 8 h7 (zr_andr (lo := 0) (hi := 16) (zr_c (lo := 16) (hi := 16) (by decide)) (by decide)) (by decide)) (zr_c (lo := 1) (hi := 1) (by decide)))
  have h10 := zc_nel (1) (128) q8 h5 (zr_c (lo := 0) (hi := 0) (by decide)) (by decide)
  exact (s_X5_difference_59 hσ h1 h3 (zr_w (zr_c (lo := 4) (hi := 4) (by decide)) (by decide)) (zr_or (lo := 0) (hi := 255) 8 h7 (zr_andr (lo := 0) (hi := 16) (zr_c (lo := 16) (hi := 16) (by decide)) (by decide)) (by decide)) (zr_c (lo := 1) (hi := 1) (by decide)))
theorem s_X5_fetchWord {G : Nat → Int} {σ : zSt} (hσ : zIC G σ) : zok (fX5_fetchWord σ ) (zAi (zIC G) (fun v : Int32 => zr (0) (65535) v)) := by
  unfold fX5_fetchWord
  refine zok_ck rfl ?_
  refine zok_pi (s_X2_read hσ.P) (fun v2 h1 => ?_)
  refine zok_ck rfl ?_
  refine zok_pi (s_X2_read hσ.P) (fun v4 h2 => ?_)
  refine zok_br (zr_or (lo := 0) (hi := 65535) 16 h1 (zr_shl (lo := 0) (hi := 65280) 8 (by decide) h2 (by decide)) (by decide)) (fun v5 e4 h3 => ?_)
  refine zok_ck rfl ?_
  refine zok_ck rfl ?_
  refine zok_bs (hσ.wi 19 19 (by decide) (zr_andr (lo := 0) (hi := 65535) (zr_c (lo := 65535) (hi := 65535) (by decide)) (by decide)) (by decide +kernel)) (fun σ6 e6 i5 => ?_)
  exact zok_sai i5 h3
theorem s_X5_hl_27 {σ : zSt} (hσ : zPC σ) {s0 : Int32} (h_s0 : zr (0) (65535) s0) : zok (fX5_hl_27 σ s0) (zPi σ (fun v : Int32 => zr (0) (65535) v)) := by
  unfold fX5_hl_27
  exact zok_spi h_s0
theorem s_X5_hl {σ : zSt} (hσ : zPC σ) : zok (fX5_hl σ ) (zPi σ (fun v : Int32 => zr (0) (65535) v)) := by
  unfold fX5_hl
  refine zok_if (fun q1 => ?_) (fun q1 => ?_)
  · have h2 := zc_eql (6) (6) q1 (rC_5 hσ.sg _ (by decide)) (zr_c (lo := 6) (hi := 6) (by decide)) (by decide)
    refine zok_pi (s_X5_pairAt hσ (zr_w (zr_c (lo := 6) (hi := 6) (by decide)) (by decide))) (fun v2 h3 => ?_)
    exact (s_X5_hl_27 hσ h3)
  have h4 := zc_nel (7) (17) q1 (rC_5 hσ.sg _ (by decide)) (zr_c (lo := 6) (hi := 6) (by decide)) (by decide)
  have h5 := xC_sp hσ.sp h4 (by decide)
  refine zok_ck (zin_ok h5 (by decide)) ?_
  exact (s_X5_hl_27 hσ (rC_22 hσ.sg _ (z_ix h5 (by decide))))
theorem s_X5_pair {σ : zSt} (hσ : zPC σ) {x1 : Int32} (h_x1 : zr (0) (3) x1) : zok (fX5_pair σ x1) (zPi σ (fun v : Int32 => zr (0) (65535) v)) := by
  unfold fX5_pair
  refine zok_if (fun q1 => ?_) (fun q1 => ?_)
  · have h2 := zc_eql (0) (0) q1 h_x1 (zr_c (lo := 0) (hi := 0) (by decide)) (by decide)
    refine zok_pi (s_X5_pairAt hσ (zr_w (zr_c (lo := 2) (hi := 2) (by decide)) (by decide))) (fun v2 h3 => ?_)
    exact zok_spi h3
  have h4 := zc_nel (1) (3) q1 h_x1 (zr_c (lo := 0) (hi := 0) (by decide)) (by decide)
  refine zok_if (fun q5 => ?_) (fun q5 => ?_)
  · have h6 := zc_eql (1) (1) q5 h4 (zr_c (lo := 1) (hi := 1) (by decide)) (by decide)
    refine zok_pi (s_X5_pairAt hσ (zr_w (zr_c (lo := 4) (hi := 4) (by decide)) (by decide))) (fun v4 h7 => ?_)
    exact zok_spi h7
  have h8 := zc_nel (2) (3) q5 h4 (zr_c (lo := 1) (hi := 1) (by decide)) (by decide)
  refine zok_if (fun q9 => ?_) (fun q9 => ?_)
  · have h10 := zc_eql (2) (2) q9 h8 (zr_c (lo := 2) (hi := 2) (by decide)) (by decide)
    refine zok_pi (s_X5_hl hσ) (fun v6 h11 => ?_)
    exact zok_spi h11
  have h12 := zc_nel (3) (3) q9 h8 (zr_c (lo := 2) (hi := 2) (by decide)) (by decide)
  refine zok_ck rfl ?_
  exact zok_spi (rC_22 hσ.sg _ (by decide))
theorem s_X5_writeWord {G : Nat → Int} {σ : zSt} (hσ : zIC G σ) {x1 : Int32} (h_x1 : zr (0) (65535) x1) {x2 : Int32} (h_x2 : zr (0) (65535) x2) : zok (fX5_writeWord σ x1 x2) (zIC G) := by
  unfold fX5_writeWord
  refine zok_bu (s_X2_write hσ (zr_w h_x1 (by decide)) (zr_andr (lo := 0) (hi := 255) (zr_c (lo := 255) (hi := 255) (by decide)) (by decide))) (fun σ1 i1 => ?_)
  refine zok_bu (s_X2_write i1 (zr_w (zr_add (lo := 1) (hi := 65536) h_x1 (zr_c (lo := 1) (hi := 1) (by decide)) (by decide)) (by decide)) (zr_shr (lo := 0) (hi := 255) 8 (by decide) h_x2 (by decide))) (fun σ2 i2 => ?_)
  exact zok_some i2
theorem s_X5_putHl_32 {σ : zSt} (hσ : zPC σ) : zok (fX5_putHl_32 σ ) (zPu σ) := by
  unfold fX5_putHl_32
  exact zok_spu
theorem s_X5_putHl {G : Nat → Int} {σ : zSt} (hσ : zIC G σ) {x1 : Int32} (h_x1 : zr (-65536) (131071) x1) : zok (fX5_putHl σ x1) (zIC G) := by
  unfold fX5_putHl
  refine zok_if (fun q1 => ?_) (fun q1 => ?_)
  · have h2 := zc_eql (6) (6) q1 (rC_5 hσ.sg _ (by decide)) (zr_c (lo := 6) (hi := 6) (by decide)) (by decide)
    refine zok_bu (s_X5_putPairAt hσ (zr_w (zr_c (lo := 6) (hi := 6) (by decide)) (by decide)) h_x1) (fun σ2 i3 => ?_)
    exact zok_pau i3 (s_X5_putHl_32 i3.P)
  have h4 := zc_nel (7) (17) q1 (rC_5 hσ.sg _ (by decide)) (zr_c (lo := 6) (hi := 6) (by decide)) (by decide)
  have h5 := xC_sp hσ.sp h4 (by decide)
  refine zok_ck (zin_ok h5 (by decide)) ?_
  refine zok_bs (hσ.wi 16 17 (z_ix h5 (by decide)) (zr_andr (lo := 0) (hi := 65535) (zr_c (lo := 65535) (hi := 65535) (by decide)) (by decide)) (by decide +kernel)) (fun σ1 e7 i6 => ?_)
  exact zok_pau i6 (s_X5_putHl_32 i6.P)
theorem s_X5_putPair_65 {σ : zSt} (hσ : zPC σ) : zok (fX5_putPair_65 σ ) (zPu σ) := by
  unfold fX5_putPair_65
  exact zok_spu
theorem s_X5_putPair {G : Nat → Int} {σ : zSt} (hσ : zIC G σ) {x1 : Int32} (h_x1 : zr (0) (3) x1) {x2 : Int32} (h_x2 : zr (-1) (65536) x2) : zok (fX5_putPair σ x1 x2) (zIC G) := by
  unfold fX5_putPair
  refine zok_if (fun q1 => ?_) (fun q1 => ?_)
  · have h2 := zc_eql (0) (0) q1 h_x1 (zr_c (lo := 0) (hi := 0) (by decide)) (by decide)
    refine zok_bu (s_X5_putPairAt hσ (zr_w (zr_c (lo := 2) (hi := 2) (by decide)) (by decide)) (zr_w h_x2 (by decide))) (fun σ1 i3 => ?_)
    exact zok_pau i3 (s_X5_putPair_65 i3.P)
  have h4 := zc_nel (1) (3) q1 h_x1 (zr_c (lo := 0) (hi := 0) (by decide)) (by decide)
  refine zok_if (fun q5 => ?_) (fun q5 => ?_)
  · have h6 := zc_eql (1) (1) q5 h4 (zr_c (lo := 1) (hi := 1) (by decide)) (by decide)
    refine zok_bu (s_X5_putPairAt hσ (zr_w (zr_c (lo := 4) (hi := 4) (by decide)) (by decide)) (zr_w h_x2 (by decide))) (fun σ2 i7 => ?_)
    exact zok_pau i7 (s_X5_putPair_65 i7.P)
  have h8 := zc_nel (2) (3) q5 h4 (zr_c (lo := 1) (hi := 1) (by decide)) (by decide)
  refine zok_if (fun q9 => ?_) (fun q9 => ?_)
  · have h10 := zc_eql (2) (2) q9 h8 (zr_c (lo := 2) (hi := 2) (by decide)) (by decide)
    refine zok_bu (s_X5_putHl hσ (zr_w h_x2 (by decide))) (fun σ3 i11 => ?_)
    exact zok_pau i11 (s_X5_putPair_65 i11.P)
  have h12 := zc_nel (3) (3) q9 h8 (zr_c (lo := 2) (hi := 2) (by decide)) (by decide)
  refine zok_ck rfl ?_
  refine zok_bs (hσ.wi 18 18 (by decide) (zr_andr (lo := 0) (hi := 65535) (zr_c (lo := 65535) (hi := 65535) (by decide)) (by decide)) (by decide +kernel)) (fun σ4 e14 i13 => ?_)
  exact zok_pau i13 (s_X5_putPair_65 i13.P)
theorem s_X5_farPair_51 {σ : zSt} (hσ : zPC σ) : zok (fX5_farPair_51 σ ) (zPi σ (fun v : Int32 => zr (20) (20) v)) := by
  unfold fX5_farPair_51
  exact zok_spi (zr_c (lo := 20) (hi := 20) (by decide))
theorem s_X5_farPair {G : Nat → Int} {σ : zSt} (hσ : zIC G σ) {x1 : Int32} (h_x1 : zr (0) (7) x1) : zok (fX5_farPair σ x1) (zAi (zIC G) (fun v : Int32 => zr (20) (20) v)) := by
  unfold fX5_farPair
  refine zok_ai (s_X5_fetchWord hσ) (fun σ1 v2 i1 h2 => ?_)
  refine zok_ck rfl ?_
  refine zok_bs (i1.wi 20 20 (by decide) (zr_andr (lo := 0) (hi := 65535) (zr_c (lo := 65535) (hi := 65535) (by decide)) (by decide)) (by decide +kernel)) (fun σ3 e4 i3 => ?_)
  refine zok_if (fun q5 => ?_) (fun q5 => ?_)
  · have h6 := zc_eql (0) (0) q5 (zr_andr (lo := 0) (hi := 1) (zr_c (lo := 1) (hi := 1) (by decide)) (by decide)) (zr_c (lo := 0) (hi := 0) (by decide)) (by decide)
    refine zok_pi (s_X5_pair i3.P (zr_shr (lo := 0) (hi := 3) 1 (by decide) h_x1 (by decide))) (fun v8 h7 => ?_)
    refine zok_bu (s_X5_writeWord i3 h2 h7) (fun σ9 i8 => ?_)
    exact zok_pai i8 (s_X5_farPair_51 i8.P)
  have h9 := zc_nel (1) (1) q5 (zr_andr (lo := 0) (hi := 1) (zr_c (lo := 1) (hi := 1) (by decide)) (by decide)) (zr_c (lo := 0) (hi := 0) (by decide)) (by decide)
  refine zok_pi (s_X5_readWord i3.P h2) (fun v5 h10 => ?_)
  refine zok_bu (s_X5_putPair i3 (zr_shr (lo := 0) (hi := 3) 1 (by decide) h_x1 (by decide)) (zr_w h10 (by decide))) (fun σ6 i11 => ?_)
  exact zok_pai i11 (s_X5_farPair_51 i11.P)
theorem s_X5_putWide_44 {G : Nat → Int} {σ : zSt} (hσ : zIC G σ) {x1 : Int32} (h_x1 : zr (0) (65535) x1) {x2 : Int32} (h_x2 : zr (0) (65535) x2) {x3 : Int32} (h_x3 : zr (-65536) (131071) x3) {s0 : Int32} (h_s0 : zr (0) (64) s0) {s1 : Int32} (h_s1 : zr (0) (168) s1) {s2 : Int32} (h_s2 : zr (1) (1) s2) : zok (fX5_putWide_44 σ x1 x2 x3 s0 s1 s2) (zIC G) := by
  unfold fX5_putWide_44
  refine zok_ck (zin_ok h_s2 (by decide)) ?_
  refine zok_bs (hσ.wi 1 1 (z_ix h_s2 (by decide)) (zr_or (lo := 0) (hi := 255) 8 (zr_or (lo := 0) (hi := 255) 8 (zr_or (lo := 0) (hi := 255) 8 h_s1 h_s0 (by decide)) (zr_andr (lo := 0) (hi := 16) (zr_c (lo := 16) (hi := 16) (by decide)) (by decide)) (by decide)) (zr_andr (lo := 0) (hi := 1) (zr_c (lo := 1) (hi := 1) (by decide)) (by decide)) (by decide)) (by decide +kernel)) (fun σ1 e2 i1 => ?_)
  exact zok_some i1
theorem s_X5_putWide {G : Nat → Int} {σ : zSt} (hσ : zIC G σ) {x1 : Int32} (h_x1 : zr (0) (65535) x1) {x2 : Int32} (h_x2 : zr (0) (65535) x2) {x3 : Int32} (h_x3 : zr (-65536) (131071) x3) : zok (fX5_putWide σ x1 x2 x3) (zIC G) := by
  unfold fX5_putWide
  refine zok_ck rfl ?_
  refine zok_bs (hσ.wi 20 20 (by decide) (zr_andr (lo := 0) (hi := 65535) (zr_c (lo := 65535) (hi := 65535) (by decide)) (by decide)) (by decide +kernel)) (fun σ2 e2 i1 => ?_)
  refine zok_bu (s_X5_putHl i1 h_x3) (fun σ3 i3 => ?_)
  refine zok_if (fun q4 => ?_) (fun q4 => ?_)
  · have h5 := zc_eql (0) (0) q4 (zr_andr (lo := 0) (hi := 65535) (zr_c (lo := 65535) (hi := 65535) (by decide)) (by decide)) (zr_c (lo := 0) (hi := 0) (by decide)) (by decide)
    exact (s_X5_putWide_44 i3 h_x1 h_x2 h_x3 (zr_w (zr_c (lo := 64) (hi := 64) (by decide)) (by decide)) (zr_andr (lo := 0) (hi := 168) (zr_c (lo := 168) (hi := 168) (by decide)) (by decide)) (zr_c (lo := 1) (hi := 1) (by decide)))
  have h6 := zc_nel (1) (65535) q4 (zr_andr (lo := 0) (hi := 65535) (zr_c (lo := 65535) (hi := 65535) (by decide)) (by decide)) (zr_c (lo := 0) (hi := 0) (by decide)) (by decide)
  exact (s_X5_putWide_44 i3 h_x1 h_x2 h_x3 (zr_w (zr_c (lo := 0) (hi := 0) (by decide)) (by decide)) (zr_andr (lo := 0) (hi := 168) (zr_c (lo := 168) (hi := 168) (by decide)) (by decide)) (zr_c (lo := 1) (hi := 1) (by decide)))
theorem s_X5_takePair_63 {G : Nat → Int} {σ : zSt} (hσ : zIC G σ) {s0 : Int32} (h_s0 : zr (0) (4) s0) {s1 : Int32} (h_s1 : zr (0) (255) s1) {s2 : Int32} (h_s2 : zr (1) (1) s2) : zok (fX5_takePair_63 σ s0 s1 s2) (zAi (zIC G) (fun v : Int32 => zr (15) (15) v)) := by
  unfold fX5_takePair_63
  refine zok_ck (zin_ok h_s2 (by decide)) ?_
  refine zok_bs (hσ.wi 1 1 (z_ix h_s2 (by decide)) (zr_or (lo := 0) (hi := 255) 8 h_s1 (zr_or (lo := 0) (hi := 7) 3 h_s0 (zr_c (lo := 2) (hi := 2) (by decide)) (by decide)) (by decide)) (by decide +kernel)) (fun σ1 e2 i1 => ?_)
  exact zok_sai i1 (zr_c (lo := 15) (hi := 15) (by decide))
theorem s_X5_takePair {G : Nat → Int} {σ : zSt} (hσ : zIC G σ) {x1 : Int32} (h_x1 : zr (0) (3) x1) : zok (fX5_takePair σ x1) (zAi (zIC G) (fun v : Int32 => zr (15) (15) v)) := by
  unfold fX5_takePair
  refine zok_pi (s_X5_hl hσ.P) (fun v3 h1 => ?_)
  refine zok_pi (s_X5_pair hσ.P h_x1) (fun v5 h2 => ?_)
  refine zok_ck rfl ?_
  refine zok_br (zr_sub (lo := -65536) (hi := 65535) (zr_sub (lo := -65535) (hi := 65535) h1 h2 (by decide)) (zr_andr (lo := 0) (hi := 1) (zr_c (lo := 1) (hi := 1) (by decide)) (by decide)) (by decide)) (fun v6 e4 h3 => ?_)
  refine zok_bu (s_X5_putWide hσ h1 h2 (zr_w h3 (by decide))) (fun σ7 i5 => ?_)
  refine zok_br (zr_andr (lo := 0) (hi := 32768) (zr_c (lo := 32768) (hi := 32768) (by decide)) (by decide)) (fun v8 e7 h6 => ?_)
  refine zok_ck rfl ?_
  refine zok_if (fun q8 => ?_) (fun q8 => ?_)
  · have h9 := zc_eql (0) (0) q8 h6 (zr_c (lo := 0) (hi := 0) (by decide)) (by decide)
    exact (s_X5_takePair_63 i5 (zr_w (zr_c (lo := 0) (hi := 0) (by decide)) (by decide)) (rC_21 i5.sg _ (by decide)) (zr_c (lo := 1) (hi := 1) (by decide)))
  have h10 := zc_nel (1) (32768) q8 h6 (zr_c (lo := 0) (hi := 0) (by decide)) (by decide)
  exact (s_X5_takePair_63 i5 (zr_w (zr_c (lo := 4) (hi := 4) (by decide)) (by decide)) (rC_21 i5.sg _ (by decide)) (zr_c (lo := 1) (hi := 1) (by decide)))
theorem s_X5_addPairAndCarry_65 {G : Nat → Int} {σ : zSt} (hσ : zIC G σ) {s0 : Int32} (h_s0 : zr (0) (4) s0) {s1 : Int32} (h_s1 : zr (0) (255) s1) {s2 : Int32} (h_s2 : zr (1) (1) s2) : zok (fX5_addPairAndCarry_65 σ s0 s1 s2) (zAi (zIC G) (fun v : Int32 => zr (15) (15) v)) := by
  unfold fX5_addPairAndCarry_65
  refine zok_ck (zin_ok h_s2 (by decide)) ?_
  refine zok_bs (hσ.wi 1 1 (z_ix h_s2 (by decide)) (zr_or (lo := 0) (hi := 255) 8 h_s1 h_s0 (by decide)) (by decide +kernel)) (fun σ1 e2 i1 => ?_)
  exact zok_sai i1 (zr_c (lo := 15) (hi := 15) (by decide))
theorem s_X5_addPairAndCarry {G : Nat → Int} {σ : zSt} (hσ : zIC G σ) {x1 : Int32} (h_x1 : zr (0) (3) x1) : zok (fX5_addPairAndCarry σ x1) (zAi (zIC G) (fun v : Int32 => zr (15) (15) v)) := by
  unfold fX5_addPairAndCarry
  refine zok_pi (s_X5_hl hσ.P) (fun v3 h1 => ?_)
  refine zok_pi (s_X5_pair hσ.P h_x1) (fun v5 h2 => ?_)
  refine zok_ck rfl ?_
  refine zok_br (zr_add (lo := 0) (hi := 131071) (zr_add (lo := 0) (hi := 131070) h1 h2 (by decide)) (zr_andr (lo := 0) (hi := 1) (zr_c (lo := 1) (hi := 1) (by decide)) (by decide)) (by decide)) (fun v6 e4 h3 => ?_)
  refine zok_bu (s_X5_putWide hσ h1 h2 (zr_w h3 (by decide))) (fun σ7 i5 => ?_)
  refine zok_br (zr_andr (lo := 0) (hi := 32768) (zr_c (lo := 32768) (hi := 32768) (by decide)) (by decide)) (fun v8 e7 h6 => ?_)
  refine zok_ck rfl ?_
  refine zok_if (fun q8 => ?_) (fun q8 => ?_)
  · have h9 := zc_eql (0) (0) q8 h6 (zr_c (lo := 0) (hi := 0) (by decide)) (by decide)
    exact (s_X5_addPairAndCarry_65 i5 (zr_w (zr_c (lo := 0) (hi := 0) (by decide)) (by decide)) (rC_21 i5.sg _ (by decide)) (zr_c (lo := 1) (hi := 1) (by decide)))
  have h10 := zc_nel (1) (32768) q8 h6 (zr_c (lo := 0) (hi := 0) (by decide)) (by decide)
  exact (s_X5_addPairAndCarry_65 i5 (zr_w (zr_c (lo := 4) (hi := 4) (by decide)) (by decide)) (rC_21 i5.sg _ (by decide)) (zr_c (lo := 1) (hi := 1) (by decide)))
theorem s_X5_takeFromPort_26 {G : Nat → Int} {σ : zSt} (hσ : zIC G σ) {x2 : Int32} (h_x2 : zr (0) (255) x2) : zok (fX5_takeFromPort_26 σ x2) (zIC G) := by
  unfold fX5_takeFromPort_26
  refine zok_ck rfl ?_
  refine zok_pi (s_X5_by hσ.P h_x2) (fun v2 h1 => ?_)
  refine zok_pi (s_X5_parity hσ.P h_x2) (fun v4 h2 => ?_)
  refine zok_ck rfl ?_
  refine zok_bs (hσ.wi 1 1 (by decide) (zr_or (lo := 0) (hi := 255) 8 (zr_or (lo := 0) (hi := 255) 8 (zr_andr (lo := 0) (hi := 1) (zr_c (lo := 1) (hi := 1) (by decide)) (by decide)) h1 (by decide)) h2 (by decide)) (by decide +kernel)) (fun σ5 e4 i3 => ?_)
  exact zok_some i3
theorem s_X5_takeFromPort {G : Nat → Int} {σ : zSt} (hσ : zIC G σ) {x1 : Int32} (h_x1 : zr (0) (7) x1) : zok (fX5_takeFromPort σ x1) (zIC G) := by
  unfold fX5_takeFromPort
  refine zok_ck rfl ?_
  refine zok_ai (s_X4_read hσ (rC_21 hσ.sg _ (by decide))) (fun σ6 v7 i1 h2 => ?_)
  refine zok_if (fun q3 => ?_) (fun q3 => ?_)
  · have h4 := zc_eql (6) (6) q3 h_x1 (zr_c (lo := 6) (hi := 6) (by decide)) (by decide)
    exact (s_X5_takeFromPort_26 i1 h2)
  refine zok_bu (s_X5_putOne i1 h_x1 h2) (fun σ8 i5 => ?_)
  exact (s_X5_takeFromPort_26 i5 h2)
theorem s_X5_behindEd_160 {σ : zSt} (hσ : zPC σ) {s0 : Int32} (h_s0 : zr (15) (15) s0) : zok (fX5_behindEd_160 σ s0) (zPi σ (fun v : Int32 => zr (8) (20) v)) := by
  unfold fX5_behindEd_160
  exact zok_spi (zr_w h_s0 (by decide))
theorem s_X5_behindEd_131 {G : Nat → Int} {σ : zSt} (hσ : zIC G σ) {s0 : Int32} (h_s0 : zr (0) (255) s0) {s1 : Int32} (h_s1 : zr (0) (255) s1) : zok (fX5_behindEd_131 σ s0 s1) (zAi (zIC G) (fun v : Int32 => zr (8) (20) v)) := by
  unfold fX5_behindEd_131
  refine zok_bu (s_X4_write hσ h_s1 h_s0) (fun σ1 i1 => ?_)
  exact zok_sai i1 (zr_w (zr_c (lo := 12) (hi := 12) (by decide)) (by decide))
theorem s_X5_behindEd {G : Nat → Int} {σ : zSt} (hσ : zIC G σ) {x1 : Int32} (h_x1 : zr (0) (255) x1) : zok (fX5_behindEd σ x1) (zAi (zIC G) (fun v : Int32 => zr (8) (20) v)) := by
  unfold fX5_behindEd
  refine zok_if (fun q1 => ?_) (fun q1 => ?_)
  · have h2 := zc_eql (1) (1) q1 (zr_shr (lo := 0) (hi := 3) 6 (by decide) h_x1 (by decide)) (zr_c (lo := 1) (hi := 1) (by decide)) (by decide)
    refine zok_br (zr_andr (lo := 0) (hi := 7) (zr_c (lo := 7) (hi := 7) (by decide)) (by decide)) (fun v2 e4 h3 => ?_)
    refine zok_if (fun q5 => ?_) (fun q5 => ?_)
    · have h6 := zc_eql (0) (0) q5 (zr_andr (lo := 0) (hi := 7) (zr_c (lo := 7) (hi := 7) (by decide)) (by decide)) (zr_c (lo := 0) (hi := 0) (by decide)) (by decide)
      refine zok_pi (s_X5_pairAt hσ.P (zr_w (zr_c (lo := 2) (hi := 2) (by decide)) (by decide))) (fun v4 h7 => ?_)
      refine zok_ck rfl ?_
      refine zok_bs (hσ.wi 20 20 (by decide) (zr_andr (lo := 0) (hi := 65535) (zr_c (lo := 65535) (hi := 65535) (by decide)) (by decide)) (by decide +kernel)) (fun σ5 e9 i8 => ?_)
      refine zok_bu (s_X5_takeFromPort i8 h3) (fun σ6 i10 => ?_)
      exact zok_sai i10 (zr_w (zr_c (lo := 12) (hi := 12) (by decide)) (by decide))
    have h11 := zc_nel (1) (7) q5 (zr_andr (lo := 0) (hi := 7) (zr_c (lo := 7) (hi := 7) (by decide)) (by decide)) (zr_c (lo := 0) (hi := 0) (by decide)) (by decide)
    refine zok_if (fun q12 => ?_) (fun q12 => ?_)
    · have h13 := zc_eql (1) (1) q12 h11 (zr_c (lo := 1) (hi := 1) (by decide)) (by decide)
      refine zok_pi (s_X5_pairAt hσ.P (zr_w (zr_c (lo := 2) (hi := 2) (by decide)) (by decide))) (fun v8 h14 => ?_)
      refine zok_ck rfl ?_
      refine zok_bs (hσ.wi 20 20 (by decide) (zr_andr (lo := 0) (hi := 65535) (zr_c (lo := 65535) (hi := 65535) (by decide)) (by decide)) (by decide +kernel)) (fun σ9 e16 i15 => ?_)
      refine zok_ck rfl ?_
      refine zok_if (fun q17 => ?_) (fun q17 => ?_)
      · have h18 := zc_eql (6) (6) q17 h3 (zr_c (lo := 6) (hi := 6) (by decide)) (by decide)
        exact (s_X5_behindEd_131 i15 (zr_w (zr_c (lo := 0) (hi := 0) (by decide)) (by decide)) (rC_21 i15.sg _ (by decide)))
      refine zok_pi (s_X5_one i15.P h3) (fun v11 h19 => ?_)
      exact (s_X5_behindEd_131 i15 h19 (rC_21 i15.sg _ (by decide)))
    have h20 := zc_nel (2) (7) q12 h11 (zr_c (lo := 1) (hi := 1) (by decide)) (by decide)
    refine zok_if (fun q21 => ?_) (fun q21 => ?_)
    · have h22 := zc_eql (2) (2) q21 h20 (zr_c (lo := 2) (hi := 2) (by decide)) (by decide)
      refine zok_if (fun q23 => ?_) (fun q23 => ?_)
      · have h24 := zc_eql (0) (0) q23 (zr_andr (lo := 0) (hi := 1) (zr_c (lo := 1) (hi := 1) (by decide)) (by decide)) (zr_c (lo := 0) (hi := 0) (by decide)) (by decide)
        refine zok_ai (s_X5_takePair hσ (zr_shr (lo := 0) (hi := 3) 1 (by decide) h3 (by decide))) (fun σ14 v15 i25 h26 => ?_)
        exact zok_pai i25 (s_X5_behindEd_160 i25.P h26)
      have h27 := zc_nel (1) (1) q23 (zr_andr (lo := 0) (hi := 1) (zr_c (lo := 1) (hi := 1) (by decide)) (by decide)) (zr_c (lo := 0) (hi := 0) (by decide)) (by decide)
      refine zok_ai (s_X5_addPairAndCarry hσ (zr_shr (lo := 0) (hi := 3) 1 (by decide) h3 (by decide))) (fun σ12 v13 i28 h29 => ?_)
      exact zok_pai i28 (s_X5_behindEd_160 i28.P h29)
    have h30 := zc_nel (3) (7) q21 h20 (zr_c (lo := 2) (hi := 2) (by decide)) (by decide)
    refine zok_if (fun q31 => ?_) (fun q31 => ?_)
    · have h32 := zc_eql (3) (3) q31 h30 (zr_c (lo := 3) (hi := 3) (by decide)) (by decide)
      refine zok_ai (s_X5_farPair hσ h3) (fun σ16 v17 i33 h34 => ?_)
      exact zok_sai i33 (zr_w h34 (by decide))
    have h35 := zc_nel (4) (7) q31 h30 (zr_c (lo := 3) (hi := 3) (by decide)) (by decide)
    refine zok_if (fun q36 => ?_) (fun q36 => ?_)
    · have h37 := zc_eql (4) (4) q36 h35 (zr_c (lo := 4) (hi := 4) (by decide)) (by decide)
      refine zok_ck rfl ?_
      refine zok_ai (s_X5_difference hσ (zr_w (zr_c (lo := 0) (hi := 0) (by decide)) (by decide)) (rC_21 hσ.sg _ (by decide)) (zr_w (zr_c (lo := 0) (hi := 0) (by decide)) (by decide))) (fun σ18 v19 i38 h39 => ?_)
      refine zok_ck rfl ?_
      refine zok_bs (i38.wi 0 0 (by decide) h39 (by decide +kernel)) (fun σ20 e41 i40 => ?_)
      exact zok_sai i40 (zr_w (zr_c (lo := 8) (hi := 8) (by decide)) (by decide))
    have h42 := zc_nel (5) (7) q36 h35 (zr_c (lo := 4) (hi := 4) (by decide)) (by decide)
    refine zok_if (fun q43 => ?_) (fun q43 => ?_)
    · have h44 := zc_eql (5) (5) q43 h42 (zr_c (lo := 5) (hi := 5) (by decide)) (by decide)
      refine zok_ai (s_X5_pop hσ) (fun σ21 v22 i45 h46 => ?_)
      refine zok_bu (s_X5_goTo i45 h46) (fun σ23 i47 => ?_)
      refine zok_ck rfl ?_
      refine zok_ck rfl ?_
      refine zok_bs (i47.wi 23 23 (by decide) (rC_24 i47.sg _ (by decide)) (by decide +kernel)) (fun σ24 e49 i48 => ?_)
      exact zok_sai i48 (zr_w (zr_c (lo := 14) (hi := 14) (by decide)) (by decide))
    have h50 := zc_nel (6) (7) q43 h42 (zr_c (lo := 5) (hi := 5) (by decide)) (by decide)
    refine zok_if (fun q51 => ?_) (fun q51 => ?_)
    · have h52 := zc_eql (6) (6) q51 h50 (zr_c (lo := 6) (hi := 6) (by decide)) (by decide)
      refine zok_ck rfl ?_
      refine zok_bs (hσ.wi 25 25 (by decide) (zr_max (lo := 0) (hi := 2) (zr_c (lo := 0) (hi := 0) (by decide)) (zr_sub (lo := -1) (hi := 2) (zr_andr (lo := 0) (hi := 3) (zr_c (lo := 3) (hi := 3) (by decide)) (by decide)) (zr_c (lo := 1) (hi := 1) (by decide)) (by decide)) (by decide)) (by decide +kernel)) (fun σ25 e54 i53 => ?_)
      exact zok_sai i53 (zr_w (zr_c (lo := 8) (hi := 8) (by decide)) (by decide))
    have h55 := zc_nel (7) (7) q51 h50 (zr_c (lo := 6) (hi := 6) (by decide)) (by decide)
    refine zok_ai (s_X5_moreOfA hσ h3) (fun σ26 v27 i56 h57 => ?_)
    exact zok_sai i56 (zr_w h57 (by decide))
  exact zok_sai hσ (zr_w (zr_c (lo := 8) (hi := 8) (by decide)) (by decide))
theorem s_X5_exchange_211 {G : Nat → Int} {σ : zSt} (hσ : zIC G σ) {x1 : Int32} (h_x1 : zr (1) (7) x1) : zok (fX5_exchange_211 σ x1) (zAi (zIC G) (fun v : Int32 => zr (4) (19) v)) := by
  unfold fX5_exchange_211
  refine zok_ck rfl ?_
  refine zok_bs (hσ.wi 23 23 (by decide) (zr_andr (lo := 0) (hi := 1) (zr_c (lo := 1) (hi := 1) (by decide)) (by decide)) (by decide +kernel)) (fun σ1 e2 i1 => ?_)
  refine zok_ck rfl ?_
  refine zok_bs (i1.wi 24 24 (by decide) (zr_andr (lo := 0) (hi := 1) (zr_c (lo := 1) (hi := 1) (by decide)) (by decide)) (by decide +kernel)) (fun σ2 e4 i3 => ?_)
  refine zok_ck rfl ?_
  refine zok_bs (i3.wi 28 28 (by decide) (zr_andr (lo := 0) (hi := 1) (zr_c (lo := 1) (hi := 1) (by decide)) (by decide)) (by decide +kernel)) (fun σ3 e6 i5 => ?_)
  exact zok_sai i5 (zr_w (zr_c (lo := 4) (hi := 4) (by decide)) (by decide))
theorem s_X5_exchange {G : Nat → Int} {σ : zSt} (hσ : zIC G σ) {x1 : Int32} (h_x1 : zr (0) (7) x1) : zok (fX5_exchange σ x1) (zAi (zIC G) (fun v : Int32 => zr (4) (19) v)) := by
  unfold fX5_exchange
  refine zok_if (fun q1 => ?_) (fun q1 => ?_)
  · have h2 := zc_eql (0) (0) q1 h_x1 (zr_c (lo := 0) (hi := 0) (by decide)) (by decide)
    refine zok_ai (s_X5_fetchWord hσ) (fun σ4 v5 i3 h4 => ?_)
    refine zok_bu (s_X5_goTo i3 h4) (fun σ6 i5 => ?_)
    exact zok_sai i5 (zr_w (zr_c (lo := 10) (hi := 10) (by decide)) (by decide))
  have h6 := zc_nel (1) (7) q1 h_x1 (zr_c (lo := 0) (hi := 0) (by decide)) (by decide)
  refine zok_if (fun q7 => ?_) (fun q7 => ?_)
  · have h8 := zc_eql (1) (1) q7 h6 (zr_c (lo := 1) (hi := 1) (by decide)) (by decide)
    exact (s_X5_exchange_211 hσ (zr_w h8 (by decide)))
  have h9 := zc_nel (2) (7) q7 h6 (zr_c (lo := 1) (hi := 1) (by decide)) (by decide)
  refine zok_if (fun q10 => ?_) (fun q10 => ?_)
  · have h11 := zc_eql (2) (2) q10 h9 (zr_c (lo := 2) (hi := 2) (by decide)) (by decide)
    refine zok_ai (s_X5_fetch hσ) (fun σ7 v8 i12 h13 => ?_)
    refine zok_ck rfl ?_
    refine zok_bu (s_X4_write i12 h13 (rC_21 i12.sg _ (by decide))) (fun σ9 i14 => ?_)
    refine zok_ck rfl ?_
    refine zok_ck rfl ?_
    refine zok_bs (i14.wi 20 20 (by decide) (zr_or (lo := 0) (hi := 65535) 16 (zr_shl (lo := 0) (hi := 65280) 8 (by decide) (rC_21 i14.sg _ (by decide)) (by decide)) (zr_andr (lo := 0) (hi := 255) (zr_c (lo := 255) (hi := 255) (by decide)) (by decide)) (by decide)) (by decide +kernel)) (fun σ10 e16 i15 => ?_)
    exact zok_sai i15 (zr_w (zr_c (lo := 11) (hi := 11) (by decide)) (by decide))
  have h17 := zc_nel (3) (7) q10 h9 (zr_c (lo := 2) (hi := 2) (by decide)) (by decide)
  refine zok_if (fun q18 => ?_) (fun q18 => ?_)
  · have h19 := zc_eql (3) (3) q18 h17 (zr_c (lo := 3) (hi := 3) (by decide)) (by decide)
    refine zok_ai (s_X5_fetch hσ) (fun σ11 v12 i20 h21 => ?_)
    refine zok_ck rfl ?_
    refine zok_ck rfl ?_
    refine zok_bs (i20.wi 20 20 (by decide) (zr_andr (lo := 0) (hi := 65535) (zr_c (lo := 65535) (hi := 65535) (by decide)) (by decide)) (by decide +kernel)) (fun σ13 e23 i22 => ?_)
    refine zok_ai (s_X4_read i22 h21) (fun σ14 v15 i24 h25 => ?_)
    refine zok_ck rfl ?_
    refine zok_bs (i24.wi 0 0 (by decide) h25 (by decide +kernel)) (fun σ16 e27 i26 => ?_)
    exact zok_sai i26 (zr_w (zr_c (lo := 11) (hi := 11) (by decide)) (by decide))
  have h28 := zc_nel (4) (7) q18 h17 (zr_c (lo := 3) (hi := 3) (by decide)) (by decide)
  refine zok_if (fun q29 => ?_) (fun q29 => ?_)
  · have h30 := zc_eql (4) (4) q29 h28 (zr_c (lo := 4) (hi := 4) (by decide)) (by decide)
    refine zok_ck rfl ?_
    refine zok_pi (s_X5_readWord hσ.P (rC_22 hσ.sg _ (by decide))) (fun v18 h31 => ?_)
    refine zok_ck rfl ?_
    refine zok_pi (s_X5_hl hσ.P) (fun v20 h32 => ?_)
    refine zok_bu (s_X5_writeWord hσ (rC_22 hσ.sg _ (by decide)) h32) (fun σ21 i33 => ?_)
    refine zok_bu (s_X5_putHl i33 (zr_w h31 (by decide))) (fun σ22 i34 => ?_)
    refine zok_ck rfl ?_
    refine zok_bs (i34.wi 20 20 (by decide) h31 (by decide +kernel)) (fun σ23 e36 i35 => ?_)
    exact zok_sai i35 (zr_w (zr_c (lo := 19) (hi := 19) (by decide)) (by decide))
  have h37 := zc_nel (5) (7) q29 h28 (zr_c (lo := 4) (hi := 4) (by decide)) (by decide)
  refine zok_if (fun q38 => ?_) (fun q38 => ?_)
  · have h39 := zc_eql (5) (5) q38 h37 (zr_c (lo := 5) (hi := 5) (by decide)) (by decide)
    refine zok_pi (s_X5_pairAt hσ.P (zr_w (zr_c (lo := 4) (hi := 4) (by decide)) (by decide))) (fun v25 h40 => ?_)
    refine zok_pi (s_X5_pairAt hσ.P (zr_w (zr_c (lo := 6) (hi := 6) (by decide)) (by decide))) (fun v27 h41 => ?_)
    refine zok_bu (s_X5_putPairAt hσ (zr_w (zr_c (lo := 4) (hi := 4) (by decide)) (by decide)) (zr_w h41 (by decide))) (fun σ28 i42 => ?_)
    refine zok_bu (s_X5_putPairAt i42 (zr_w (zr_c (lo := 6) (hi := 6) (by decide)) (by decide)) (zr_w h40 (by decide))) (fun σ29 i43 => ?_)
    exact zok_sai i43 (zr_w (zr_c (lo := 4) (hi := 4) (by decide)) (by decide))
  have h44 := zc_nel (6) (7) q38 h37 (zr_c (lo := 5) (hi := 5) (by decide)) (by decide)
  exact (s_X5_exchange_211 hσ (zr_w h44 (by decide)))
theorem s_X5_sum_61 {G : Nat → Int} {σ : zSt} (hσ : zIC G σ) {x4 : Int32} (h_x4 : zr (0) (511) x4) {x5 : Int32} (h_x5 : zr (0) (255) x5) {s0 : Int32} (h_s0 : zr (0) (4) s0) {s1 : Int32} (h_s1 : zr (0) (255) s1) {s2 : Int32} (h_s2 : zr (1) (1) s2) : zok (fX5_sum_61 σ x4 x5 s0 s1 s2) (zAi (zIC G) (fun v : Int32 => zr (0) (255) v)) := by
  unfold fX5_sum_61
  refine zok_ck (zin_ok h_s2 (by decide)) ?_
  refine zok_bs (hσ.wi 1 1 (z_ix h_s2 (by decide)) (zr_or (lo := 0) (hi := 255) 8 (zr_or (lo := 0) (hi := 255) 8 h_s1 h_s0 (by decide)) (zr_shr (lo := 0) (hi := 1) 8 (by decide) h_x4 (by decide)) (by decide)) (by decide +kernel)) (fun σ1 e2 i1 => ?_)
  exact zok_sai i1 h_x5
theorem s_X5_sum {G : Nat → Int} {σ : zSt} (hσ : zIC G σ) {x1 : Int32} (h_x1 : zr (0) (255) x1) {x2 : Int32} (h_x2 : zr (0) (255) x2) {x3 : Int32} (h_x3 : zr (0) (1) x3) : zok (fX5_sum σ x1 x2 x3) (zAi (zIC G) (fun v : Int32 => zr (0) (255) v)) := by
  unfold fX5_sum
  refine zok_br (zr_add (lo := 0) (hi := 511) (zr_add (lo := 0) (hi := 510) h_x1 h_x2 (by decide)) h_x3 (by decide)) (fun v2 e2 h1 => ?_)
  refine zok_br (zr_andr (lo := 0) (hi := 255) (zr_c (lo := 255) (hi := 255) (by decide)) (by decide)) (fun v3 e4 h3 => ?_)
  refine zok_br (zr_andr (lo := 0) (hi := 128) (zr_c (lo := 128) (hi := 128) (by decide)) (by decide)) (fun v4 e6 h5 => ?_)
  refine zok_pi (s_X5_by hσ.P h3) (fun v6 h7 => ?_)
  refine zok_if (fun q8 => ?_) (fun q8 => ?_)
  · have h9 := zc_eql (0) (0) q8 h5 (zr_c (lo := 0) (hi := 0) (by decide)) (by decide)
    exact (s_X5_sum_61 hσ h1 h3 (zr_w (zr_c (lo := 0) (hi := 0) (by decide)) (by decide)) (zr_or (lo := 0) (hi := 255) 8 h7 (zr_andr (lo := 0) (hi := 16) (zr_c (lo := 16) (hi := 16) (by decide)) (by decide)) (by decide)) (zr_c (lo := 1) (hi := 1) (by decide)))
  have h10 := zc_nel (1) (128) q8 h5 (zr_c (lo := 0) (hi := 0) (by decide)) (by decide)
  exact (s_X5_sum_61 hσ h1 h3 (zr_w (zr_c (lo := 4) (hi := 4) (by decide)) (by decide)) (zr_or (lo := 0) (hi := 255) 8 h7 (zr_andr (lo := 0) (hi := 16) (zr_c (lo := 16) (hi := 16) (by decide)) (by decide)) (by decide)) (zr_c (lo := 1) (hi := 1) (by decide)))
theorem s_X5_doWith_292 {σ : zSt} (hσ : zPC σ) : zok (fX5_doWith_292 σ ) (zPu σ) := by
  unfold fX5_doWith_292
  exact zok_spu
theorem s_X5_doWith {G : Nat → Int} {σ : zSt} (hσ : zIC G σ) {x1 : Int32} (h_x1 : zr (0) (7) x1) {x2 : Int32} (h_x2 : zr (0) (255) x2) : zok (fX5_doWith σ x1 x2) (zIC G) := by
  unfold fX5_doWith
  refine zok_if (fun q1 => ?_) (fun q1 => ?_)
  · have h2 := zc_eql (0) (0) q1 h_x1 (zr_c (lo := 0) (hi := 0) (by decide)) (by decide)
    refine zok_ck rfl ?_
    refine zok_ai (s_X5_sum hσ (rC_21 hσ.sg _ (by decide)) h_x2 (zr_w (zr_c (lo := 0) (hi := 0) (by decide)) (by decide))) (fun σ1 v2 i3 h4 => ?_)
    refine zok_ck rfl ?_
    refine zok_bs (i3.wi 0 0 (by decide) h4 (by decide +kernel)) (fun σ3 e6 i5 => ?_)
    exact zok_pau i5 (s_X5_doWith_292 i5.P)
  have h7 := zc_nel (1) (7) q1 h_x1 (zr_c (lo := 0) (hi := 0) (by decide)) (by decide)
  refine zok_if (fun q8 => ?_) (fun q8 => ?_)
  · have h9 := zc_eql (1) (1) q8 h7 (zr_c (lo := 1) (hi := 1) (by decide)) (by decide)
    refine zok_ck rfl ?_
    refine zok_ck rfl ?_
    refine zok_ai (s_X5_sum hσ (rC_21 hσ.sg _ (by decide)) h_x2 (zr_andr (lo := 0) (hi := 1) (zr_c (lo := 1) (hi := 1) (by decide)) (by decide))) (fun σ4 v5 i10 h11 => ?_)
    refine zok_ck rfl ?_
    refine zok_bs (i10.wi 0 0 (by decide) h11 (by decide +kernel)) (fun σ6 e13 i12 => ?_)
    exact zok_pau i12 (s_X5_doWith_292 i12.P)
  have h14 := zc_nel (2) (7) q8 h7 (zr_c (lo := 1) (hi := 1) (by decide)) (by decide)
  refine zok_if (fun q15 => ?_) (fun q15 => ?_)
  · have h16 := zc_eql (2) (2) q15 h14 (zr_c (lo := 2) (hi := 2) (by decide)) (by decide)
    refine zok_ck rfl ?_
    refine zok_ai (s_X5_difference hσ (rC_21 hσ.sg _ (by decide)) h_x2 (zr_w (zr_c (lo := 0) (hi := 0) (by decide)) (by decide))) (fun σ7 v8 i17 h18 => ?_)
    refine zok_ck rfl ?_
    refine zok_bs (i17.wi 0 0 (by decide) h18 (by decide +kernel)) (fun σ9 e20 i19 => ?_)
    exact zok_pau i19 (s_X5_doWith_292 i19.P)
  have h21 := zc_nel (3) (7) q15 h14 (zr_c (lo := 2) (hi := 2) (by decide)) (by decide)
  refine zok_if (fun q22 => ?_) (fun q22 => ?_)
  · have h23 := zc_eql (3) (3) q22 h21 (zr_c (lo := 3) (hi := 3) (by decide)) (by decide)
    refine zok_ck rfl ?_
    refine zok_ck rfl ?_
    refine zok_ai (s_X5_difference hσ (rC_21 hσ.sg _ (by decide)) h_x2 (zr_andr (lo := 0) (hi := 1) (zr_c (lo := 1) (hi := 1) (by decide)) (by decide))) (fun σ10 v11 i24 h25 => ?_)
    refine zok_ck rfl ?_
    refine zok_bs (i24.wi 0 0 (by decide) h25 (by decide +kernel)) (fun σ12 e27 i26 => ?_)
    exact zok_pau i26 (s_X5_doWith_292 i26.P)
  have h28 := zc_nel (4) (7) q22 h21 (zr_c (lo := 3) (hi := 3) (by decide)) (by decide)
  refine zok_if (fun q29 => ?_) (fun q29 => ?_)
  · have h30 := zc_eql (4) (4) q29 h28 (zr_c (lo := 4) (hi := 4) (by decide)) (by decide)
    refine zok_ck rfl ?_
    refine zok_ck rfl ?_
    refine zok_bs (hσ.wi 0 0 (by decide) (zr_andr (lo := 0) (hi := 255) h_x2 (by decide)) (by decide +kernel)) (fun σ13 e32 i31 => ?_)
    refine zok_ck rfl ?_
    refine zok_pi (s_X5_by i31.P (rC_21 i31.sg _ (by decide))) (fun v15 h33 => ?_)
    refine zok_ck rfl ?_
    refine zok_pi (s_X5_parity i31.P (rC_21 i31.sg _ (by decide))) (fun v17 h34 => ?_)
    refine zok_ck rfl ?_
    refine zok_bs (i31.wi 1 1 (by decide) (zr_or (lo := 0) (hi := 255) 8 (zr_or (lo := 0) (hi := 255) 8 h33 h34 (by decide)) (zr_c (lo := 16) (hi := 16) (by decide)) (by decide)) (by decide +kernel)) (fun σ18 e36 i35 => ?_)
    exact zok_pau i35 (s_X5_doWith_292 i35.P)
  have h37 := zc_nel (5) (7) q29 h28 (zr_c (lo := 4) (hi := 4) (by decide)) (by decide)
  refine zok_if (fun q38 => ?_) (fun q38 => ?_)
  · have h39 := zc_eql (5) (5) q38 h37 (zr_c (lo := 5) (hi := 5) (by decide)) (by decide)
    refine zok_ck rfl ?_
    refine zok_ck rfl ?_
    refine zok_bs (hσ.wi 0 0 (by decide) (zr_xor (lo := 0) (hi := 255) 8 (rC_21 hσ.sg _ (by decide)) h_x2 (by decide)) (by decide +kernel)) (fun σ19 e41 i40 => ?_)
    refine zok_ck rfl ?_
    refine zok_pi (s_X5_by i40.P (rC_21 i40.sg _ (by decide))) (fun v21 h42 => ?_)
    refine zok_ck rfl ?_
    refine zok_pi (s_X5_parity i40.P (rC_21 i40.sg _ (by decide))) (fun v23 h43 => ?_)
    refine zok_ck rfl ?_
    refine zok_bs (i40.wi 1 1 (by decide) (zr_or (lo := 0) (hi := 255) 8 h42 h43 (by decide)) (by decide +kernel)) (fun σ24 e45 i44 => ?_)
    exact zok_pau i44 (s_X5_doWith_292 i44.P)
  have h46 := zc_nel (6) (7) q38 h37 (zr_c (lo := 5) (hi := 5) (by decide)) (by decide)
  refine zok_if (fun q47 => ?_) (fun q47 => ?_)
  · have h48 := zc_eql (6) (6) q47 h46 (zr_c (lo := 6) (hi := 6) (by decide)) (by decide)
    refine zok_ck rfl ?_
    refine zok_ck rfl ?_
    refine zok_bs (hσ.wi 0 0 (by decide) (zr_or (lo := 0) (hi := 255) 8 (rC_21 hσ.sg _ (by decide)) h_x2 (by decide)) (by decide +kernel)) (fun σ25 e50 i49 => ?_)
    refine zok_ck rfl ?_
    refine zok_pi (s_X5_by i49.P (rC_21 i49.sg _ (by decide))) (fun v27 h51 => ?_)
    refine zok_ck rfl ?_
    refine zok_pi (s_X5_parity i49.P (rC_21 i49.sg _ (by decide))) (fun v29 h52 => ?_)
    refine zok_ck rfl ?_
    refine zok_bs (i49.wi 1 1 (by decide) (zr_or (lo := 0) (hi := 255) 8 h51 h52 (by decide)) (by decide +kernel)) (fun σ30 e54 i53 => ?_)
    exact zok_pau i53 (s_X5_doWith_292 i53.P)
  have h55 := zc_nel (7) (7) q47 h46 (zr_c (lo := 6) (hi := 6) (by decide)) (by decide)
  refine zok_ck rfl ?_
  refine zok_ai (s_X5_difference hσ (rC_21 hσ.sg _ (by decide)) h_x2 (zr_w (zr_c (lo := 0) (hi := 0) (by decide)) (by decide))) (fun σ31 v32 i56 h57 => ?_)
  refine zok_ck rfl ?_
  refine zok_ck rfl ?_
  refine zok_bs (i56.wi 1 1 (by decide) (zr_or (lo := 0) (hi := 255) 8 (zr_andl (lo := 0) (hi := 255) (rC_21 i56.sg _ (by decide)) (by decide)) (zr_andr (lo := 0) (hi := 40) (zr_c (lo := 40) (hi := 40) (by decide)) (by decide)) (by decide)) (by decide +kernel)) (fun σ33 e59 i58 => ?_)
  exact zok_pau i58 (s_X5_doWith_292 i58.P)
theorem s_X5_callIf {G : Nat → Int} {σ : zSt} (hσ : zIC G σ) {x1 : Int32} (h_x1 : zr (0) (1) x1) : zok (fX5_callIf σ x1) (zAi (zIC G) (fun v : Int32 => zr (10) (17) v)) := by
  unfold fX5_callIf
  refine zok_ai (s_X5_fetchWord hσ) (fun σ1 v2 i1 h2 => ?_)
  refine zok_ck rfl ?_
  refine zok_bs (i1.wi 20 20 (by decide) h2 (by decide +kernel)) (fun σ3 e4 i3 => ?_)
  refine zok_if (fun q5 => ?_) (fun q5 => ?_)
  · have h6 := zc_eql (0) (0) q5 h_x1 (zr_c (lo := 0) (hi := 0) (by decide)) (by decide)
    exact zok_sai i3 (zr_w (zr_c (lo := 10) (hi := 10) (by decide)) (by decide))
  have h7 := zc_nel (1) (1) q5 h_x1 (zr_c (lo := 0) (hi := 0) (by decide)) (by decide)
  refine zok_ck rfl ?_
  refine zok_bu (s_X5_push i3 (rC_22 i3.sg _ (by decide))) (fun σ4 i8 => ?_)
  refine zok_ck rfl ?_
  refine zok_bs (i8.wi 19 19 (by decide) h2 (by decide +kernel)) (fun σ5 e10 i9 => ?_)
  exact zok_sai i9 (zr_w (zr_c (lo := 17) (hi := 17) (by decide)) (by decide))
theorem s_X5_holds_44 {σ : zSt} (hσ : zPC σ) {s0 : Int32} (h_s0 : zr (0) (1) s0) : zok (fX5_holds_44 σ s0) (zPi σ (fun v : Int32 => zr (0) (1) v)) := by
  unfold fX5_holds_44
  refine zok_ck (zbo_ok h_s0 (by decide)) ?_
  exact zok_spi h_s0
theorem s_X5_holds_36 {σ : zSt} (hσ : zPC σ) {s0 : Int32} (h_s0 : zr (0) (1) s0) {s1 : Int32} (h_s1 : zr (0) (1) s1) : zok (fX5_holds_36 σ s0 s1) (zPi σ (fun v : Int32 => zr (0) (1) v)) := by
  unfold fX5_holds_36
  refine zok_if (fun q1 => ?_) (fun q1 => ?_)
  · exact (s_X5_holds_44 hσ (zr_w (zr_c (lo := 1) (hi := 1) (by decide)) (by decide)))
  exact (s_X5_holds_44 hσ (zr_w (zr_c (lo := 0) (hi := 0) (by decide)) (by decide)))
theorem s_X5_holds_24 {σ : zSt} (hσ : zPC σ) {x1 : Int32} (h_x1 : zr (0) (7) x1) {s0 : Int32} (h_s0 : zr (0) (1) s0) : zok (fX5_holds_24 σ x1 s0) (zPi σ (fun v : Int32 => zr (0) (1) v)) := by
  unfold fX5_holds_24
  refine zok_if (fun q1 => ?_) (fun q1 => ?_)
  · have h2 := zc_eql (1) (1) q1 (zr_andr (lo := 0) (hi := 1) (zr_c (lo := 1) (hi := 1) (by decide)) (by decide)) (zr_c (lo := 1) (hi := 1) (by decide)) (by decide)
    exact (s_X5_holds_36 hσ (zr_w (zr_c (lo := 1) (hi := 1) (by decide)) (by decide)) h_s0)
  have h3 := zc_nel (0) (0) q1 (zr_andr (lo := 0) (hi := 1) (zr_c (lo := 1) (hi := 1) (by decide)) (by decide)) (zr_c (lo := 1) (hi := 1) (by decide)) (by decide)
  exact (s_X5_holds_36 hσ (zr_w (zr_c (lo := 0) (hi := 0) (by decide)) (by decide)) h_s0)
theorem s_X5_holds {σ : zSt} (hσ : zPC σ) {x1 : Int32} (h_x1 : zr (0) (7) x1) : zok (fX5_holds σ x1) (zPi σ (fun v : Int32 => zr (0) (1) v)) := by
  unfold fX5_holds
  refine zok_ck rfl ?_
  refine zok_ck (zin_ok (zr_andr (lo := 0) (hi := 3) (zr_c (lo := 3) (hi := 3) (by decide)) (by decide)) (by decide)) ?_
  refine zok_if (fun q1 => ?_) (fun q1 => ?_)
  · have h2 := zc_eql (0) (0) q1 (zr_andl (lo := 0) (hi := 255) (rC_21 hσ.sg _ (by decide)) (by decide)) (zr_c (lo := 0) (hi := 0) (by decide)) (by decide)
    exact (s_X5_holds_24 hσ h_x1 (zr_w (zr_c (lo := 0) (hi := 0) (by decide)) (by decide)))
  have h3 := zc_nel (1) (255) q1 (zr_andl (lo := 0) (hi := 255) (rC_21 hσ.sg _ (by decide)) (by decide)) (zr_c (lo := 0) (hi := 0) (by decide)) (by decide)
  exact (s_X5_holds_24 hσ h_x1 (zr_w (zr_c (lo := 1) (hi := 1) (by decide)) (by decide)))
theorem s_X5_popPair_25 {σ : zSt} (hσ : zPC σ) : zok (fX5_popPair_25 σ ) (zPi σ (fun v : Int32 => zr (10) (10) v)) := by
  unfold fX5_popPair_25
  exact zok_spi (zr_c (lo := 10) (hi := 10) (by decide))
