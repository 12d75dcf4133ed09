section ZJN0
theorem s_X12_zero_67 {G : Nat → Int} {σ : zSt} (hσ : zIM G σ) {x1 : Int32} (h_x1 : zr (2) (7) x1) {x4 : Int32} (h_x4 : zr (-128) (127) x4) : zok (fX12_zero_67 σ x1 x4) (zAi (zIM G) (fun v : Int32 => zr (4) (16) v)) := by
  unfold fX12_zero_67
  refine zok_if (fun q1 => ?_) (fun q1 => ?_)
  · have h2 := zc_eql (2) (2) q1 h_x1 (zr_c (lo := 2) (hi := 2) (by decide)) (by decide)
    refine zok_ck rfl ?_
    refine zok_if (fun q3 => ?_) (fun q3 => ?_)
    · have h4 := zc_eql (0) (0) q3 (rM_11 hσ.sg _ (by decide)) (zr_c (lo := 0) (hi := 0) (by decide)) (by decide)
      exact (s_X12_zero_109 hσ (zr_w h2 (by decide)) h_x4 (zr_w (zr_c (lo := 0) (hi := 0) (by decide)) (by decide)))
    have h5 := zc_nel (1) (255) q3 (rM_11 hσ.sg _ (by decide)) (zr_c (lo := 0) (hi := 0) (by decide)) (by decide)
    exact (s_X12_zero_109 hσ (zr_w h2 (by decide)) h_x4 (zr_w (zr_c (lo := 1) (hi := 1) (by decide)) (by decide)))
  have h6 := zc_nel (3) (7) q1 h_x1 (zr_c (lo := 2) (hi := 2) (by decide)) (by decide)
  refine zok_if (fun q7 => ?_) (fun q7 => ?_)
  · have h8 := zc_eql (3) (3) q7 h6 (zr_c (lo := 3) (hi := 3) (by decide)) (by decide)
    exact (s_X12_zero_104 hσ (zr_w h8 (by decide)) h_x4)
  have h9 := zc_nel (4) (7) q7 h6 (zr_c (lo := 3) (hi := 3) (by decide)) (by decide)
  refine zok_pi (s_X12_cc hσ.P (zr_w (zr_sub (lo := 0) (hi := 3) h9 (zr_c (lo := 4) (hi := 4) (by decide)) (by decide)) (by decide))) (fun v3 h10 => ?_)
  refine zok_if (fun q11 => ?_) (fun q11 => ?_)
  · have h12 := zc_eql (0) (0) q11 h10 (zr_c (lo := 0) (hi := 0) (by decide)) (by decide)
    exact (s_X12_zero_109 hσ (zr_w h9 (by decide)) h_x4 (zr_w (zr_c (lo := 0) (hi := 0) (by decide)) (by decide)))
  have h13 := zc_nel (1) (1) q11 h10 (zr_c (lo := 0) (hi := 0) (by decide)) (by decide)
  exact (s_X12_zero_104 hσ (zr_w h9 (by decide)) h_x4)
theorem s_X12_zero_266 {G : Nat → Int} {σ : zSt} (hσ : zIM G σ) {x6 : Int32} (h_x6 : zr (0) (131070) x6) {s0 : Int32} (h_s0 : zr (0) (1) s0) {s1 : Int32} (h_s1 : zr (0) (0) s1) : zok (fX12_zero_266 σ x6 s0 s1) (zAi (zIM G) (fun v : Int32 => zr (4) (16) v)) := by
  unfold fX12_zero_266
  refine zok_bu (s_X12_put hσ (zr_w h_s1 (by decide)) h_s0) (fun σ4 i1 => ?_)
  refine zok_bu (s_X12_put i1 (zr_w (zr_c (lo := 1) (hi := 1) (by decide)) (by decide)) (zr_w (zr_c (lo := 0) (hi := 0) (by decide)) (by decide))) (fun σ5 i2 => ?_)
  refine zok_bu (s_X12_xy i2 (zr_w (zr_shr (lo := 0) (hi := 511) 8 (by decide) h_x6 (by decide)) (by decide))) (fun σ6 i3 => ?_)
  exact zok_sai i3 (zr_w (zr_c (lo := 11) (hi := 11) (by decide)) (by decide))
theorem s_X12_zero_249 {G : Nat → Int} {σ : zSt} (hσ : zIM G σ) {x6 : Int32} (h_x6 : zr (0) (131070) x6) {s0 : Int32} (h_s0 : zr (0) (1) s0) {s1 : Int32} (h_s1 : zr (4) (4) s1) : zok (fX12_zero_249 σ x6 s0 s1) (zAi (zIM G) (fun v : Int32 => zr (4) (16) v)) := by
  unfold fX12_zero_249
  refine zok_bu (s_X12_put hσ (zr_w h_s1 (by decide)) h_s0) (fun σ7 i1 => ?_)
  refine zok_if (fun q2 => ?_) (fun q2 => ?_)
  · have h3 := zc_lel (65535) q2 h_x6 (zr_c (lo := 65535) (hi := 65535) (by decide)) (by decide)
    exact (s_X12_zero_266 i1 (zr_w h3 (by decide)) (zr_w (zr_c (lo := 0) (hi := 0) (by decide)) (by decide)) (zr_c (lo := 0) (hi := 0) (by decide)))
  have h4 := zc_ltr (65536) (z_nle q2) (zr_c (lo := 65535) (hi := 65535) (by decide)) h_x6 (by decide)
  exact (s_X12_zero_266 i1 (zr_w h4 (by decide)) (zr_w (zr_c (lo := 1) (hi := 1) (by decide)) (by decide)) (zr_c (lo := 0) (hi := 0) (by decide)))
theorem s_X12_zero_306 {G : Nat → Int} {σ : zSt} (hσ : zIM G σ) {s0 : Int32} (h_s0 : zr (0) (1) s0) {s1 : Int32} (h_s1 : zr (0) (3) s1) : zok (fX12_zero_306 σ s0 s1) (zAi (zIM G) (fun v : Int32 => zr (4) (16) v)) := by
  unfold fX12_zero_306
  refine zok_ai (s_X12_moves hσ h_s1 h_s0) (fun σ8 v9 i1 h2 => ?_)
  exact zok_sai i1 (zr_w h2 (by decide))
theorem s_X12_zero_328 {G : Nat → Int} {σ : zSt} (hσ : zIM G σ) {s0 : Int32} (h_s0 : zr (-1) (1) s0) {s1 : Int32} (h_s1 : zr (0) (65535) s1) {s2 : Int32} (h_s2 : zr (0) (3) s2) : zok (fX12_zero_328 σ s0 s1 s2) (zAi (zIM G) (fun v : Int32 => zr (4) (16) v)) := by
  unfold fX12_zero_328
  refine zok_bu (s_X12_rpTo hσ h_s2 (zr_add (lo := -1) (hi := 65536) h_s1 h_s0 (by decide))) (fun σ10 i1 => ?_)
  exact zok_sai i1 (zr_w (zr_c (lo := 6) (hi := 6) (by decide)) (by decide))
theorem s_X12_zero_178 {G : Nat → Int} {σ : zSt} (hσ : zIM G σ) {x1 : Int32} (h_x1 : zr (0) (7) x1) {x2 : Int32} (h_x2 : zr (1) (3) x2) {x3 : Int32} (h_x3 : zr (0) (3) x3) : zok (fX12_zero_178 σ x1 x2 x3) (zAi (zIM G) (fun v : Int32 => zr (4) (16) v)) := by
  unfold fX12_zero_178
  refine zok_if (fun q1 => ?_) (fun q1 => ?_)
  · have h2 := zc_eql (1) (1) q1 h_x2 (zr_c (lo := 1) (hi := 1) (by decide)) (by decide)
    refine zok_pi (s_X12_hl hσ.P) (fun v14 h3 => ?_)
    refine zok_pi (s_X12_rp hσ.P h_x3) (fun v16 h4 => ?_)
    refine zok_ck rfl ?_
    refine zok_bs (hσ.wi 20 20 (by decide) (zr_andr (lo := 0) (hi := 65535) (zr_c (lo := 65535) (hi := 65535) (by decide)) (by decide)) (by decide +kernel)) (fun σ17 e6 i5 => ?_)
    refine zok_br (zr_add (lo := 0) (hi := 131070) h3 h4 (by decide)) (fun v18 e8 h7 => ?_)
    refine zok_bu (s_X12_hlTo i5 (zr_w h7 (by decide))) (fun σ19 i9 => ?_)
    refine zok_if (fun q10 => ?_) (fun q10 => ?_)
    · have h11 := zc_lel (4095) q10 (zr_add (lo := 0) (hi := 8190) (zr_andr (lo := 0) (hi := 4095) (zr_c (lo := 4095) (hi := 4095) (by decide)) (by decide)) (zr_andr (lo := 0) (hi := 4095) (zr_c (lo := 4095) (hi := 4095) (by decide)) (by decide)) (by decide)) (zr_c (lo := 4095) (hi := 4095) (by decide)) (by decide)
      exact (s_X12_zero_249 i9 h7 (zr_w (zr_c (lo := 0) (hi := 0) (by decide)) (by decide)) (zr_c (lo := 4) (hi := 4) (by decide)))
    have h12 := zc_ltr (4096) (z_nle q10) (zr_c (lo := 4095) (hi := 4095) (by decide)) (zr_add (lo := 0) (hi := 8190) (zr_andr (lo := 0) (hi := 4095) (zr_c (lo := 4095) (hi := 4095) (by decide)) (by decide)) (zr_andr (lo := 0) (hi := 4095) (zr_c (lo := 4095) (hi := 4095) (by decide)) (by decide)) (by decide)) (by decide)
    exact (s_X12_zero_249 i9 h7 (zr_w (zr_c (lo := 1) (hi := 1) (by decide)) (by decide)) (zr_c (lo := 4) (hi := 4) (by decide)))
  have h13 := zc_nel (2) (3) q1 h_x2 (zr_c (lo := 1) (hi := 1) (by decide)) (by decide)
  refine zok_if (fun q14 => ?_) (fun q14 => ?_)
  · have h15 := zc_eql (2) (2) q14 h13 (zr_c (lo := 2) (hi := 2) (by decide)) (by decide)
    refine zok_ck (by decide) ?_
    refine zok_if (fun q16 => ?_) (fun q16 => ?_)
    · have h17 := zc_eql (1) (1) q16 (zr_rem (lo := 0) (hi := 1) 2 (by decide) h_x1 (by decide)) (zr_c (lo := 1) (hi := 1) (by decide)) (by decide)
      have h18 := z_odd64 h_x1 h17 (by decide)
      exact (s_X12_zero_306 hσ (zr_w (zr_c (lo := 1) (hi := 1) (by decide)) (by decide)) h_x3)
    have h19 := zc_nel (0) (0) q16 (zr_rem (lo := 0) (hi := 1) 2 (by decide) h_x1 (by decide)) (zr_c (lo := 1) (hi := 1) (by decide)) (by decide)
    exact (s_X12_zero_306 hσ (zr_w (zr_c (lo := 0) (hi := 0) (by decide)) (by decide)) h_x3)
  have h20 := zc_nel (3) (3) q14 h13 (zr_c (lo := 2) (hi := 2) (by decide)) (by decide)
  refine zok_pi (s_X12_rp hσ.P h_x3) (fun v12 h21 => ?_)
  refine zok_ck (by decide) ?_
  refine zok_if (fun q22 => ?_) (fun q22 => ?_)
  · have h23 := zc_eql (0) (0) q22 (zr_rem (lo := 0) (hi := 1) 2 (by decide) h_x1 (by decide)) (zr_c (lo := 0) (hi := 0) (by decide)) (by decide)
    exact (s_X12_zero_328 hσ (zr_w (zr_c (lo := 1) (hi := 1) (by decide)) (by decide)) h21 h_x3)
  have h24 := zc_nel (1) (1) q22 (zr_rem (lo := 0) (hi := 1) 2 (by decide) h_x1 (by decide)) (zr_c (lo := 0) (hi := 0) (by decide)) (by decide)
  have h25 := z_odd64 h_x1 h24 (by decide)
  exact (s_X12_zero_328 hσ (zr_w (zr_c (lo := -1) (hi := -1) (by decide)) (by decide)) h21 h_x3)
theorem s_X12_zero {G : Nat → Int} {σ : zSt} (hσ : zIM G σ) {x1 : Int32} (h_x1 : zr (0) (7) x1) {x2 : Int32} (h_x2 : zr (0) (3) x2) : zok (fX12_zero σ x1 x2) (zAi (zIM G) (fun v : Int32 => zr (4) (16) v)) := by
  unfold fX12_zero
  refine zok_br (zr_shr (lo := 0) (hi := 3) 1 (by decide) h_x1 (by decide)) (fun v20 e2 h1 => ?_)
  refine zok_if (fun q3 => ?_) (fun q3 => ?_)
  · have h4 := zc_eql (0) (0) q3 h_x2 (zr_c (lo := 0) (hi := 0) (by decide)) (by decide)
    refine zok_if (fun q5 => ?_) (fun q5 => ?_)
    · have h6 := zc_eql (0) (0) q5 h_x1 (zr_c (lo := 0) (hi := 0) (by decide)) (by decide)
      exact zok_sai hσ (zr_w (zr_c (lo := 4) (hi := 4) (by decide)) (by decide))
    have h7 := zc_nel (1) (7) q5 h_x1 (zr_c (lo := 0) (hi := 0) (by decide)) (by decide)
    refine zok_if (fun q8 => ?_) (fun q8 => ?_)
    · have h9 := zc_eql (1) (1) q8 h7 (zr_c (lo := 1) (hi := 1) (by decide)) (by decide)
      refine zok_bu (s_X12_change hσ (zr_w (zr_c (lo := 0) (hi := 0) (by decide)) (by decide)) (zr_w (zr_c (lo := 8) (hi := 8) (by decide)) (by decide))) (fun σ29 i10 => ?_)
      refine zok_bu (s_X12_change i10 (zr_w (zr_c (lo := 1) (hi := 1) (by decide)) (by decide)) (zr_w (zr_c (lo := 9) (hi := 9) (by decide)) (by decide))) (fun σ30 i11 => ?_)
      exact zok_sai i11 (zr_w (zr_c (lo := 4) (hi := 4) (by decide)) (by decide))
    have h12 := zc_nel (2) (7) q8 h7 (zr_c (lo := 1) (hi := 1) (by decide)) (by decide)
    refine zok_ai (s_X12_next hσ) (fun σ24 v25 i13 h14 => ?_)
    refine zok_pi (s_X12_signed i13.P h14) (fun v27 h15 => ?_)
    refine zok_if (fun q16 => ?_) (fun q16 => ?_)
    · have h17 := zc_eql (2) (2) q16 h12 (zr_c (lo := 2) (hi := 2) (by decide)) (by decide)
      refine zok_ck rfl ?_
      refine zok_ck rfl ?_
      refine zok_bs (i13.wi 2 2 (by decide) (zr_andr (lo := 0) (hi := 255) (zr_c (lo := 255) (hi := 255) (by decide)) (by decide)) (by decide +kernel)) (fun σ28 e19 i18 => ?_)
      exact (s_X12_zero_67 i18 (zr_w h17 (by decide)) h15)
    have h20 := zc_nel (3) (7) q16 h12 (zr_c (lo := 2) (hi := 2) (by decide)) (by decide)
    exact (s_X12_zero_67 i13 (zr_w h20 (by decide)) h15)
  have h21 := zc_nel (1) (3) q3 h_x2 (zr_c (lo := 0) (hi := 0) (by decide)) (by decide)
  refine zok_if (fun q22 => ?_) (fun q22 => ?_)
  · have h23 := zc_eql (1) (1) q22 h21 (zr_c (lo := 1) (hi := 1) (by decide)) (by decide)
    refine zok_ck (by decide) ?_
    refine zok_if (fun q24 => ?_) (fun q24 => ?_)
    · have h25 := zc_eql (0) (0) q24 (zr_rem (lo := 0) (hi := 1) 2 (by decide) h_x1 (by decide)) (zr_c (lo := 0) (hi := 0) (by decide)) (by decide)
      refine zok_ai (s_X12_nextWord hσ) (fun σ21 v22 i26 h27 => ?_)
      refine zok_bu (s_X12_rpTo i26 h1 (zr_w h27 (by decide))) (fun σ23 i28 => ?_)
      exact zok_sai i28 (zr_w (zr_c (lo := 10) (hi := 10) (by decide)) (by decide))
    have h29 := zc_nel (1) (1) q24 (zr_rem (lo := 0) (hi := 1) 2 (by decide) h_x1 (by decide)) (zr_c (lo := 0) (hi := 0) (by decide)) (by decide)
    have h30 := z_odd64 h_x1 h29 (by decide)
    exact (s_X12_zero_178 hσ h_x1 (zr_w h23 (by decide)) h1)
  have h31 := zc_nel (2) (3) q22 h21 (zr_c (lo := 1) (hi := 1) (by decide)) (by decide)
  exact (s_X12_zero_178 hσ h_x1 (zr_w h31 (by decide)) h1)
theorem s_X12_adjusts_130 {G : Nat → Int} {σ : zSt} (hσ : zIM G σ) {s0 : Int32} (h_s0 : zr (-102) (357) s0) {s1 : Int32} (h_s1 : zr (0) (0) s1) : zok (fX12_adjusts_130 σ s0 s1) (zIM G) := by
  unfold fX12_adjusts_130
  refine zok_ck (zin_ok h_s1 (by decide)) ?_
  refine zok_bs (hσ.wi 0 0 (z_ix h_s1 (by decide)) (zr_andr (lo := 0) (hi := 255) (zr_c (lo := 255) (hi := 255) (by decide)) (by decide)) (by decide +kernel)) (fun σ1 e2 i1 => ?_)
  refine zok_ck rfl ?_
  refine zok_bu (s_X12_by i1 (rM_11 i1.sg _ (by decide))) (fun σ2 i3 => ?_)
  refine zok_ck rfl ?_
  refine zok_pi (s_X12_isEven i3.P (rM_11 i3.sg _ (by decide))) (fun v4 h4 => ?_)
  refine zok_bu (s_X12_put i3 (zr_w (zr_c (lo := 2) (hi := 2) (by decide)) (by decide)) h4) (fun σ5 i5 => ?_)
  exact zok_some i5
theorem s_X12_adjusts_105 {G : Nat → Int} {σ : zSt} (hσ : zIM G σ) {x1 : Int32} (h_x1 : zr (0) (255) x1) {x2 : Int32} (h_x2 : zr (0) (102) x2) {s0 : Int32} (h_s0 : zr (0) (1) s0) {s1 : Int32} (h_s1 : zr (4) (4) s1) : zok (fX12_adjusts_105 σ x1 x2 s0 s1) (zIM G) := by
  unfold fX12_adjusts_105
  refine zok_bu (s_X12_put hσ (zr_w h_s1 (by decide)) h_s0) (fun σ6 i1 => ?_)
  refine zok_pi (s_X12_flag i1.P (zr_w (zr_c (lo := 1) (hi := 1) (by decide)) (by decide))) (fun v8 h2 => ?_)
  refine zok_if (fun q3 => ?_) (fun q3 => ?_)
  · have h4 := zc_eql (0) (0) q3 h2 (zr_c (lo := 0) (hi := 0) (by decide)) (by decide)
    exact (s_X12_adjusts_130 i1 (zr_w (zr_add (lo := 0) (hi := 357) h_x1 h_x2 (by decide)) (by decide)) (zr_c (lo := 0) (hi := 0) (by decide)))
  have h5 := zc_nel (1) (1) q3 h2 (zr_c (lo := 0) (hi := 0) (by decide)) (by decide)
  exact (s_X12_adjusts_130 i1 (zr_w (zr_sub (lo := -102) (hi := 255) h_x1 h_x2 (by decide)) (by decide)) (zr_c (lo := 0) (hi := 0) (by decide)))
theorem s_X12_adjusts_104 {G : Nat → Int} {σ : zSt} (hσ : zIM G σ) {x1 : Int32} (h_x1 : zr (0) (255) x1) {x2 : Int32} (h_x2 : zr (0) (102) x2) {s0 : Int32} (h_s0 : zr (4) (4) s0) : zok (fX12_adjusts_104 σ x1 x2 s0) (zIM G) := by
  unfold fX12_adjusts_104
  exact (s_X12_adjusts_105 hσ h_x1 h_x2 (zr_w (zr_c (lo := 0) (hi := 0) (by decide)) (by decide)) h_s0)
theorem s_X12_adjusts_55 {G : Nat → Int} {σ : zSt} (hσ : zIM G σ) {x1 : Int32} (h_x1 : zr (0) (255) x1) {x2 : Int32} (h_x2 : zr (0) (102) x2) : zok (fX12_adjusts_55 σ x1 x2) (zIM G) := by
  unfold fX12_adjusts_55
  refine zok_pi (s_X12_flag hσ.P (zr_w (zr_c (lo := 1) (hi := 1) (by decide)) (by decide))) (fun v10 h1 => ?_)
  refine zok_if (fun q2 => ?_) (fun q2 => ?_)
  · have h3 := zc_eql (0) (0) q2 h1 (zr_c (lo := 0) (hi := 0) (by decide)) (by decide)
    refine zok_if (fun q4 => ?_) (fun q4 => ?_)
    · have h5 := zc_lel (9) q4 (zr_andr (lo := 0) (hi := 15) (zr_c (lo := 15) (hi := 15) (by decide)) (by decide)) (zr_c (lo := 9) (hi := 9) (by decide)) (by decide)
      exact (s_X12_adjusts_105 hσ h_x1 h_x2 (zr_w (zr_c (lo := 0) (hi := 0) (by decide)) (by decide)) (zr_c (lo := 4) (hi := 4) (by decide)))
    have h6 := zc_ltr (10) (z_nle q4) (zr_c (lo := 9) (hi := 9) (by decide)) (zr_andr (lo := 0) (hi := 15) (zr_c (lo := 15) (hi := 15) (by decide)) (by decide)) (by decide)
    exact (s_X12_adjusts_105 hσ h_x1 h_x2 (zr_w (zr_c (lo := 1) (hi := 1) (by decide)) (by decide)) (zr_c (lo := 4) (hi := 4) (by decide)))
  have h7 := zc_nel (1) (1) q2 h1 (zr_c (lo := 0) (hi := 0) (by decide)) (by decide)
  refine zok_pi (s_X12_flag hσ.P (zr_w (zr_c (lo := 4) (hi := 4) (by decide)) (by decide))) (fun v12 h8 => ?_)
  refine zok_if (fun q9 => ?_) (fun q9 => ?_)
  · have h10 := zc_eql (1) (1) q9 h8 (zr_c (lo := 1) (hi := 1) (by decide)) (by decide)
    refine zok_if (fun q11 => ?_) (fun q11 => ?_)
    · have h12 := zc_ler (6) q11 (zr_c (lo := 6) (hi := 6) (by decide)) (zr_andr (lo := 0) (hi := 15) (zr_c (lo := 15) (hi := 15) (by decide)) (by decide)) (by decide)
      exact (s_X12_adjusts_104 hσ h_x1 h_x2 (zr_c (lo := 4) (hi := 4) (by decide)))
    have h13 := zc_ltl (5) (z_nle q11) (zr_andr (lo := 0) (hi := 15) (zr_c (lo := 15) (hi := 15) (by decide)) (by decide)) (zr_c (lo := 6) (hi := 6) (by decide)) (by decide)
    exact (s_X12_adjusts_105 hσ h_x1 h_x2 (zr_w (zr_c (lo := 1) (hi := 1) (by decide)) (by decide)) (zr_c (lo := 4) (hi := 4) (by decide)))
  have h14 := zc_nel (0) (0) q9 h8 (zr_c (lo := 1) (hi := 1) (by decide)) (by decide)
  exact (s_X12_adjusts_104 hσ h_x1 h_x2 (zr_c (lo := 4) (hi := 4) (by decide)))
theorem s_X12_adjusts_46 {G : Nat → Int} {σ : zSt} (hσ : zIM G σ) {x1 : Int32} (h_x1 : zr (0) (255) x1) {x2 : Int32} (h_x2 : zr (0) (6) x2) : zok (fX12_adjusts_46 σ x1 x2) (zIM G) := by
  unfold fX12_adjusts_46
  refine zok_br (zr_add (lo := 96) (hi := 102) h_x2 (zr_c (lo := 96) (hi := 96) (by decide)) (by decide)) (fun v13 e2 h1 => ?_)
  refine zok_bu (s_X12_put hσ (zr_w (zr_c (lo := 0) (hi := 0) (by decide)) (by decide)) (zr_w (zr_c (lo := 1) (hi := 1) (by decide)) (by decide))) (fun σ14 i3 => ?_)
  exact (s_X12_adjusts_55 i3 h_x1 (zr_w h1 (by decide)))
theorem s_X12_adjusts_30 {G : Nat → Int} {σ : zSt} (hσ : zIM G σ) {x1 : Int32} (h_x1 : zr (0) (255) x1) {x2 : Int32} (h_x2 : zr (0) (6) x2) : zok (fX12_adjusts_30 σ x1 x2) (zIM G) := by
  unfold fX12_adjusts_30
  refine zok_if (fun q1 => ?_) (fun q1 => ?_)
  · have h2 := zc_ltr (154) q1 (zr_c (lo := 153) (hi := 153) (by decide)) h_x1 (by decide)
    exact (s_X12_adjusts_46 hσ (zr_w h2 (by decide)) h_x2)
  have h3 := zc_lel (153) (z_nlt q1) h_x1 (zr_c (lo := 153) (hi := 153) (by decide)) (by decide)
  refine zok_pi (s_X12_flag hσ.P (zr_w (zr_c (lo := 0) (hi := 0) (by decide)) (by decide))) (fun v16 h4 => ?_)
  refine zok_if (fun q5 => ?_) (fun q5 => ?_)
  · have h6 := zc_eql (1) (1) q5 h4 (zr_c (lo := 1) (hi := 1) (by decide)) (by decide)
    exact (s_X12_adjusts_46 hσ (zr_w h3 (by decide)) h_x2)
  have h7 := zc_nel (0) (0) q5 h4 (zr_c (lo := 1) (hi := 1) (by decide)) (by decide)
  exact (s_X12_adjusts_55 hσ (zr_w h3 (by decide)) (zr_w h_x2 (by decide)))
theorem s_X12_adjusts_27 {G : Nat → Int} {σ : zSt} (hσ : zIM G σ) {x1 : Int32} (h_x1 : zr (0) (255) x1) {x2 : Int32} (h_x2 : zr (0) (0) x2) : zok (fX12_adjusts_27 σ x1 x2) (zIM G) := by
  unfold fX12_adjusts_27
  refine zok_br (zr_add (lo := 6) (hi := 6) h_x2 (zr_c (lo := 6) (hi := 6) (by decide)) (by decide)) (fun v17 e2 h1 => ?_)
  exact (s_X12_adjusts_30 hσ h_x1 (zr_w h1 (by decide)))
theorem s_X12_adjusts {G : Nat → Int} {σ : zSt} (hσ : zIM G σ) : zok (fX12_adjusts σ ) (zIM G) := by
  unfold fX12_adjusts
  refine zok_ck rfl ?_
  refine zok_br (rM_11 hσ.sg _ (by decide)) (fun v18 e2 h1 => ?_)
  refine zok_if (fun q3 => ?_) (fun q3 => ?_)
  · have h4 := zc_ltr (10) q3 (zr_c (lo := 9) (hi := 9) (by decide)) (zr_andr (lo := 0) (hi := 15) (zr_c (lo := 15) (hi := 15) (by decide)) (by decide)) (by decide)
    exact (s_X12_adjusts_27 hσ h1 (zr_c (lo := 0) (hi := 0) (by decide)))
  have h5 := zc_lel (9) (z_nlt q3) (zr_andr (lo := 0) (hi := 15) (zr_c (lo := 15) (hi := 15) (by decide)) (by decide)) (zr_c (lo := 9) (hi := 9) (by decide)) (by decide)
  refine zok_pi (s_X12_flag hσ.P (zr_w (zr_c (lo := 4) (hi := 4) (by decide)) (by decide))) (fun v20 h6 => ?_)
  refine zok_if (fun q7 => ?_) (fun q7 => ?_)
  · have h8 := zc_eql (1) (1) q7 h6 (zr_c (lo := 1) (hi := 1) (by decide)) (by decide)
    exact (s_X12_adjusts_27 hσ h1 (zr_c (lo := 0) (hi := 0) (by decide)))
  have h9 := zc_nel (0) (0) q7 h6 (zr_c (lo := 1) (hi := 1) (by decide)) (by decide)
  exact (s_X12_adjusts_30 hσ h1 (zr_w (zr_c (lo := 0) (hi := 0) (by decide)) (by decide)))
theorem s_X12_singles_28 {σ : zSt} (hσ : zPM σ) {s0 : Int32} (h_s0 : zr (7) (10) s0) : zok (fX12_singles_28 σ s0) (zPi σ (fun v : Int32 => zr (4) (11) v)) := by
  unfold fX12_singles_28
  exact zok_spi (zr_w h_s0 (by decide))
theorem s_X12_singles_149 {σ : zSt} (hσ : zPM σ) {s0 : Int32} (h_s0 : zr (4) (11) s0) : zok (fX12_singles_149 σ s0) (zPi σ (fun v : Int32 => zr (4) (11) v)) := by
  unfold fX12_singles_149
  exact zok_spi h_s0
theorem s_X12_singles_134 {G : Nat → Int} {σ : zSt} (hσ : zIM G σ) {x1 : Int32} (h_x1 : zr (0) (7) x1) {s0 : Int32} (h_s0 : zr (0) (1) s0) {s1 : Int32} (h_s1 : zr (1) (1) s1) : zok (fX12_singles_134 σ x1 s0 s1) (zAi (zIM G) (fun v : Int32 => zr (4) (11) v)) := by
  unfold fX12_singles_134
  refine zok_bu (s_X12_put hσ (zr_w h_s1 (by decide)) h_s0) (fun σ1 i1 => ?_)
  refine zok_if (fun q2 => ?_) (fun q2 => ?_)
  · have h3 := zc_eql (6) (6) q2 h_x1 (zr_c (lo := 6) (hi := 6) (by decide)) (by decide)
    exact zok_pai i1 (s_X12_singles_149 i1.P (zr_w (zr_c (lo := 11) (hi := 11) (by decide)) (by decide)))
  exact zok_pai i1 (s_X12_singles_149 i1.P (zr_w (zr_c (lo := 4) (hi := 4) (by decide)) (by decide)))
theorem s_X12_singles_119 {G : Nat → Int} {σ : zSt} (hσ : zIM G σ) {x1 : Int32} (h_x1 : zr (0) (7) x1) {x2 : Int32} (h_x2 : zr (4) (5) x2) {s0 : Int32} (h_s0 : zr (0) (1) s0) {s1 : Int32} (h_s1 : zr (2) (2) s1) : zok (fX12_singles_119 σ x1 x2 s0 s1) (zAi (zIM G) (fun v : Int32 => zr (4) (11) v)) := by
  unfold fX12_singles_119
  refine zok_bu (s_X12_put hσ (zr_w h_s1 (by decide)) h_s0) (fun σ2 i1 => ?_)
  refine zok_if (fun q2 => ?_) (fun q2 => ?_)
  · have h3 := zc_eql (5) (5) q2 h_x2 (zr_c (lo := 5) (hi := 5) (by decide)) (by decide)
    exact (s_X12_singles_134 i1 h_x1 (zr_w (zr_c (lo := 1) (hi := 1) (by decide)) (by decide)) (zr_c (lo := 1) (hi := 1) (by decide)))
  have h4 := zc_nel (4) (4) q2 h_x2 (zr_c (lo := 5) (hi := 5) (by decide)) (by decide)
  exact (s_X12_singles_134 i1 h_x1 (zr_w (zr_c (lo := 0) (hi := 0) (by decide)) (by decide)) (zr_c (lo := 1) (hi := 1) (by decide)))
theorem s_X12_singles_111 {G : Nat → Int} {σ : zSt} (hσ : zIM G σ) {x1 : Int32} (h_x1 : zr (0) (7) x1) {x2 : Int32} (h_x2 : zr (4) (5) x2) {s0 : Int32} (h_s0 : zr (127) (128) s0) {s1 : Int32} (h_s1 : zr (0) (255) s1) {s2 : Int32} (h_s2 : zr (2) (2) s2) : zok (fX12_singles_111 σ x1 x2 s0 s1 s2) (zAi (zIM G) (fun v : Int32 => zr (4) (11) v)) := by
  unfold fX12_singles_111
  refine zok_if (fun q1 => ?_) (fun q1 => ?_)
  · have h2 := zc_eql (127) (128) q1 h_s1 h_s0 (by decide)
    exact (s_X12_singles_119 hσ h_x1 h_x2 (zr_w (zr_c (lo := 1) (hi := 1) (by decide)) (by decide)) h_s2)
  exact (s_X12_singles_119 hσ h_x1 h_x2 (zr_w (zr_c (lo := 0) (hi := 0) (by decide)) (by decide)) h_s2)
theorem s_X12_singles_92 {G : Nat → Int} {σ : zSt} (hσ : zIM G σ) {x1 : Int32} (h_x1 : zr (0) (7) x1) {x2 : Int32} (h_x2 : zr (4) (5) x2) {x3 : Int32} (h_x3 : zr (0) (255) x3) {s0 : Int32} (h_s0 : zr (0) (1) s0) {s1 : Int32} (h_s1 : zr (4) (4) s1) : zok (fX12_singles_92 σ x1 x2 x3 s0 s1) (zAi (zIM G) (fun v : Int32 => zr (4) (11) v)) := by
  unfold fX12_singles_92
  refine zok_bu (s_X12_put hσ (zr_w h_s1 (by decide)) h_s0) (fun σ3 i1 => ?_)
  refine zok_if (fun q2 => ?_) (fun q2 => ?_)
  · have h3 := zc_eql (4) (4) q2 h_x2 (zr_c (lo := 4) (hi := 4) (by decide)) (by decide)
    exact (s_X12_singles_111 i1 h_x1 (zr_w h3 (by decide)) (zr_w (zr_c (lo := 128) (hi := 128) (by decide)) (by decide)) h_x3 (zr_c (lo := 2) (hi := 2) (by decide)))
  have h4 := zc_nel (5) (5) q2 h_x2 (zr_c (lo := 4) (hi := 4) (by decide)) (by decide)
  exact (s_X12_singles_111 i1 h_x1 (zr_w h4 (by decide)) (zr_w (zr_c (lo := 127) (hi := 127) (by decide)) (by decide)) h_x3 (zr_c (lo := 2) (hi := 2) (by decide)))
theorem s_X12_singles_84 {G : Nat → Int} {σ : zSt} (hσ : zIM G σ) {x1 : Int32} (h_x1 : zr (0) (7) x1) {x2 : Int32} (h_x2 : zr (4) (5) x2) {x3 : Int32} (h_x3 : zr (0) (255) x3) {s0 : Int32} (h_s0 : zr (0) (15) s0) {s1 : Int32} (h_s1 : zr (0) (15) s1) {s2 : Int32} (h_s2 : zr (4) (4) s2) : zok (fX12_singles_84 σ x1 x2 x3 s0 s1 s2) (zAi (zIM G) (fun v : Int32 => zr (4) (11) v)) := by
  unfold fX12_singles_84
  refine zok_if (fun q1 => ?_) (fun q1 => ?_)
  · exact (s_X12_singles_92 hσ h_x1 h_x2 h_x3 (zr_w (zr_c (lo := 1) (hi := 1) (by decide)) (by decide)) h_s2)
  exact (s_X12_singles_92 hσ h_x1 h_x2 h_x3 (zr_w (zr_c (lo := 0) (hi := 0) (by decide)) (by decide)) h_s2)
theorem s_X12_singles_50 {G : Nat → Int} {σ : zSt} (hσ : zIM G σ) {x1 : Int32} (h_x1 : zr (0) (7) x1) {x2 : Int32} (h_x2 : zr (4) (5) x2) {s0 : Int32} (h_s0 : zr (-1) (1) s0) {s1 : Int32} (h_s1 : zr (0) (255) s1) : zok (fX12_singles_50 σ x1 x2 s0 s1) (zAi (zIM G) (fun v : Int32 => zr (4) (11) v)) := by
  unfold fX12_singles_50
  refine zok_br (zr_andr (lo := 0) (hi := 255) (zr_c (lo := 255) (hi := 255) (by decide)) (by decide)) (fun v4 e2 h1 => ?_)
  refine zok_bu (s_X12_rTo hσ h_x1) (fun σ5 i3 => ?_)
  refine zok_bu (s_X12_by i3 h1) (fun σ6 i4 => ?_)
  refine zok_if (fun q5 => ?_) (fun q5 => ?_)
  · have h6 := zc_eql (4) (4) q5 h_x2 (zr_c (lo := 4) (hi := 4) (by decide)) (by decide)
    exact (s_X12_singles_84 i4 h_x1 (zr_w h6 (by decide)) h1 (zr_w (zr_c (lo := 0) (hi := 0) (by decide)) (by decide)) (zr_andr (lo := 0) (hi := 15) (zr_c (lo := 15) (hi := 15) (by decide)) (by decide)) (zr_c (lo := 4) (hi := 4) (by decide)))
  have h7 := zc_nel (5) (5) q5 h_x2 (zr_c (lo := 4) (hi := 4) (by decide)) (by decide)
  exact (s_X12_singles_84 i4 h_x1 (zr_w h7 (by decide)) h1 (zr_w (zr_c (lo := 15) (hi := 15) (by decide)) (by decide)) (zr_andr (lo := 0) (hi := 15) (zr_c (lo := 15) (hi := 15) (by decide)) (by decide)) (zr_c (lo := 4) (hi := 4) (by decide)))
theorem s_X12_singles_316 {σ : zSt} (hσ : zPM σ) : zok (fX12_singles_316 σ ) (zPi σ (fun v : Int32 => zr (4) (11) v)) := by
  unfold fX12_singles_316
  exact zok_spi (zr_w (zr_c (lo := 4) (hi := 4) (by decide)) (by decide))
theorem s_X12_singles_297 {G : Nat → Int} {σ : zSt} (hσ : zIM G σ) {s0 : Int32} (h_s0 : zr (0) (1) s0) {s1 : Int32} (h_s1 : zr (0) (0) s1) : zok (fX12_singles_297 σ s0 s1) (zAi (zIM G) (fun v : Int32 => zr (4) (11) v)) := by
  unfold fX12_singles_297
  refine zok_bu (s_X12_put hσ (zr_w h_s1 (by decide)) h_s0) (fun σ7 i1 => ?_)
  refine zok_bu (s_X12_put i1 (zr_w (zr_c (lo := 1) (hi := 1) (by decide)) (by decide)) (zr_w (zr_c (lo := 0) (hi := 0) (by decide)) (by decide))) (fun σ8 i2 => ?_)
  refine zok_ck rfl ?_
  refine zok_bu (s_X12_xy i2 (zr_w (rM_11 i2.sg _ (by decide)) (by decide))) (fun σ9 i3 => ?_)
  exact zok_pai i3 (s_X12_singles_316 i3.P)
theorem s_X12_singles_292 {G : Nat → Int} {σ : zSt} (hσ : zIM G σ) {s0 : Int32} (h_s0 : zr (0) (0) s0) : zok (fX12_singles_292 σ s0) (zAi (zIM G) (fun v : Int32 => zr (4) (11) v)) := by
  unfold fX12_singles_292
  exact (s_X12_singles_297 hσ (zr_w (zr_c (lo := 1) (hi := 1) (by decide)) (by decide)) h_s0)
theorem s_X12_singles_273 {G : Nat → Int} {σ : zSt} (hσ : zIM G σ) {x1 : Int32} (h_x1 : zr (6) (7) x1) {s0 : Int32} (h_s0 : zr (0) (1) s0) {s1 : Int32} (h_s1 : zr (4) (4) s1) : zok (fX12_singles_273 σ x1 s0 s1) (zAi (zIM G) (fun v : Int32 => zr (4) (11) v)) := by
  unfold fX12_singles_273
  refine zok_bu (s_X12_put hσ (zr_w h_s1 (by decide)) h_s0) (fun σ10 i1 => ?_)
  refine zok_if (fun q2 => ?_) (fun q2 => ?_)
  · have h3 := zc_eql (6) (6) q2 h_x1 (zr_c (lo := 6) (hi := 6) (by decide)) (by decide)
    exact (s_X12_singles_292 i1 (zr_c (lo := 0) (hi := 0) (by decide)))
  have h4 := zc_nel (7) (7) q2 h_x1 (zr_c (lo := 6) (hi := 6) (by decide)) (by decide)
  refine zok_pi (s_X12_flag i1.P (zr_w (zr_c (lo := 0) (hi := 0) (by decide)) (by decide))) (fun v12 h5 => ?_)
  refine zok_if (fun q6 => ?_) (fun q6 => ?_)
  · have h7 := zc_eql (0) (0) q6 h5 (zr_c (lo := 0) (hi := 0) (by decide)) (by decide)
    exact (s_X12_singles_292 i1 (zr_c (lo := 0) (hi := 0) (by decide)))
  have h8 := zc_nel (1) (1) q6 h5 (zr_c (lo := 0) (hi := 0) (by decide)) (by decide)
  exact (s_X12_singles_297 i1 (zr_w (zr_c (lo := 0) (hi := 0) (by decide)) (by decide)) (zr_c (lo := 0) (hi := 0) (by decide)))
theorem s_X12_singles_272 {G : Nat → Int} {σ : zSt} (hσ : zIM G σ) {x1 : Int32} (h_x1 : zr (6) (7) x1) {s0 : Int32} (h_s0 : zr (4) (4) s0) : zok (fX12_singles_272 σ x1 s0) (zAi (zIM G) (fun v : Int32 => zr (4) (11) v)) := by
  unfold fX12_singles_272
  exact (s_X12_singles_273 hσ h_x1 (zr_w (zr_c (lo := 0) (hi := 0) (by decide)) (by decide)) h_s0)
theorem s_X12_singles {G : Nat → Int} {σ : zSt} (hσ : zIM G σ) {x1 : Int32} (h_x1 : zr (0) (7) x1) {x2 : Int32} (h_x2 : zr (4) (7) x2) : zok (fX12_singles σ x1 x2) (zAi (zIM G) (fun v : Int32 => zr (4) (11) v)) := by
  unfold fX12_singles
  refine zok_if (fun q1 => ?_) (fun q1 => ?_)
  · have h2 := zc_eql (6) (6) q1 h_x2 (zr_c (lo := 6) (hi := 6) (by decide)) (by decide)
    refine zok_ai (s_X12_next hσ) (fun σ28 v29 i3 h4 => ?_)
    refine zok_bu (s_X12_rTo i3 h_x1) (fun σ30 i5 => ?_)
    refine zok_if (fun q6 => ?_) (fun q6 => ?_)
    · have h7 := zc_eql (6) (6) q6 h_x1 (zr_c (lo := 6) (hi := 6) (by decide)) (by decide)
      exact zok_pai i5 (s_X12_singles_28 i5.P (zr_w (zr_c (lo := 10) (hi := 10) (by decide)) (by decide)))
    exact zok_pai i5 (s_X12_singles_28 i5.P (zr_w (zr_c (lo := 7) (hi := 7) (by decide)) (by decide)))
  refine zok_if (fun q8 => ?_) (fun q8 => ?_)
  · have h9 := zc_ler (6) q8 (zr_c (lo := 6) (hi := 6) (by decide)) h_x2 (by decide)
    refine zok_if (fun q10 => ?_) (fun q10 => ?_)
    · have h11 := zc_ler (4) q10 (zr_c (lo := 4) (hi := 4) (by decide)) h_x1 (by decide)
      refine zok_if (fun q12 => ?_) (fun q12 => ?_)
      · have h13 := zc_eql (4) (4) q12 h11 (zr_c (lo := 4) (hi := 4) (by decide)) (by decide)
        refine zok_bu (s_X12_adjusts hσ) (fun σ19 i14 => ?_)
        exact zok_pai i14 (s_X12_singles_316 i14.P)
      have h15 := zc_nel (5) (7) q12 h11 (zr_c (lo := 4) (hi := 4) (by decide)) (by decide)
      refine zok_if (fun q16 => ?_) (fun q16 => ?_)
      · have h17 := zc_eql (5) (5) q16 h15 (zr_c (lo := 5) (hi := 5) (by decide)) (by decide)
        refine zok_ck rfl ?_
        refine zok_ck rfl ?_
        refine zok_bs (hσ.wi 0 0 (by decide) (zr_xor (lo := 0) (hi := 255) 8 (rM_11 hσ.sg _ (by decide)) (zr_c (lo := 255) (hi := 255) (by decide)) (by decide)) (by decide +kernel)) (fun σ15 e19 i18 => ?_)
        refine zok_bu (s_X12_put i18 (zr_w (zr_c (lo := 4) (hi := 4) (by decide)) (by decide)) (zr_w (zr_c (lo := 1) (hi := 1) (by decide)) (by decide))) (fun σ16 i20 => ?_)
        refine zok_bu (s_X12_put i20 (zr_w (zr_c (lo := 1) (hi := 1) (by decide)) (by decide)) (zr_w (zr_c (lo := 1) (hi := 1) (by decide)) (by decide))) (fun σ17 i21 => ?_)
        refine zok_ck rfl ?_
        refine zok_bu (s_X12_xy i21 (zr_w (rM_11 i21.sg _ (by decide)) (by decide))) (fun σ18 i22 => ?_)
        exact zok_pai i22 (s_X12_singles_316 i22.P)
      have h23 := zc_nel (6) (7) q16 h15 (zr_c (lo := 5) (hi := 5) (by decide)) (by decide)
      refine zok_if (fun q24 => ?_) (fun q24 => ?_)
      · have h25 := zc_eql (7) (7) q24 h23 (zr_c (lo := 7) (hi := 7) (by decide)) (by decide)
        refine zok_pi (s_X12_flag hσ.P (zr_w (zr_c (lo := 0) (hi := 0) (by decide)) (by decide))) (fun v14 h26 => ?_)
        refine zok_if (fun q27 => ?_) (fun q27 => ?_)
        · have h28 := zc_eql (1) (1) q27 h26 (zr_c (lo := 1) (hi := 1) (by decide)) (by decide)
          exact (s_X12_singles_273 hσ (zr_w h25 (by decide)) (zr_w (zr_c (lo := 1) (hi := 1) (by decide)) (by decide)) (zr_c (lo := 4) (hi := 4) (by decide)))
        have h29 := zc_nel (0) (0) q27 h26 (zr_c (lo := 1) (hi := 1) (by decide)) (by decide)
        exact (s_X12_singles_272 hσ (zr_w h25 (by decide)) (zr_c (lo := 4) (hi := 4) (by decide)))
      have h30 := zc_nel (6) (6) q24 h23 (zr_c (lo := 7) (hi := 7) (by decide)) (by decide)
      exact (s_X12_singles_272 hσ (zr_w h30 (by decide)) (zr_c (lo := 4) (hi := 4) (by decide)))
    have h31 := zc_ltl (3) (z_nle q10) h_x1 (zr_c (lo := 4) (hi := 4) (by decide)) (by decide)
    refine zok_ck rfl ?_
    refine zok_ai (s_X12_turned hσ (zr_w h31 (by decide)) (rM_11 hσ.sg _ (by decide))) (fun σ20 v21 i32 h33 => ?_)
    refine zok_ck rfl ?_
    refine zok_bs (i32.wi 0 0 (by decide) h33 (by decide +kernel)) (fun σ22 e35 i34 => ?_)
    refine zok_ck rfl ?_
    refine zok_bu (s_X12_xy i34 (zr_w (rM_11 i34.sg _ (by decide)) (by decide))) (fun σ23 i36 => ?_)
    refine zok_bu (s_X12_put i36 (zr_w (zr_c (lo := 4) (hi := 4) (by decide)) (by decide)) (zr_w (zr_c (lo := 0) (hi := 0) (by decide)) (by decide))) (fun σ24 i37 => ?_)
    refine zok_bu (s_X12_put i37 (zr_w (zr_c (lo := 1) (hi := 1) (by decide)) (by decide)) (zr_w (zr_c (lo := 0) (hi := 0) (by decide)) (by decide))) (fun σ25 i38 => ?_)
    exact zok_pai i38 (s_X12_singles_316 i38.P)
  have h39 := zc_ltl (5) (z_nle q8) h_x2 (zr_c (lo := 6) (hi := 6) (by decide)) (by decide)
  refine zok_pi (s_X12_r hσ.P h_x1) (fun v27 h40 => ?_)
  refine zok_if (fun q41 => ?_) (fun q41 => ?_)
  · have h42 := zc_eql (4) (4) q41 h39 (zr_c (lo := 4) (hi := 4) (by decide)) (by decide)
    exact (s_X12_singles_50 hσ h_x1 (zr_w h42 (by decide)) (zr_w (zr_c (lo := 1) (hi := 1) (by decide)) (by decide)) h40)
  have h43 := zc_nel (5) (5) q41 h39 (zr_c (lo := 4) (hi := 4) (by decide)) (by decide)
  exact (s_X12_singles_50 hσ h_x1 (zr_w h43 (by decide)) (zr_w (zr_c (lo := -1) (hi := -1) (by decide)) (by decide)) h40)
theorem s_X12_plain_r1_160 {σ : zSt} (hσ : zPM σ) {s0 : Int32} (h_s0 : zr (4) (23) s0) : zok (fX12_plain_r1_160 σ s0) (zPi σ (fun v : Int32 => zr (4) (23) v)) := by
  unfold fX12_plain_r1_160
  exact zok_spi h_s0
theorem s_X12_plain_r1_139 {σ : zSt} (hσ : zPM σ) {s0 : Int32} (h_s0 : zr (4) (7) s0) : zok (fX12_plain_r1_139 σ s0) (zPi σ (fun v : Int32 => zr (4) (23) v)) := by
  unfold fX12_plain_r1_139
  exact zok_spi (zr_w h_s0 (by decide))
theorem s_X12_plain_r1_116 {σ : zSt} (hσ : zPM σ) {s0 : Int32} (h_s0 : zr (4) (7) s0) : zok (fX12_plain_r1_116 σ s0) (zPi σ (fun v : Int32 => zr (4) (23) v)) := by
  unfold fX12_plain_r1_116
  exact zok_spi (zr_w h_s0 (by decide))
theorem s_X12_plain_r1_115 {σ : zSt} (hσ : zPM σ) : zok (fX12_plain_r1_115 σ ) (zPi σ (fun v : Int32 => zr (4) (23) v)) := by
  unfold fX12_plain_r1_115
  exact (s_X12_plain_r1_116 hσ (zr_w (zr_c (lo := 4) (hi := 4) (by decide)) (by decide)))
theorem s_X12_plain_r1_110 {σ : zSt} (hσ : zPM σ) : zok (fX12_plain_r1_110 σ ) (zPi σ (fun v : Int32 => zr (4) (23) v)) := by
  unfold fX12_plain_r1_110
  exact (s_X12_plain_r1_116 hσ (zr_w (zr_c (lo := 7) (hi := 7) (by decide)) (by decide)))
theorem s_X12_plain_r1_92 {σ : zSt} (hσ : zPM σ) {x1 : Int32} (h_x1 : zr (0) (255) x1) {x2 : Int32} (h_x2 : zr (0) (7) x2) {x3 : Int32} (h_x3 : zr (0) (7) x3) : zok (fX12_plain_r1_92 σ x1 x2 x3) (zPi σ (fun v : Int32 => zr (4) (23) v)) := by
  unfold fX12_plain_r1_92
  refine zok_if (fun q1 => ?_) (fun q1 => ?_)
  · have h2 := zc_eql (118) (118) q1 h_x1 (zr_c (lo := 118) (hi := 118) (by decide)) (by decide)
    exact (s_X12_plain_r1_115 hσ)
  refine zok_if (fun q3 => ?_) (fun q3 => ?_)
  · have h4 := zc_eql (6) (6) q3 h_x2 (zr_c (lo := 6) (hi := 6) (by decide)) (by decide)
    exact (s_X12_plain_r1_110 hσ)
  refine zok_if (fun q5 => ?_) (fun q5 => ?_)
  · have h6 := zc_eql (6) (6) q5 h_x3 (zr_c (lo := 6) (hi := 6) (by decide)) (by decide)
    exact (s_X12_plain_r1_110 hσ)
  exact (s_X12_plain_r1_115 hσ)
theorem s_X12_plain_r1_64 {σ : zSt} (hσ : zPM σ) {s0 : Int32} (h_s0 : zr (4) (16) s0) : zok (fX12_plain_r1_64 σ s0) (zPi σ (fun v : Int32 => zr (4) (23) v)) := by
  unfold fX12_plain_r1_64
  exact zok_spi (zr_w h_s0 (by decide))
theorem s_X12_plain_r1 {G : Nat → Int} {σ : zSt} (hσ : zIM G σ) {x1 : Int32} (h_x1 : zr (0) (255) x1) (nP : ¬ x1 = 221 ∧ ¬ x1 = 253) : zok (fX12_plain_r1 σ x1) (zAi (zIM G) (fun v : Int32 => zr (4) (23) v)) := by
  unfold fX12_plain_r1
  refine zok_br (zr_andr (lo := 0) (hi := 7) (zr_c (lo := 7) (hi := 7) (by decide)) (by decide)) (fun v1 e2 h1 => ?_)
  refine zok_br (zr_andr (lo := 0) (hi := 7) (zr_c (lo := 7) (hi := 7) (by decide)) (by decide)) (fun v2 e4 h3 => ?_)
  refine zok_if (fun q5 => ?_) (fun q5 => ?_)
  · have h6 := zc_eql (0) (0) q5 (zr_shr (lo := 0) (hi := 3) 6 (by decide) h_x1 (by decide)) (zr_c (lo := 0) (hi := 0) (by decide)) (by decide)
    refine zok_if (fun q7 => ?_) (fun q7 => ?_)
    · have h8 := zc_ler (4) q7 (zr_c (lo := 4) (hi := 4) (by decide)) h3 (by decide)
      refine zok_ai (s_X12_singles hσ h1 h8) (fun σ3 v4 i9 h10 => ?_)
      exact zok_pai i9 (s_X12_plain_r1_64 i9.P (zr_w h10 (by decide)))
    have h11 := zc_ltl (3) (z_nle q7) h3 (zr_c (lo := 4) (hi := 4) (by decide)) (by decide)
    refine zok_ai (s_X12_zero hσ h1 h11) (fun σ5 v6 i12 h13 => ?_)
    exact zok_pai i12 (s_X12_plain_r1_64 i12.P h13)
  have h14 := zc_nel (1) (3) q5 (zr_shr (lo := 0) (hi := 3) 6 (by decide) h_x1 (by decide)) (zr_c (lo := 0) (hi := 0) (by decide)) (by decide)
  refine zok_if (fun q15 => ?_) (fun q15 => ?_)
  · have h16 := zc_eql (1) (1) q15 h14 (zr_c (lo := 1) (hi := 1) (by decide)) (by decide)
    refine zok_if (fun q17 => ?_) (fun q17 => ?_)
    · have h18 := zc_eql (118) (118) q17 h_x1 (zr_c (lo := 118) (hi := 118) (by decide)) (by decide)
      refine zok_ck rfl ?_
      refine zok_bs (hσ.wi 26 26 (by decide) (zr_c (lo := 1) (hi := 1) (by decide)) (by decide +kernel)) (fun σ10 e20 i19 => ?_)
      exact zok_pai i19 (s_X12_plain_r1_92 i19.P (zr_w h18 (by decide)) h1 h3)
    refine zok_pi (s_X12_r hσ.P h3) (fun v8 h21 => ?_)
    refine zok_bu (s_X12_rTo hσ h1) (fun σ9 i22 => ?_)
    exact zok_pai i22 (s_X12_plain_r1_92 i22.P h_x1 h1 h3)
  have h23 := zc_nel (2) (3) q15 h14 (zr_c (lo := 1) (hi := 1) (by decide)) (by decide)
  refine zok_if (fun q24 => ?_) (fun q24 => ?_)
  · have h25 := zc_eql (2) (2) q24 h23 (zr_c (lo := 2) (hi := 2) (by decide)) (by decide)
    refine zok_pi (s_X12_r hσ.P h3) (fun v12 h26 => ?_)
    refine zok_bu (s_X12_does hσ h1 h26) (fun σ13 i27 => ?_)
    refine zok_if (fun q28 => ?_) (fun q28 => ?_)
    · have h29 := zc_eql (6) (6) q28 h3 (zr_c (lo := 6) (hi := 6) (by decide)) (by decide)
      exact zok_pai i27 (s_X12_plain_r1_139 i27.P (zr_w (zr_c (lo := 7) (hi := 7) (by decide)) (by decide)))
    exact zok_pai i27 (s_X12_plain_r1_139 i27.P (zr_w (zr_c (lo := 4) (hi := 4) (by decide)) (by decide)))
  have h30 := zc_nel (3) (3) q24 h23 (zr_c (lo := 2) (hi := 2) (by decide)) (by decide)
  refine zok_if (fun q31 => ?_) (fun q31 => ?_)
  · have h32 := zc_ler (4) q31 (zr_c (lo := 4) (hi := 4) (by decide)) h3 (by decide)
    refine zok_ai (s_X12_more3_r1 hσ h1 h32 (z_m3b h_x1 e2 e4 q5 q15 q24 nP)) (fun σ14 v15 i33 h34 => ?_)
    exact zok_pai i33 (s_X12_plain_r1_160 i33.P h34)
  have h35 := zc_ltl (3) (z_nle q31) h3 (zr_c (lo := 4) (hi := 4) (by decide)) (by decide)
  refine zok_ai (s_X12_three hσ h1 h35) (fun σ16 v17 i36 h37 => ?_)
  exact zok_pai i36 (s_X12_plain_r1_160 i36.P (zr_w h37 (by decide)))
theorem s_X12_prefixed_33 {G : Nat → Int} {σ : zSt} (hσ : zIM G σ) : zok (fX12_prefixed_33 σ ) (zAi (zIM G) (fun v : Int32 => zr (4) (35) v)) := by
  unfold fX12_prefixed_33
  refine zok_ck rfl ?_
  refine zok_bs (hσ.wi 27 27 (by decide) (zr_c (lo := 1) (hi := 1) (by decide)) (by decide +kernel)) (fun σ1 e2 i1 => ?_)
  exact zok_sai i1 (zr_w (zr_c (lo := 4) (hi := 4) (by decide)) (by decide))
theorem s_X12_prefixed_154 {σ : zSt} (hσ : zPM σ) {s0 : Int32} (h_s0 : zr (16) (23) s0) : zok (fX12_prefixed_154 σ s0) (zPi σ (fun v : Int32 => zr (4) (35) v)) := by
  unfold fX12_prefixed_154
  exact zok_spi (zr_w h_s0 (by decide))
theorem s_X12_prefixed_135 {σ : zSt} (hσ : zPM σ) {x4 : Int32} (h_x4 : zr (0) (255) x4) {x5 : Int32} (h_x5 : zr (8) (15) x5) : zok (fX12_prefixed_135 σ x4 x5) (zPi σ (fun v : Int32 => zr (4) (35) v)) := by
  unfold fX12_prefixed_135
  refine zok_if (fun q1 => ?_) (fun q1 => ?_)
  · have h2 := zc_eql (1) (1) q1 (zr_shr (lo := 0) (hi := 3) 6 (by decide) h_x4 (by decide)) (zr_c (lo := 1) (hi := 1) (by decide)) (by decide)
    exact (s_X12_prefixed_154 hσ (zr_w (zr_c (lo := 20) (hi := 20) (by decide)) (by decide)))
  exact (s_X12_prefixed_154 hσ (zr_add (lo := 16) (hi := 23) h_x5 (zr_c (lo := 8) (hi := 8) (by decide)) (by decide)))
theorem s_X12_prefixed_311 {σ : zSt} (hσ : zPM σ) {s0 : Int32} (h_s0 : zr (9) (12) s0) {s1 : Int32} (h_s1 : zr (4) (23) s1) : zok (fX12_prefixed_311 σ s0 s1) (zPi σ (fun v : Int32 => zr (4) (35) v)) := by
  unfold fX12_prefixed_311
  exact zok_spi (zr_w (zr_add (lo := 13) (hi := 35) h_s1 h_s0 (by decide)) (by decide))
theorem s_X12_prefixed_244 {G : Nat → Int} {σ : zSt} (hσ : zIM G σ) {x1 : Int32} (h_x1 : zr (16) (17) x1) {x3 : Int32} (h_x3 : zr (0) (255) x3) {s0 : Int32} (h_s0 : zr (0) (1) s0) (nP : ¬ x3 = 221 ∧ ¬ x3 = 253) : zok (fX12_prefixed_244 σ x1 x3 s0) (zAi (zIM G) (fun v : Int32 => zr (4) (35) v)) := by
  unfold fX12_prefixed_244
  refine zok_if (fun q1 => ?_) (fun q1 => ?_)
  · have h2 := zc_eql (0) (0) q1 h_s0 (zr_c (lo := 0) (hi := 0) (by decide)) (by decide)
    refine zok_bs (hσ.sp1 h_x1 (by decide)) (fun σ10 e4 i3 => ?_)
    refine zok_ai (s_X12_plain_r1 i3 h_x3 nP) (fun σ11 v12 i5 h6 => ?_)
    exact zok_sai i5 (zr_w (zr_add (lo := 8) (hi := 27) h6 (zr_c (lo := 4) (hi := 4) (by decide)) (by decide)) (by decide))
  have h7 := zc_nel (1) (1) q1 h_s0 (zr_c (lo := 0) (hi := 0) (by decide)) (by decide)
  refine zok_ck (zin_ok h_x1 (by decide)) ?_
  refine zok_ai (s_X12_next hσ) (fun σ2 v3 i8 h9 => ?_)
  refine zok_pi (s_X12_signed i8.P h9) (fun v5 h10 => ?_)
  refine zok_ck rfl ?_
  refine zok_bs (i8.wi 20 20 (by decide) (zr_andr (lo := 0) (hi := 65535) (zr_c (lo := 65535) (hi := 65535) (by decide)) (by decide)) (by decide +kernel)) (fun σ6 e12 i11 => ?_)
  refine zok_ck rfl ?_
  refine zok_bs (i11.wi 32 32 (by decide) (zr_c (lo := 1) (hi := 1) (by decide)) (by decide +kernel)) (fun σ7 e14 i13 => ?_)
  refine zok_ai (s_X12_plain_r1 i13 h_x3 nP) (fun σ8 v9 i15 h16 => ?_)
  refine zok_if (fun q17 => ?_) (fun q17 => ?_)
  · have h18 := zc_eql (54) (54) q17 h_x3 (zr_c (lo := 54) (hi := 54) (by decide)) (by decide)
    exact zok_pai i15 (s_X12_prefixed_311 i15.P (zr_w (zr_c (lo := 9) (hi := 9) (by decide)) (by decide)) h16)
  exact zok_pai i15 (s_X12_prefixed_311 i15.P (zr_w (zr_c (lo := 12) (hi := 12) (by decide)) (by decide)) h16)
theorem s_X12_prefixed_243 {G : Nat → Int} {σ : zSt} (hσ : zIM G σ) {x1 : Int32} (h_x1 : zr (16) (17) x1) {x3 : Int32} (h_x3 : zr (0) (255) x3) (nP : ¬ x3 = 221 ∧ ¬ x3 = 253) : zok (fX12_prefixed_243 σ x1 x3) (zAi (zIM G) (fun v : Int32 => zr (4) (35) v)) := by
  unfold fX12_prefixed_243
  exact (s_X12_prefixed_244 hσ h_x1 h_x3 (zr_w (zr_c (lo := 0) (hi := 0) (by decide)) (by decide)) nP)
theorem s_X12_prefixed_239 {G : Nat → Int} {σ : zSt} (hσ : zIM G σ) {x1 : Int32} (h_x1 : zr (16) (17) x1) {x3 : Int32} (h_x3 : zr (0) (255) x3) (nP : ¬ x3 = 221 ∧ ¬ x3 = 253) : zok (fX12_prefixed_239 σ x1 x3) (zAi (zIM G) (fun v : Int32 => zr (4) (35) v)) := by
  unfold fX12_prefixed_239
  exact (s_X12_prefixed_244 hσ h_x1 h_x3 (zr_w (zr_c (lo := 1) (hi := 1) (by decide)) (by decide)) nP)
theorem s_X12_prefixed_226 {G : Nat → Int} {σ : zSt} (hσ : zIM G σ) {x1 : Int32} (h_x1 : zr (16) (17) x1) {x3 : Int32} (h_x3 : zr (0) (255) x3) {x5 : Int32} (h_x5 : zr (0) (7) x5) {x6 : Int32} (h_x6 : zr (0) (3) x6) (nP : ¬ x3 = 221 ∧ ¬ x3 = 253) : zok (fX12_prefixed_226 σ x1 x3 x5 x6) (zAi (zIM G) (fun v : Int32 => zr (4) (35) v)) := by
  unfold fX12_prefixed_226
  refine zok_if (fun q1 => ?_) (fun q1 => ?_)
  · have h2 := zc_eql (2) (2) q1 h_x6 (zr_c (lo := 2) (hi := 2) (by decide)) (by decide)
    refine zok_if (fun q3 => ?_) (fun q3 => ?_)
    · have h4 := zc_eql (6) (6) q3 h_x5 (zr_c (lo := 6) (hi := 6) (by decide)) (by decide)
      exact (s_X12_prefixed_239 hσ h_x1 h_x3 nP)
    exact (s_X12_prefixed_243 hσ h_x1 h_x3 nP)
  exact (s_X12_prefixed_243 hσ h_x1 h_x3 nP)
theorem s_X12_prefixed_220 {G : Nat → Int} {σ : zSt} (hσ : zIM G σ) {x1 : Int32} (h_x1 : zr (16) (17) x1) {x3 : Int32} (h_x3 : zr (0) (255) x3) {x5 : Int32} (h_x5 : zr (0) (7) x5) {x6 : Int32} (h_x6 : zr (1) (1) x6) (nP : ¬ x3 = 221 ∧ ¬ x3 = 253) : zok (fX12_prefixed_220 σ x1 x3 x5 x6) (zAi (zIM G) (fun v : Int32 => zr (4) (35) v)) := by
  unfold fX12_prefixed_220
  refine zok_if (fun q1 => ?_) (fun q1 => ?_)
  · have h2 := zc_eql (118) (118) q1 h_x3 (zr_c (lo := 118) (hi := 118) (by decide)) (by decide)
    exact (s_X12_prefixed_226 hσ h_x1 (zr_w h2 (by decide)) h_x5 (zr_w h_x6 (by decide)) nP)
  exact (s_X12_prefixed_239 hσ h_x1 h_x3 nP)
theorem s_X12_prefixed_200 {G : Nat → Int} {σ : zSt} (hσ : zIM G σ) {x1 : Int32} (h_x1 : zr (16) (17) x1) {x3 : Int32} (h_x3 : zr (0) (255) x3) {x4 : Int32} (h_x4 : zr (0) (7) x4) {x5 : Int32} (h_x5 : zr (0) (7) x5) {x6 : Int32} (h_x6 : zr (0) (3) x6) (nP : ¬ x3 = 221 ∧ ¬ x3 = 253) : zok (fX12_prefixed_200 σ x1 x3 x4 x5 x6) (zAi (zIM G) (fun v : Int32 => zr (4) (35) v)) := by
  unfold fX12_prefixed_200
  refine zok_if (fun q1 => ?_) (fun q1 => ?_)
  · have h2 := zc_eql (1) (1) q1 h_x6 (zr_c (lo := 1) (hi := 1) (by decide)) (by decide)
    refine zok_if (fun q3 => ?_) (fun q3 => ?_)
    · have h4 := zc_eql (6) (6) q3 h_x4 (zr_c (lo := 6) (hi := 6) (by decide)) (by decide)
      exact (s_X12_prefixed_220 hσ h_x1 h_x3 h_x5 h2 nP)
    refine zok_if (fun q5 => ?_) (fun q5 => ?_)
    · have h6 := zc_eql (6) (6) q5 h_x5 (zr_c (lo := 6) (hi := 6) (by decide)) (by decide)
      exact (s_X12_prefixed_220 hσ h_x1 h_x3 (zr_w h6 (by decide)) h2 nP)
    exact (s_X12_prefixed_226 hσ h_x1 h_x3 h_x5 (zr_w h2 (by decide)) nP)
  exact (s_X12_prefixed_226 hσ h_x1 h_x3 h_x5 h_x6 nP)
theorem s_next_eq {G : Nat → Int} {σ : zSt} (hσ : zIM G σ) {v : Int32} (er : fX12_read σ (zgi σ 3 (19 : Int32).toNatClampNeg) = some (σ, v)) : zok (fX12_next σ ) (zAi (zIM G) (fun w : Int32 => w = v)) := by
  unfold fX12_next
  refine zok_ck rfl ?_
  refine zok_pi (Q := fun w : Int32 => w = v) ⟨_, er, rfl, rfl⟩ (fun w hw => ?_)
  refine zok_ck rfl (zok_ck rfl ?_)
  refine zok_bs (hσ.wi 19 19 (by decide) (zr_andr (lo := 0) (hi := 65535) (zr_c (lo := 65535) (hi := 65535) (by decide)) (by decide)) (by decide +kernel)) (fun σ3 e3 i2 => ?_)
  exact zok_sai i2 hw
theorem s_fetch_eq {G : Nat → Int} {σ : zSt} (hσ : zIM G σ) {v : Int32} (er : fX12_read σ (zgi σ 3 (19 : Int32).toNatClampNeg) = some (σ, v)) : zok (fX12_fetch σ ) (zAi (zIM G) (fun w : Int32 => w = v ∧ zr 0 255 w)) := by
  have hv : zr 0 255 v := by
    obtain ⟨⟨_, w⟩, e, _, hw⟩ := s_X12_read (x1 := zgi σ 3 (19 : Int32).toNatClampNeg) hσ.P
    rw [er] at e
    cases e
    exact hw
  unfold fX12_fetch
  refine zok_ai (s_next_eq hσ er) (fun σ1 w i1 hw => ?_)
  refine zok_bu (s_X12_grows i1) (fun σ3 i3 => zok_sai i3 ?_)
  have hw : w = v := hw
  exact ⟨hw, by rw [hw]; exact hv⟩
theorem s_X12_prefixed {G : Nat → Int} {σ : zSt} (hσ : zIM G σ) {x1 : Int32} (h_x1 : zr (16) (17) x1) : zok (fX12_prefixed σ x1) (zAi (zIM G) (fun v : Int32 => zr (4) (35) v)) := by
  unfold fX12_prefixed
  refine zok_ck rfl ?_
  obtain ⟨⟨_, v14⟩, er, rfl, h1⟩ := s_X12_read (x1 := zgi σ 3 (19 : Int32).toNatClampNeg) hσ.P
  refine zok_pi (Q := fun w : Int32 => w = v14) ⟨_, er, rfl, rfl⟩ (fun w hw => ?_)
  have hw : w = v14 := hw
  subst hw
  refine zok_if (fun q2 => ?_) (fun q2 => ?_)
  · have h3 := zc_eql (221) (221) q2 h1 (zr_c (lo := 221) (hi := 221) (by decide)) (by decide)
    exact (s_X12_prefixed_33 hσ)
  refine zok_if (fun q4 => ?_) (fun q4 => ?_)
  · have h5 := zc_eql (237) (237) q4 h1 (zr_c (lo := 237) (hi := 237) (by decide)) (by decide)
    exact (s_X12_prefixed_33 hσ)
  refine zok_if (fun q6 => ?_) (fun q6 => ?_)
  · have h7 := zc_eql (253) (253) q6 h1 (zr_c (lo := 253) (hi := 253) (by decide)) (by decide)
    exact (s_X12_prefixed_33 hσ)
  refine zok_ai (s_fetch_eq hσ er) (fun σ15 v16 i8 hE => ?_)
  have h9 := hE.2
  have nP : ¬ v16 = 221 ∧ ¬ v16 = 253 := by rw [hE.1]; exact ⟨q2, q6⟩
  refine zok_if (fun q10 => ?_) (fun q10 => ?_)
  · have h11 := zc_eql (203) (203) q10 h9 (zr_c (lo := 203) (hi := 203) (by decide)) (by decide)
    refine zok_ck (zin_ok h_x1 (by decide)) ?_
    refine zok_ai (s_X12_next i8) (fun σ20 v21 i12 h13 => ?_)
    refine zok_pi (s_X12_signed i12.P h13) (fun v23 h14 => ?_)
    refine zok_ck rfl ?_
    refine zok_bs (i12.wi 20 20 (by decide) (zr_andr (lo := 0) (hi := 65535) (zr_c (lo := 65535) (hi := 65535) (by decide)) (by decide)) (by decide +kernel)) (fun σ24 e16 i15 => ?_)
    refine zok_ck rfl ?_
    refine zok_bs (i15.wi 32 32 (by decide) (zr_c (lo := 1) (hi := 1) (by decide)) (by decide +kernel)) (fun σ25 e18 i17 => ?_)
    refine zok_ai (s_X12_next i17) (fun σ26 v27 i19 h20 => ?_)
    refine zok_ai (s_X12_turn i19 h20) (fun σ28 v29 i21 h22 => ?_)
    refine zok_if (fun q23 => ?_) (fun q23 => ?_)
    · have h24 := zc_eql (1) (1) q23 (zr_shr (lo := 0) (hi := 3) 6 (by decide) h20 (by decide)) (zr_c (lo := 1) (hi := 1) (by decide)) (by decide)
      exact zok_pai i21 (s_X12_prefixed_135 i21.P h20 h22)
    refine zok_if (fun q25 => ?_) (fun q25 => ?_)
    · have h26 := zc_eql (6) (6) q25 (zr_andr (lo := 0) (hi := 7) (zr_c (lo := 7) (hi := 7) (by decide)) (by decide)) (zr_c (lo := 6) (hi := 6) (by decide)) (by decide)
      exact zok_pai i21 (s_X12_prefixed_135 i21.P h20 h22)
    refine zok_ck rfl ?_
    refine zok_bs (i21.wi 32 32 (by decide) (zr_c (lo := 0) (hi := 0) (by decide)) (by decide +kernel)) (fun σ30 e28 i27 => ?_)
    refine zok_bu (s_X12_rTo i27 (zr_andr (lo := 0) (hi := 7) (zr_c (lo := 7) (hi := 7) (by decide)) (by decide))) (fun σ31 i29 => ?_)
    exact zok_pai i29 (s_X12_prefixed_135 i29.P h20 h22)
  refine zok_br (zr_andr (lo := 0) (hi := 7) (zr_c (lo := 7) (hi := 7) (by decide)) (by decide)) (fun v17 e31 h30 => ?_)
  refine zok_br (zr_andr (lo := 0) (hi := 7) (zr_c (lo := 7) (hi := 7) (by decide)) (by decide)) (fun v18 e33 h32 => ?_)
  refine zok_br (zr_shr (lo := 0) (hi := 3) 6 (by decide) h9 (by decide)) (fun v19 e35 h34 => ?_)
  refine zok_if (fun q36 => ?_) (fun q36 => ?_)
  · have h37 := zc_eql (0) (0) q36 h34 (zr_c (lo := 0) (hi := 0) (by decide)) (by decide)
    refine zok_if (fun q38 => ?_) (fun q38 => ?_)
    · have h39 := zc_lel (3) q38 h32 (zr_c (lo := 3) (hi := 3) (by decide)) (by decide)
      exact (s_X12_prefixed_200 i8 h_x1 h9 h30 (zr_w h39 (by decide)) (zr_w h37 (by decide)) nP)
    have h40 := zc_ltr (4) (z_nle q38) (zr_c (lo := 3) (hi := 3) (by decide)) h32 (by decide)
    refine zok_if (fun q41 => ?_) (fun q41 => ?_)
    · have h42 := zc_ler (7) q41 (zr_c (lo := 7) (hi := 7) (by decide)) h40 (by decide)
      exact (s_X12_prefixed_200 i8 h_x1 h9 h30 (zr_w h42 (by decide)) (zr_w h37 (by decide)) nP)
    have h43 := zc_ltl (6) (z_nle q41) h40 (zr_c (lo := 7) (hi := 7) (by decide)) (by decide)
    refine zok_if (fun q44 => ?_) (fun q44 => ?_)
    · have h45 := zc_eql (6) (6) q44 h30 (zr_c (lo := 6) (hi := 6) (by decide)) (by decide)
      exact (s_X12_prefixed_239 i8 h_x1 h9 nP)
    exact (s_X12_prefixed_200 i8 h_x1 h9 h30 (zr_w h43 (by decide)) (zr_w h37 (by decide)) nP)
  have h46 := zc_nel (1) (3) q36 h34 (zr_c (lo := 0) (hi := 0) (by decide)) (by decide)
  exact (s_X12_prefixed_200 i8 h_x1 h9 h30 h32 (zr_w h46 (by decide)) nP)
theorem s_X12_more3_119 {G : Nat → Int} {σ : zSt} (hσ : zIM G σ) {s0 : Int32} (h_s0 : zr (0) (65535) s0) : zok (fX12_more3_119 σ s0) (zAi (zIM G) (fun v : Int32 => zr (4) (35) v)) := by
  unfold fX12_more3_119
  refine zok_bu (s_X12_push hσ h_s0) (fun σ1 i1 => ?_)
  exact zok_sai i1 (zr_w (zr_c (lo := 11) (hi := 11) (by decide)) (by decide))
theorem s_X12_more3_200 {σ : zSt} (hσ : zPM σ) {s0 : Int32} (h_s0 : zr (4) (35) s0) : zok (fX12_more3_200 σ s0) (zPi σ (fun v : Int32 => zr (4) (35) v)) := by
  unfold fX12_more3_200
  exact zok_spi h_s0
theorem s_X12_more3_197 {G : Nat → Int} {σ : zSt} (hσ : zIM G σ) {s0 : Int32} (h_s0 : zr (16) (17) s0) : zok (fX12_more3_197 σ s0) (zAi (zIM G) (fun v : Int32 => zr (4) (35) v)) := by
  unfold fX12_more3_197
  refine zok_ai (s_X12_prefixed hσ h_s0) (fun σ2 v3 i1 h2 => ?_)
  exact zok_pai i1 (s_X12_more3_200 i1.P h2)
theorem s_X12_more3 {G : Nat → Int} {σ : zSt} (hσ : zIM G σ) {x1 : Int32} (h_x1 : zr (0) (7) x1) {x2 : Int32} (h_x2 : zr (4) (7) x2) : zok (fX12_more3 σ x1 x2) (zAi (zIM G) (fun v : Int32 => zr (4) (35) v)) := by
  unfold fX12_more3
  refine zok_br (zr_shr (lo := 0) (hi := 3) 1 (by decide) h_x1 (by decide)) (fun v4 e2 h1 => ?_)
  refine zok_if (fun q3 => ?_) (fun q3 => ?_)
  · have h4 := zc_eql (4) (4) q3 h_x2 (zr_c (lo := 4) (hi := 4) (by decide)) (by decide)
    refine zok_ai (s_X12_nextWord hσ) (fun σ22 v23 i5 h6 => ?_)
    refine zok_ck rfl ?_
    refine zok_bs (i5.wi 20 20 (by decide) h6 (by decide +kernel)) (fun σ24 e8 i7 => ?_)
    refine zok_pi (s_X12_cc i7.P h_x1) (fun v26 h9 => ?_)
    refine zok_if (fun q10 => ?_) (fun q10 => ?_)
    · have h11 := zc_eql (0) (0) q10 h9 (zr_c (lo := 0) (hi := 0) (by decide)) (by decide)
      exact zok_sai i7 (zr_w (zr_c (lo := 10) (hi := 10) (by decide)) (by decide))
    have h12 := zc_nel (1) (1) q10 h9 (zr_c (lo := 0) (hi := 0) (by decide)) (by decide)
    refine zok_ck rfl ?_
    refine zok_bu (s_X12_push i7 (rM_12 i7.sg _ (by decide))) (fun σ27 i13 => ?_)
    refine zok_ck rfl ?_
    refine zok_ck rfl ?_
    refine zok_bs (i13.wi 19 19 (by decide) (rM_12 i13.sg _ (by decide)) (by decide +kernel)) (fun σ28 e15 i14 => ?_)
    exact zok_sai i14 (zr_w (zr_c (lo := 17) (hi := 17) (by decide)) (by decide))
  have h16 := zc_nel (5) (7) q3 h_x2 (zr_c (lo := 4) (hi := 4) (by decide)) (by decide)
  refine zok_if (fun q17 => ?_) (fun q17 => ?_)
  · have h18 := zc_eql (6) (6) q17 h16 (zr_c (lo := 6) (hi := 6) (by decide)) (by decide)
    refine zok_ai (s_X12_next hσ) (fun σ19 v20 i19 h20 => ?_)
    refine zok_bu (s_X12_does i19 h_x1 h20) (fun σ21 i21 => ?_)
    exact zok_sai i21 (zr_w (zr_c (lo := 7) (hi := 7) (by decide)) (by decide))
  refine zok_if (fun q22 => ?_) (fun q22 => ?_)
  · have h23 := zc_eql (7) (7) q22 h16 (zr_c (lo := 7) (hi := 7) (by decide)) (by decide)
    refine zok_bu (s_X12_call hσ (zr_w (zr_mul (lo := 0) (hi := 56) (zr_c (lo := 8) (hi := 8) (by decide)) h_x1 (by decide)) (by decide))) (fun σ18 i24 => ?_)
    exact zok_sai i24 (zr_w (zr_c (lo := 11) (hi := 11) (by decide)) (by decide))
  have h25 := zc_nel (5) (6) q22 h16 (zr_c (lo := 7) (hi := 7) (by decide)) (by decide)
  refine zok_ck (by decide) ?_
  refine zok_if (fun q26 => ?_) (fun q26 => ?_)
  · have h27 := zc_eql (0) (0) q26 (zr_rem (lo := 0) (hi := 1) 2 (by decide) h_x1 (by decide)) (zr_c (lo := 0) (hi := 0) (by decide)) (by decide)
    refine zok_if (fun q28 => ?_) (fun q28 => ?_)
    · have h29 := zc_eql (3) (3) q28 h1 (zr_c (lo := 3) (hi := 3) (by decide)) (by decide)
      refine zok_pi (s_X12_pair hσ.P (zr_w (zr_c (lo := 0) (hi := 0) (by decide)) (by decide))) (fun v17 h30 => ?_)
      exact (s_X12_more3_119 hσ h30)
    have h31 := zc_nel (0) (2) q28 h1 (zr_c (lo := 3) (hi := 3) (by decide)) (by decide)
    refine zok_pi (s_X12_rp hσ.P (zr_w h31 (by decide))) (fun v15 h32 => ?_)
    exact (s_X12_more3_119 hσ h32)
  have h33 := zc_nel (1) (1) q26 (zr_rem (lo := 0) (hi := 1) 2 (by decide) h_x1 (by decide)) (zr_c (lo := 0) (hi := 0) (by decide)) (by decide)
  have h34 := z_odd64 h_x1 h33 (by decide)
  refine zok_if (fun q35 => ?_) (fun q35 => ?_)
  · have h36 := zc_eql (0) (0) q35 h1 (zr_c (lo := 0) (hi := 0) (by decide)) (by decide)
    refine zok_ai (s_X12_nextWord hσ) (fun σ9 v10 i37 h38 => ?_)
    refine zok_ck rfl ?_
    refine zok_bs (i37.wi 20 20 (by decide) h38 (by decide +kernel)) (fun σ11 e40 i39 => ?_)
    refine zok_ck rfl ?_
    refine zok_bu (s_X12_push i39 (rM_12 i39.sg _ (by decide))) (fun σ12 i41 => ?_)
    refine zok_ck rfl ?_
    refine zok_ck rfl ?_
    refine zok_bs (i41.wi 19 19 (by decide) (rM_12 i41.sg _ (by decide)) (by decide +kernel)) (fun σ13 e43 i42 => ?_)
    exact zok_sai i42 (zr_w (zr_c (lo := 17) (hi := 17) (by decide)) (by decide))
  have h44 := zc_nel (1) (3) q35 h1 (zr_c (lo := 0) (hi := 0) (by decide)) (by decide)
  refine zok_if (fun q45 => ?_) (fun q45 => ?_)
  · have h46 := zc_eql (2) (2) q45 h44 (zr_c (lo := 2) (hi := 2) (by decide)) (by decide)
    refine zok_ai (s_X12_fetch hσ) (fun σ5 v6 i47 h48 => ?_)
    refine zok_ai (s_X12_more i47 h48) (fun σ7 v8 i49 h50 => ?_)
    exact zok_pai i49 (s_X12_more3_200 i49.P (zr_w h50 (by decide)))
  refine zok_if (fun q51 => ?_) (fun q51 => ?_)
  · have h52 := zc_eql (1) (1) q51 h44 (zr_c (lo := 1) (hi := 1) (by decide)) (by decide)
    exact (s_X12_more3_197 hσ (zr_w (zr_c (lo := 16) (hi := 16) (by decide)) (by decide)))
  have h53 := zc_nel (2) (3) q51 h44 (zr_c (lo := 1) (hi := 1) (by decide)) (by decide)
  exact (s_X12_more3_197 hσ (zr_w (zr_c (lo := 17) (hi := 17) (by decide)) (by decide)))
theorem s_X12_plain_160 {σ : zSt} (hσ : zPM σ) {s0 : Int32} (h_s0 : zr (4) (35) s0) : zok (fX12_plain_160 σ s0) (zPi σ (fun v : Int32 => zr (4) (35) v)) := by
  unfold fX12_plain_160
  exact zok_spi h_s0
theorem s_X12_plain_139 {σ : zSt} (hσ : zPM σ) {s0 : Int32} (h_s0 : zr (4) (7) s0) : zok (fX12_plain_139 σ s0) (zPi σ (fun v : Int32 => zr (4) (35) v)) := by
  unfold fX12_plain_139
  exact zok_spi (zr_w h_s0 (by decide))
theorem s_X12_plain_116 {σ : zSt} (hσ : zPM σ) {s0 : Int32} (h_s0 : zr (4) (7) s0) : zok (fX12_plain_116 σ s0) (zPi σ (fun v : Int32 => zr (4) (35) v)) := by
  unfold fX12_plain_116
  exact zok_spi (zr_w h_s0 (by decide))
theorem s_X12_plain_115 {σ : zSt} (hσ : zPM σ) : zok (fX12_plain_115 σ ) (zPi σ (fun v : Int32 => zr (4) (35) v)) := by
  unfold fX12_plain_115
  exact (s_X12_plain_116 hσ (zr_w (zr_c (lo := 4) (hi := 4) (by decide)) (by decide)))
theorem s_X12_plain_110 {σ : zSt} (hσ : zPM σ) : zok (fX12_plain_110 σ ) (zPi σ (fun v : Int32 => zr (4) (35) v)) := by
  unfold fX12_plain_110
  exact (s_X12_plain_116 hσ (zr_w (zr_c (lo := 7) (hi := 7) (by decide)) (by decide)))
theorem s_X12_plain_92 {σ : zSt} (hσ : zPM σ) {x1 : Int32} (h_x1 : zr (0) (255) x1) {x2 : Int32} (h_x2 : zr (0) (7) x2) {x3 : Int32} (h_x3 : zr (0) (7) x3) : zok (fX12_plain_92 σ x1 x2 x3) (zPi σ (fun v : Int32 => zr (4) (35) v)) := by
  unfold fX12_plain_92
  refine zok_if (fun q1 => ?_) (fun q1 => ?_)
  · have h2 := zc_eql (118) (118) q1 h_x1 (zr_c (lo := 118) (hi := 118) (by decide)) (by decide)
    exact (s_X12_plain_115 hσ)
  refine zok_if (fun q3 => ?_) (fun q3 => ?_)
  · have h4 := zc_eql (6) (6) q3 h_x2 (zr_c (lo := 6) (hi := 6) (by decide)) (by decide)
    exact (s_X12_plain_110 hσ)
  refine zok_if (fun q5 => ?_) (fun q5 => ?_)
  · have h6 := zc_eql (6) (6) q5 h_x3 (zr_c (lo := 6) (hi := 6) (by decide)) (by decide)
    exact (s_X12_plain_110 hσ)
  exact (s_X12_plain_115 hσ)
theorem s_X12_plain_64 {σ : zSt} (hσ : zPM σ) {s0 : Int32} (h_s0 : zr (4) (16) s0) : zok (fX12_plain_64 σ s0) (zPi σ (fun v : Int32 => zr (4) (35) v)) := by
  unfold fX12_plain_64
  exact zok_spi (zr_w h_s0 (by decide))
theorem s_X12_plain {G : Nat → Int} {σ : zSt} (hσ : zIM G σ) {x1 : Int32} (h_x1 : zr (0) (255) x1) : zok (fX12_plain σ x1) (zAi (zIM G) (fun v : Int32 => zr (4) (35) v)) := by
  unfold fX12_plain
  refine zok_br (zr_andr (lo := 0) (hi := 7) (zr_c (lo := 7) (hi := 7) (by decide)) (by decide)) (fun v1 e2 h1 => ?_)
  refine zok_br (zr_andr (lo := 0) (hi := 7) (zr_c (lo := 7) (hi := 7) (by decide)) (by decide)) (fun v2 e4 h3 => ?_)
  refine zok_if (fun q5 => ?_) (fun q5 => ?_)
  · have h6 := zc_eql (0) (0) q5 (zr_shr (lo := 0) (hi := 3) 6 (by decide) h_x1 (by decide)) (zr_c (lo := 0) (hi := 0) (by decide)) (by decide)
    refine zok_if (fun q7 => ?_) (fun q7 => ?_)
    · have h8 := zc_ler (4) q7 (zr_c (lo := 4) (hi := 4) (by decide)) h3 (by decide)
      refine zok_ai (s_X12_singles hσ h1 h8) (fun σ3 v4 i9 h10 => ?_)
      exact zok_pai i9 (s_X12_plain_64 i9.P (zr_w h10 (by decide)))
    have h11 := zc_ltl (3) (z_nle q7) h3 (zr_c (lo := 4) (hi := 4) (by decide)) (by decide)
    refine zok_ai (s_X12_zero hσ h1 h11) (fun σ5 v6 i12 h13 => ?_)
    exact zok_pai i12 (s_X12_plain_64 i12.P h13)
  have h14 := zc_nel (1) (3) q5 (zr_shr (lo := 0) (hi := 3) 6 (by decide) h_x1 (by decide)) (zr_c (lo := 0) (hi := 0) (by decide)) (by decide)
  refine zok_if (fun q15 => ?_) (fun q15 => ?_)
  · have h16 := zc_eql (1) (1) q15 h14 (zr_c (lo := 1) (hi := 1) (by decide)) (by decide)
    refine zok_if (fun q17 => ?_) (fun q17 => ?_)
    · have h18 := zc_eql (118) (118) q17 h_x1 (zr_c (lo := 118) (hi := 118) (by decide)) (by decide)
      refine zok_ck rfl ?_
      refine zok_bs (hσ.wi 26 26 (by decide) (zr_c (lo := 1) (hi := 1) (by decide)) (by decide +kernel)) (fun σ10 e20 i19 => ?_)
      exact zok_pai i19 (s_X12_plain_92 i19.P (zr_w h18 (by decide)) h1 h3)
    refine zok_pi (s_X12_r hσ.P h3) (fun v8 h21 => ?_)
    refine zok_bu (s_X12_rTo hσ h1) (fun σ9 i22 => ?_)
    exact zok_pai i22 (s_X12_plain_92 i22.P h_x1 h1 h3)
  have h23 := zc_nel (2) (3) q15 h14 (zr_c (lo := 1) (hi := 1) (by decide)) (by decide)
  refine zok_if (fun q24 => ?_) (fun q24 => ?_)
  · have h25 := zc_eql (2) (2) q24 h23 (zr_c (lo := 2) (hi := 2) (by decide)) (by decide)
    refine zok_pi (s_X12_r hσ.P h3) (fun v12 h26 => ?_)
    refine zok_bu (s_X12_does hσ h1 h26) (fun σ13 i27 => ?_)
    refine zok_if (fun q28 => ?_) (fun q28 => ?_)
    · have h29 := zc_eql (6) (6) q28 h3 (zr_c (lo := 6) (hi := 6) (by decide)) (by decide)
      exact zok_pai i27 (s_X12_plain_139 i27.P (zr_w (zr_c (lo := 7) (hi := 7) (by decide)) (by decide)))
    exact zok_pai i27 (s_X12_plain_139 i27.P (zr_w (zr_c (lo := 4) (hi := 4) (by decide)) (by decide)))
  have h30 := zc_nel (3) (3) q24 h23 (zr_c (lo := 2) (hi := 2) (by decide)) (by decide)
  refine zok_if (fun q31 => ?_) (fun q31 => ?_)
  · have h32 := zc_ler (4) q31 (zr_c (lo := 4) (hi := 4) (by decide)) h3 (by decide)
    refine zok_ai (s_X12_more3 hσ h1 h32) (fun σ14 v15 i33 h34 => ?_)
    exact zok_pai i33 (s_X12_plain_160 i33.P h34)
  have h35 := zc_ltl (3) (z_nle q31) h3 (zr_c (lo := 4) (hi := 4) (by decide)) (by decide)
  refine zok_ai (s_X12_three hσ h1 h35) (fun σ16 v17 i36 h37 => ?_)
  exact zok_pai i36 (s_X12_plain_160 i36.P (zr_w h37 (by decide)))
theorem s_X12_instruction {G : Nat → Int} {σ : zSt} (hσ : zIM G σ) : zok (fX12_instruction σ ) (zAi (zIM G) (fun v : Int32 => zr (4) (35) v)) := by
  unfold fX12_instruction
  refine zok_bs (hσ.sp0 (zr_c (lo := 0) (hi := 0) (by decide)) (by decide)) (fun σ1 e2 i1 => ?_)
  refine zok_ck rfl ?_
  refine zok_bs (i1.wi 32 32 (by decide) (zr_c (lo := 0) (hi := 0) (by decide)) (by decide +kernel)) (fun σ2 e4 i3 => ?_)
  refine zok_ai (s_X12_fetch i3) (fun σ3 v4 i5 h6 => ?_)
  refine zok_ai (s_X12_plain i5 h6) (fun σ5 v6 i7 h8 => ?_)
  exact zok_sai i7 h8
theorem s_X12_answers {G : Nat → Int} {σ : zSt} (hσ : zIM G σ) : zok (fX12_answers σ ) (zIM G) := by
  unfold fX12_answers
  refine zok_bu (s_X12_grows hσ) (fun σ1 i1 => ?_)
  refine zok_ck rfl ?_
  refine zok_bs (i1.wi 26 26 (by decide) (zr_c (lo := 0) (hi := 0) (by decide)) (by decide +kernel)) (fun σ2 e3 i2 => ?_)
  exact zok_some i2
theorem s_X12_reg {σ : zSt} (hσ : zPM σ) {x1 : Int32} (h_x1 : zr (2) (10) x1) : zok (fX12_reg σ x1) (zPi σ (fun v : Int32 => zr (0) (255) v)) := by
  unfold fX12_reg
  refine zok_ck (zin_ok (zr_add (lo := 49) (hi := 57) (zr_c (lo := 47) (hi := 47) (by decide)) h_x1 (by decide)) (by decide)) ?_
  exact zok_spi (rM_21 hσ.sg _ (z_ix (zr_add (lo := 49) (hi := 57) (zr_c (lo := 47) (hi := 47) (by decide)) h_x1 (by decide)) (by decide)))
theorem s_X12_tileDot_6_body {σ : zSt} {k6 : zSt → Int32 → Int32 → Int32 → Int32 → Int32 → Option (zSt × Int32)} {Mk6 : Int} (hk6 : ∀ (x1 : Int32) (x2 : Int32) (x3 : Int32) (x4 : Int32) (x5 : Int32), zr (0) (15) x4 → zr (0) (4) x5 → (4) - x5.toInt < Mk6 → zok (k6 σ x1 x2 x3 x4 x5) (zPi σ (fun v : Int32 => zr (0) (15) v))) (hσ : zPM σ) {x1 : Int32} {x2 : Int32} {x3 : Int32} {x4 : Int32} (h_x4 : zr (0) (15) x4) {x5 : Int32} (h_x5 : zr (0) (4) x5) (hMk6 : (4) - x5.toInt ≤ Mk6) : zok (fX12_tileDot_6_body k6 σ x1 x2 x3 x4 x5) (zPi σ (fun v : Int32 => zr (0) (15) v)) := by
  unfold fX12_tileDot_6_body
  refine zok_if (fun q1 => ?_) (fun q1 => ?_)
  · have h2 := zc_ler (4) q1 (zr_c (lo := 4) (hi := 4) (by decide)) h_x5 (by decide)
    exact zok_spi h_x4
  have h3 := zc_ltl (3) (z_nle q1) h_x5 (zr_c (lo := 4) (hi := 4) (by decide)) (by decide)
  refine zok_pi (s_X12_video8 hσ) (fun v2 h4 => ?_)
  refine zok_br (zr_or (lo := 0) (hi := 15) 4 h_x4 (zr_shld (lo := 0) (hi := 8) (zr_andr (lo := 0) (hi := 1) (zr_c (lo := 1) (hi := 1) (by decide)) (by decide)) h3 (by decide)) (by decide)) (fun v3 e6 h5 => ?_)
  refine zok_br (zr_add (lo := 1) (hi := 4) h3 (zr_c (lo := 1) (hi := 1) (by decide)) (by decide)) (fun v4 e8 h7 => ?_)
  exact hk6 _ _ _ _ _  h5 (zr_w h7 (by decide)) (by rw [e8]; have := z_tadd (y := (1 : Int32)) h3 (zr_c (lo := 1) (hi := 1) (by decide)) (by decide); have e9 : (1 : Int32).toInt = 1 := rfl; omega) 
theorem s_X12_tileDot_6 {σ : zSt} (hσ : zPM σ) : ∀ (n : Nat) {x1 : Int32} {x2 : Int32} {x3 : Int32} {x4 : Int32} (h_x4 : zr (0) (15) x4) {x5 : Int32} (h_x5 : zr (0) (4) x5) (hm : (4) - x5.toInt < n), zok (fX12_tileDot_6 n σ x1 x2 x3 x4 x5) (zPi σ (fun v : Int32 => zr (0) (15) v)) := by
  intro n
  induction n with
  | zero => intro x1 x2 x3 x4 h_x4 x5 h_x5 hm ; have h9 := h_x5.1; have h8 := h_x5.2; exfalso; omega
  | succ n ih => intro x1 x2 x3 x4 h_x4 x5 h_x5 hm ; exact s_X12_tileDot_6_body (fun x1 x2 x3 x4 x5 h_x4 h_x5 hm1 => ih h_x4 h_x5 (by omega)) hσ h_x4 h_x5 (Int.le_refl _)
theorem s_X12_tileDot {σ : zSt} (hσ : zPM σ) {x1 : Int32} {x2 : Int32} {x3 : Int32} : zok (fX12_tileDot σ x1 x2 x3) (zPi σ (fun v : Int32 => zr (0) (15) v)) := by
  unfold fX12_tileDot
  exact (s_X12_tileDot_6 hσ zfuel (zr_w (zr_c (lo := 0) (hi := 0) (by decide)) (by decide)) (zr_w (zr_c (lo := 0) (hi := 0) (by decide)) (by decide)) (by decide))
theorem s_X12_tile_302 {G : Nat → Int} {σ : zSt} (hσ : zIM G σ) {s0 : Int32} (h_s0 : zr (0) (1) s0) {s1 : Int32} (h_s1 : zr (0) (255) s1) : zok (fX12_tile_302 σ s0 s1) (zIM G) := by
  unfold fX12_tile_302
  refine zok_ck (zin_ok h_s1 (by decide)) ?_
  refine zok_bs (hσ.wk (by decide)) (fun σ1 e2 i1 => ?_)
  exact zok_some i1
theorem s_X12_tile_301 {G : Nat → Int} {σ : zSt} (hσ : zIM G σ) {s0 : Int32} (h_s0 : zr (0) (255) s0) : zok (fX12_tile_301 σ s0) (zIM G) := by
  unfold fX12_tile_301
  exact (s_X12_tile_302 hσ (zr_w (zr_c (lo := 0) (hi := 0) (by decide)) (by decide)) h_s0)
theorem s_X12_tile_276 {G : Nat → Int} {σ : zSt} (hσ : zIM G σ) {x2 : Int32} (h_x2 : zr (0) (255) x2) {x9 : Int32} (h_x9 : zr (0) (65535) x9) {x12 : Int32} (h_x12 : zr (0) (15) x12) {s0 : Int32} (h_s0 : zr (0) (16) s0) {s1 : Int32} (h_s1 : zr (0) (15) s1) {s2 : Int32} (h_s2 : zr (0) (255) s2) : zok (fX12_tile_276 σ x2 x9 x12 s0 s1 s2) (zIM G) := by
  unfold fX12_tile_276
  refine zok_ck (zin_ok h_s2 (by decide)) ?_
  refine zok_bs (hσ.wi 0 255 (z_ix h_s2 (by decide)) (zr_add (lo := 0) (hi := 31) h_s1 h_s0 (by decide)) (by decide +kernel)) (fun σ2 e2 i1 => ?_)
  refine zok_if (fun q3 => ?_) (fun q3 => ?_)
  · have h4 := zc_lel (0) q3 h_x12 (zr_c (lo := 0) (hi := 0) (by decide)) (by decide)
    exact (s_X12_tile_301 i1 h_x2)
  have h5 := zc_ltr (1) (z_nle q3) (zr_c (lo := 0) (hi := 0) (by decide)) h_x12 (by decide)
  refine zok_if (fun q6 => ?_) (fun q6 => ?_)
  · have h7 := zc_eql (0) (0) q6 (zr_andr (lo := 0) (hi := 4096) (zr_c (lo := 4096) (hi := 4096) (by decide)) (by decide)) (zr_c (lo := 0) (hi := 0) (by decide)) (by decide)
    exact (s_X12_tile_301 i1 h_x2)
  have h8 := zc_nel (1) (4096) q6 (zr_andr (lo := 0) (hi := 4096) (zr_c (lo := 4096) (hi := 4096) (by decide)) (by decide)) (zr_c (lo := 0) (hi := 0) (by decide)) (by decide)
  exact (s_X12_tile_302 i1 (zr_w (zr_c (lo := 1) (hi := 1) (by decide)) (by decide)) h_x2)
theorem s_X12_tile_236 {G : Nat → Int} {σ : zSt} (hσ : zIM G σ) {x2 : Int32} (h_x2 : zr (0) (255) x2) {x9 : Int32} (h_x9 : zr (0) (65535) x9) {x10 : Int32} (h_x10 : zr (0) (7) x10) {s0 : Int32} (h_s0 : zr (0) (7) s0) : zok (fX12_tile_236 σ x2 x9 x10 s0) (zIM G) := by
  unfold fX12_tile_236
  refine zok_pi (s_X12_tileDot hσ.P) (fun v4 h1 => ?_)
  refine zok_if (fun q2 => ?_) (fun q2 => ?_)
  · have h3 := zc_eql (0) (0) q2 (zr_andr (lo := 0) (hi := 2048) (zr_c (lo := 2048) (hi := 2048) (by decide)) (by decide)) (zr_c (lo := 0) (hi := 0) (by decide)) (by decide)
    exact (s_X12_tile_276 hσ h_x2 h_x9 h1 (zr_w (zr_c (lo := 0) (hi := 0) (by decide)) (by decide)) h1 h_x2)
  have h4 := zc_nel (1) (2048) q2 (zr_andr (lo := 0) (hi := 2048) (zr_c (lo := 2048) (hi := 2048) (by decide)) (by decide)) (zr_c (lo := 0) (hi := 0) (by decide)) (by decide)
  exact (s_X12_tile_276 hσ h_x2 h_x9 h1 (zr_w (zr_c (lo := 16) (hi := 16) (by decide)) (by decide)) h1 h_x2)
theorem s_X12_tile_209 {G : Nat → Int} {σ : zSt} (hσ : zIM G σ) {x2 : Int32} (h_x2 : zr (0) (255) x2) {x7 : Int32} (h_x7 : zr (0) (255) x7) {x9 : Int32} (h_x9 : zr (0) (65535) x9) {s0 : Int32} (h_s0 : zr (0) (7) s0) : zok (fX12_tile_209 σ x2 x7 x9 s0) (zIM G) := by
  unfold fX12_tile_209
  refine zok_if (fun q1 => ?_) (fun q1 => ?_)
  · have h2 := zc_eql (0) (0) q1 (zr_andr (lo := 0) (hi := 1024) (zr_c (lo := 1024) (hi := 1024) (by decide)) (by decide)) (zr_c (lo := 0) (hi := 0) (by decide)) (by decide)
    refine zok_ck (by decide) ?_
    exact (s_X12_tile_236 hσ h_x2 h_x9 h_s0 (zr_rem (lo := 0) (hi := 7) 8 (by decide) h_x7 (by decide)))
  have h3 := zc_nel (1) (1024) q1 (zr_andr (lo := 0) (hi := 1024) (zr_c (lo := 1024) (hi := 1024) (by decide)) (by decide)) (zr_c (lo := 0) (hi := 0) (by decide)) (by decide)
  refine zok_ck (by decide) ?_
  exact (s_X12_tile_236 hσ h_x2 h_x9 h_s0 (zr_sub (lo := 0) (hi := 7) (zr_c (lo := 7) (hi := 7) (by decide)) (zr_rem (lo := 0) (hi := 7) 8 (by decide) h_x7 (by decide)) (by decide)))
theorem s_X12_tile_141 {G : Nat → Int} {σ : zSt} (hσ : zIM G σ) {x2 : Int32} (h_x2 : zr (0) (255) x2) {x4 : Int32} (h_x4 : zr (0) (14336) x4) {x6 : Int32} (h_x6 : zr (0) (255) x6) {s0 : Int32} (h_s0 : zr (0) (255) s0) : zok (fX12_tile_141 σ x2 x4 x6 s0) (zIM G) := by
  unfold fX12_tile_141
  refine zok_ck (by decide) ?_
  refine zok_ck (by decide) ?_
  refine zok_br (zr_add (lo := 0) (hi := 16382) (zr_add (lo := 0) (hi := 16320) h_x4 (zr_mul (lo := 0) (hi := 1984) (zr_c (lo := 64) (hi := 64) (by decide)) (zr_div (lo := 0) (hi := 31) 8 (by decide) h_s0 (by decide)) (by decide)) (by decide)) (zr_mul (lo := 0) (hi := 62) (zr_c (lo := 2) (hi := 2) (by decide)) (zr_div (lo := 0) (hi := 31) 8 (by decide) h_x6 (by decide)) (by decide)) (by decide)) (fun v5 e2 h1 => ?_)
  refine zok_pi (s_X12_video8 hσ.P) (fun v7 h3 => ?_)
  refine zok_pi (s_X12_video8 hσ.P) (fun v9 h4 => ?_)
  refine zok_br (zr_or (lo := 0) (hi := 65535) 16 h3 (zr_shl (lo := 0) (hi := 65280) 8 (by decide) h4 (by decide)) (by decide)) (fun v10 e6 h5 => ?_)
  refine zok_if (fun q7 => ?_) (fun q7 => ?_)
  · have h8 := zc_eql (0) (0) q7 (zr_andr (lo := 0) (hi := 512) (zr_c (lo := 512) (hi := 512) (by decide)) (by decide)) (zr_c (lo := 0) (hi := 0) (by decide)) (by decide)
    refine zok_ck (by decide) ?_
    exact (s_X12_tile_209 hσ h_x2 h_s0 h5 (zr_rem (lo := 0) (hi := 7) 8 (by decide) h_x6 (by decide)))
  have h9 := zc_nel (1) (512) q7 (zr_andr (lo := 0) (hi := 512) (zr_c (lo := 512) (hi := 512) (by decide)) (by decide)) (zr_c (lo := 0) (hi := 0) (by decide)) (by decide)
  refine zok_ck (by decide) ?_
  exact (s_X12_tile_209 hσ h_x2 h_s0 h5 (zr_sub (lo := 0) (hi := 7) (zr_c (lo := 7) (hi := 7) (by decide)) (zr_rem (lo := 0) (hi := 7) 8 (by decide) h_x6 (by decide)) (by decide)))
theorem s_X12_tile_140 {G : Nat → Int} {σ : zSt} (hσ : zIM G σ) {x2 : Int32} (h_x2 : zr (0) (255) x2) {x4 : Int32} (h_x4 : zr (0) (14336) x4) {x6 : Int32} (h_x6 : zr (0) (255) x6) {s0 : Int32} (h_s0 : zr (224) (256) s0) {s1 : Int32} (h_s1 : zr (0) (494) s1) : zok (fX12_tile_140 σ x2 x4 x6 s0 s1) (zIM G) := by
  unfold fX12_tile_140
  refine zok_ck (zdv_ok h_s0 (by decide)) ?_
  exact (s_X12_tile_141 hσ h_x2 h_x4 h_x6 (zr_remv (lo := 0) (hi := 255) h_s1 h_s0 (by decide)))
theorem s_X12_tile_118 {G : Nat → Int} {σ : zSt} (hσ : zIM G σ) {x1 : Int32} (h_x1 : zr (0) (239) x1) {x2 : Int32} (h_x2 : zr (0) (255) x2) {x3 : Int32} (h_x3 : zr (0) (1) x3) {x4 : Int32} (h_x4 : zr (0) (14336) x4) {x6 : Int32} (h_x6 : zr (0) (255) x6) : zok (fX12_tile_118 σ x1 x2 x3 x4 x6) (zIM G) := by
  unfold fX12_tile_118
  refine zok_ck rfl ?_
  refine zok_if (fun q1 => ?_) (fun q1 => ?_)
  · have h2 := zc_eql (0) (0) q1 h_x3 (zr_c (lo := 0) (hi := 0) (by decide)) (by decide)
    exact (s_X12_tile_140 hσ h_x2 h_x4 h_x6 (zr_w (zr_c (lo := 256) (hi := 256) (by decide)) (by decide)) (zr_add (lo := 0) (hi := 494) h_x1 (rM_28 hσ.sg _ (by decide)) (by decide)))
  have h3 := zc_nel (1) (1) q1 h_x3 (zr_c (lo := 0) (hi := 0) (by decide)) (by decide)
  exact (s_X12_tile_140 hσ h_x2 h_x4 h_x6 (zr_w (zr_c (lo := 224) (hi := 224) (by decide)) (by decide)) (zr_add (lo := 0) (hi := 494) h_x1 (rM_28 hσ.sg _ (by decide)) (by decide)))
theorem s_X12_tile_84 {G : Nat → Int} {σ : zSt} (hσ : zIM G σ) {x1 : Int32} (h_x1 : zr (0) (239) x1) {x2 : Int32} (h_x2 : zr (0) (255) x2) {x3 : Int32} (h_x3 : zr (0) (1) x3) {x4 : Int32} (h_x4 : zr (0) (14336) x4) {s0 : Int32} (h_s0 : zr (0) (255) s0) : zok (fX12_tile_84 σ x1 x2 x3 x4 s0) (zIM G) := by
  unfold fX12_tile_84
  refine zok_br (zr_andr (lo := 0) (hi := 255) (zr_c (lo := 255) (hi := 255) (by decide)) (by decide)) (fun v11 e2 h1 => ?_)
  refine zok_if (fun q3 => ?_) (fun q3 => ?_)
  · have h4 := zc_lel (191) q3 h_x2 (zr_c (lo := 191) (hi := 191) (by decide)) (by decide)
    exact (s_X12_tile_118 hσ h_x1 (zr_w h4 (by decide)) h_x3 h_x4 h1)
  have h5 := zc_ltr (192) (z_nle q3) (zr_c (lo := 191) (hi := 191) (by decide)) h_x2 (by decide)
  refine zok_pi (s_X12_bit hσ.P (zr_w (zr_c (lo := 0) (hi := 0) (by decide)) (by decide)) (zr_w (zr_c (lo := 7) (hi := 7) (by decide)) (by decide))) (fun v13 h6 => ?_)
  refine zok_if (fun q7 => ?_) (fun q7 => ?_)
  · have h8 := zc_eql (1) (1) q7 h6 (zr_c (lo := 1) (hi := 1) (by decide)) (by decide)
    exact (s_X12_tile_141 hσ (zr_w h5 (by decide)) h_x4 h1 (zr_w h_x1 (by decide)))
  have h9 := zc_nel (0) (0) q7 h6 (zr_c (lo := 1) (hi := 1) (by decide)) (by decide)
  exact (s_X12_tile_118 hσ h_x1 (zr_w h5 (by decide)) h_x3 h_x4 h1)
theorem s_X12_tile_78 {G : Nat → Int} {σ : zSt} (hσ : zIM G σ) {x1 : Int32} (h_x1 : zr (0) (239) x1) {x2 : Int32} (h_x2 : zr (0) (255) x2) {x3 : Int32} (h_x3 : zr (0) (1) x3) {x4 : Int32} (h_x4 : zr (0) (14336) x4) : zok (fX12_tile_78 σ x1 x2 x3 x4) (zIM G) := by
  unfold fX12_tile_78
  refine zok_pi (s_X12_reg hσ.P (zr_w (zr_c (lo := 8) (hi := 8) (by decide)) (by decide))) (fun v15 h1 => ?_)
  exact (s_X12_tile_84 hσ h_x1 h_x2 h_x3 h_x4 h1)
theorem s_X12_tile_55 {G : Nat → Int} {σ : zSt} (hσ : zIM G σ) {x1 : Int32} (h_x1 : zr (0) (239) x1) {x2 : Int32} (h_x2 : zr (0) (255) x2) {x3 : Int32} (h_x3 : zr (0) (1) x3) {s0 : Int32} (h_s0 : zr (0) (14336) s0) : zok (fX12_tile_55 σ x1 x2 x3 s0) (zIM G) := by
  unfold fX12_tile_55
  refine zok_if (fun q1 => ?_) (fun q1 => ?_)
  · have h2 := zc_ler (16) q1 (zr_c (lo := 16) (hi := 16) (by decide)) h_x1 (by decide)
    exact (s_X12_tile_78 hσ (zr_w h2 (by decide)) h_x2 h_x3 h_s0)
  have h3 := zc_ltl (15) (z_nle q1) h_x1 (zr_c (lo := 16) (hi := 16) (by decide)) (by decide)
  refine zok_pi (s_X12_bit hσ.P (zr_w (zr_c (lo := 0) (hi := 0) (by decide)) (by decide)) (zr_w (zr_c (lo := 6) (hi := 6) (by decide)) (by decide))) (fun v17 h4 => ?_)
  refine zok_if (fun q5 => ?_) (fun q5 => ?_)
  · have h6 := zc_eql (1) (1) q5 h4 (zr_c (lo := 1) (hi := 1) (by decide)) (by decide)
    exact (s_X12_tile_84 hσ (zr_w h3 (by decide)) h_x2 h_x3 h_s0 (zr_w (zr_c (lo := 0) (hi := 0) (by decide)) (by decide)))
  have h7 := zc_nel (0) (0) q5 h4 (zr_c (lo := 1) (hi := 1) (by decide)) (by decide)
  exact (s_X12_tile_78 hσ (zr_w h3 (by decide)) h_x2 h_x3 h_s0)
theorem s_X12_tile_15 {G : Nat → Int} {σ : zSt} (hσ : zIM G σ) {x1 : Int32} (h_x1 : zr (0) (239) x1) {x2 : Int32} (h_x2 : zr (0) (255) x2) {s0 : Int32} (h_s0 : zr (0) (1) s0) : zok (fX12_tile_15 σ x1 x2 s0) (zIM G) := by
  unfold fX12_tile_15
  refine zok_if (fun q1 => ?_) (fun q1 => ?_)
  · have h2 := zc_eql (0) (0) q1 h_s0 (zr_c (lo := 0) (hi := 0) (by decide)) (by decide)
    refine zok_pi (s_X12_reg hσ.P (zr_w (zr_c (lo := 2) (hi := 2) (by decide)) (by decide))) (fun v19 h3 => ?_)
    refine zok_ck (by decide) ?_
    refine zok_ck (by decide) ?_
    exact (s_X12_tile_55 hσ h_x1 h_x2 (zr_w h2 (by decide)) (zr_w (zr_add (lo := 1792) (hi := 14080) (zr_mul (lo := 0) (hi := 12288) (zr_c (lo := 4096) (hi := 4096) (by decide)) (zr_rem (lo := 0) (hi := 3) 4 (by decide) (zr_div (lo := 0) (hi := 63) 4 (by decide) h3 (by decide)) (by decide)) (by decide)) (zr_c (lo := 1792) (hi := 1792) (by decide)) (by decide)) (by decide)))
  have h4 := zc_nel (1) (1) q1 h_s0 (zr_c (lo := 0) (hi := 0) (by decide)) (by decide)
  refine zok_pi (s_X12_reg hσ.P (zr_w (zr_c (lo := 2) (hi := 2) (by decide)) (by decide))) (fun v21 h5 => ?_)
  refine zok_ck (by decide) ?_
  exact (s_X12_tile_55 hσ h_x1 h_x2 (zr_w h4 (by decide)) (zr_mul (lo := 0) (hi := 14336) (zr_c (lo := 1024) (hi := 1024) (by decide)) (zr_andr (lo := 0) (hi := 14) (zr_c (lo := 14) (hi := 14) (by decide)) (by decide)) (by decide)))
theorem s_X12_tile {G : Nat → Int} {σ : zSt} (hσ : zIM G σ) {x1 : Int32} (h_x1 : zr (0) (239) x1) {x2 : Int32} (h_x2 : zr (0) (255) x2) : zok (fX12_tile σ x1 x2) (zIM G) := by
  unfold fX12_tile
  refine zok_pi (s_X12_height hσ.P) (fun v23 h1 => ?_)
  refine zok_if (fun q2 => ?_) (fun q2 => ?_)
  · have h3 := zc_eql (192) (192) q2 h1 (zr_c (lo := 192) (hi := 192) (by decide)) (by decide)
    exact (s_X12_tile_15 hσ h_x1 h_x2 (zr_w (zr_c (lo := 1) (hi := 1) (by decide)) (by decide)))
  have h4 := zc_nel (193) (240) q2 h1 (zr_c (lo := 192) (hi := 192) (by decide)) (by decide)
  exact (s_X12_tile_15 hσ h_x1 h_x2 (zr_w (zr_c (lo := 0) (hi := 0) (by decide)) (by decide)))
theorem s_X12_sprites_349 {G : Nat → Int} {σ : zSt} {k73 : zSt → Int32 → Int32 → Int32 → Int32 → Int32 → Int32 → Int32 → Option (zSt)} {Mk73 : Int} (hk73 : ∀ (σ : zSt) (x1 : Int32) (x2 : Int32) (x3 : Int32) (x4 : Int32) (x5 : Int32) (x6 : Int32) (x7 : Int32), zIM G σ → zr (0) (239) x1 → zr (0) (16128) x2 → zr (1) (2) x3 → zr (8) (16) x4 → zr (0) (8) x5 → zr (0) (1) x6 → zr (0) (64) x7 → (64) - x7.toInt < Mk73 → zok (k73 σ x1 x2 x3 x4 x5 x6 x7) (zIM G)) (hσ : zIM G σ) {x1 : Int32} (h_x1 : zr (0) (239) x1) {x2 : Int32} (h_x2 : zr (0) (16128) x2) {x3 : Int32} (h_x3 : zr (1) (2) x3) {x4 : Int32} (h_x4 : zr (8) (16) x4) {x5 : Int32} (h_x5 : zr (0) (8) x5) {x6 : Int32} (h_x6 : zr (0) (1) x6) {x7 : Int32} (h_x7 : zr (0) (63) x7) (hMk73 : (64) - x7.toInt ≤ Mk73) : zok (fX12_sprites_349 k73 σ x1 x2 x3 x4 x5 x6 x7) (zIM G) := by
  unfold fX12_sprites_349
  refine zok_br (zr_add (lo := 1) (hi := 64) h_x7 (zr_c (lo := 1) (hi := 1) (by decide)) (by decide)) (fun v1 e2 h1 => ?_)
  exact hk73 _ _ _ _ _ _ _ _ hσ h_x1 h_x2 h_x3 h_x4 h_x5 h_x6 (zr_w h1 (by decide)) (by rw [e2]; have := z_tadd (y := (1 : Int32)) h_x7 (zr_c (lo := 1) (hi := 1) (by decide)) (by decide); have e9 : (1 : Int32).toInt = 1 := rfl; omega) 
theorem s_X12_sprites_343 {G : Nat → Int} {σ : zSt} {k73 : zSt → Int32 → Int32 → Int32 → Int32 → Int32 → Int32 → Int32 → Option (zSt)} {Mk73 : Int} (hk73 : ∀ (σ : zSt) (x1 : Int32) (x2 : Int32) (x3 : Int32) (x4 : Int32) (x5 : Int32) (x6 : Int32) (x7 : Int32), zIM G σ → zr (0) (239) x1 → zr (0) (16128) x2 → zr (1) (2) x3 → zr (8) (16) x4 → zr (0) (8) x5 → zr (0) (1) x6 → zr (0) (64) x7 → (64) - x7.toInt < Mk73 → zok (k73 σ x1 x2 x3 x4 x5 x6 x7) (zIM G)) {k250 : zSt → Int32 → Int32 → Int32 → Int32 → Int32 → Int32 → Int32 → Int32 → Int32 → Int32 → Int32 → Option (zSt)} {Mk250 : Int} (hk250 : ∀ (σ : zSt) (x1 : Int32) (x2 : Int32) (x3 : Int32) (x4 : Int32) (x5 : Int32) (x6 : Int32) (x7 : Int32) (x9 : Int32) (x10 : Int32) (x11 : Int32) (x12 : Int32), zIM G σ → zr (0) (239) x1 → zr (0) (16128) x2 → zr (1) (2) x3 → zr (8) (16) x4 → zr (1) (8) x5 → zr (0) (1) x6 → zr (0) (63) x7 → zr (0) (31) x9 → zr (-8) (255) x11 → zr (0) (16) x12 → (16) - x12.toInt < Mk250 → (64) - x7.toInt ≤ Mk73 → zok (k250 σ x1 x2 x3 x4 x5 x6 x7 x9 x10 x11 x12) (zIM G)) (hσ : zIM G σ) {x1 : Int32} (h_x1 : zr (0) (239) x1) {x2 : Int32} (h_x2 : zr (0) (16128) x2) {x3 : Int32} (h_x3 : zr (1) (2) x3) {x4 : Int32} (h_x4 : zr (8) (16) x4) {x5 : Int32} (h_x5 : zr (1) (8) x5) {x6 : Int32} (h_x6 : zr (0) (1) x6) {x7 : Int32} (h_x7 : zr (0) (63) x7) {x9 : Int32} (h_x9 : zr (0) (31) x9) {x10 : Int32} {x11 : Int32} (h_x11 : zr (-8) (255) x11) {x12 : Int32} (h_x12 : zr (0) (15) x12) (hMk73 : (64) - x7.toInt ≤ Mk73) (hMk250 : (16) - x12.toInt ≤ Mk250) : zok (fX12_sprites_343 k73 k250 σ x1 x2 x3 x4 x5 x6 x7 x9 x10 x11 x12) (zIM G) := by
  unfold fX12_sprites_343
  refine zok_br (zr_add (lo := 1) (hi := 16) h_x12 (zr_c (lo := 1) (hi := 1) (by decide)) (by decide)) (fun v2 e2 h1 => ?_)
  exact hk250 _ _ _ _ _ _ _ _ _ _ _ _ hσ h_x1 h_x2 h_x3 h_x4 h_x5 h_x6 h_x7 h_x9 h_x11 (zr_w h1 (by decide)) (by rw [e2]; have := z_tadd (y := (1 : Int32)) h_x12 (zr_c (lo := 1) (hi := 1) (by decide)) (by decide); have e9 : (1 : Int32).toInt = 1 := rfl; omega) hMk73
theorem s_X12_sprites_250_body {G : Nat → Int} {σ : zSt} {k73 : zSt → Int32 → Int32 → Int32 → Int32 → Int32 → Int32 → Int32 → Option (zSt)} {Mk73 : Int} (hk73 : ∀ (σ : zSt) (x1 : Int32) (x2 : Int32) (x3 : Int32) (x4 : Int32) (x5 : Int32) (x6 : Int32) (x7 : Int32), zIM G σ → zr (0) (239) x1 → zr (0) (16128) x2 → zr (1) (2) x3 → zr (8) (16) x4 → zr (0) (8) x5 → zr (0) (1) x6 → zr (0) (64) x7 → (64) - x7.toInt < Mk73 → zok (k73 σ x1 x2 x3 x4 x5 x6 x7) (zIM G)) {k250 : zSt → Int32 → Int32 → Int32 → Int32 → Int32 → Int32 → Int32 → Int32 → Int32 → Int32 → Int32 → Option (zSt)} {Mk250 : Int} (hk250 : ∀ (σ : zSt) (x1 : Int32) (x2 : Int32) (x3 : Int32) (x4 : Int32) (x5 : Int32) (x6 : Int32) (x7 : Int32) (x9 : Int32) (x10 : Int32) (x11 : Int32) (x12 : Int32), zIM G σ → zr (0) (239) x1 → zr (0) (16128) x2 → zr (1) (2) x3 → zr (8) (16) x4 → zr (1) (8) x5 → zr (0) (1) x6 → zr (0) (63) x7 → zr (0) (31) x9 → zr (-8) (255) x11 → zr (0) (16) x12 → (16) - x12.toInt < Mk250 → (64) - x7.toInt ≤ Mk73 → zok (k250 σ x1 x2 x3 x4 x5 x6 x7 x9 x10 x11 x12) (zIM G)) (hσ : zIM G σ) {x1 : Int32} (h_x1 : zr (0) (239) x1) {x2 : Int32} (h_x2 : zr (0) (16128) x2) {x3 : Int32} (h_x3 : zr (1) (2) x3) {x4 : Int32} (h_x4 : zr (8) (16) x4) {x5 : Int32} (h_x5 : zr (1) (8) x5) {x6 : Int32} (h_x6 : zr (0) (1) x6) {x7 : Int32} (h_x7 : zr (0) (63) x7) {x9 : Int32} (h_x9 : zr (0) (31) x9) {x10 : Int32} {x11 : Int32} (h_x11 : zr (-8) (255) x11) {x12 : Int32} (h_x12 : zr (0) (16) x12) (hMk73 : (64) - x7.toInt ≤ Mk73) (hMk250 : (16) - x12.toInt ≤ Mk250) : zok (fX12_sprites_250_body k73 k250 σ x1 x2 x3 x4 x5 x6 x7 x9 x10 x11 x12) (zIM G) := by
  unfold fX12_sprites_250_body
  refine zok_if (fun q1 => ?_) (fun q1 => ?_)
  · have h2 := zc_ler (8) q1 (zr_mul (lo := 8) (hi := 16) (zr_c (lo := 8) (hi := 8) (by decide)) h_x3 (by decide)) h_x12 (by decide)
    exact (s_X12_sprites_349 hk73 hσ h_x1 h_x2 h_x3 h_x4 (zr_w h_x5 (by decide)) h_x6 h_x7 hMk73)
  have h3 := zc_ltl (15) (z_nle q1) h_x12 (zr_mul (lo := 8) (hi := 16) (zr_c (lo := 8) (hi := 8) (by decide)) h_x3 (by decide)) (by decide)
  refine zok_ck (zdv_ok h_x3 (by decide)) ?_
  refine zok_ck (zdv_ok h_x3 (by decide)) ?_
  refine zok_ck (by decide) ?_
  refine zok_pi (s_X12_tileDot hσ.P) (fun v4 h4 => ?_)
  refine zok_br (zr_add (lo := -8) (hi := 270) h_x11 h3 (by decide)) (fun v5 e6 h5 => ?_)
  refine zok_if (fun q7 => ?_) (fun q7 => ?_)
  · have h8 := zc_eql (0) (0) q7 h4 (zr_c (lo := 0) (hi := 0) (by decide)) (by decide)
    exact (s_X12_sprites_343 hk73 hk250 hσ h_x1 h_x2 h_x3 h_x4 h_x5 h_x6 h_x7 h_x9 h_x11 h3 hMk73 hMk250)
  have h9 := zc_nel (1) (15) q7 h4 (zr_c (lo := 0) (hi := 0) (by decide)) (by decide)
  refine zok_if (fun q10 => ?_) (fun q10 => ?_)
  · have h11 := zc_ltl (-1) q10 h5 (zr_c (lo := 0) (hi := 0) (by decide)) (by decide)
    exact (s_X12_sprites_343 hk73 hk250 hσ h_x1 h_x2 h_x3 h_x4 h_x5 h_x6 h_x7 h_x9 h_x11 h3 hMk73 hMk250)
  have h12 := zc_ler (0) (z_nlt q10) (zr_c (lo := 0) (hi := 0) (by decide)) h5 (by decide)
  refine zok_if (fun q13 => ?_) (fun q13 => ?_)
  · have h14 := zc_lel (255) q13 h12 (zr_c (lo := 255) (hi := 255) (by decide)) (by decide)
    refine zok_ck (zin_ok h14 (by decide)) ?_
    refine zok_if (fun q15 => ?_) (fun q15 => ?_)
    · have h16 := zc_lel (0) q15 (rM_10 hσ.sg _ (z_ix h14 (by decide))) (zr_c (lo := 0) (hi := 0) (by decide)) (by decide)
      refine zok_ck (zin_ok h14 (by decide)) ?_
      refine zok_bs (hσ.wi 0 255 (z_ix h14 (by decide)) (zr_add (lo := 17) (hi := 31) (zr_c (lo := 16) (hi := 16) (by decide)) h9 (by decide)) (by decide +kernel)) (fun σ6 e18 i17 => ?_)
      exact (s_X12_sprites_343 hk73 hk250 i17 h_x1 h_x2 h_x3 h_x4 h_x5 h_x6 h_x7 h_x9 h_x11 h3 hMk73 hMk250)
    have h19 := zc_ltr (1) (z_nle q15) (zr_c (lo := 0) (hi := 0) (by decide)) (rM_10 hσ.sg _ (z_ix h14 (by decide))) (by decide)
    refine zok_ck rfl ?_
    refine zok_ck rfl ?_
    refine zok_bs (hσ.wi 62 62 (by decide) (zr_or (lo := 0) (hi := 255) 8 (rM_26 hσ.sg _ (by decide)) (zr_c (lo := 32) (hi := 32) (by decide)) (by decide)) (by decide +kernel)) (fun σ7 e21 i20 => ?_)
    exact (s_X12_sprites_343 hk73 hk250 i20 h_x1 h_x2 h_x3 h_x4 h_x5 h_x6 h_x7 h_x9 h_x11 h3 hMk73 hMk250)
  have h22 := zc_ltr (256) (z_nle q13) (zr_c (lo := 255) (hi := 255) (by decide)) h12 (by decide)
  exact (s_X12_sprites_343 hk73 hk250 hσ h_x1 h_x2 h_x3 h_x4 h_x5 h_x6 h_x7 h_x9 h_x11 h3 hMk73 hMk250)
theorem s_X12_sprites_250 {G : Nat → Int} {k73 : zSt → Int32 → Int32 → Int32 → Int32 → Int32 → Int32 → Int32 → Option (zSt)} {Mk73 : Int} (hk73 : ∀ (σ : zSt) (x1 : Int32) (x2 : Int32) (x3 : Int32) (x4 : Int32) (x5 : Int32) (x6 : Int32) (x7 : Int32), zIM G σ → zr (0) (239) x1 → zr (0) (16128) x2 → zr (1) (2) x3 → zr (8) (16) x4 → zr (0) (8) x5 → zr (0) (1) x6 → zr (0) (64) x7 → (64) - x7.toInt < Mk73 → zok (k73 σ x1 x2 x3 x4 x5 x6 x7) (zIM G)) : ∀ (n : Nat) {σ : zSt} (hσ : zIM G σ) {x1 : Int32} (h_x1 : zr (0) (239) x1) {x2 : Int32} (h_x2 : zr (0) (16128) x2) {x3 : Int32} (h_x3 : zr (1) (2) x3) {x4 : Int32} (h_x4 : zr (8) (16) x4) {x5 : Int32} (h_x5 : zr (1) (8) x5) {x6 : Int32} (h_x6 : zr (0) (1) x6) {x7 : Int32} (h_x7 : zr (0) (63) x7) {x9 : Int32} (h_x9 : zr (0) (31) x9) {x10 : Int32} {x11 : Int32} (h_x11 : zr (-8) (255) x11) {x12 : Int32} (h_x12 : zr (0) (16) x12) (hm : (16) - x12.toInt < n) (hMk73 : (64) - x7.toInt ≤ Mk73), zok (fX12_sprites_250 k73 n σ x1 x2 x3 x4 x5 x6 x7 x9 x10 x11 x12) (zIM G) := by
  intro n
  induction n with
  | zero => intro σ hσ x1 h_x1 x2 h_x2 x3 h_x3 x4 h_x4 x5 h_x5 x6 h_x6 x7 h_x7 x9 h_x9 x10 x11 h_x11 x12 h_x12 hm hMk73; have h9 := h_x12.1; have h8 := h_x12.2; exfalso; omega
  | succ n ih => intro σ hσ x1 h_x1 x2 h_x2 x3 h_x3 x4 h_x4 x5 h_x5 x6 h_x6 x7 h_x7 x9 h_x9 x10 x11 h_x11 x12 h_x12 hm hMk73; exact s_X12_sprites_250_body hk73 (fun σ x1 x2 x3 x4 x5 x6 x7 x9 x10 x11 x12 hσ h_x1 h_x2 h_x3 h_x4 h_x5 h_x6 h_x7 h_x9 h_x11 h_x12 hm1 hMk73 => ih hσ h_x1 h_x2 h_x3 h_x4 h_x5 h_x6 h_x7 h_x9 h_x11 h_x12 (by omega) hMk73) hσ h_x1 h_x2 h_x3 h_x4 h_x5 h_x6 h_x7 h_x9 h_x11 h_x12 hMk73 (Int.le_refl _)
theorem s_X12_sprites_244 {G : Nat → Int} {σ : zSt} {k73 : zSt → Int32 → Int32 → Int32 → Int32 → Int32 → Int32 → Int32 → Option (zSt)} {Mk73 : Int} (hk73 : ∀ (σ : zSt) (x1 : Int32) (x2 : Int32) (x3 : Int32) (x4 : Int32) (x5 : Int32) (x6 : Int32) (x7 : Int32), zIM G σ → zr (0) (239) x1 → zr (0) (16128) x2 → zr (1) (2) x3 → zr (8) (16) x4 → zr (0) (8) x5 → zr (0) (1) x6 → zr (0) (64) x7 → (64) - x7.toInt < Mk73 → zok (k73 σ x1 x2 x3 x4 x5 x6 x7) (zIM G)) (hσ : zIM G σ) {x1 : Int32} (h_x1 : zr (0) (239) x1) {x2 : Int32} (h_x2 : zr (0) (16128) x2) {x3 : Int32} (h_x3 : zr (1) (2) x3) {x4 : Int32} (h_x4 : zr (8) (16) x4) {x5 : Int32} (h_x5 : zr (1) (8) x5) {x6 : Int32} (h_x6 : zr (0) (1) x6) {x7 : Int32} (h_x7 : zr (0) (63) x7) {x9 : Int32} (h_x9 : zr (0) (31) x9) {x10 : Int32} {s0 : Int32} (h_s0 : zr (0) (8) s0) {s1 : Int32} (h_s1 : zr (0) (255) s1) (hMk73 : (64) - x7.toInt ≤ Mk73) : zok (fX12_sprites_244 k73 σ x1 x2 x3 x4 x5 x6 x7 x9 x10 s0 s1) (zIM G) := by
  unfold fX12_sprites_244
  refine zok_br (zr_sub (lo := -8) (hi := 255) h_s1 h_s0 (by decide)) (fun v8 e2 h1 => ?_)
  exact (s_X12_sprites_250 hk73 zfuel hσ h_x1 h_x2 h_x3 h_x4 h_x5 h_x6 h_x7 h_x9 h1 (zr_w (zr_c (lo := 0) (hi := 0) (by decide)) (by decide)) (by decide) hMk73)
theorem s_X12_sprites_212 {G : Nat → Int} {σ : zSt} {k73 : zSt → Int32 → Int32 → Int32 → Int32 → Int32 → Int32 → Int32 → Option (zSt)} {Mk73 : Int} (hk73 : ∀ (σ : zSt) (x1 : Int32) (x2 : Int32) (x3 : Int32) (x4 : Int32) (x5 : Int32) (x6 : Int32) (x7 : Int32), zIM G σ → zr (0) (239) x1 → zr (0) (16128) x2 → zr (1) (2) x3 → zr (8) (16) x4 → zr (0) (8) x5 → zr (0) (1) x6 → zr (0) (64) x7 → (64) - x7.toInt < Mk73 → zok (k73 σ x1 x2 x3 x4 x5 x6 x7) (zIM G)) (hσ : zIM G σ) {x1 : Int32} (h_x1 : zr (0) (239) x1) {x2 : Int32} (h_x2 : zr (0) (16128) x2) {x3 : Int32} (h_x3 : zr (1) (2) x3) {x4 : Int32} (h_x4 : zr (8) (16) x4) {x5 : Int32} (h_x5 : zr (1) (8) x5) {x6 : Int32} (h_x6 : zr (0) (1) x6) {x7 : Int32} (h_x7 : zr (0) (63) x7) {x9 : Int32} (h_x9 : zr (0) (31) x9) {s0 : Int32} (hMk73 : (64) - x7.toInt ≤ Mk73) : zok (fX12_sprites_212 k73 σ x1 x2 x3 x4 x5 x6 x7 x9 s0) (zIM G) := by
  unfold fX12_sprites_212
  refine zok_pi (s_X12_video8 hσ.P) (fun v10 h1 => ?_)
  refine zok_pi (s_X12_bit hσ.P (zr_w (zr_c (lo := 0) (hi := 0) (by decide)) (by decide)) (zr_w (zr_c (lo := 3) (hi := 3) (by decide)) (by decide))) (fun v12 h2 => ?_)
  refine zok_if (fun q3 => ?_) (fun q3 => ?_)
  · have h4 := zc_eql (1) (1) q3 h2 (zr_c (lo := 1) (hi := 1) (by decide)) (by decide)
    exact (s_X12_sprites_244 hk73 hσ h_x1 h_x2 h_x3 h_x4 h_x5 h_x6 h_x7 h_x9 (zr_w (zr_c (lo := 8) (hi := 8) (by decide)) (by decide)) h1 hMk73)
  have h5 := zc_nel (0) (0) q3 h2 (zr_c (lo := 1) (hi := 1) (by decide)) (by decide)
  exact (s_X12_sprites_244 hk73 hσ h_x1 h_x2 h_x3 h_x4 h_x5 h_x6 h_x7 h_x9 (zr_w (zr_c (lo := 0) (hi := 0) (by decide)) (by decide)) h1 hMk73)
theorem s_X12_sprites_183 {G : Nat → Int} {σ : zSt} {k73 : zSt → Int32 → Int32 → Int32 → Int32 → Int32 → Int32 → Int32 → Option (zSt)} {Mk73 : Int} (hk73 : ∀ (σ : zSt) (x1 : Int32) (x2 : Int32) (x3 : Int32) (x4 : Int32) (x5 : Int32) (x6 : Int32) (x7 : Int32), zIM G σ → zr (0) (239) x1 → zr (0) (16128) x2 → zr (1) (2) x3 → zr (8) (16) x4 → zr (0) (8) x5 → zr (0) (1) x6 → zr (0) (64) x7 → (64) - x7.toInt < Mk73 → zok (k73 σ x1 x2 x3 x4 x5 x6 x7) (zIM G)) (hσ : zIM G σ) {x1 : Int32} (h_x1 : zr (0) (239) x1) {x2 : Int32} (h_x2 : zr (0) (16128) x2) {x3 : Int32} (h_x3 : zr (1) (2) x3) {x4 : Int32} (h_x4 : zr (8) (16) x4) {x5 : Int32} (h_x5 : zr (1) (8) x5) {x6 : Int32} (h_x6 : zr (0) (1) x6) {x7 : Int32} (h_x7 : zr (0) (63) x7) {x9 : Int32} (h_x9 : zr (0) (31) x9) {s0 : Int32} (h_s0 : zr (0) (256) s0) {s1 : Int32} (h_s1 : zr (0) (255) s1) (hMk73 : (64) - x7.toInt ≤ Mk73) : zok (fX12_sprites_183 k73 σ x1 x2 x3 x4 x5 x6 x7 x9 s0 s1) (zIM G) := by
  unfold fX12_sprites_183
  refine zok_br (zr_add (lo := 0) (hi := 511) h_s1 h_s0 (by decide)) (fun v13 e2 h1 => ?_)
  refine zok_if (fun q3 => ?_) (fun q3 => ?_)
  · have h4 := zc_eql (16) (16) q3 h_x4 (zr_c (lo := 16) (hi := 16) (by decide)) (by decide)
    refine zok_ck (zdv_ok h_x3 (by decide)) ?_
    refine zok_ck (by decide) ?_
    exact (s_X12_sprites_212 hk73 hσ h_x1 h_x2 h_x3 (zr_w h4 (by decide)) h_x5 h_x6 h_x7 h_x9 hMk73)
  have h5 := zc_nel (8) (15) q3 h_x4 (zr_c (lo := 16) (hi := 16) (by decide)) (by decide)
  exact (s_X12_sprites_212 hk73 hσ h_x1 h_x2 h_x3 (zr_w h5 (by decide)) h_x5 h_x6 h_x7 h_x9 hMk73)
end ZJN0
section ZJN1
theorem s_X12_sprites_104 {G : Nat → Int} {σ : zSt} {k73 : zSt → Int32 → Int32 → Int32 → Int32 → Int32 → Int32 → Int32 → Option (zSt)} {Mk73 : Int} (hk73 : ∀ (σ : zSt) (x1 : Int32) (x2 : Int32) (x3 : Int32) (x4 : Int32) (x5 : Int32) (x6 : Int32) (x7 : Int32), zIM G σ → zr (0) (239) x1 → zr (0) (16128) x2 → zr (1) (2) x3 → zr (8) (16) x4 → zr (0) (8) x5 → zr (0) (1) x6 → zr (0) (64) x7 → (64) - x7.toInt < Mk73 → zok (k73 σ x1 x2 x3 x4 x5 x6 x7) (zIM G)) (hσ : zIM G σ) {x1 : Int32} (h_x1 : zr (0) (239) x1) {x2 : Int32} (h_x2 : zr (0) (16128) x2) {x3 : Int32} (h_x3 : zr (1) (2) x3) {x4 : Int32} (h_x4 : zr (8) (16) x4) {x5 : Int32} (h_x5 : zr (0) (8) x5) {x6 : Int32} (h_x6 : zr (0) (1) x6) {x7 : Int32} (h_x7 : zr (0) (63) x7) {x8 : Int32} (h_x8 : zr (0) (255) x8) (hMk73 : (64) - x7.toInt ≤ Mk73) : zok (fX12_sprites_104 k73 σ x1 x2 x3 x4 x5 x6 x7 x8) (zIM G) := by
  unfold fX12_sprites_104
  refine zok_br (zr_andr (lo := 0) (hi := 255) (zr_c (lo := 255) (hi := 255) (by decide)) (by decide)) (fun v14 e2 h1 => ?_)
  refine zok_if (fun q3 => ?_) (fun q3 => ?_)
  · have h4 := zc_ltl (31) q3 h1 (zr_mul (lo := 8) (hi := 32) h_x4 h_x3 (by decide)) (by decide)
    refine zok_if (fun q5 => ?_) (fun q5 => ?_)
    · have h6 := zc_eql (8) (8) q5 h_x5 (zr_c (lo := 8) (hi := 8) (by decide)) (by decide)
      refine zok_ck rfl ?_
      refine zok_ck rfl ?_
      refine zok_bs (hσ.wi 62 62 (by decide) (zr_or (lo := 0) (hi := 255) 8 (rM_26 hσ.sg _ (by decide)) (zr_c (lo := 64) (hi := 64) (by decide)) (by decide)) (by decide +kernel)) (fun σ20 e8 i7 => ?_)
      exact zok_some i7
    have h9 := zc_nel (0) (7) q5 h_x5 (zr_c (lo := 8) (hi := 8) (by decide)) (by decide)
    refine zok_br (zr_add (lo := 1) (hi := 8) h9 (zr_c (lo := 1) (hi := 1) (by decide)) (by decide)) (fun v15 e11 h10 => ?_)
    refine zok_pi (s_X12_video8 hσ.P) (fun v17 h12 => ?_)
    refine zok_pi (s_X12_bit hσ.P (zr_w (zr_c (lo := 6) (hi := 6) (by decide)) (by decide)) (zr_w (zr_c (lo := 2) (hi := 2) (by decide)) (by decide))) (fun v19 h13 => ?_)
    refine zok_if (fun q14 => ?_) (fun q14 => ?_)
    · have h15 := zc_eql (1) (1) q14 h13 (zr_c (lo := 1) (hi := 1) (by decide)) (by decide)
      exact (s_X12_sprites_183 hk73 hσ h_x1 h_x2 h_x3 h_x4 h10 h_x6 h_x7 h4 (zr_w (zr_c (lo := 256) (hi := 256) (by decide)) (by decide)) h12 hMk73)
    have h16 := zc_nel (0) (0) q14 h13 (zr_c (lo := 1) (hi := 1) (by decide)) (by decide)
    exact (s_X12_sprites_183 hk73 hσ h_x1 h_x2 h_x3 h_x4 h10 h_x6 h_x7 h4 (zr_w (zr_c (lo := 0) (hi := 0) (by decide)) (by decide)) h12 hMk73)
  have h17 := zc_ler (8) (z_nlt q3) (zr_mul (lo := 8) (hi := 32) h_x4 h_x3 (by decide)) h1 (by decide)
  exact (s_X12_sprites_349 hk73 hσ h_x1 h_x2 h_x3 h_x4 h_x5 h_x6 h_x7 hMk73)
theorem s_X12_sprites_73_body {G : Nat → Int} {σ : zSt} {k73 : zSt → Int32 → Int32 → Int32 → Int32 → Int32 → Int32 → Int32 → Option (zSt)} {Mk73 : Int} (hk73 : ∀ (σ : zSt) (x1 : Int32) (x2 : Int32) (x3 : Int32) (x4 : Int32) (x5 : Int32) (x6 : Int32) (x7 : Int32), zIM G σ → zr (0) (239) x1 → zr (0) (16128) x2 → zr (1) (2) x3 → zr (8) (16) x4 → zr (0) (8) x5 → zr (0) (1) x6 → zr (0) (64) x7 → (64) - x7.toInt < Mk73 → zok (k73 σ x1 x2 x3 x4 x5 x6 x7) (zIM G)) (hσ : zIM G σ) {x1 : Int32} (h_x1 : zr (0) (239) x1) {x2 : Int32} (h_x2 : zr (0) (16128) x2) {x3 : Int32} (h_x3 : zr (1) (2) x3) {x4 : Int32} (h_x4 : zr (8) (16) x4) {x5 : Int32} (h_x5 : zr (0) (8) x5) {x6 : Int32} (h_x6 : zr (0) (1) x6) {x7 : Int32} (h_x7 : zr (0) (64) x7) (hMk73 : (64) - x7.toInt ≤ Mk73) : zok (fX12_sprites_73_body k73 σ x1 x2 x3 x4 x5 x6 x7) (zIM G) := by
  unfold fX12_sprites_73_body
  refine zok_if (fun q1 => ?_) (fun q1 => ?_)
  · have h2 := zc_ler (64) q1 (zr_c (lo := 64) (hi := 64) (by decide)) h_x7 (by decide)
    exact zok_some hσ
  have h3 := zc_ltl (63) (z_nle q1) h_x7 (zr_c (lo := 64) (hi := 64) (by decide)) (by decide)
  refine zok_pi (s_X12_video8 hσ.P) (fun v22 h4 => ?_)
  refine zok_if (fun q5 => ?_) (fun q5 => ?_)
  · have h6 := zc_eql (0) (0) q5 h_x6 (zr_c (lo := 0) (hi := 0) (by decide)) (by decide)
    exact (s_X12_sprites_104 hk73 hσ h_x1 h_x2 h_x3 h_x4 h_x5 (zr_w h6 (by decide)) h3 h4 hMk73)
  have h7 := zc_nel (1) (1) q5 h_x6 (zr_c (lo := 0) (hi := 0) (by decide)) (by decide)
  refine zok_if (fun q8 => ?_) (fun q8 => ?_)
  · have h9 := zc_eql (208) (208) q8 h4 (zr_c (lo := 208) (hi := 208) (by decide)) (by decide)
    exact zok_some hσ
  exact (s_X12_sprites_104 hk73 hσ h_x1 h_x2 h_x3 h_x4 h_x5 (zr_w h7 (by decide)) h3 h4 hMk73)
theorem s_X12_sprites_73 {G : Nat → Int} : ∀ (n : Nat) {σ : zSt} (hσ : zIM G σ) {x1 : Int32} (h_x1 : zr (0) (239) x1) {x2 : Int32} (h_x2 : zr (0) (16128) x2) {x3 : Int32} (h_x3 : zr (1) (2) x3) {x4 : Int32} (h_x4 : zr (8) (16) x4) {x5 : Int32} (h_x5 : zr (0) (8) x5) {x6 : Int32} (h_x6 : zr (0) (1) x6) {x7 : Int32} (h_x7 : zr (0) (64) x7) (hm : (64) - x7.toInt < n), zok (fX12_sprites_73 n σ x1 x2 x3 x4 x5 x6 x7) (zIM G) := by
  intro n
  induction n with
  | zero => intro σ hσ x1 h_x1 x2 h_x2 x3 h_x3 x4 h_x4 x5 h_x5 x6 h_x6 x7 h_x7 hm ; have h9 := h_x7.1; have h8 := h_x7.2; exfalso; omega
  | succ n ih => intro σ hσ x1 h_x1 x2 h_x2 x3 h_x3 x4 h_x4 x5 h_x5 x6 h_x6 x7 h_x7 hm ; exact s_X12_sprites_73_body (fun σ x1 x2 x3 x4 x5 x6 x7 hσ h_x1 h_x2 h_x3 h_x4 h_x5 h_x6 h_x7 hm1 => ih hσ h_x1 h_x2 h_x3 h_x4 h_x5 h_x6 h_x7 (by omega)) hσ h_x1 h_x2 h_x3 h_x4 h_x5 h_x6 h_x7 (Int.le_refl _)
theorem s_X12_sprites_68 {G : Nat → Int} {σ : zSt} (hσ : zIM G σ) {x1 : Int32} (h_x1 : zr (0) (239) x1) {x2 : Int32} (h_x2 : zr (0) (16128) x2) {x3 : Int32} (h_x3 : zr (1) (2) x3) {x4 : Int32} (h_x4 : zr (8) (16) x4) {x5 : Int32} (h_x5 : zr (0) (0) x5) {s0 : Int32} (h_s0 : zr (0) (1) s0) : zok (fX12_sprites_68 σ x1 x2 x3 x4 x5 s0) (zIM G) := by
  unfold fX12_sprites_68
  exact (s_X12_sprites_73 zfuel hσ h_x1 h_x2 h_x3 h_x4 (zr_w h_x5 (by decide)) h_s0 (zr_w (zr_c (lo := 0) (hi := 0) (by decide)) (by decide)) (by decide))
theorem s_X12_sprites_48 {G : Nat → Int} {σ : zSt} (hσ : zIM G σ) {x1 : Int32} (h_x1 : zr (0) (239) x1) {x2 : Int32} (h_x2 : zr (0) (16128) x2) {x3 : Int32} (h_x3 : zr (1) (2) x3) {s0 : Int32} (h_s0 : zr (8) (16) s0) : zok (fX12_sprites_48 σ x1 x2 x3 s0) (zIM G) := by
  unfold fX12_sprites_48
  refine zok_pi (s_X12_height hσ.P) (fun v24 h1 => ?_)
  refine zok_if (fun q2 => ?_) (fun q2 => ?_)
  · have h3 := zc_eql (192) (192) q2 h1 (zr_c (lo := 192) (hi := 192) (by decide)) (by decide)
    exact (s_X12_sprites_68 hσ h_x1 h_x2 h_x3 h_s0 (zr_c (lo := 0) (hi := 0) (by decide)) (zr_w (zr_c (lo := 1) (hi := 1) (by decide)) (by decide)))
  have h4 := zc_nel (193) (240) q2 h1 (zr_c (lo := 192) (hi := 192) (by decide)) (by decide)
  exact (s_X12_sprites_68 hσ h_x1 h_x2 h_x3 h_s0 (zr_c (lo := 0) (hi := 0) (by decide)) (zr_w (zr_c (lo := 0) (hi := 0) (by decide)) (by decide)))
theorem s_X12_sprites_30 {G : Nat → Int} {σ : zSt} (hσ : zIM G σ) {x1 : Int32} (h_x1 : zr (0) (239) x1) {x2 : Int32} (h_x2 : zr (0) (16128) x2) {s0 : Int32} (h_s0 : zr (1) (2) s0) : zok (fX12_sprites_30 σ x1 x2 s0) (zIM G) := by
  unfold fX12_sprites_30
  refine zok_pi (s_X12_bit hσ.P (zr_w (zr_c (lo := 1) (hi := 1) (by decide)) (by decide)) (zr_w (zr_c (lo := 1) (hi := 1) (by decide)) (by decide))) (fun v26 h1 => ?_)
  refine zok_if (fun q2 => ?_) (fun q2 => ?_)
  · have h3 := zc_eql (1) (1) q2 h1 (zr_c (lo := 1) (hi := 1) (by decide)) (by decide)
    exact (s_X12_sprites_48 hσ h_x1 h_x2 h_s0 (zr_w (zr_c (lo := 16) (hi := 16) (by decide)) (by decide)))
  have h4 := zc_nel (0) (0) q2 h1 (zr_c (lo := 1) (hi := 1) (by decide)) (by decide)
  exact (s_X12_sprites_48 hσ h_x1 h_x2 h_s0 (zr_w (zr_c (lo := 8) (hi := 8) (by decide)) (by decide)))
theorem s_X12_sprites {G : Nat → Int} {σ : zSt} (hσ : zIM G σ) {x1 : Int32} (h_x1 : zr (0) (239) x1) : zok (fX12_sprites σ x1) (zIM G) := by
  unfold fX12_sprites
  refine zok_pi (s_X12_reg hσ.P (zr_w (zr_c (lo := 5) (hi := 5) (by decide)) (by decide))) (fun v28 h1 => ?_)
  refine zok_ck (by decide) ?_
  refine zok_ck (by decide) ?_
  refine zok_br (zr_mul (lo := 0) (hi := 16128) (zr_c (lo := 256) (hi := 256) (by decide)) (zr_rem (lo := 0) (hi := 63) 64 (by decide) (zr_div (lo := 0) (hi := 127) 2 (by decide) h1 (by decide)) (by decide)) (by decide)) (fun v29 e3 h2 => ?_)
  refine zok_pi (s_X12_bit hσ.P (zr_w (zr_c (lo := 1) (hi := 1) (by decide)) (by decide)) (zr_w (zr_c (lo := 0) (hi := 0) (by decide)) (by decide))) (fun v31 h4 => ?_)
  refine zok_if (fun q5 => ?_) (fun q5 => ?_)
  · have h6 := zc_eql (1) (1) q5 h4 (zr_c (lo := 1) (hi := 1) (by decide)) (by decide)
    exact (s_X12_sprites_30 hσ h_x1 h2 (zr_w (zr_c (lo := 2) (hi := 2) (by decide)) (by decide)))
  have h7 := zc_nel (0) (0) q5 h4 (zr_c (lo := 1) (hi := 1) (by decide)) (by decide)
  exact (s_X12_sprites_30 hσ h_x1 h2 (zr_w (zr_c (lo := 1) (hi := 1) (by decide)) (by decide)))
theorem s_X12_colour_62 {σ : zSt} (hσ : zPM σ) {s0 : Int32} (h_s0 : zr (0) (4095) s0) : zok (fX12_colour_62 σ s0) (zPi σ (fun v : Int32 => zr (0) (4095) v)) := by
  unfold fX12_colour_62
  exact zok_spi h_s0
theorem s_X12_colour_252 {σ : zSt} (hσ : zPM σ) {s0 : Int32} (h_s0 : zr (0) (4095) s0) : zok (fX12_colour_252 σ s0) (zPi σ (fun v : Int32 => zr (0) (4095) v)) := by
  unfold fX12_colour_252
  exact zok_spi h_s0
theorem s_X12_colour_217 {σ : zSt} (hσ : zPM σ) {x2 : Int32} (h_x2 : zr (0) (63) x2) : zok (fX12_colour_217 σ x2) (zPi σ (fun v : Int32 => zr (0) (4095) v)) := by
  unfold fX12_colour_217
  refine zok_if (fun q1 => ?_) (fun q1 => ?_)
  · have h2 := zc_eql (2) (2) q1 (rM_1 hσ.sg _ (by decide)) (zr_c (lo := 2) (hi := 2) (by decide)) (by decide)
    refine zok_ck (by decide) ?_
    refine zok_ck (by decide) ?_
    refine zok_ck (by decide) ?_
    refine zok_ck (by decide) ?_
    exact (s_X12_colour_252 hσ (zr_add (lo := 0) (hi := 4095) (zr_add (lo := 0) (hi := 255) (zr_mul (lo := 0) (hi := 15) (zr_c (lo := 5) (hi := 5) (by decide)) (zr_rem (lo := 0) (hi := 3) 4 (by decide) h_x2 (by decide)) (by decide)) (zr_mul (lo := 0) (hi := 240) (zr_c (lo := 80) (hi := 80) (by decide)) (zr_rem (lo := 0) (hi := 3) 4 (by decide) (zr_div (lo := 0) (hi := 15) 4 (by decide) h_x2 (by decide)) (by decide)) (by decide)) (by decide)) (zr_mul (lo := 0) (hi := 3840) (zr_c (lo := 1280) (hi := 1280) (by decide)) (zr_div (lo := 0) (hi := 3) 16 (by decide) h_x2 (by decide)) (by decide)) (by decide)))
  have h3 := zc_nel (0) (1) q1 (rM_1 hσ.sg _ (by decide)) (zr_c (lo := 2) (hi := 2) (by decide)) (by decide)
  exact (s_X12_colour_252 hσ (zr_w h_x2 (by decide)))
theorem s_X12_colour {σ : zSt} (hσ : zPM σ) {x1 : Int32} (h_x1 : zr (0) (31) x1) : zok (fX12_colour σ x1) (zPi σ (fun v : Int32 => zr (0) (4095) v)) := by
  unfold fX12_colour
  refine zok_pi (s_X12_mode hσ) (fun v2 h1 => ?_)
  refine zok_if (fun q2 => ?_) (fun q2 => ?_)
  · have h3 := zc_eql (4) (4) q2 h1 (zr_c (lo := 4) (hi := 4) (by decide)) (by decide)
    refine zok_if (fun q4 => ?_) (fun q4 => ?_)
    · have h5 := zc_eql (2) (2) q4 (rM_1 hσ.sg _ (by decide)) (zr_c (lo := 2) (hi := 2) (by decide)) (by decide)
      refine zok_ck (zin_ok (zr_mul (lo := 0) (hi := 62) (zr_c (lo := 2) (hi := 2) (by decide)) h_x1 (by decide)) (by decide)) ?_
      refine zok_ck (zin_ok (zr_add (lo := 1) (hi := 63) (zr_mul (lo := 0) (hi := 62) (zr_c (lo := 2) (hi := 2) (by decide)) h_x1 (by decide)) (zr_c (lo := 1) (hi := 1) (by decide)) (by decide)) (by decide)) ?_
      refine zok_ck (by decide) ?_
      exact (s_X12_colour_62 hσ (zr_rem (lo := 0) (hi := 4095) 4096 (by decide) (zr_or (lo := 0) (hi := 65535) 16 (zr_andr (lo := 0) (hi := 255) (zr_c (lo := 255) (hi := 255) (by decide)) (by decide)) (zr_shl (lo := 0) (hi := 65280) 8 (by decide) (zr_andr (lo := 0) (hi := 255) (zr_c (lo := 255) (hi := 255) (by decide)) (by decide)) (by decide)) (by decide)) (by decide)))
    have h6 := zc_nel (0) (1) q4 (rM_1 hσ.sg _ (by decide)) (zr_c (lo := 2) (hi := 2) (by decide)) (by decide)
    refine zok_ck (zin_ok h_x1 (by decide)) ?_
    exact (s_X12_colour_62 hσ (zr_w (zr_andr (lo := 0) (hi := 63) (zr_c (lo := 63) (hi := 63) (by decide)) (by decide)) (by decide)))
  have h7 := zc_nel (0) (3) q2 h1 (zr_c (lo := 4) (hi := 4) (by decide)) (by decide)
  refine zok_if (fun q8 => ?_) (fun q8 => ?_)
  · have h9 := zc_eql (2) (2) q8 h_x1 (zr_c (lo := 2) (hi := 2) (by decide)) (by decide)
    exact (s_X12_colour_217 hσ (zr_w (zr_c (lo := 8) (hi := 8) (by decide)) (by decide)))
  refine zok_if (fun q10 => ?_) (fun q10 => ?_)
  · have h11 := zc_eql (3) (3) q10 h_x1 (zr_c (lo := 3) (hi := 3) (by decide)) (by decide)
    exact (s_X12_colour_217 hσ (zr_w (zr_c (lo := 12) (hi := 12) (by decide)) (by decide)))
  refine zok_if (fun q12 => ?_) (fun q12 => ?_)
  · have h13 := zc_eql (4) (4) q12 h_x1 (zr_c (lo := 4) (hi := 4) (by decide)) (by decide)
    exact (s_X12_colour_217 hσ (zr_w (zr_c (lo := 16) (hi := 16) (by decide)) (by decide)))
  refine zok_if (fun q14 => ?_) (fun q14 => ?_)
  · have h15 := zc_eql (5) (5) q14 h_x1 (zr_c (lo := 5) (hi := 5) (by decide)) (by decide)
    exact (s_X12_colour_217 hσ (zr_w (zr_c (lo := 48) (hi := 48) (by decide)) (by decide)))
  refine zok_if (fun q16 => ?_) (fun q16 => ?_)
  · have h17 := zc_eql (6) (6) q16 h_x1 (zr_c (lo := 6) (hi := 6) (by decide)) (by decide)
    exact (s_X12_colour_217 hσ (zr_w (zr_c (lo := 1) (hi := 1) (by decide)) (by decide)))
  refine zok_if (fun q18 => ?_) (fun q18 => ?_)
  · have h19 := zc_eql (7) (7) q18 h_x1 (zr_c (lo := 7) (hi := 7) (by decide)) (by decide)
    exact (s_X12_colour_217 hσ (zr_w (zr_c (lo := 60) (hi := 60) (by decide)) (by decide)))
  refine zok_if (fun q20 => ?_) (fun q20 => ?_)
  · have h21 := zc_eql (8) (8) q20 h_x1 (zr_c (lo := 8) (hi := 8) (by decide)) (by decide)
    exact (s_X12_colour_217 hσ (zr_w (zr_c (lo := 2) (hi := 2) (by decide)) (by decide)))
  refine zok_if (fun q22 => ?_) (fun q22 => ?_)
  · have h23 := zc_eql (9) (9) q22 h_x1 (zr_c (lo := 9) (hi := 9) (by decide)) (by decide)
    exact (s_X12_colour_217 hσ (zr_w (zr_c (lo := 3) (hi := 3) (by decide)) (by decide)))
  refine zok_if (fun q24 => ?_) (fun q24 => ?_)
  · have h25 := zc_eql (10) (10) q24 h_x1 (zr_c (lo := 10) (hi := 10) (by decide)) (by decide)
    exact (s_X12_colour_217 hσ (zr_w (zr_c (lo := 5) (hi := 5) (by decide)) (by decide)))
  refine zok_if (fun q26 => ?_) (fun q26 => ?_)
  · have h27 := zc_eql (11) (11) q26 h_x1 (zr_c (lo := 11) (hi := 11) (by decide)) (by decide)
    exact (s_X12_colour_217 hσ (zr_w (zr_c (lo := 15) (hi := 15) (by decide)) (by decide)))
  refine zok_if (fun q28 => ?_) (fun q28 => ?_)
  · have h29 := zc_eql (12) (12) q28 h_x1 (zr_c (lo := 12) (hi := 12) (by decide)) (by decide)
    exact (s_X12_colour_217 hσ (zr_w (zr_c (lo := 4) (hi := 4) (by decide)) (by decide)))
  refine zok_if (fun q30 => ?_) (fun q30 => ?_)
  · have h31 := zc_eql (13) (13) q30 h_x1 (zr_c (lo := 13) (hi := 13) (by decide)) (by decide)
    exact (s_X12_colour_217 hσ (zr_w (zr_c (lo := 51) (hi := 51) (by decide)) (by decide)))
  refine zok_if (fun q32 => ?_) (fun q32 => ?_)
  · have h33 := zc_eql (14) (14) q32 h_x1 (zr_c (lo := 14) (hi := 14) (by decide)) (by decide)
    exact (s_X12_colour_217 hσ (zr_w (zr_c (lo := 21) (hi := 21) (by decide)) (by decide)))
  refine zok_if (fun q34 => ?_) (fun q34 => ?_)
  · have h35 := zc_eql (15) (15) q34 h_x1 (zr_c (lo := 15) (hi := 15) (by decide)) (by decide)
    exact (s_X12_colour_217 hσ (zr_w (zr_c (lo := 63) (hi := 63) (by decide)) (by decide)))
  exact (s_X12_colour_217 hσ (zr_w (zr_c (lo := 0) (hi := 0) (by decide)) (by decide)))
theorem s_X12_old_48 {σ : zSt} (hσ : zPM σ) : zok (fX12_old_48 σ ) (zPi σ (fun v : Int32 => zr (0) (15) v)) := by
  unfold fX12_old_48
  exact zok_spi (zr_w (zr_c (lo := 0) (hi := 0) (by decide)) (by decide))
theorem s_X12_old_131 {σ : zSt} (hσ : zPM σ) {s0 : Int32} (h_s0 : zr (0) (15) s0) : zok (fX12_old_131 σ s0) (zPi σ (fun v : Int32 => zr (0) (15) v)) := by
  unfold fX12_old_131
  exact zok_spi h_s0
theorem s_X12_old_209 {σ : zSt} (hσ : zPM σ) {s0 : Int32} (h_s0 : zr (0) (15) s0) : zok (fX12_old_209 σ s0) (zPi σ (fun v : Int32 => zr (0) (15) v)) := by
  unfold fX12_old_209
  exact zok_spi h_s0
theorem s_X12_old_395 {σ : zSt} (hσ : zPM σ) {s0 : Int32} (h_s0 : zr (0) (15) s0) : zok (fX12_old_395 σ s0) (zPi σ (fun v : Int32 => zr (0) (15) v)) := by
  unfold fX12_old_395
  exact zok_spi h_s0
theorem s_X12_old_367 {σ : zSt} (hσ : zPM σ) {x2 : Int32} (h_x2 : zr (0) (255) x2) {x6 : Int32} (h_x6 : zr (0) (255) x6) {x7 : Int32} (h_x7 : zr (0) (255) x7) : zok (fX12_old_367 σ x2 x6 x7) (zPi σ (fun v : Int32 => zr (0) (15) v)) := by
  unfold fX12_old_367
  refine zok_ck (by decide) ?_
  refine zok_if (fun q1 => ?_) (fun q1 => ?_)
  · have h2 := zc_eql (1) (1) q1 (zr_andr (lo := 0) (hi := 1) (zr_c (lo := 1) (hi := 1) (by decide)) (by decide)) (zr_c (lo := 1) (hi := 1) (by decide)) (by decide)
    exact (s_X12_old_395 hσ (zr_shr (lo := 0) (hi := 15) 4 (by decide) h_x7 (by decide)))
  have h3 := zc_nel (0) (0) q1 (zr_andr (lo := 0) (hi := 1) (zr_c (lo := 1) (hi := 1) (by decide)) (by decide)) (zr_c (lo := 1) (hi := 1) (by decide)) (by decide)
  exact (s_X12_old_395 hσ (zr_andr (lo := 0) (hi := 15) (zr_c (lo := 15) (hi := 15) (by decide)) (by decide)))
theorem s_X12_old {σ : zSt} (hσ : zPM σ) {x1 : Int32} (h_x1 : zr (0) (239) x1) {x2 : Int32} (h_x2 : zr (0) (255) x2) : zok (fX12_old σ x1 x2) (zPi σ (fun v : Int32 => zr (0) (15) v)) := by
  unfold fX12_old
  refine zok_pi (s_X12_reg hσ (zr_w (zr_c (lo := 2) (hi := 2) (by decide)) (by decide))) (fun v2 h1 => ?_)
  refine zok_ck (by decide) ?_
  refine zok_br (zr_mul (lo := 0) (hi := 15360) (zr_c (lo := 1024) (hi := 1024) (by decide)) (zr_rem (lo := 0) (hi := 15) 16 (by decide) h1 (by decide)) (by decide)) (fun v3 e3 h2 => ?_)
  refine zok_pi (s_X12_reg hσ (zr_w (zr_c (lo := 4) (hi := 4) (by decide)) (by decide))) (fun v5 h4 => ?_)
  refine zok_ck (by decide) ?_
  refine zok_br (zr_mul (lo := 0) (hi := 14336) (zr_c (lo := 2048) (hi := 2048) (by decide)) (zr_rem (lo := 0) (hi := 7) 8 (by decide) h4 (by decide)) (by decide)) (fun v6 e6 h5 => ?_)
  refine zok_pi (s_X12_mode hσ) (fun v8 h7 => ?_)
  refine zok_if (fun q8 => ?_) (fun q8 => ?_)
  · have h9 := zc_eql (1) (1) q8 h7 (zr_c (lo := 1) (hi := 1) (by decide)) (by decide)
    refine zok_if (fun q10 => ?_) (fun q10 => ?_)
    · have h11 := zc_ltl (7) q10 h_x2 (zr_c (lo := 8) (hi := 8) (by decide)) (by decide)
      exact (s_X12_old_48 hσ)
    have h12 := zc_ler (8) (z_nlt q10) (zr_c (lo := 8) (hi := 8) (by decide)) h_x2 (by decide)
    refine zok_if (fun q13 => ?_) (fun q13 => ?_)
    · have h14 := zc_lel (247) q13 h12 (zr_c (lo := 247) (hi := 247) (by decide)) (by decide)
      refine zok_ck (by decide) ?_
      refine zok_ck (by decide) ?_
      refine zok_pi (s_X12_video8 hσ) (fun v39 h15 => ?_)
      refine zok_ck (by decide) ?_
      refine zok_pi (s_X12_video8 hσ) (fun v41 h16 => ?_)
      refine zok_ck (by decide) ?_
      refine zok_br (zr_andr (lo := 0) (hi := 1) (zr_c (lo := 1) (hi := 1) (by decide)) (by decide)) (fun v42 e18 h17 => ?_)
      refine zok_if (fun q19 => ?_) (fun q19 => ?_)
      · have h20 := zc_eql (1) (1) q19 h17 (zr_c (lo := 1) (hi := 1) (by decide)) (by decide)
        refine zok_pi (s_X12_reg hσ (zr_w (zr_c (lo := 7) (hi := 7) (by decide)) (by decide))) (fun v46 h21 => ?_)
        exact (s_X12_old_131 hσ (zr_shr (lo := 0) (hi := 15) 4 (by decide) h21 (by decide)))
      have h22 := zc_nel (0) (0) q19 h17 (zr_c (lo := 1) (hi := 1) (by decide)) (by decide)
      refine zok_pi (s_X12_reg hσ (zr_w (zr_c (lo := 7) (hi := 7) (by decide)) (by decide))) (fun v44 h23 => ?_)
      exact (s_X12_old_131 hσ (zr_andr (lo := 0) (hi := 15) (zr_c (lo := 15) (hi := 15) (by decide)) (by decide)))
    have h24 := zc_ltr (248) (z_nle q13) (zr_c (lo := 247) (hi := 247) (by decide)) h12 (by decide)
    exact (s_X12_old_48 hσ)
  refine zok_ck (by decide) ?_
  refine zok_ck (by decide) ?_
  refine zok_pi (s_X12_video8 hσ) (fun v10 h25 => ?_)
  refine zok_pi (s_X12_mode hσ) (fun v12 h26 => ?_)
  refine zok_if (fun q27 => ?_) (fun q27 => ?_)
  · have h28 := zc_eql (3) (3) q27 h26 (zr_c (lo := 3) (hi := 3) (by decide)) (by decide)
    refine zok_ck (by decide) ?_
    refine zok_ck (by decide) ?_
    refine zok_ck (by decide) ?_
    refine zok_ck (by decide) ?_
    refine zok_pi (s_X12_video8 hσ) (fun v37 h29 => ?_)
    refine zok_ck (by decide) ?_
    refine zok_if (fun q30 => ?_) (fun q30 => ?_)
    · have h31 := zc_ler (4) q30 (zr_c (lo := 4) (hi := 4) (by decide)) (zr_rem (lo := 0) (hi := 7) 8 (by decide) h_x2 (by decide)) (by decide)
      exact (s_X12_old_209 hσ (zr_andr (lo := 0) (hi := 15) (zr_c (lo := 15) (hi := 15) (by decide)) (by decide)))
    have h32 := zc_ltl (3) (z_nle q30) (zr_rem (lo := 0) (hi := 7) 8 (by decide) h_x2 (by decide)) (zr_c (lo := 4) (hi := 4) (by decide)) (by decide)
    exact (s_X12_old_209 hσ (zr_shr (lo := 0) (hi := 15) 4 (by decide) h29 (by decide)))
  refine zok_pi (s_X12_mode hσ) (fun v14 h33 => ?_)
  refine zok_if (fun q34 => ?_) (fun q34 => ?_)
  · have h35 := zc_eql (0) (0) q34 h33 (zr_c (lo := 0) (hi := 0) (by decide)) (by decide)
    refine zok_ck (by decide) ?_
    refine zok_pi (s_X12_video8 hσ) (fun v31 h36 => ?_)
    refine zok_pi (s_X12_reg hσ (zr_w (zr_c (lo := 3) (hi := 3) (by decide)) (by decide))) (fun v33 h37 => ?_)
    refine zok_ck (by decide) ?_
    refine zok_pi (s_X12_video8 hσ) (fun v35 h38 => ?_)
    exact (s_X12_old_367 hσ h_x2 h36 h38)
  have h39 := zc_nel (1) (4) q34 h33 (zr_c (lo := 0) (hi := 0) (by decide)) (by decide)
  refine zok_ck (by decide) ?_
  refine zok_br (zr_add (lo := 0) (hi := 1023) h25 (zr_mul (lo := 0) (hi := 768) (zr_c (lo := 256) (hi := 256) (by decide)) (zr_div (lo := 0) (hi := 3) 64 (by decide) h_x1 (by decide)) (by decide)) (by decide)) (fun v15 e41 h40 => ?_)
  refine zok_pi (s_X12_reg hσ (zr_w (zr_c (lo := 4) (hi := 4) (by decide)) (by decide))) (fun v17 h42 => ?_)
  refine zok_ck (by decide) ?_
  refine zok_br (zr_andr (lo := 0) (hi := 1023) (zr_add (lo := 255) (hi := 1023) (zr_mul (lo := 0) (hi := 768) (zr_c (lo := 256) (hi := 256) (by decide)) (zr_rem (lo := 0) (hi := 3) 4 (by decide) h42 (by decide)) (by decide)) (zr_c (lo := 255) (hi := 255) (by decide)) (by decide)) (by decide)) (fun v18 e44 h43 => ?_)
  refine zok_pi (s_X12_reg hσ (zr_w (zr_c (lo := 3) (hi := 3) (by decide)) (by decide))) (fun v20 h45 => ?_)
  refine zok_ck (by decide) ?_
  refine zok_br (zr_andr (lo := 0) (hi := 1023) (zr_add (lo := 7) (hi := 1023) (zr_mul (lo := 0) (hi := 1016) (zr_c (lo := 8) (hi := 8) (by decide)) (zr_rem (lo := 0) (hi := 127) 128 (by decide) h45 (by decide)) (by decide)) (zr_c (lo := 7) (hi := 7) (by decide)) (by decide)) (by decide)) (fun v21 e47 h46 => ?_)
  refine zok_pi (s_X12_bit hσ (zr_w (zr_c (lo := 4) (hi := 4) (by decide)) (by decide)) (zr_w (zr_c (lo := 2) (hi := 2) (by decide)) (by decide))) (fun v23 h48 => ?_)
  refine zok_ck (by decide) ?_
  refine zok_pi (s_X12_video8 hσ) (fun v25 h49 => ?_)
  refine zok_pi (s_X12_bit hσ (zr_w (zr_c (lo := 3) (hi := 3) (by decide)) (by decide)) (zr_w (zr_c (lo := 7) (hi := 7) (by decide)) (by decide))) (fun v27 h50 => ?_)
  refine zok_ck (by decide) ?_
  refine zok_pi (s_X12_video8 hσ) (fun v29 h51 => ?_)
  exact (s_X12_old_367 hσ h_x2 h49 h51)
theorem s_X12_oldSprites_388 {G : Nat → Int} {σ : zSt} {k40 : zSt → Int32 → Int32 → Int32 → Int32 → Int32 → Option (zSt)} {Mk40 : Int} (hk40 : ∀ (σ : zSt) (x1 : Int32) (x2 : Int32) (x3 : Int32) (x4 : Int32) (x5 : Int32), zIM G σ → zr (0) (239) x1 → zr (1) (2) x2 → zr (8) (16) x3 → zr (0) (4) x4 → zr (0) (32) x5 → (32) - x5.toInt < Mk40 → zok (k40 σ x1 x2 x3 x4 x5) (zIM G)) (hσ : zIM G σ) {x1 : Int32} (h_x1 : zr (0) (239) x1) {x2 : Int32} (h_x2 : zr (1) (2) x2) {x3 : Int32} (h_x3 : zr (8) (16) x3) {x4 : Int32} (h_x4 : zr (0) (4) x4) {x5 : Int32} (h_x5 : zr (0) (31) x5) (hMk40 : (32) - x5.toInt ≤ Mk40) : zok (fX12_oldSprites_388 k40 σ x1 x2 x3 x4 x5) (zIM G) := by
  unfold fX12_oldSprites_388
  refine zok_br (zr_add (lo := 1) (hi := 32) h_x5 (zr_c (lo := 1) (hi := 1) (by decide)) (by decide)) (fun v1 e2 h1 => ?_)
  exact hk40 _ _ _ _ _ _ hσ h_x1 h_x2 h_x3 h_x4 (zr_w h1 (by decide)) (by rw [e2]; have := z_tadd (y := (1 : Int32)) h_x5 (zr_c (lo := 1) (hi := 1) (by decide)) (by decide); have e9 : (1 : Int32).toInt = 1 := rfl; omega) 
theorem s_X12_oldSprites_150 {σ : zSt} (hσ : zPM σ) : zok (fX12_oldSprites_150 σ ) (zPu σ) := by
  unfold fX12_oldSprites_150
  exact zok_spu
theorem s_X12_oldSprites_382 {G : Nat → Int} {σ : zSt} {k40 : zSt → Int32 → Int32 → Int32 → Int32 → Int32 → Option (zSt)} {Mk40 : Int} (hk40 : ∀ (σ : zSt) (x1 : Int32) (x2 : Int32) (x3 : Int32) (x4 : Int32) (x5 : Int32), zIM G σ → zr (0) (239) x1 → zr (1) (2) x2 → zr (8) (16) x3 → zr (0) (4) x4 → zr (0) (32) x5 → (32) - x5.toInt < Mk40 → zok (k40 σ x1 x2 x3 x4 x5) (zIM G)) {k231 : zSt → Int32 → Int32 → Int32 → Int32 → Int32 → Int32 → Int32 → Int32 → Int32 → Int32 → Option (zSt)} {Mk231 : Int} (hk231 : ∀ (σ : zSt) (x1 : Int32) (x2 : Int32) (x3 : Int32) (x4 : Int32) (x5 : Int32) (x8 : Int32) (x9 : Int32) (x10 : Int32) (x11 : Int32) (x12 : Int32), zIM G σ → zr (0) (239) x1 → zr (1) (2) x2 → zr (8) (16) x3 → zr (1) (4) x4 → zr (0) (31) x5 → zr (0) (31) x8 → zr (0) (255) x9 → zr (0) (15) x10 → zr (-32) (255) x11 → zr (0) (32) x12 → (32) - x12.toInt < Mk231 → (32) - x5.toInt ≤ Mk40 → zok (k231 σ x1 x2 x3 x4 x5 x8 x9 x10 x11 x12) (zIM G)) (hσ : zIM G σ) {x1 : Int32} (h_x1 : zr (0) (239) x1) {x2 : Int32} (h_x2 : zr (1) (2) x2) {x3 : Int32} (h_x3 : zr (8) (16) x3) {x4 : Int32} (h_x4 : zr (1) (4) x4) {x5 : Int32} (h_x5 : zr (0) (31) x5) {x8 : Int32} (h_x8 : zr (0) (31) x8) {x9 : Int32} (h_x9 : zr (0) (255) x9) {x10 : Int32} (h_x10 : zr (0) (15) x10) {x11 : Int32} (h_x11 : zr (-32) (255) x11) {x12 : Int32} (h_x12 : zr (0) (31) x12) (hMk40 : (32) - x5.toInt ≤ Mk40) (hMk231 : (32) - x12.toInt ≤ Mk231) : zok (fX12_oldSprites_382 k40 k231 σ x1 x2 x3 x4 x5 x8 x9 x10 x11 x12) (zIM G) := by
  unfold fX12_oldSprites_382
  refine zok_br (zr_add (lo := 1) (hi := 32) h_x12 (zr_c (lo := 1) (hi := 1) (by decide)) (by decide)) (fun v2 e2 h1 => ?_)
  exact hk231 _ _ _ _ _ _ _ _ _ _ _ hσ h_x1 h_x2 h_x3 h_x4 h_x5 h_x8 h_x9 h_x10 h_x11 (zr_w h1 (by decide)) (by rw [e2]; have := z_tadd (y := (1 : Int32)) h_x12 (zr_c (lo := 1) (hi := 1) (by decide)) (by decide); have e9 : (1 : Int32).toInt = 1 := rfl; omega) hMk40
theorem s_X12_oldSprites_350 {G : Nat → Int} {σ : zSt} {k40 : zSt → Int32 → Int32 → Int32 → Int32 → Int32 → Option (zSt)} {Mk40 : Int} (hk40 : ∀ (σ : zSt) (x1 : Int32) (x2 : Int32) (x3 : Int32) (x4 : Int32) (x5 : Int32), zIM G σ → zr (0) (239) x1 → zr (1) (2) x2 → zr (8) (16) x3 → zr (0) (4) x4 → zr (0) (32) x5 → (32) - x5.toInt < Mk40 → zok (k40 σ x1 x2 x3 x4 x5) (zIM G)) {k231 : zSt → Int32 → Int32 → Int32 → Int32 → Int32 → Int32 → Int32 → Int32 → Int32 → Int32 → Option (zSt)} {Mk231 : Int} (hk231 : ∀ (σ : zSt) (x1 : Int32) (x2 : Int32) (x3 : Int32) (x4 : Int32) (x5 : Int32) (x8 : Int32) (x9 : Int32) (x10 : Int32) (x11 : Int32) (x12 : Int32), zIM G σ → zr (0) (239) x1 → zr (1) (2) x2 → zr (8) (16) x3 → zr (1) (4) x4 → zr (0) (31) x5 → zr (0) (31) x8 → zr (0) (255) x9 → zr (0) (15) x10 → zr (-32) (255) x11 → zr (0) (32) x12 → (32) - x12.toInt < Mk231 → (32) - x5.toInt ≤ Mk40 → zok (k231 σ x1 x2 x3 x4 x5 x8 x9 x10 x11 x12) (zIM G)) (hσ : zIM G σ) {x1 : Int32} (h_x1 : zr (0) (239) x1) {x2 : Int32} (h_x2 : zr (1) (2) x2) {x3 : Int32} (h_x3 : zr (8) (16) x3) {x4 : Int32} (h_x4 : zr (1) (4) x4) {x5 : Int32} (h_x5 : zr (0) (31) x5) {x8 : Int32} (h_x8 : zr (0) (31) x8) {x9 : Int32} (h_x9 : zr (0) (255) x9) {x10 : Int32} (h_x10 : zr (0) (15) x10) {x11 : Int32} (h_x11 : zr (-32) (255) x11) {x12 : Int32} (h_x12 : zr (0) (31) x12) {x15 : Int32} (h_x15 : zr (0) (255) x15) (hMk40 : (32) - x5.toInt ≤ Mk40) (hMk231 : (32) - x12.toInt ≤ Mk231) : zok (fX12_oldSprites_350 k40 k231 σ x1 x2 x3 x4 x5 x8 x9 x10 x11 x12 x15) (zIM G) := by
  unfold fX12_oldSprites_350
  refine zok_ck (zin_ok h_x15 (by decide)) ?_
  refine zok_bs (hσ.wk (by decide)) (fun σ3 e2 i1 => ?_)
  refine zok_if (fun q3 => ?_) (fun q3 => ?_)
  · have h4 := zc_lel (0) q3 h_x10 (zr_c (lo := 0) (hi := 0) (by decide)) (by decide)
    exact (s_X12_oldSprites_382 hk40 hk231 i1 h_x1 h_x2 h_x3 h_x4 h_x5 h_x8 h_x9 (zr_w h4 (by decide)) h_x11 h_x12 hMk40 hMk231)
  have h5 := zc_ltr (1) (z_nle q3) (zr_c (lo := 0) (hi := 0) (by decide)) h_x10 (by decide)
  refine zok_ck (zin_ok h_x15 (by decide)) ?_
  refine zok_if (fun q6 => ?_) (fun q6 => ?_)
  · have h7 := zc_eql (0) (0) q6 (rM_10 i1.sg _ (z_ix h_x15 (by decide))) (zr_c (lo := 0) (hi := 0) (by decide)) (by decide)
    refine zok_ck (zin_ok h_x15 (by decide)) ?_
    refine zok_bs (i1.wi 0 255 (z_ix h_x15 (by decide)) h5 (by decide +kernel)) (fun σ4 e9 i8 => ?_)
    exact (s_X12_oldSprites_382 hk40 hk231 i8 h_x1 h_x2 h_x3 h_x4 h_x5 h_x8 h_x9 (zr_w h5 (by decide)) h_x11 h_x12 hMk40 hMk231)
  have h10 := zc_nel (1) (31) q6 (rM_10 i1.sg _ (z_ix h_x15 (by decide))) (zr_c (lo := 0) (hi := 0) (by decide)) (by decide)
  exact (s_X12_oldSprites_382 hk40 hk231 i1 h_x1 h_x2 h_x3 h_x4 h_x5 h_x8 h_x9 (zr_w h5 (by decide)) h_x11 h_x12 hMk40 hMk231)
theorem s_X12_oldSprites_283 {G : Nat → Int} {σ : zSt} {k40 : zSt → Int32 → Int32 → Int32 → Int32 → Int32 → Option (zSt)} {Mk40 : Int} (hk40 : ∀ (σ : zSt) (x1 : Int32) (x2 : Int32) (x3 : Int32) (x4 : Int32) (x5 : Int32), zIM G σ → zr (0) (239) x1 → zr (1) (2) x2 → zr (8) (16) x3 → zr (0) (4) x4 → zr (0) (32) x5 → (32) - x5.toInt < Mk40 → zok (k40 σ x1 x2 x3 x4 x5) (zIM G)) {k231 : zSt → Int32 → Int32 → Int32 → Int32 → Int32 → Int32 → Int32 → Int32 → Int32 → Int32 → Option (zSt)} {Mk231 : Int} (hk231 : ∀ (σ : zSt) (x1 : Int32) (x2 : Int32) (x3 : Int32) (x4 : Int32) (x5 : Int32) (x8 : Int32) (x9 : Int32) (x10 : Int32) (x11 : Int32) (x12 : Int32), zIM G σ → zr (0) (239) x1 → zr (1) (2) x2 → zr (8) (16) x3 → zr (1) (4) x4 → zr (0) (31) x5 → zr (0) (31) x8 → zr (0) (255) x9 → zr (0) (15) x10 → zr (-32) (255) x11 → zr (0) (32) x12 → (32) - x12.toInt < Mk231 → (32) - x5.toInt ≤ Mk40 → zok (k231 σ x1 x2 x3 x4 x5 x8 x9 x10 x11 x12) (zIM G)) (hσ : zIM G σ) {x1 : Int32} (h_x1 : zr (0) (239) x1) {x2 : Int32} (h_x2 : zr (1) (2) x2) {x3 : Int32} (h_x3 : zr (8) (16) x3) {x4 : Int32} (h_x4 : zr (1) (4) x4) {x5 : Int32} (h_x5 : zr (0) (31) x5) {x8 : Int32} (h_x8 : zr (0) (31) x8) {x9 : Int32} (h_x9 : zr (0) (255) x9) {x10 : Int32} (h_x10 : zr (0) (15) x10) {x11 : Int32} (h_x11 : zr (-32) (255) x11) {x12 : Int32} (h_x12 : zr (0) (31) x12) {x13 : Int32} {s0 : Int32} (h_s0 : zr (0) (16) s0) {s1 : Int32} (hMk40 : (32) - x5.toInt ≤ Mk40) (hMk231 : (32) - x12.toInt ≤ Mk231) : zok (fX12_oldSprites_283 k40 k231 σ x1 x2 x3 x4 x5 x8 x9 x10 x11 x12 x13 s0 s1) (zIM G) := by
  unfold fX12_oldSprites_283
  refine zok_pi (s_X12_video8 hσ.P) (fun v6 h1 => ?_)
  refine zok_ck (by decide) ?_
  refine zok_br (zr_andr (lo := 0) (hi := 1) (zr_c (lo := 1) (hi := 1) (by decide)) (by decide)) (fun v7 e3 h2 => ?_)
  refine zok_br (zr_add (lo := -32) (hi := 286) h_x11 h_x12 (by decide)) (fun v8 e5 h4 => ?_)
  refine zok_if (fun q6 => ?_) (fun q6 => ?_)
  · have h7 := zc_eql (0) (0) q6 h2 (zr_c (lo := 0) (hi := 0) (by decide)) (by decide)
    exact (s_X12_oldSprites_382 hk40 hk231 hσ h_x1 h_x2 h_x3 h_x4 h_x5 h_x8 h_x9 h_x10 h_x11 h_x12 hMk40 hMk231)
  have h8 := zc_nel (1) (1) q6 h2 (zr_c (lo := 0) (hi := 0) (by decide)) (by decide)
  refine zok_if (fun q9 => ?_) (fun q9 => ?_)
  · have h10 := zc_ltl (-1) q9 h4 (zr_c (lo := 0) (hi := 0) (by decide)) (by decide)
    exact (s_X12_oldSprites_382 hk40 hk231 hσ h_x1 h_x2 h_x3 h_x4 h_x5 h_x8 h_x9 h_x10 h_x11 h_x12 hMk40 hMk231)
  have h11 := zc_ler (0) (z_nlt q9) (zr_c (lo := 0) (hi := 0) (by decide)) h4 (by decide)
  refine zok_if (fun q12 => ?_) (fun q12 => ?_)
  · have h13 := zc_lel (255) q12 h11 (zr_c (lo := 255) (hi := 255) (by decide)) (by decide)
    refine zok_ck (zin_ok h13 (by decide)) ?_
    refine zok_if (fun q14 => ?_) (fun q14 => ?_)
    · have h15 := zc_eql (0) (0) q14 zr_any (zr_c (lo := 0) (hi := 0) (by decide)) (by decide)
      exact (s_X12_oldSprites_350 hk40 hk231 hσ h_x1 h_x2 h_x3 h_x4 h_x5 h_x8 h_x9 h_x10 h_x11 h_x12 h13 hMk40 hMk231)
    refine zok_ck rfl ?_
    refine zok_ck rfl ?_
    refine zok_bs (hσ.wi 62 62 (by decide) (zr_or (lo := 0) (hi := 255) 8 (rM_26 hσ.sg _ (by decide)) (zr_c (lo := 32) (hi := 32) (by decide)) (by decide)) (by decide +kernel)) (fun σ9 e17 i16 => ?_)
    exact (s_X12_oldSprites_350 hk40 hk231 i16 h_x1 h_x2 h_x3 h_x4 h_x5 h_x8 h_x9 h_x10 h_x11 h_x12 h13 hMk40 hMk231)
  have h18 := zc_ltr (256) (z_nle q12) (zr_c (lo := 255) (hi := 255) (by decide)) h11 (by decide)
  exact (s_X12_oldSprites_382 hk40 hk231 hσ h_x1 h_x2 h_x3 h_x4 h_x5 h_x8 h_x9 h_x10 h_x11 h_x12 hMk40 hMk231)
theorem s_X12_oldSprites_231_body {G : Nat → Int} {σ : zSt} {k40 : zSt → Int32 → Int32 → Int32 → Int32 → Int32 → Option (zSt)} {Mk40 : Int} (hk40 : ∀ (σ : zSt) (x1 : Int32) (x2 : Int32) (x3 : Int32) (x4 : Int32) (x5 : Int32), zIM G σ → zr (0) (239) x1 → zr (1) (2) x2 → zr (8) (16) x3 → zr (0) (4) x4 → zr (0) (32) x5 → (32) - x5.toInt < Mk40 → zok (k40 σ x1 x2 x3 x4 x5) (zIM G)) {k231 : zSt → Int32 → Int32 → Int32 → Int32 → Int32 → Int32 → Int32 → Int32 → Int32 → Int32 → Option (zSt)} {Mk231 : Int} (hk231 : ∀ (σ : zSt) (x1 : Int32) (x2 : Int32) (x3 : Int32) (x4 : Int32) (x5 : Int32) (x8 : Int32) (x9 : Int32) (x10 : Int32) (x11 : Int32) (x12 : Int32), zIM G σ → zr (0) (239) x1 → zr (1) (2) x2 → zr (8) (16) x3 → zr (1) (4) x4 → zr (0) (31) x5 → zr (0) (31) x8 → zr (0) (255) x9 → zr (0) (15) x10 → zr (-32) (255) x11 → zr (0) (32) x12 → (32) - x12.toInt < Mk231 → (32) - x5.toInt ≤ Mk40 → zok (k231 σ x1 x2 x3 x4 x5 x8 x9 x10 x11 x12) (zIM G)) (hσ : zIM G σ) {x1 : Int32} (h_x1 : zr (0) (239) x1) {x2 : Int32} (h_x2 : zr (1) (2) x2) {x3 : Int32} (h_x3 : zr (8) (16) x3) {x4 : Int32} (h_x4 : zr (1) (4) x4) {x5 : Int32} (h_x5 : zr (0) (31) x5) {x8 : Int32} (h_x8 : zr (0) (31) x8) {x9 : Int32} (h_x9 : zr (0) (255) x9) {x10 : Int32} (h_x10 : zr (0) (15) x10) {x11 : Int32} (h_x11 : zr (-32) (255) x11) {x12 : Int32} (h_x12 : zr (0) (32) x12) (hMk40 : (32) - x5.toInt ≤ Mk40) (hMk231 : (32) - x12.toInt ≤ Mk231) : zok (fX12_oldSprites_231_body k40 k231 σ x1 x2 x3 x4 x5 x8 x9 x10 x11 x12) (zIM G) := by
  unfold fX12_oldSprites_231_body
  refine zok_if (fun q1 => ?_) (fun q1 => ?_)
  · have h2 := zc_ler (8) q1 (zr_mul (lo := 8) (hi := 32) h_x3 h_x2 (by decide)) h_x12 (by decide)
    exact (s_X12_oldSprites_388 hk40 hσ h_x1 h_x2 h_x3 (zr_w h_x4 (by decide)) h_x5 hMk40)
  have h3 := zc_ltl (31) (z_nle q1) h_x12 (zr_mul (lo := 8) (hi := 32) h_x3 h_x2 (by decide)) (by decide)
  refine zok_ck (zdv_ok h_x2 (by decide)) ?_
  refine zok_bv (fun v10 e5 => ?_)
  refine zok_pi (s_X12_reg hσ.P (zr_w (zr_c (lo := 6) (hi := 6) (by decide)) (by decide))) (fun v12 h6 => ?_)
  refine zok_ck (by decide) ?_
  refine zok_ck (zdv_ok h_x2 (by decide)) ?_
  refine zok_if (fun q7 => ?_) (fun q7 => ?_)
  · have h8 := zc_lel (7) q7 zr_any (zr_c (lo := 7) (hi := 7) (by decide)) (by decide)
    exact (s_X12_oldSprites_283 hk40 hk231 hσ h_x1 h_x2 h_x3 h_x4 h_x5 h_x8 h_x9 h_x10 h_x11 h3 (zr_w (zr_c (lo := 0) (hi := 0) (by decide)) (by decide)) hMk40 hMk231)
  have h9 := zc_ltr (8) (z_nle q7) (zr_c (lo := 7) (hi := 7) (by decide)) zr_any (by decide)
  exact (s_X12_oldSprites_283 hk40 hk231 hσ h_x1 h_x2 h_x3 h_x4 h_x5 h_x8 h_x9 h_x10 h_x11 h3 (zr_w (zr_c (lo := 16) (hi := 16) (by decide)) (by decide)) hMk40 hMk231)
theorem s_X12_oldSprites_231 {G : Nat → Int} {k40 : zSt → Int32 → Int32 → Int32 → Int32 → Int32 → Option (zSt)} {Mk40 : Int} (hk40 : ∀ (σ : zSt) (x1 : Int32) (x2 : Int32) (x3 : Int32) (x4 : Int32) (x5 : Int32), zIM G σ → zr (0) (239) x1 → zr (1) (2) x2 → zr (8) (16) x3 → zr (0) (4) x4 → zr (0) (32) x5 → (32) - x5.toInt < Mk40 → zok (k40 σ x1 x2 x3 x4 x5) (zIM G)) : ∀ (n : Nat) {σ : zSt} (hσ : zIM G σ) {x1 : Int32} (h_x1 : zr (0) (239) x1) {x2 : Int32} (h_x2 : zr (1) (2) x2) {x3 : Int32} (h_x3 : zr (8) (16) x3) {x4 : Int32} (h_x4 : zr (1) (4) x4) {x5 : Int32} (h_x5 : zr (0) (31) x5) {x8 : Int32} (h_x8 : zr (0) (31) x8) {x9 : Int32} (h_x9 : zr (0) (255) x9) {x10 : Int32} (h_x10 : zr (0) (15) x10) {x11 : Int32} (h_x11 : zr (-32) (255) x11) {x12 : Int32} (h_x12 : zr (0) (32) x12) (hm : (32) - x12.toInt < n) (hMk40 : (32) - x5.toInt ≤ Mk40), zok (fX12_oldSprites_231 k40 n σ x1 x2 x3 x4 x5 x8 x9 x10 x11 x12) (zIM G) := by
  intro n
  induction n with
  | zero => intro σ hσ x1 h_x1 x2 h_x2 x3 h_x3 x4 h_x4 x5 h_x5 x8 h_x8 x9 h_x9 x10 h_x10 x11 h_x11 x12 h_x12 hm hMk40; have h9 := h_x12.1; have h8 := h_x12.2; exfalso; omega
  | succ n ih => intro σ hσ x1 h_x1 x2 h_x2 x3 h_x3 x4 h_x4 x5 h_x5 x8 h_x8 x9 h_x9 x10 h_x10 x11 h_x11 x12 h_x12 hm hMk40; exact s_X12_oldSprites_231_body hk40 (fun σ x1 x2 x3 x4 x5 x8 x9 x10 x11 x12 hσ h_x1 h_x2 h_x3 h_x4 h_x5 h_x8 h_x9 h_x10 h_x11 h_x12 hm1 hMk40 => ih hσ h_x1 h_x2 h_x3 h_x4 h_x5 h_x8 h_x9 h_x10 h_x11 h_x12 (by omega) hMk40) hσ h_x1 h_x2 h_x3 h_x4 h_x5 h_x8 h_x9 h_x10 h_x11 h_x12 hMk40 (Int.le_refl _)
theorem s_X12_oldSprites_225 {G : Nat → Int} {σ : zSt} {k40 : zSt → Int32 → Int32 → Int32 → Int32 → Int32 → Option (zSt)} {Mk40 : Int} (hk40 : ∀ (σ : zSt) (x1 : Int32) (x2 : Int32) (x3 : Int32) (x4 : Int32) (x5 : Int32), zIM G σ → zr (0) (239) x1 → zr (1) (2) x2 → zr (8) (16) x3 → zr (0) (4) x4 → zr (0) (32) x5 → (32) - x5.toInt < Mk40 → zok (k40 σ x1 x2 x3 x4 x5) (zIM G)) (hσ : zIM G σ) {x1 : Int32} (h_x1 : zr (0) (239) x1) {x2 : Int32} (h_x2 : zr (1) (2) x2) {x3 : Int32} (h_x3 : zr (8) (16) x3) {x4 : Int32} (h_x4 : zr (1) (4) x4) {x5 : Int32} (h_x5 : zr (0) (31) x5) {x8 : Int32} (h_x8 : zr (0) (31) x8) {x9 : Int32} (h_x9 : zr (0) (255) x9) {x10 : Int32} (h_x10 : zr (0) (15) x10) {s0 : Int32} (h_s0 : zr (0) (32) s0) {s1 : Int32} (h_s1 : zr (0) (255) s1) (hMk40 : (32) - x5.toInt ≤ Mk40) : zok (fX12_oldSprites_225 k40 σ x1 x2 x3 x4 x5 x8 x9 x10 s0 s1) (zIM G) := by
  unfold fX12_oldSprites_225
  refine zok_br (zr_sub (lo := -32) (hi := 255) h_s1 h_s0 (by decide)) (fun v13 e2 h1 => ?_)
  exact (s_X12_oldSprites_231 hk40 zfuel hσ h_x1 h_x2 h_x3 h_x4 h_x5 h_x8 h_x9 h_x10 h1 (zr_w (zr_c (lo := 0) (hi := 0) (by decide)) (by decide)) (by decide) hMk40)
theorem s_X12_oldSprites_183 {G : Nat → Int} {σ : zSt} {k40 : zSt → Int32 → Int32 → Int32 → Int32 → Int32 → Option (zSt)} {Mk40 : Int} (hk40 : ∀ (σ : zSt) (x1 : Int32) (x2 : Int32) (x3 : Int32) (x4 : Int32) (x5 : Int32), zIM G σ → zr (0) (239) x1 → zr (1) (2) x2 → zr (8) (16) x3 → zr (0) (4) x4 → zr (0) (32) x5 → (32) - x5.toInt < Mk40 → zok (k40 σ x1 x2 x3 x4 x5) (zIM G)) (hσ : zIM G σ) {x1 : Int32} (h_x1 : zr (0) (239) x1) {x2 : Int32} (h_x2 : zr (1) (2) x2) {x3 : Int32} (h_x3 : zr (8) (16) x3) {x4 : Int32} (h_x4 : zr (1) (4) x4) {x5 : Int32} (h_x5 : zr (0) (31) x5) {x6 : Int32} (h_x6 : zr (0) (16380) x6) {x8 : Int32} (h_x8 : zr (0) (31) x8) {s0 : Int32} (h_s0 : zr (0) (255) s0) (hMk40 : (32) - x5.toInt ≤ Mk40) : zok (fX12_oldSprites_183 k40 σ x1 x2 x3 x4 x5 x6 x8 s0) (zIM G) := by
  unfold fX12_oldSprites_183
  refine zok_pi (s_X12_video8 hσ.P) (fun v15 h1 => ?_)
  refine zok_br (zr_andr (lo := 0) (hi := 15) (zr_c (lo := 15) (hi := 15) (by decide)) (by decide)) (fun v16 e3 h2 => ?_)
  refine zok_pi (s_X12_video8 hσ.P) (fun v18 h4 => ?_)
  refine zok_pi (s_X12_video8 hσ.P) (fun v20 h5 => ?_)
  refine zok_if (fun q6 => ?_) (fun q6 => ?_)
  · have h7 := zc_lel (127) q6 h5 (zr_c (lo := 127) (hi := 127) (by decide)) (by decide)
    exact (s_X12_oldSprites_225 hk40 hσ h_x1 h_x2 h_x3 h_x4 h_x5 h_x8 h_s0 h2 (zr_w (zr_c (lo := 0) (hi := 0) (by decide)) (by decide)) h4 hMk40)
  have h8 := zc_ltr (128) (z_nle q6) (zr_c (lo := 127) (hi := 127) (by decide)) h5 (by decide)
  exact (s_X12_oldSprites_225 hk40 hσ h_x1 h_x2 h_x3 h_x4 h_x5 h_x8 h_s0 h2 (zr_w (zr_c (lo := 32) (hi := 32) (by decide)) (by decide)) h4 hMk40)
theorem s_X12_oldSprites_40_body {G : Nat → Int} {σ : zSt} {k40 : zSt → Int32 → Int32 → Int32 → Int32 → Int32 → Option (zSt)} {Mk40 : Int} (hk40 : ∀ (σ : zSt) (x1 : Int32) (x2 : Int32) (x3 : Int32) (x4 : Int32) (x5 : Int32), zIM G σ → zr (0) (239) x1 → zr (1) (2) x2 → zr (8) (16) x3 → zr (0) (4) x4 → zr (0) (32) x5 → (32) - x5.toInt < Mk40 → zok (k40 σ x1 x2 x3 x4 x5) (zIM G)) (hσ : zIM G σ) {x1 : Int32} (h_x1 : zr (0) (239) x1) {x2 : Int32} (h_x2 : zr (1) (2) x2) {x3 : Int32} (h_x3 : zr (8) (16) x3) {x4 : Int32} (h_x4 : zr (0) (4) x4) {x5 : Int32} (h_x5 : zr (0) (32) x5) (hMk40 : (32) - x5.toInt ≤ Mk40) : zok (fX12_oldSprites_40_body k40 σ x1 x2 x3 x4 x5) (zIM G) := by
  unfold fX12_oldSprites_40_body
  refine zok_if (fun q1 => ?_) (fun q1 => ?_)
  · have h2 := zc_ler (32) q1 (zr_c (lo := 32) (hi := 32) (by decide)) h_x5 (by decide)
    exact zok_some hσ
  have h3 := zc_ltl (31) (z_nle q1) h_x5 (zr_c (lo := 32) (hi := 32) (by decide)) (by decide)
  refine zok_pi (s_X12_reg hσ.P (zr_w (zr_c (lo := 5) (hi := 5) (by decide)) (by decide))) (fun v22 h4 => ?_)
  refine zok_ck (by decide) ?_
  refine zok_br (zr_add (lo := 0) (hi := 16380) (zr_mul (lo := 0) (hi := 16256) (zr_c (lo := 128) (hi := 128) (by decide)) (zr_rem (lo := 0) (hi := 127) 128 (by decide) h4 (by decide)) (by decide)) (zr_mul (lo := 0) (hi := 124) (zr_c (lo := 4) (hi := 4) (by decide)) h3 (by decide)) (by decide)) (fun v23 e6 h5 => ?_)
  refine zok_pi (s_X12_video8 hσ.P) (fun v25 h7 => ?_)
  refine zok_if (fun q8 => ?_) (fun q8 => ?_)
  · have h9 := zc_eql (208) (208) q8 h7 (zr_c (lo := 208) (hi := 208) (by decide)) (by decide)
    exact zok_some hσ
  refine zok_br (zr_andr (lo := 0) (hi := 255) (zr_c (lo := 255) (hi := 255) (by decide)) (by decide)) (fun v26 e11 h10 => ?_)
  refine zok_if (fun q12 => ?_) (fun q12 => ?_)
  · have h13 := zc_ltl (31) q12 h10 (zr_mul (lo := 8) (hi := 32) h_x3 h_x2 (by decide)) (by decide)
    refine zok_if (fun q14 => ?_) (fun q14 => ?_)
    · have h15 := zc_eql (4) (4) q14 h_x4 (zr_c (lo := 4) (hi := 4) (by decide)) (by decide)
      refine zok_ck rfl ?_
      refine zok_if (fun q16 => ?_) (fun q16 => ?_)
      · have h17 := zc_eql (0) (0) q16 (zr_andr (lo := 0) (hi := 64) (zr_c (lo := 64) (hi := 64) (by decide)) (by decide)) (zr_c (lo := 0) (hi := 0) (by decide)) (by decide)
        refine zok_ck rfl ?_
        refine zok_ck rfl ?_
        refine zok_bs (hσ.wi 62 62 (by decide) (zr_or (lo := 0) (hi := 255) 8 (zr_or (lo := 0) (hi := 255) 8 (zr_andr (lo := 0) (hi := 224) (zr_c (lo := 224) (hi := 224) (by decide)) (by decide)) (zr_c (lo := 64) (hi := 64) (by decide)) (by decide)) h3 (by decide)) (by decide +kernel)) (fun σ32 e19 i18 => ?_)
        exact zok_pau i18 (s_X12_oldSprites_150 i18.P)
      have h20 := zc_nel (1) (64) q16 (zr_andr (lo := 0) (hi := 64) (zr_c (lo := 64) (hi := 64) (by decide)) (by decide)) (zr_c (lo := 0) (hi := 0) (by decide)) (by decide)
      exact zok_pau hσ (s_X12_oldSprites_150 hσ.P)
    have h21 := zc_nel (0) (3) q14 h_x4 (zr_c (lo := 4) (hi := 4) (by decide)) (by decide)
    refine zok_br (zr_add (lo := 1) (hi := 4) h21 (zr_c (lo := 1) (hi := 1) (by decide)) (by decide)) (fun v27 e23 h22 => ?_)
    refine zok_if (fun q24 => ?_) (fun q24 => ?_)
    · have h25 := zc_eql (16) (16) q24 h_x3 (zr_c (lo := 16) (hi := 16) (by decide)) (by decide)
      refine zok_pi (s_X12_video8 hσ.P) (fun v31 h26 => ?_)
      exact (s_X12_oldSprites_183 hk40 hσ h_x1 h_x2 (zr_w h25 (by decide)) h22 h3 h5 h13 (zr_w (zr_andr (lo := 0) (hi := 252) (zr_c (lo := 252) (hi := 252) (by decide)) (by decide)) (by decide)) hMk40)
    have h27 := zc_nel (8) (15) q24 h_x3 (zr_c (lo := 16) (hi := 16) (by decide)) (by decide)
    refine zok_pi (s_X12_video8 hσ.P) (fun v29 h28 => ?_)
    exact (s_X12_oldSprites_183 hk40 hσ h_x1 h_x2 (zr_w h27 (by decide)) h22 h3 h5 h13 h28 hMk40)
  have h29 := zc_ler (8) (z_nlt q12) (zr_mul (lo := 8) (hi := 32) h_x3 h_x2 (by decide)) h10 (by decide)
  exact (s_X12_oldSprites_388 hk40 hσ h_x1 h_x2 h_x3 h_x4 h3 hMk40)
theorem s_X12_oldSprites_40 {G : Nat → Int} : ∀ (n : Nat) {σ : zSt} (hσ : zIM G σ) {x1 : Int32} (h_x1 : zr (0) (239) x1) {x2 : Int32} (h_x2 : zr (1) (2) x2) {x3 : Int32} (h_x3 : zr (8) (16) x3) {x4 : Int32} (h_x4 : zr (0) (4) x4) {x5 : Int32} (h_x5 : zr (0) (32) x5) (hm : (32) - x5.toInt < n), zok (fX12_oldSprites_40 n σ x1 x2 x3 x4 x5) (zIM G) := by
  intro n
  induction n with
  | zero => intro σ hσ x1 h_x1 x2 h_x2 x3 h_x3 x4 h_x4 x5 h_x5 hm ; have h9 := h_x5.1; have h8 := h_x5.2; exfalso; omega
  | succ n ih => intro σ hσ x1 h_x1 x2 h_x2 x3 h_x3 x4 h_x4 x5 h_x5 hm ; exact s_X12_oldSprites_40_body (fun σ x1 x2 x3 x4 x5 hσ h_x1 h_x2 h_x3 h_x4 h_x5 hm1 => ih hσ h_x1 h_x2 h_x3 h_x4 h_x5 (by omega)) hσ h_x1 h_x2 h_x3 h_x4 h_x5 (Int.le_refl _)
theorem s_X12_oldSprites_33 {G : Nat → Int} {σ : zSt} (hσ : zIM G σ) {x1 : Int32} (h_x1 : zr (0) (239) x1) {x2 : Int32} (h_x2 : zr (1) (2) x2) {s0 : Int32} (h_s0 : zr (8) (16) s0) : zok (fX12_oldSprites_33 σ x1 x2 s0) (zIM G) := by
  unfold fX12_oldSprites_33
  exact (s_X12_oldSprites_40 zfuel hσ h_x1 h_x2 h_s0 (zr_w (zr_c (lo := 0) (hi := 0) (by decide)) (by decide)) (zr_w (zr_c (lo := 0) (hi := 0) (by decide)) (by decide)) (by decide))
theorem s_X12_oldSprites_15 {G : Nat → Int} {σ : zSt} (hσ : zIM G σ) {x1 : Int32} (h_x1 : zr (0) (239) x1) {s0 : Int32} (h_s0 : zr (1) (2) s0) : zok (fX12_oldSprites_15 σ x1 s0) (zIM G) := by
  unfold fX12_oldSprites_15
  refine zok_pi (s_X12_bit hσ.P (zr_w (zr_c (lo := 1) (hi := 1) (by decide)) (by decide)) (zr_w (zr_c (lo := 1) (hi := 1) (by decide)) (by decide))) (fun v34 h1 => ?_)
  refine zok_if (fun q2 => ?_) (fun q2 => ?_)
  · have h3 := zc_eql (1) (1) q2 h1 (zr_c (lo := 1) (hi := 1) (by decide)) (by decide)
    exact (s_X12_oldSprites_33 hσ h_x1 h_s0 (zr_w (zr_c (lo := 16) (hi := 16) (by decide)) (by decide)))
  have h4 := zc_nel (0) (0) q2 h1 (zr_c (lo := 1) (hi := 1) (by decide)) (by decide)
  exact (s_X12_oldSprites_33 hσ h_x1 h_s0 (zr_w (zr_c (lo := 8) (hi := 8) (by decide)) (by decide)))
theorem s_X12_oldSprites {G : Nat → Int} {σ : zSt} (hσ : zIM G σ) {x1 : Int32} (h_x1 : zr (0) (239) x1) : zok (fX12_oldSprites σ x1) (zIM G) := by
  unfold fX12_oldSprites
  refine zok_pi (s_X12_bit hσ.P (zr_w (zr_c (lo := 1) (hi := 1) (by decide)) (by decide)) (zr_w (zr_c (lo := 0) (hi := 0) (by decide)) (by decide))) (fun v36 h1 => ?_)
  refine zok_if (fun q2 => ?_) (fun q2 => ?_)
  · have h3 := zc_eql (1) (1) q2 h1 (zr_c (lo := 1) (hi := 1) (by decide)) (by decide)
    exact (s_X12_oldSprites_15 hσ h_x1 (zr_w (zr_c (lo := 2) (hi := 2) (by decide)) (by decide)))
  have h4 := zc_nel (0) (0) q2 h1 (zr_c (lo := 1) (hi := 1) (by decide)) (by decide)
  exact (s_X12_oldSprites_15 hσ h_x1 (zr_w (zr_c (lo := 1) (hi := 1) (by decide)) (by decide)))
theorem s_X12_draws_302_body {G : Nat → Int} {σ : zSt} {k302 : zSt → Int32 → Int32 → Option (zSt)} {Mk302 : Int} (hk302 : ∀ (σ : zSt) (x1 : Int32) (x3 : Int32), zIM G σ → zr (0) (239) x1 → zr (0) (256) x3 → (256) - x3.toInt < Mk302 → zok (k302 σ x1 x3) (zIM G)) (hσ : zIM G σ) {x1 : Int32} (h_x1 : zr (0) (239) x1) {x3 : Int32} (h_x3 : zr (0) (256) x3) (hMk302 : (256) - x3.toInt ≤ Mk302) : zok (fX12_draws_302_body k302 σ x1 x3) (zIM G) := by
  unfold fX12_draws_302_body
  refine zok_if (fun q1 => ?_) (fun q1 => ?_)
  · have h2 := zc_ler (256) q1 (zr_c (lo := 256) (hi := 256) (by decide)) h_x3 (by decide)
    exact zok_some hσ
  have h3 := zc_ltl (255) (z_nle q1) h_x3 (zr_c (lo := 256) (hi := 256) (by decide)) (by decide)
  refine zok_ck (zin_ok h3 (by decide)) ?_
  refine zok_pi (s_X12_colour hσ.P (rM_9 hσ.sg _ (z_ix h3 (by decide)))) (fun v2 h4 => ?_)
  refine zok_ck (zin_ok (zr_add (lo := 0) (hi := 61439) (zr_mul (lo := 0) (hi := 61184) (zr_c (lo := 256) (hi := 256) (by decide)) h_x1 (by decide)) h3 (by decide)) (by decide)) ?_
  refine zok_bs (hσ.wk (by decide)) (fun σ3 e6 i5 => ?_)
  refine zok_br (zr_add (lo := 1) (hi := 256) h3 (zr_c (lo := 1) (hi := 1) (by decide)) (by decide)) (fun v4 e8 h7 => ?_)
  exact hk302 _ _ _ i5 h_x1 (zr_w h7 (by decide)) (by rw [e8]; have := z_tadd (y := (1 : Int32)) h3 (zr_c (lo := 1) (hi := 1) (by decide)) (by decide); have e9 : (1 : Int32).toInt = 1 := rfl; omega) 
theorem s_X12_draws_302 {G : Nat → Int} : ∀ (n : Nat) {σ : zSt} (hσ : zIM G σ) {x1 : Int32} (h_x1 : zr (0) (239) x1) {x3 : Int32} (h_x3 : zr (0) (256) x3) (hm : (256) - x3.toInt < n), zok (fX12_draws_302 n σ x1 x3) (zIM G) := by
  intro n
  induction n with
  | zero => intro σ hσ x1 h_x1 x3 h_x3 hm ; have h9 := h_x3.1; have h8 := h_x3.2; exfalso; omega
  | succ n ih => intro σ hσ x1 h_x1 x3 h_x3 hm ; exact s_X12_draws_302_body (fun σ x1 x3 hσ h_x1 h_x3 hm1 => ih hσ h_x1 h_x3 (by omega)) hσ h_x1 h_x3 (Int.le_refl _)
theorem s_X12_draws_300 {G : Nat → Int} {σ : zSt} (hσ : zIM G σ) {x1 : Int32} (h_x1 : zr (0) (239) x1) : zok (fX12_draws_300 σ x1) (zIM G) := by
  unfold fX12_draws_300
  exact (s_X12_draws_302 zfuel hσ h_x1 (zr_w (zr_c (lo := 0) (hi := 0) (by decide)) (by decide)) (by decide))
theorem s_X12_draws_244 {G : Nat → Int} {σ : zSt} {k213 : zSt → Int32 → Int32 → Int32 → Option (zSt)} {Mk213 : Int} (hk213 : ∀ (σ : zSt) (x1 : Int32) (x2 : Int32) (x3 : Int32), zIM G σ → zr (0) (239) x1 → zr (0) (31) x2 → zr (0) (256) x3 → (256) - x3.toInt < Mk213 → zok (k213 σ x1 x2 x3) (zIM G)) (hσ : zIM G σ) {x1 : Int32} (h_x1 : zr (0) (239) x1) {x2 : Int32} (h_x2 : zr (0) (31) x2) {x3 : Int32} (h_x3 : zr (0) (255) x3) {s0 : Int32} (h_s0 : zr (0) (31) s0) {s1 : Int32} (h_s1 : zr (0) (255) s1) (hMk213 : (256) - x3.toInt ≤ Mk213) : zok (fX12_draws_244 k213 σ x1 x2 x3 s0 s1) (zIM G) := by
  unfold fX12_draws_244
  refine zok_ck (zin_ok h_s1 (by decide)) ?_
  refine zok_bs (hσ.wi 0 255 (z_ix h_s1 (by decide)) h_s0 (by decide +kernel)) (fun σ5 e2 i1 => ?_)
  refine zok_br (zr_add (lo := 1) (hi := 256) h_x3 (zr_c (lo := 1) (hi := 1) (by decide)) (by decide)) (fun v6 e4 h3 => ?_)
  exact hk213 _ _ _ _ i1 h_x1 h_x2 (zr_w h3 (by decide)) (by rw [e4]; have := z_tadd (y := (1 : Int32)) h_x3 (zr_c (lo := 1) (hi := 1) (by decide)) (by decide); have e9 : (1 : Int32).toInt = 1 := rfl; omega) 
theorem s_X12_draws_294 {G : Nat → Int} {σ : zSt} {k266 : zSt → Int32 → Int32 → Option (zSt)} {Mk266 : Int} (hk266 : ∀ (σ : zSt) (x1 : Int32) (x3 : Int32), zIM G σ → zr (0) (239) x1 → zr (0) (256) x3 → (256) - x3.toInt < Mk266 → zok (k266 σ x1 x3) (zIM G)) (hσ : zIM G σ) {x1 : Int32} (h_x1 : zr (0) (239) x1) {x3 : Int32} (h_x3 : zr (0) (255) x3) (hMk266 : (256) - x3.toInt ≤ Mk266) : zok (fX12_draws_294 k266 σ x1 x3) (zIM G) := by
  unfold fX12_draws_294
  refine zok_br (zr_add (lo := 1) (hi := 256) h_x3 (zr_c (lo := 1) (hi := 1) (by decide)) (by decide)) (fun v7 e2 h1 => ?_)
  exact hk266 _ _ _ hσ h_x1 (zr_w h1 (by decide)) (by rw [e2]; have := z_tadd (y := (1 : Int32)) h_x3 (zr_c (lo := 1) (hi := 1) (by decide)) (by decide); have e9 : (1 : Int32).toInt = 1 := rfl; omega) 
theorem s_X12_draws_266_body {G : Nat → Int} {σ : zSt} {k266 : zSt → Int32 → Int32 → Option (zSt)} {Mk266 : Int} (hk266 : ∀ (σ : zSt) (x1 : Int32) (x3 : Int32), zIM G σ → zr (0) (239) x1 → zr (0) (256) x3 → (256) - x3.toInt < Mk266 → zok (k266 σ x1 x3) (zIM G)) (hσ : zIM G σ) {x1 : Int32} (h_x1 : zr (0) (239) x1) {x3 : Int32} (h_x3 : zr (0) (256) x3) (hMk266 : (256) - x3.toInt ≤ Mk266) : zok (fX12_draws_266_body k266 σ x1 x3) (zIM G) := by
  unfold fX12_draws_266_body
  refine zok_if (fun q1 => ?_) (fun q1 => ?_)
  · have h2 := zc_ler (256) q1 (zr_c (lo := 256) (hi := 256) (by decide)) h_x3 (by decide)
    exact (s_X12_draws_300 hσ h_x1)
  have h3 := zc_ltl (255) (z_nle q1) h_x3 (zr_c (lo := 256) (hi := 256) (by decide)) (by decide)
  refine zok_ck (zin_ok h3 (by decide)) ?_
  refine zok_if (fun q4 => ?_) (fun q4 => ?_)
  · have h5 := zc_lel (0) q4 (rM_10 hσ.sg _ (z_ix h3 (by decide))) (zr_c (lo := 0) (hi := 0) (by decide)) (by decide)
    exact (s_X12_draws_294 hk266 hσ h_x1 h3 hMk266)
  have h6 := zc_ltr (1) (z_nle q4) (zr_c (lo := 0) (hi := 0) (by decide)) (rM_10 hσ.sg _ (z_ix h3 (by decide))) (by decide)
  refine zok_ck (zin_ok h3 (by decide)) ?_
  refine zok_ck (zin_ok h3 (by decide)) ?_
  refine zok_bs (hσ.wi 0 255 (z_ix h3 (by decide)) h6 (by decide +kernel)) (fun σ8 e8 i7 => ?_)
  exact (s_X12_draws_294 hk266 i7 h_x1 h3 hMk266)
theorem s_X12_draws_266 {G : Nat → Int} : ∀ (n : Nat) {σ : zSt} (hσ : zIM G σ) {x1 : Int32} (h_x1 : zr (0) (239) x1) {x3 : Int32} (h_x3 : zr (0) (256) x3) (hm : (256) - x3.toInt < n), zok (fX12_draws_266 n σ x1 x3) (zIM G) := by
  intro n
  induction n with
  | zero => intro σ hσ x1 h_x1 x3 h_x3 hm ; have h9 := h_x3.1; have h8 := h_x3.2; exfalso; omega
  | succ n ih => intro σ hσ x1 h_x1 x3 h_x3 hm ; exact s_X12_draws_266_body (fun σ x1 x3 hσ h_x1 h_x3 hm1 => ih hσ h_x1 h_x3 (by omega)) hσ h_x1 h_x3 (Int.le_refl _)
theorem s_X12_draws_264 {G : Nat → Int} {σ : zSt} (hσ : zIM G σ) {x1 : Int32} (h_x1 : zr (0) (239) x1) : zok (fX12_draws_264 σ x1) (zIM G) := by
  unfold fX12_draws_264
  exact (s_X12_draws_266 zfuel hσ h_x1 (zr_w (zr_c (lo := 0) (hi := 0) (by decide)) (by decide)) (by decide))
theorem s_X12_draws_213_body {G : Nat → Int} {σ : zSt} {k213 : zSt → Int32 → Int32 → Int32 → Option (zSt)} {Mk213 : Int} (hk213 : ∀ (σ : zSt) (x1 : Int32) (x2 : Int32) (x3 : Int32), zIM G σ → zr (0) (239) x1 → zr (0) (31) x2 → zr (0) (256) x3 → (256) - x3.toInt < Mk213 → zok (k213 σ x1 x2 x3) (zIM G)) (hσ : zIM G σ) {x1 : Int32} (h_x1 : zr (0) (239) x1) {x2 : Int32} (h_x2 : zr (0) (31) x2) {x3 : Int32} (h_x3 : zr (0) (256) x3) (hMk213 : (256) - x3.toInt ≤ Mk213) : zok (fX12_draws_213_body k213 σ x1 x2 x3) (zIM G) := by
  unfold fX12_draws_213_body
  refine zok_if (fun q1 => ?_) (fun q1 => ?_)
  · have h2 := zc_ler (256) q1 (zr_c (lo := 256) (hi := 256) (by decide)) h_x3 (by decide)
    refine zok_pi (s_X12_mode hσ.P) (fun v10 h3 => ?_)
    refine zok_if (fun q4 => ?_) (fun q4 => ?_)
    · have h5 := zc_eql (1) (1) q4 h3 (zr_c (lo := 1) (hi := 1) (by decide)) (by decide)
      exact (s_X12_draws_264 hσ h_x1)
    refine zok_bu (s_X12_oldSprites hσ h_x1) (fun σ11 i6 => ?_)
    exact (s_X12_draws_264 i6 h_x1)
  have h7 := zc_ltl (255) (z_nle q1) h_x3 (zr_c (lo := 256) (hi := 256) (by decide)) (by decide)
  refine zok_pi (s_X12_old hσ.P h_x1 h7) (fun v13 h8 => ?_)
  refine zok_if (fun q9 => ?_) (fun q9 => ?_)
  · have h10 := zc_eql (0) (0) q9 h8 (zr_c (lo := 0) (hi := 0) (by decide)) (by decide)
    exact (s_X12_draws_244 hk213 hσ h_x1 h_x2 h7 h_x2 h7 hMk213)
  have h11 := zc_nel (1) (15) q9 h8 (zr_c (lo := 0) (hi := 0) (by decide)) (by decide)
  exact (s_X12_draws_244 hk213 hσ h_x1 h_x2 h7 (zr_w h11 (by decide)) h7 hMk213)
theorem s_X12_draws_213 {G : Nat → Int} : ∀ (n : Nat) {σ : zSt} (hσ : zIM G σ) {x1 : Int32} (h_x1 : zr (0) (239) x1) {x2 : Int32} (h_x2 : zr (0) (31) x2) {x3 : Int32} (h_x3 : zr (0) (256) x3) (hm : (256) - x3.toInt < n), zok (fX12_draws_213 n σ x1 x2 x3) (zIM G) := by
  intro n
  induction n with
  | zero => intro σ hσ x1 h_x1 x2 h_x2 x3 h_x3 hm ; have h9 := h_x3.1; have h8 := h_x3.2; exfalso; omega
  | succ n ih => intro σ hσ x1 h_x1 x2 h_x2 x3 h_x3 hm ; exact s_X12_draws_213_body (fun σ x1 x2 x3 hσ h_x1 h_x2 h_x3 hm1 => ih hσ h_x1 h_x2 h_x3 (by omega)) hσ h_x1 h_x2 h_x3 (Int.le_refl _)
theorem s_X12_draws_200 {G : Nat → Int} {σ : zSt} (hσ : zIM G σ) {x1 : Int32} (h_x1 : zr (0) (239) x1) {x2 : Int32} (h_x2 : zr (0) (31) x2) : zok (fX12_draws_200 σ x1 x2) (zIM G) := by
  unfold fX12_draws_200
  refine zok_pi (s_X12_bit hσ.P (zr_w (zr_c (lo := 1) (hi := 1) (by decide)) (by decide)) (zr_w (zr_c (lo := 6) (hi := 6) (by decide)) (by decide))) (fun v15 h1 => ?_)
  refine zok_if (fun q2 => ?_) (fun q2 => ?_)
  · have h3 := zc_eql (1) (1) q2 h1 (zr_c (lo := 1) (hi := 1) (by decide)) (by decide)
    exact (s_X12_draws_213 zfuel hσ h_x1 h_x2 (zr_w (zr_c (lo := 0) (hi := 0) (by decide)) (by decide)) (by decide))
  have h4 := zc_nel (0) (0) q2 h1 (zr_c (lo := 1) (hi := 1) (by decide)) (by decide)
  exact (s_X12_draws_300 hσ h_x1)
theorem s_X12_draws_160 {G : Nat → Int} {σ : zSt} {k123 : zSt → Int32 → Int32 → Int32 → Option (zSt)} {Mk123 : Int} (hk123 : ∀ (σ : zSt) (x1 : Int32) (x2 : Int32) (x3 : Int32), zIM G σ → zr (0) (239) x1 → zr (0) (31) x2 → zr (0) (256) x3 → (256) - x3.toInt < Mk123 → zok (k123 σ x1 x2 x3) (zIM G)) (hσ : zIM G σ) {x1 : Int32} (h_x1 : zr (0) (239) x1) {x2 : Int32} (h_x2 : zr (0) (31) x2) {x3 : Int32} (h_x3 : zr (0) (255) x3) (hMk123 : (256) - x3.toInt ≤ Mk123) : zok (fX12_draws_160 k123 σ x1 x2 x3) (zIM G) := by
  unfold fX12_draws_160
  refine zok_br (zr_add (lo := 1) (hi := 256) h_x3 (zr_c (lo := 1) (hi := 1) (by decide)) (by decide)) (fun v16 e2 h1 => ?_)
  exact hk123 _ _ _ _ hσ h_x1 h_x2 (zr_w h1 (by decide)) (by rw [e2]; have := z_tadd (y := (1 : Int32)) h_x3 (zr_c (lo := 1) (hi := 1) (by decide)) (by decide); have e9 : (1 : Int32).toInt = 1 := rfl; omega) 
theorem s_X12_draws_197 {G : Nat → Int} {σ : zSt} (hσ : zIM G σ) {x1 : Int32} (h_x1 : zr (0) (239) x1) : zok (fX12_draws_197 σ x1) (zIM G) := by
  unfold fX12_draws_197
  exact (s_X12_draws_300 hσ h_x1)
theorem s_X12_draws_168_body {G : Nat → Int} {σ : zSt} {k168 : zSt → Int32 → Int32 → Int32 → Option (zSt)} {Mk168 : Int} (hk168 : ∀ (σ : zSt) (x1 : Int32) (x2 : Int32) (x3 : Int32), zIM G σ → zr (0) (239) x1 → zr (0) (31) x2 → zr (0) (8) x3 → (8) - x3.toInt < Mk168 → zok (k168 σ x1 x2 x3) (zIM G)) (hσ : zIM G σ) {x1 : Int32} (h_x1 : zr (0) (239) x1) {x2 : Int32} (h_x2 : zr (0) (31) x2) {x3 : Int32} (h_x3 : zr (0) (8) x3) (hMk168 : (8) - x3.toInt ≤ Mk168) : zok (fX12_draws_168_body k168 σ x1 x2 x3) (zIM G) := by
  unfold fX12_draws_168_body
  refine zok_if (fun q1 => ?_) (fun q1 => ?_)
  · have h2 := zc_ler (8) q1 (zr_c (lo := 8) (hi := 8) (by decide)) h_x3 (by decide)
    exact (s_X12_draws_197 hσ h_x1)
  have h3 := zc_ltl (7) (z_nle q1) h_x3 (zr_c (lo := 8) (hi := 8) (by decide)) (by decide)
  refine zok_pi (s_X12_bit hσ.P (zr_w (zr_c (lo := 0) (hi := 0) (by decide)) (by decide)) (zr_w (zr_c (lo := 5) (hi := 5) (by decide)) (by decide))) (fun v18 h4 => ?_)
  refine zok_if (fun q5 => ?_) (fun q5 => ?_)
  · have h6 := zc_eql (1) (1) q5 h4 (zr_c (lo := 1) (hi := 1) (by decide)) (by decide)
    refine zok_ck (zin_ok h3 (by decide)) ?_
    refine zok_bs (hσ.wi 0 7 (z_ix h3 (by decide)) h_x2 (by decide +kernel)) (fun σ19 e8 i7 => ?_)
    refine zok_br (zr_add (lo := 1) (hi := 8) h3 (zr_c (lo := 1) (hi := 1) (by decide)) (by decide)) (fun v20 e10 h9 => ?_)
    exact hk168 _ _ _ _ i7 h_x1 h_x2 (zr_w h9 (by decide)) (by rw [e10]; have := z_tadd (y := (1 : Int32)) h3 (zr_c (lo := 1) (hi := 1) (by decide)) (by decide); have e9 : (1 : Int32).toInt = 1 := rfl; omega) 
  have h11 := zc_nel (0) (0) q5 h4 (zr_c (lo := 1) (hi := 1) (by decide)) (by decide)
  exact (s_X12_draws_197 hσ h_x1)
theorem s_X12_draws_168 {G : Nat → Int} : ∀ (n : Nat) {σ : zSt} (hσ : zIM G σ) {x1 : Int32} (h_x1 : zr (0) (239) x1) {x2 : Int32} (h_x2 : zr (0) (31) x2) {x3 : Int32} (h_x3 : zr (0) (8) x3) (hm : (8) - x3.toInt < n), zok (fX12_draws_168 n σ x1 x2 x3) (zIM G) := by
  intro n
  induction n with
  | zero => intro σ hσ x1 h_x1 x2 h_x2 x3 h_x3 hm ; have h9 := h_x3.1; have h8 := h_x3.2; exfalso; omega
  | succ n ih => intro σ hσ x1 h_x1 x2 h_x2 x3 h_x3 hm ; exact s_X12_draws_168_body (fun σ x1 x2 x3 hσ h_x1 h_x2 h_x3 hm1 => ih hσ h_x1 h_x2 h_x3 (by omega)) hσ h_x1 h_x2 h_x3 (Int.le_refl _)
theorem s_X12_draws_123_body {G : Nat → Int} {σ : zSt} {k123 : zSt → Int32 → Int32 → Int32 → Option (zSt)} {Mk123 : Int} (hk123 : ∀ (σ : zSt) (x1 : Int32) (x2 : Int32) (x3 : Int32), zIM G σ → zr (0) (239) x1 → zr (0) (31) x2 → zr (0) (256) x3 → (256) - x3.toInt < Mk123 → zok (k123 σ x1 x2 x3) (zIM G)) (hσ : zIM G σ) {x1 : Int32} (h_x1 : zr (0) (239) x1) {x2 : Int32} (h_x2 : zr (0) (31) x2) {x3 : Int32} (h_x3 : zr (0) (256) x3) (hMk123 : (256) - x3.toInt ≤ Mk123) : zok (fX12_draws_123_body k123 σ x1 x2 x3) (zIM G) := by
  unfold fX12_draws_123_body
  refine zok_if (fun q1 => ?_) (fun q1 => ?_)
  · have h2 := zc_ler (256) q1 (zr_c (lo := 256) (hi := 256) (by decide)) h_x3 (by decide)
    exact (s_X12_draws_168 zfuel hσ h_x1 h_x2 (zr_w (zr_c (lo := 0) (hi := 0) (by decide)) (by decide)) (by decide))
  have h3 := zc_ltl (255) (z_nle q1) h_x3 (zr_c (lo := 256) (hi := 256) (by decide)) (by decide)
  refine zok_ck (zin_ok h3 (by decide)) ?_
  refine zok_if (fun q4 => ?_) (fun q4 => ?_)
  · have h5 := zc_lel (0) q4 (rM_10 hσ.sg _ (z_ix h3 (by decide))) (zr_c (lo := 0) (hi := 0) (by decide)) (by decide)
    exact (s_X12_draws_160 hk123 hσ h_x1 h_x2 h3 hMk123)
  have h6 := zc_ltr (1) (z_nle q4) (zr_c (lo := 0) (hi := 0) (by decide)) (rM_10 hσ.sg _ (z_ix h3 (by decide))) (by decide)
  refine zok_ck (zin_ok h3 (by decide)) ?_
  refine zok_if (fun q7 => ?_) (fun q7 => ?_)
  · have h8 := zc_eql (0) (0) q7 zr_any (zr_c (lo := 0) (hi := 0) (by decide)) (by decide)
    refine zok_ck (zin_ok h3 (by decide)) ?_
    refine zok_ck (zin_ok h3 (by decide)) ?_
    refine zok_bs (hσ.wi 0 255 (z_ix h3 (by decide)) h6 (by decide +kernel)) (fun σ21 e10 i9 => ?_)
    exact (s_X12_draws_160 hk123 i9 h_x1 h_x2 h3 hMk123)
  exact (s_X12_draws_160 hk123 hσ h_x1 h_x2 h3 hMk123)
theorem s_X12_draws_123 {G : Nat → Int} : ∀ (n : Nat) {σ : zSt} (hσ : zIM G σ) {x1 : Int32} (h_x1 : zr (0) (239) x1) {x2 : Int32} (h_x2 : zr (0) (31) x2) {x3 : Int32} (h_x3 : zr (0) (256) x3) (hm : (256) - x3.toInt < n), zok (fX12_draws_123 n σ x1 x2 x3) (zIM G) := by
  intro n
  induction n with
  | zero => intro σ hσ x1 h_x1 x2 h_x2 x3 h_x3 hm ; have h9 := h_x3.1; have h8 := h_x3.2; exfalso; omega
  | succ n ih => intro σ hσ x1 h_x1 x2 h_x2 x3 h_x3 hm ; exact s_X12_draws_123_body (fun σ x1 x2 x3 hσ h_x1 h_x2 h_x3 hm1 => ih hσ h_x1 h_x2 h_x3 (by omega)) hσ h_x1 h_x2 h_x3 (Int.le_refl _)
theorem s_X12_draws_97_body {G : Nat → Int} {σ : zSt} {k97 : zSt → Int32 → Int32 → Int32 → Option (zSt)} {Mk97 : Int} (hk97 : ∀ (σ : zSt) (x1 : Int32) (x2 : Int32) (x3 : Int32), zIM G σ → zr (0) (239) x1 → zr (0) (31) x2 → zr (0) (256) x3 → (256) - x3.toInt < Mk97 → zok (k97 σ x1 x2 x3) (zIM G)) (hσ : zIM G σ) {x1 : Int32} (h_x1 : zr (0) (239) x1) {x2 : Int32} (h_x2 : zr (0) (31) x2) {x3 : Int32} (h_x3 : zr (0) (256) x3) (hMk97 : (256) - x3.toInt ≤ Mk97) : zok (fX12_draws_97_body k97 σ x1 x2 x3) (zIM G) := by
  unfold fX12_draws_97_body
  refine zok_if (fun q1 => ?_) (fun q1 => ?_)
  · have h2 := zc_ler (256) q1 (zr_c (lo := 256) (hi := 256) (by decide)) h_x3 (by decide)
    refine zok_bu (s_X12_sprites hσ h_x1) (fun σ22 i3 => ?_)
    exact (s_X12_draws_123 zfuel i3 h_x1 h_x2 (zr_w (zr_c (lo := 0) (hi := 0) (by decide)) (by decide)) (by decide))
  have h4 := zc_ltl (255) (z_nle q1) h_x3 (zr_c (lo := 256) (hi := 256) (by decide)) (by decide)
  refine zok_bu (s_X12_tile hσ h_x1 h4) (fun σ23 i5 => ?_)
  refine zok_br (zr_add (lo := 1) (hi := 256) h4 (zr_c (lo := 1) (hi := 1) (by decide)) (by decide)) (fun v24 e7 h6 => ?_)
  exact hk97 _ _ _ _ i5 h_x1 h_x2 (zr_w h6 (by decide)) (by rw [e7]; have := z_tadd (y := (1 : Int32)) h4 (zr_c (lo := 1) (hi := 1) (by decide)) (by decide); have e9 : (1 : Int32).toInt = 1 := rfl; omega) 
theorem s_X12_draws_97 {G : Nat → Int} : ∀ (n : Nat) {σ : zSt} (hσ : zIM G σ) {x1 : Int32} (h_x1 : zr (0) (239) x1) {x2 : Int32} (h_x2 : zr (0) (31) x2) {x3 : Int32} (h_x3 : zr (0) (256) x3) (hm : (256) - x3.toInt < n), zok (fX12_draws_97 n σ x1 x2 x3) (zIM G) := by
  intro n
  induction n with
  | zero => intro σ hσ x1 h_x1 x2 h_x2 x3 h_x3 hm ; have h9 := h_x3.1; have h8 := h_x3.2; exfalso; omega
  | succ n ih => intro σ hσ x1 h_x1 x2 h_x2 x3 h_x3 hm ; exact s_X12_draws_97_body (fun σ x1 x2 x3 hσ h_x1 h_x2 h_x3 hm1 => ih hσ h_x1 h_x2 h_x3 (by omega)) hσ h_x1 h_x2 h_x3 (Int.le_refl _)
theorem s_X12_draws_35_body {G : Nat → Int} {σ : zSt} {k35 : zSt → Int32 → Int32 → Int32 → Option (zSt)} {Mk35 : Int} (hk35 : ∀ (σ : zSt) (x1 : Int32) (x2 : Int32) (x3 : Int32), zIM G σ → zr (0) (239) x1 → zr (0) (31) x2 → zr (0) (256) x3 → (256) - x3.toInt < Mk35 → zok (k35 σ x1 x2 x3) (zIM G)) (hσ : zIM G σ) {x1 : Int32} (h_x1 : zr (0) (239) x1) {x2 : Int32} (h_x2 : zr (0) (31) x2) {x3 : Int32} (h_x3 : zr (0) (256) x3) (hMk35 : (256) - x3.toInt ≤ Mk35) : zok (fX12_draws_35_body k35 σ x1 x2 x3) (zIM G) := by
  unfold fX12_draws_35_body
  refine zok_if (fun q1 => ?_) (fun q1 => ?_)
  · have h2 := zc_ler (256) q1 (zr_c (lo := 256) (hi := 256) (by decide)) h_x3 (by decide)
    refine zok_pi (s_X12_bit hσ.P (zr_w (zr_c (lo := 1) (hi := 1) (by decide)) (by decide)) (zr_w (zr_c (lo := 6) (hi := 6) (by decide)) (by decide))) (fun v26 h3 => ?_)
    refine zok_if (fun q4 => ?_) (fun q4 => ?_)
    · have h5 := zc_eql (1) (1) q4 h3 (zr_c (lo := 1) (hi := 1) (by decide)) (by decide)
      refine zok_pi (s_X12_mode hσ.P) (fun v28 h6 => ?_)
      refine zok_if (fun q7 => ?_) (fun q7 => ?_)
      · have h8 := zc_eql (4) (4) q7 h6 (zr_c (lo := 4) (hi := 4) (by decide)) (by decide)
        exact (s_X12_draws_97 zfuel hσ h_x1 h_x2 (zr_w (zr_c (lo := 0) (hi := 0) (by decide)) (by decide)) (by decide))
      have h9 := zc_nel (0) (3) q7 h6 (zr_c (lo := 4) (hi := 4) (by decide)) (by decide)
      exact (s_X12_draws_200 hσ h_x1 h_x2)
    have h10 := zc_nel (0) (0) q4 h3 (zr_c (lo := 1) (hi := 1) (by decide)) (by decide)
    exact (s_X12_draws_200 hσ h_x1 h_x2)
  have h11 := zc_ltl (255) (z_nle q1) h_x3 (zr_c (lo := 256) (hi := 256) (by decide)) (by decide)
  refine zok_ck (zin_ok h11 (by decide)) ?_
  refine zok_bs (hσ.wi 0 255 (z_ix h11 (by decide)) h_x2 (by decide +kernel)) (fun σ29 e13 i12 => ?_)
  refine zok_ck (zin_ok h11 (by decide)) ?_
  refine zok_bs (i12.wk (by decide)) (fun σ30 e15 i14 => ?_)
  refine zok_ck (zin_ok h11 (by decide)) ?_
  refine zok_bs (i14.wi 0 255 (z_ix h11 (by decide)) (zr_c (lo := 0) (hi := 0) (by decide)) (by decide +kernel)) (fun σ31 e17 i16 => ?_)
  refine zok_ck (zin_ok h11 (by decide)) ?_
  refine zok_bs (i16.wk (by decide)) (fun σ32 e19 i18 => ?_)
  refine zok_br (zr_add (lo := 1) (hi := 256) h11 (zr_c (lo := 1) (hi := 1) (by decide)) (by decide)) (fun v33 e21 h20 => ?_)
  exact hk35 _ _ _ _ i18 h_x1 h_x2 (zr_w h20 (by decide)) (by rw [e21]; have := z_tadd (y := (1 : Int32)) h11 (zr_c (lo := 1) (hi := 1) (by decide)) (by decide); have e9 : (1 : Int32).toInt = 1 := rfl; omega) 
theorem s_X12_draws_35 {G : Nat → Int} : ∀ (n : Nat) {σ : zSt} (hσ : zIM G σ) {x1 : Int32} (h_x1 : zr (0) (239) x1) {x2 : Int32} (h_x2 : zr (0) (31) x2) {x3 : Int32} (h_x3 : zr (0) (256) x3) (hm : (256) - x3.toInt < n), zok (fX12_draws_35 n σ x1 x2 x3) (zIM G) := by
  intro n
  induction n with
  | zero => intro σ hσ x1 h_x1 x2 h_x2 x3 h_x3 hm ; have h9 := h_x3.1; have h8 := h_x3.2; exfalso; omega
  | succ n ih => intro σ hσ x1 h_x1 x2 h_x2 x3 h_x3 hm ; exact s_X12_draws_35_body (fun σ x1 x2 x3 hσ h_x1 h_x2 h_x3 hm1 => ih hσ h_x1 h_x2 h_x3 (by omega)) hσ h_x1 h_x2 h_x3 (Int.le_refl _)
theorem s_X12_draws_32 {G : Nat → Int} {σ : zSt} (hσ : zIM G σ) {x1 : Int32} (h_x1 : zr (0) (239) x1) {s0 : Int32} (h_s0 : zr (0) (31) s0) : zok (fX12_draws_32 σ x1 s0) (zIM G) := by
  unfold fX12_draws_32
  exact (s_X12_draws_35 zfuel hσ h_x1 h_s0 (zr_w (zr_c (lo := 0) (hi := 0) (by decide)) (by decide)) (by decide))
theorem s_X12_draws {G : Nat → Int} {σ : zSt} (hσ : zIM G σ) {x1 : Int32} (h_x1 : zr (0) (239) x1) : zok (fX12_draws σ x1) (zIM G) := by
  unfold fX12_draws
  refine zok_pi (s_X12_mode hσ.P) (fun v35 h1 => ?_)
  refine zok_if (fun q2 => ?_) (fun q2 => ?_)
  · have h3 := zc_eql (4) (4) q2 h1 (zr_c (lo := 4) (hi := 4) (by decide)) (by decide)
    refine zok_pi (s_X12_reg hσ.P (zr_w (zr_c (lo := 7) (hi := 7) (by decide)) (by decide))) (fun v39 h4 => ?_)
    refine zok_ck (by decide) ?_
    exact (s_X12_draws_32 hσ h_x1 (zr_w (zr_add (lo := 16) (hi := 31) (zr_c (lo := 16) (hi := 16) (by decide)) (zr_rem (lo := 0) (hi := 15) 16 (by decide) h4 (by decide)) (by decide)) (by decide)))
  have h5 := zc_nel (0) (3) q2 h1 (zr_c (lo := 4) (hi := 4) (by decide)) (by decide)
  refine zok_pi (s_X12_reg hσ.P (zr_w (zr_c (lo := 7) (hi := 7) (by decide)) (by decide))) (fun v37 h6 => ?_)
  refine zok_ck (by decide) ?_
  exact (s_X12_draws_32 hσ h_x1 (zr_w (zr_rem (lo := 0) (hi := 15) 16 (by decide) h6 (by decide)) (by decide)))
theorem s_X12_planned_113 {σ : zSt} (hσ : zPM σ) : zok (fX12_planned_113 σ ) (zPu σ) := by
  unfold fX12_planned_113
  exact zok_spu
theorem s_plan_68 {G : Nat → Int} {k0 : zSt → Option zSt} {M : Int} (hk : ∀ σ : zSt, zIM G σ → (zgi σ 3 (171 : Int32).toNatClampNeg).toInt < M → zok (k0 σ) (zIM G)) : ∀ (n : Nat) {σ : zSt} (hσ : zIM G σ) {x1 : Int32} (h1 : zr 0 765 x1) (hN : zr 0 255 (zgi σ 3 (171 : Int32).toNatClampNeg)) (hM : (zgi σ 3 (171 : Int32).toNatClampNeg).toInt < M) (hm : 765 - x1.toInt < n), zok (fX12_planned_68 k0 n σ x1) (zIM G) := by
  intro n
  induction n with
  | zero => intro σ hσ x1 h1 hN hM hm; have := h1.2; exfalso; omega
  | succ n ih =>
    intro σ hσ x1 h1 hN hM hm
    show zok (fX12_planned_68_body k0 (fX12_planned_68 k0 n) σ x1) _
    unfold fX12_planned_68_body
    refine zok_ck rfl (zok_if (fun q => hk σ hσ hM) (fun q => ?_))
    have q1 := Int32.lt_iff_toInt_lt.mp (z_nle q)
    have k3 : zr 3 3 (3 : Int32) := zr_c (by decide)
    have c3 : (3 : Int32).toInt = 3 := rfl
    have t3 : (3 * (zgi σ 3 (171 : Int32).toNatClampNeg)).toInt = (3 : Int32).toInt * (zgi σ 3 (171 : Int32).toNatClampNeg).toInt := z_tmul k3 hN (by decide)
    rw [t3, c3] at q1
    have b1 := h1.1
    have b2 := hN.2
    have h5 : zr 0 764 x1 := ⟨b1, by omega⟩
    have k28 : zr 280 280 (280 : Int32) := zr_c (by decide)
    have c28 : (280 : Int32).toInt = 280 := rfl
    have t1 : (280 + x1).toInt = (280 : Int32).toInt + x1.toInt := z_tadd k28 h5 (by decide)
    have r1 := zr_add (lo := 280) (hi := 1044) k28 h5 (by decide)
    have t2 : (280 + x1 + 3).toInt = (280 + x1).toInt + (3 : Int32).toInt := z_tadd r1 k3 (by decide)
    have r2 := zr_add (lo := 283) (hi := 1047) r1 k3 (by decide)
    refine zok_ck (zin_ok r2 (by decide)) (zok_ck (zin_ok r1 (by decide)) ?_)
    have e1 : (280 + x1).toNatClampNeg = (280 + x1).toInt.toNat := rfl
    have e2 : (280 + x1 + 3).toNatClampNeg = (280 + x1 + 3).toInt.toNat := rfl
    refine zok_bs (I := zIM G) (hσ.sh (j3 := (280 + x1 + 3).toNatClampNeg) (by omega)) (fun σ1 e i1 => ?_)
    have kN : zgi σ1 3 (171 : Int32).toNatClampNeg = zgi σ 3 (171 : Int32).toNatClampNeg := by
      have c17 : (171 : Int32).toNatClampNeg = 171 := rfl
      subst e; unfold zgi; rw [c17, zsi_off (by omega)]
    have a1 : zr 1 1 (1 : Int32) := zr_c (by decide)
    have c1 : (1 : Int32).toInt = 1 := rfl
    have t : (x1 + 1).toInt = x1.toInt + (1 : Int32).toInt := z_tadd h5 a1 (by decide)
    refine zok_bv (fun v3 e3 => ?_)
    subst e3
    exact ih i1 ⟨by omega, by omega⟩ (by rw [kN]; exact hN) (by rw [kN]; exact hM) (by omega)
theorem s_plan_0 {G : Nat → Int} : ∀ (n : Nat) {σ : zSt} (hσ : zIM G σ) (hm : (zgi σ 3 (171 : Int32).toNatClampNeg).toInt < n), zok (fX12_planned_0 n σ) (zIM G) := by
  intro n
  induction n with
  | zero =>
    intro σ hσ hm
    have hN : zr 0 256 (zgi σ 3 (171 : Int32).toNatClampNeg) := rM_45 hσ.sg (171 : Int32).toNatClampNeg (by decide)
    have := hN.1
    exfalso; omega
  | succ n ih =>
    intro σ hσ hm
    show zok (fX12_planned_0_body (fX12_planned_0 n) σ) _
    unfold fX12_planned_0_body
    have hN : zr 0 256 (zgi σ 3 (171 : Int32).toNatClampNeg) := rM_45 hσ.sg (171 : Int32).toNatClampNeg (by decide)
    refine zok_ck rfl (zok_if (fun q => zok_some hσ) (fun q => ?_))
    refine zok_ck rfl (zok_ck rfl (zok_if (fun _ => zok_some hσ) (fun _ => ?_)))
    have q1 := Int32.lt_iff_toInt_lt.mp (z_nle q)
    have c0 : (0 : Int32).toInt = 0 := rfl
    have hN1 : zr 1 256 (zgi σ 3 (171 : Int32).toNatClampNeg) := ⟨by omega, hN.2⟩
    have hP : zr 0 1 (zgi σ 3 (281 : Int32).toNatClampNeg) := by
      have c28 : (281 : Int32).toNatClampNeg = 281 + 3 * 0 := rfl
      rw [c28]; exact hσ.Y.2.2.1 0 (by decide)
    have hI := zr_add (lo := 42) (hi := 43) (zr_c (lo := 42) (hi := 42) (x := 42) (by decide)) hP (by decide)
    refine zok_ck rfl (zok_ck rfl (zok_ck (zin_ok hI (by decide)) ?_))
    refine zok_bs (I := zIM G) (hσ.wi 42 43 (z_ix hI (by decide)) zr_any (by decide +kernel)) (fun σ1 e1 i1 => ?_)
    have hN2 := z_trr (j1 := (171 : Int32).toNatClampNeg) e1 (z_ix (c := 42) (d := 43) hI (by decide)) (by decide) hN1
    have kN : zgi σ1 3 (171 : Int32).toNatClampNeg = zgi σ 3 (171 : Int32).toNatClampNeg := by
      have b := z_ix (c := 42) (d := 43) hI (by decide)
      rw [e1]
      show (zsi σ 3 _ _).1 3 171 = σ.1 3 171
      exact zsi_off (by omega)
    have a1 : zr 1 1 (1 : Int32) := zr_c (by decide)
    have c1 : (1 : Int32).toInt = 1 := rfl
    have h9 := zr_sub (lo := 0) (hi := 255) hN2 a1 (by decide)
    have t9 : (zgi σ1 3 (171 : Int32).toNatClampNeg - 1).toInt = (zgi σ1 3 (171 : Int32).toNatClampNeg).toInt - (1 : Int32).toInt := z_tsub hN2 a1 (by decide)
    refine zok_ck rfl (zok_ck rfl ?_)
    refine zok_bs (I := zIM G) (i1.wi 171 171 (by decide) h9 (by decide +kernel)) (fun σ2 e2 i2 => ?_)
    have k2 : zgi σ2 3 (171 : Int32).toNatClampNeg = zgi σ1 3 (171 : Int32).toNatClampNeg - 1 := by
      subst e2; show (zsi _ _ _ _).1 _ _ = _; rw [zsi_ej]
    refine s_plan_68 (M := (n : Int)) (fun σ3 i3 h3 => ih i3 h3) zfuel i2 (zr_c (by decide)) (by rw [k2]; exact h9) (by rw [k2, t9, kN]; omega) (by decide)
theorem s_X12_planned {G : Nat → Int} {σ : zSt} (hσ : zIM G σ) : zok (fX12_planned σ ) (zIM G) := by
  unfold fX12_planned
  have hN : zr 0 256 (zgi σ 3 (171 : Int32).toNatClampNeg) := rM_45 hσ.sg (171 : Int32).toNatClampNeg (by decide)
  have b := hN.2
  exact s_plan_0 zfuel hσ (by unfold zfuel; omega)
theorem s_X12_ends_195 {σ : zSt} (hσ : zPM σ) : zok (fX12_ends_195 σ ) (zPu σ) := by
  unfold fX12_ends_195
  exact zok_spu
theorem s_X12_ends_169 {G : Nat → Int} {σ : zSt} (hσ : zIM G σ) {x1 : Int32} (h_x1 : zr (192) (240) x1) : zok (fX12_ends_169 σ x1) (zIM G) := by
  unfold fX12_ends_169
  refine zok_ck rfl ?_
  refine zok_if (fun q1 => ?_) (fun q1 => ?_)
  · have h2 := zc_eql (193) (241) q1 (rM_29 hσ.sg _ (by decide)) (zr_add (lo := 193) (hi := 241) h_x1 (zr_c (lo := 1) (hi := 1) (by decide)) (by decide)) (by decide)
    refine zok_ck rfl ?_
    refine zok_ck rfl ?_
    refine zok_bs (hσ.wi 62 62 (by decide) (zr_or (lo := 0) (hi := 255) 8 (rM_26 hσ.sg _ (by decide)) (zr_c (lo := 128) (hi := 128) (by decide)) (by decide)) (by decide +kernel)) (fun σ1 e4 i3 => ?_)
    exact zok_pau i3 (s_X12_ends_195 i3.P)
  exact zok_pau hσ (s_X12_ends_195 hσ.P)
theorem s_ends_131 {G : Nat → Int} {σ : zSt} (hσ : zIM (zset G 3 (G 3 + 1)) σ) {x1 : Int32} (h_x1 : zr (192) (240) x1) {s0 s1 : Int32} (h1 : s1.toInt = G 3 + 1) (h0 : s0.toInt = zln G) (g3 : zEh G) : zok (fX12_ends_131 σ x1 s0 s1) (zIM (zEnd G)) := by
  unfold fX12_ends_131
  refine zok_if (fun q => ?_) (fun q => ?_)
  · have qe : G 3 + 1 = zln G := by rw [← h1, ← h0, q]
    have eE : zEnd G = zset (zset (zset G 3 (G 3 + 1)) 3 0) 101 (G 101 + 1) := if_pos qe
    rw [eE]
    refine zok_ck rfl ?_
    refine zok_bs (I := zIM (zset (zset G 3 (G 3 + 1)) 3 0)) (zIM.wg (v := 0) 3 hσ (by decide) (by decide) (zr_c (lo := 0) (hi := 0) (by decide)) (by decide +kernel)) (fun σ2 e5 i4 => ?_)
    refine zok_pi (s_X12_reg i4.P (zr_w (zr_c (lo := 9) (hi := 9) (by decide)) (by decide))) (fun v4 h6 => ?_)
    refine zok_ck rfl ?_
    refine zok_bs (I := zIM (zset (zset G 3 (G 3 + 1)) 3 0)) (i4.wi 65 65 (by decide) h6 (by decide +kernel)) (fun σ5 e8 i7 => ?_)
    refine zok_ck rfl (zok_ck rfl ?_)
    have e : (zgl σ5 4 (2 : Int32).toNatClampNeg).toInt = G 101 := by
      rw [i7.atl 1 (by decide), zset_ne (by decide), zset_ne (by decide)]
    have c1 : (1 : Int64).toInt = 1 := rfl
    obtain ⟨_, g1, g2⟩ := g3
    have t : (zgl σ5 4 (2 : Int32).toNatClampNeg + 1).toInt = G 101 + 1 := by
      rw [z_tladd (a := 0) (b := 1125899906842624) (x := zgl σ5 4 (2 : Int32).toNatClampNeg) (y := 1) ⟨by omega, by omega⟩ (zrl_c (lo := 1) (hi := 1) (x := 1) (by decide)) (by decide), e, c1]
    refine zok_bs (I := zIM (zset (zset (zset G 3 (G 3 + 1)) 3 0) 101 (G 101 + 1))) (by rw [← t]; exact i7.wgl 1 (by decide)) (fun σ6 e10 i9 => ?_)
    refine zok_bu (s_X12_planned i9) (fun σ7 i11 => ?_)
    exact s_X12_ends_169 i11 h_x1
  · have eE : zEnd G = zset G 3 (G 3 + 1) := if_neg (fun r => q (Int32.toInt_inj.mp (by rw [h1, h0, r])))
    rw [eE]
    exact s_X12_ends_169 hσ h_x1
theorem s_X12_ends_96 {G : Nat → Int} {σ : zSt} (hσ : zIM G σ) {x1 : Int32} (h_x1 : zr (192) (240) x1) (g3 : zEh G) : zok (fX12_ends_96 σ x1) (zIM (zEnd G)) := by
  unfold fX12_ends_96
  refine zok_ck rfl (zok_ck rfl ?_)
  have e : (zgi σ 3 (66 : Int32).toNatClampNeg).toInt = G 3 := hσ.at 3 (by decide)
  have c1 : (1 : Int32).toInt = 1 := rfl
  have lb := zln_b G
  have g := g3.1
  have hl : zr 0 312 (zgi σ 3 (66 : Int32).toNatClampNeg) := ⟨by omega, by omega⟩
  have a1 : zr 1 1 (1 : Int32) := zr_c (by decide)
  have t : (zgi σ 3 (66 : Int32).toNatClampNeg + 1).toInt = G 3 + 1 := by rw [z_tadd hl a1 (by decide), e, c1]
  refine zok_bs (I := zIM (zset G 3 (G 3 + 1))) (by rw [← t]; exact hσ.wg 3 (by decide) (by decide) (zr_add (lo := 1) (hi := 313) hl a1 (by decide)) (by decide +kernel)) (fun σ8 e8 i8 => ?_)
  refine zok_ck rfl ?_
  have k1 : (zgi σ8 0 3).toInt = G 1 := by rw [i8.at 1 (by decide), zset_ne (by decide)]
  have l1 : (zgi σ8 3 (66 : Int32).toNatClampNeg).toInt = G 3 + 1 := by rw [i8.at 3 (by decide), zset_eq]
  refine zok_if (fun q => ?_) (fun q => ?_)
  · have q1 : G 1 = 1 := by rw [← k1, q]; rfl
    exact s_ends_131 i8 h_x1 l1 (by unfold zln; rw [if_pos q1]; rfl) g3
  · have q1 : ¬ G 1 = 1 := fun r => q (Int32.toInt_inj.mp (by rw [k1, r]; rfl))
    exact s_ends_131 i8 h_x1 l1 (by unfold zln; rw [if_neg q1]; rfl) g3
theorem s_X12_ends_27 {G : Nat → Int} {σ : zSt} (hσ : zIM G σ) {x1 : Int32} (h_x1 : zr (192) (240) x1) (g3 : zEh G) : zok (fX12_ends_27 σ x1) (zIM (zEnd G)) := by
  unfold fX12_ends_27
  refine zok_ck rfl ?_
  refine zok_if (fun q1 => ?_) (fun q1 => ?_)
  · have h2 := zc_ltr (193) q1 h_x1 (rM_29 hσ.sg _ (by decide)) (by decide)
    refine zok_pi (s_X12_reg hσ.P (zr_w (zr_c (lo := 10) (hi := 10) (by decide)) (by decide))) (fun v10 h3 => ?_)
    refine zok_ck rfl ?_
    refine zok_bs (hσ.wi 64 64 (by decide) h3 (by decide +kernel)) (fun σ11 e5 i4 => ?_)
    exact (s_X12_ends_96 i4 h_x1 g3)
  have h6 := zc_lel (240) (z_nlt q1) (rM_29 hσ.sg _ (by decide)) h_x1 (by decide)
  refine zok_ck rfl ?_
  refine zok_ck rfl ?_
  refine zok_bs (hσ.wi 64 64 (by decide) zr_any (by decide +kernel)) (fun σ12 e8 i7 => ?_)
  refine zok_ck rfl ?_
  refine zok_if (fun q9 => ?_) (fun q9 => ?_)
  · have h10 := zc_ler (0) q9 (zr_c (lo := 0) (hi := 0) (by decide)) zr_any (by decide)
    exact (s_X12_ends_96 i7 h_x1 g3)
  have h11 := zc_ltl (-1) (z_nle q9) zr_any (zr_c (lo := 0) (hi := 0) (by decide)) (by decide)
  refine zok_pi (s_X12_reg i7.P (zr_w (zr_c (lo := 10) (hi := 10) (by decide)) (by decide))) (fun v14 h12 => ?_)
  refine zok_ck rfl ?_
  refine zok_bs (i7.wi 64 64 (by decide) h12 (by decide +kernel)) (fun σ15 e14 i13 => ?_)
  refine zok_ck rfl ?_
  refine zok_bs (i13.wi 63 63 (by decide) (zr_c (lo := 1) (hi := 1) (by decide)) (by decide +kernel)) (fun σ16 e16 i15 => ?_)
  exact (s_X12_ends_96 i15 h_x1 g3)
theorem s_X12_ends {G : Nat → Int} {σ : zSt} (hσ : zIM G σ) (g3 : zEh G) : zok (fX12_ends σ ) (zIM (zEnd G)) := by
  unfold fX12_ends
  refine zok_pi (s_X12_height hσ.P) (fun v18 h1 => ?_)
  refine zok_ck rfl ?_
  refine zok_if (fun q2 => ?_) (fun q2 => ?_)
  · have h3 := zc_ler (192) q2 h1 (rM_29 hσ.sg _ (by decide)) (by decide)
    exact (s_X12_ends_27 hσ h1 g3)
  have h4 := zc_ltl (239) (z_nle q2) (rM_29 hσ.sg _ (by decide)) h1 (by decide)
  refine zok_ck rfl ?_
  refine zok_bu (s_X12_draws hσ h4) (fun σ19 i5 => ?_)
  exact (s_X12_ends_27 i5 h1 g3)
theorem s_X12_loudness {σ : zSt} (hσ : zPM σ) {x0 : Int32} (h_x0 : zr (0) (15) x0) : zok (fX12_loudness σ x0) (zPi σ (fun v : Int32 => zr (0) (8191) v)) := by
  unfold fX12_loudness
  refine zok_if (fun q1 => ?_) (fun q1 => ?_)
  · have h2 := zc_eql (0) (0) q1 h_x0 (zr_c (lo := 0) (hi := 0) (by decide)) (by decide)
    exact zok_spi (zr_w (zr_c (lo := 8191) (hi := 8191) (by decide)) (by decide))
  have h3 := zc_nel (1) (15) q1 h_x0 (zr_c (lo := 0) (hi := 0) (by decide)) (by decide)
  refine zok_if (fun q4 => ?_) (fun q4 => ?_)
  · have h5 := zc_eql (1) (1) q4 h3 (zr_c (lo := 1) (hi := 1) (by decide)) (by decide)
    exact zok_spi (zr_w (zr_c (lo := 6506) (hi := 6506) (by decide)) (by decide))
  have h6 := zc_nel (2) (15) q4 h3 (zr_c (lo := 1) (hi := 1) (by decide)) (by decide)
  refine zok_if (fun q7 => ?_) (fun q7 => ?_)
  · have h8 := zc_eql (2) (2) q7 h6 (zr_c (lo := 2) (hi := 2) (by decide)) (by decide)
    exact zok_spi (zr_w (zr_c (lo := 5168) (hi := 5168) (by decide)) (by decide))
  have h9 := zc_nel (3) (15) q7 h6 (zr_c (lo := 2) (hi := 2) (by decide)) (by decide)
  refine zok_if (fun q10 => ?_) (fun q10 => ?_)
  · have h11 := zc_eql (3) (3) q10 h9 (zr_c (lo := 3) (hi := 3) (by decide)) (by decide)
    exact zok_spi (zr_w (zr_c (lo := 4105) (hi := 4105) (by decide)) (by decide))
  have h12 := zc_nel (4) (15) q10 h9 (zr_c (lo := 3) (hi := 3) (by decide)) (by decide)
  refine zok_if (fun q13 => ?_) (fun q13 => ?_)
  · have h14 := zc_eql (4) (4) q13 h12 (zr_c (lo := 4) (hi := 4) (by decide)) (by decide)
    exact zok_spi (zr_w (zr_c (lo := 3261) (hi := 3261) (by decide)) (by decide))
  have h15 := zc_nel (5) (15) q13 h12 (zr_c (lo := 4) (hi := 4) (by decide)) (by decide)
  refine zok_if (fun q16 => ?_) (fun q16 => ?_)
  · have h17 := zc_eql (5) (5) q16 h15 (zr_c (lo := 5) (hi := 5) (by decide)) (by decide)
    exact zok_spi (zr_w (zr_c (lo := 2590) (hi := 2590) (by decide)) (by decide))
  have h18 := zc_nel (6) (15) q16 h15 (zr_c (lo := 5) (hi := 5) (by decide)) (by decide)
  refine zok_if (fun q19 => ?_) (fun q19 => ?_)
  · have h20 := zc_eql (6) (6) q19 h18 (zr_c (lo := 6) (hi := 6) (by decide)) (by decide)
    exact zok_spi (zr_w (zr_c (lo := 2057) (hi := 2057) (by decide)) (by decide))
  have h21 := zc_nel (7) (15) q19 h18 (zr_c (lo := 6) (hi := 6) (by decide)) (by decide)
  refine zok_if (fun q22 => ?_) (fun q22 => ?_)
  · have h23 := zc_eql (7) (7) q22 h21 (zr_c (lo := 7) (hi := 7) (by decide)) (by decide)
    exact zok_spi (zr_w (zr_c (lo := 1634) (hi := 1634) (by decide)) (by decide))
  have h24 := zc_nel (8) (15) q22 h21 (zr_c (lo := 7) (hi := 7) (by decide)) (by decide)
  refine zok_if (fun q25 => ?_) (fun q25 => ?_)
  · have h26 := zc_eql (8) (8) q25 h24 (zr_c (lo := 8) (hi := 8) (by decide)) (by decide)
    exact zok_spi (zr_w (zr_c (lo := 1298) (hi := 1298) (by decide)) (by decide))
  have h27 := zc_nel (9) (15) q25 h24 (zr_c (lo := 8) (hi := 8) (by decide)) (by decide)
  refine zok_if (fun q28 => ?_) (fun q28 => ?_)
  · have h29 := zc_eql (9) (9) q28 h27 (zr_c (lo := 9) (hi := 9) (by decide)) (by decide)
    exact zok_spi (zr_w (zr_c (lo := 1031) (hi := 1031) (by decide)) (by decide))
  have h30 := zc_nel (10) (15) q28 h27 (zr_c (lo := 9) (hi := 9) (by decide)) (by decide)
  refine zok_if (fun q31 => ?_) (fun q31 => ?_)
  · have h32 := zc_eql (10) (10) q31 h30 (zr_c (lo := 10) (hi := 10) (by decide)) (by decide)
    exact zok_spi (zr_w (zr_c (lo := 819) (hi := 819) (by decide)) (by decide))
  have h33 := zc_nel (11) (15) q31 h30 (zr_c (lo := 10) (hi := 10) (by decide)) (by decide)
  refine zok_if (fun q34 => ?_) (fun q34 => ?_)
  · have h35 := zc_eql (11) (11) q34 h33 (zr_c (lo := 11) (hi := 11) (by decide)) (by decide)
    exact zok_spi (zr_w (zr_c (lo := 650) (hi := 650) (by decide)) (by decide))
  have h36 := zc_nel (12) (15) q34 h33 (zr_c (lo := 11) (hi := 11) (by decide)) (by decide)
  refine zok_if (fun q37 => ?_) (fun q37 => ?_)
  · have h38 := zc_eql (12) (12) q37 h36 (zr_c (lo := 12) (hi := 12) (by decide)) (by decide)
    exact zok_spi (zr_w (zr_c (lo := 517) (hi := 517) (by decide)) (by decide))
  have h39 := zc_nel (13) (15) q37 h36 (zr_c (lo := 12) (hi := 12) (by decide)) (by decide)
  refine zok_if (fun q40 => ?_) (fun q40 => ?_)
  · have h41 := zc_eql (13) (13) q40 h39 (zr_c (lo := 13) (hi := 13) (by decide)) (by decide)
    exact zok_spi (zr_w (zr_c (lo := 410) (hi := 410) (by decide)) (by decide))
  have h42 := zc_nel (14) (15) q40 h39 (zr_c (lo := 13) (hi := 13) (by decide)) (by decide)
  refine zok_if (fun q43 => ?_) (fun q43 => ?_)
  · have h44 := zc_eql (14) (14) q43 h42 (zr_c (lo := 14) (hi := 14) (by decide)) (by decide)
    exact zok_spi (zr_w (zr_c (lo := 326) (hi := 326) (by decide)) (by decide))
  have h45 := zc_nel (15) (15) q43 h42 (zr_c (lo := 14) (hi := 14) (by decide)) (by decide)
  exact zok_spi (zr_w (zr_c (lo := 0) (hi := 0) (by decide)) (by decide))
theorem s_X12_sample_102 {G : Nat → Int} {σ : zSt} {k2 : zSt → Int32 → Option (zSt)} {Mk2 : Int} (hk2 : ∀ (σ : zSt) (x1 : Int32), zIM G σ → zr (0) (3) x1 → (3) - x1.toInt < Mk2 → zok (k2 σ x1) (zIM (zset G 5 (G 5 + 1)))) (hσ : zIM G σ) {x1 : Int32} (h_x1 : zr (0) (2) x1) (g5 : 0 ≤ G 5 ∧ G 5 ≤ 536870912) (hMk2 : (3) - x1.toInt ≤ Mk2) : zok (fX12_sample_102 k2 σ x1) (zIM (zset G 5 (G 5 + 1))) := by
  unfold fX12_sample_102
  refine zok_br (zr_add (lo := 1) (hi := 3) h_x1 (zr_c (lo := 1) (hi := 1) (by decide)) (by decide)) (fun v1 e2 h1 => ?_)
  exact hk2 _ _ hσ (zr_w h1 (by decide)) (by rw [e2]; have := z_tadd (y := (1 : Int32)) h_x1 (zr_c (lo := 1) (hi := 1) (by decide)) (by decide); have e9 : (1 : Int32).toInt = 1 := rfl; omega) 
theorem s_X12_sample_101 {G : Nat → Int} {σ : zSt} {k2 : zSt → Int32 → Option (zSt)} {Mk2 : Int} (hk2 : ∀ (σ : zSt) (x1 : Int32), zIM G σ → zr (0) (3) x1 → (3) - x1.toInt < Mk2 → zok (k2 σ x1) (zIM (zset G 5 (G 5 + 1)))) (hσ : zIM G σ) {x1 : Int32} (h_x1 : zr (0) (2) x1) {s0 : Int32} {s1 : Int32} (h_s1 : zr (75) (77) s1) (g5 : 0 ≤ G 5 ∧ G 5 ≤ 536870912) (hMk2 : (3) - x1.toInt ≤ Mk2) : zok (fX12_sample_101 k2 σ x1 s0 s1) (zIM (zset G 5 (G 5 + 1))) := by
  unfold fX12_sample_101
  refine zok_ck (zin_ok h_s1 (by decide)) ?_
  refine zok_bs (hσ.wi 75 77 (z_ix h_s1 (by decide)) zr_any (by decide +kernel)) (fun σ2 e2 i1 => ?_)
  exact (s_X12_sample_102 hk2 i1 h_x1 g5 hMk2)
theorem s_X12_sample_32 {G : Nat → Int} {σ : zSt} {k2 : zSt → Int32 → Option (zSt)} {Mk2 : Int} (hk2 : ∀ (σ : zSt) (x1 : Int32), zIM G σ → zr (0) (3) x1 → (3) - x1.toInt < Mk2 → zok (k2 σ x1) (zIM (zset G 5 (G 5 + 1)))) (hσ : zIM G σ) {x1 : Int32} (h_x1 : zr (0) (2) x1) (g5 : 0 ≤ G 5 ∧ G 5 ≤ 536870912) (hMk2 : (3) - x1.toInt ≤ Mk2) : zok (fX12_sample_32 k2 σ x1) (zIM (zset G 5 (G 5 + 1))) := by
  unfold fX12_sample_32
  refine zok_ck (zin_ok (zr_add (lo := 72) (hi := 74) (zr_c (lo := 72) (hi := 72) (by decide)) h_x1 (by decide)) (by decide)) ?_
  refine zok_if (fun q1 => ?_) (fun q1 => ?_)
  · have h2 := zc_lel (0) q1 zr_any (zr_c (lo := 0) (hi := 0) (by decide)) (by decide)
    refine zok_ck (zin_ok (zr_add (lo := 69) (hi := 71) (zr_c (lo := 69) (hi := 69) (by decide)) h_x1 (by decide)) (by decide)) ?_
    refine zok_ck (zin_ok (zr_add (lo := 72) (hi := 74) (zr_c (lo := 72) (hi := 72) (by decide)) h_x1 (by decide)) (by decide)) ?_
    refine zok_bs (hσ.wi 72 74 (z_ix (zr_add (lo := 72) (hi := 74) (zr_c (lo := 72) (hi := 72) (by decide)) h_x1 (by decide)) (by decide)) (rM_32 hσ.sg _ (z_ix (zr_add (lo := 69) (hi := 71) (zr_c (lo := 69) (hi := 69) (by decide)) h_x1 (by decide)) (by decide))) (by decide +kernel)) (fun σ3 e4 i3 => ?_)
    refine zok_ck (zin_ok (zr_add (lo := 69) (hi := 71) (zr_c (lo := 69) (hi := 69) (by decide)) h_x1 (by decide)) (by decide)) ?_
    refine zok_if (fun q5 => ?_) (fun q5 => ?_)
    · have h6 := zc_ler (2) q5 (zr_c (lo := 2) (hi := 2) (by decide)) (rM_32 i3.sg _ (z_ix (zr_add (lo := 69) (hi := 71) (zr_c (lo := 69) (hi := 69) (by decide)) h_x1 (by decide)) (by decide))) (by decide)
      refine zok_ck (zin_ok (zr_add (lo := 75) (hi := 77) (zr_c (lo := 75) (hi := 75) (by decide)) h_x1 (by decide)) (by decide)) ?_
      exact (s_X12_sample_101 hk2 i3 h_x1 (zr_add (lo := 75) (hi := 77) (zr_c (lo := 75) (hi := 75) (by decide)) h_x1 (by decide)) g5 hMk2)
    have h7 := zc_ltl (1) (z_nle q5) (rM_32 i3.sg _ (z_ix (zr_add (lo := 69) (hi := 71) (zr_c (lo := 69) (hi := 69) (by decide)) h_x1 (by decide)) (by decide))) (zr_c (lo := 2) (hi := 2) (by decide)) (by decide)
    exact (s_X12_sample_101 hk2 i3 h_x1 (zr_add (lo := 75) (hi := 77) (zr_c (lo := 75) (hi := 75) (by decide)) h_x1 (by decide)) g5 hMk2)
  have h8 := zc_ltr (1) (z_nle q1) (zr_c (lo := 0) (hi := 0) (by decide)) zr_any (by decide)
  exact (s_X12_sample_102 hk2 hσ h_x1 g5 hMk2)
theorem s_X12_sample_407 {G : Nat → Int} {σ : zSt} {k275 : zSt → Int64 → Int64 → Int32 → Option (zSt)} {Mk275 : Int} (hk275 : ∀ (σ : zSt) (x1 : Int64) (x3 : Int64) (x5 : Int32), zIM G σ → zr (0) (4) x5 → (4) - x5.toInt < Mk275 → zok (k275 σ x1 x3 x5) (zIM (zset G 5 (G 5 + 1)))) (hσ : zIM G σ) {x1 : Int64} {x3 : Int64} {x5 : Int32} (h_x5 : zr (0) (3) x5) (g5 : 0 ≤ G 5 ∧ G 5 ≤ 536870912) (hMk275 : (4) - x5.toInt ≤ Mk275) : zok (fX12_sample_407 k275 σ x1 x3 x5) (zIM (zset G 5 (G 5 + 1))) := by
  unfold fX12_sample_407
  refine zok_br (zr_add (lo := 1) (hi := 4) h_x5 (zr_c (lo := 1) (hi := 1) (by decide)) (by decide)) (fun v4 e2 h1 => ?_)
  exact hk275 _ _ _ _ hσ (zr_w h1 (by decide)) (by rw [e2]; have := z_tadd (y := (1 : Int32)) h_x5 (zr_c (lo := 1) (hi := 1) (by decide)) (by decide); have e9 : (1 : Int32).toInt = 1 := rfl; omega) 
end ZJN1
