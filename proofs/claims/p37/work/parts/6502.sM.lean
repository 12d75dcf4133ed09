section ZJN0
theorem s_X12_three {G : Nat → Int} {σ : zSt} (hσ : zIM G σ) {x1 : Int32} (h_x1 : zr (0) (7) x1) {x2 : Int32} (h_x2 : zr (0) (3) x2) : zok (fX12_three σ x1 x2) (zAi (zIM G) (fun v : Int32 => zr (4) (19) v)) := by
  unfold fX12_three
  refine zok_br (zr_shr (lo := 0) (hi := 3) 1 (by decide) h_x1 (by decide)) (fun v47 e2 h1 => ?_)
  refine zok_if (fun q3 => ?_) (fun q3 => ?_)
  · have h4 := zc_eql (0) (0) q3 h_x2 (zr_c (lo := 0) (hi := 0) (by decide)) (by decide)
    refine zok_pi (s_X12_cc hσ.P h_x1) (fun v53 h5 => ?_)
    refine zok_if (fun q6 => ?_) (fun q6 => ?_)
    · have h7 := zc_eql (0) (0) q6 h5 (zr_c (lo := 0) (hi := 0) (by decide)) (by decide)
      exact zok_sai hσ (zr_w (zr_c (lo := 5) (hi := 5) (by decide)) (by decide))
    have h8 := zc_nel (1) (1) q6 h5 (zr_c (lo := 0) (hi := 0) (by decide)) (by decide)
    refine zok_ai (s_X12_pop hσ) (fun σ54 v55 i9 h10 => ?_)
    refine zok_ck rfl ?_
    refine zok_bs (i9.wi 19 19 (by decide) h10 (by decide +kernel)) (fun σ56 e12 i11 => ?_)
    refine zok_ck rfl ?_
    refine zok_ck rfl ?_
    refine zok_bs (i11.wi 20 20 (by decide) (rM_12 i11.sg _ (by decide)) (by decide +kernel)) (fun σ57 e14 i13 => ?_)
    exact zok_sai i13 (zr_w (zr_c (lo := 11) (hi := 11) (by decide)) (by decide))
  have h15 := zc_nel (1) (3) q3 h_x2 (zr_c (lo := 0) (hi := 0) (by decide)) (by decide)
  refine zok_if (fun q16 => ?_) (fun q16 => ?_)
  · have h17 := zc_eql (1) (1) q16 h15 (zr_c (lo := 1) (hi := 1) (by decide)) (by decide)
    refine zok_ck (by decide) ?_
    refine zok_if (fun q18 => ?_) (fun q18 => ?_)
    · have h19 := zc_eql (0) (0) q18 (zr_rem (lo := 0) (hi := 1) 2 (by decide) h_x1 (by decide)) (zr_c (lo := 0) (hi := 0) (by decide)) (by decide)
      refine zok_ai (s_X12_pop hσ) (fun σ48 v49 i20 h21 => ?_)
      refine zok_if (fun q22 => ?_) (fun q22 => ?_)
      · have h23 := zc_eql (3) (3) q22 h1 (zr_c (lo := 3) (hi := 3) (by decide)) (by decide)
        refine zok_bu (s_X12_pairTo i20 (zr_w (zr_c (lo := 0) (hi := 0) (by decide)) (by decide)) (zr_w h21 (by decide))) (fun σ51 i24 => ?_)
        exact zok_pai i24 (s_X12_three_85 i24.P)
      have h25 := zc_nel (0) (2) q22 h1 (zr_c (lo := 3) (hi := 3) (by decide)) (by decide)
      refine zok_bu (s_X12_rpTo i20 (zr_w h25 (by decide)) (zr_w h21 (by decide))) (fun σ50 i26 => ?_)
      exact zok_pai i26 (s_X12_three_85 i26.P)
    have h27 := zc_nel (1) (1) q18 (zr_rem (lo := 0) (hi := 1) 2 (by decide) h_x1 (by decide)) (zr_c (lo := 0) (hi := 0) (by decide)) (by decide)
    have h28 := z_odd64 h_x1 h27 (by decide)
    exact (s_X12_three_88 hσ h_x1 (zr_w h17 (by decide)) h1)
  have h29 := zc_nel (2) (3) q16 h15 (zr_c (lo := 1) (hi := 1) (by decide)) (by decide)
  exact (s_X12_three_88 hσ h_x1 (zr_w h29 (by decide)) h1)
theorem s_X12_does_343 {σ : zSt} (hσ : zPM σ) : zok (fX12_does_343 σ ) (zPu σ) := by
  unfold fX12_does_343
  exact zok_spu
theorem s_X12_does_314 {G : Nat → Int} {σ : zSt} (hσ : zIM G σ) {x1 : Int32} (h_x1 : zr (0) (7) x1) {x2 : Int32} (h_x2 : zr (0) (255) x2) {x6 : Int32} (h_x6 : zr (-256) (511) x6) {s0 : Int32} (h_s0 : zr (0) (1) s0) {s1 : Int32} (h_s1 : zr (1) (1) s1) : zok (fX12_does_314 σ x1 x2 x6 s0 s1) (zIM G) := by
  unfold fX12_does_314
  refine zok_bu (s_X12_put hσ (zr_w h_s1 (by decide)) h_s0) (fun σ1 i1 => ?_)
  refine zok_if (fun q2 => ?_) (fun q2 => ?_)
  · have h3 := zc_eql (7) (7) q2 h_x1 (zr_c (lo := 7) (hi := 7) (by decide)) (by decide)
    refine zok_bu (s_X12_xy i1 (zr_w h_x2 (by decide))) (fun σ3 i4 => ?_)
    exact zok_pau i4 (s_X12_does_343 i4.P)
  have h5 := zc_nel (0) (6) q2 h_x1 (zr_c (lo := 7) (hi := 7) (by decide)) (by decide)
  refine zok_ck rfl ?_
  refine zok_bs (i1.wi 0 0 (by decide) (zr_andr (lo := 0) (hi := 255) (zr_c (lo := 255) (hi := 255) (by decide)) (by decide)) (by decide +kernel)) (fun σ2 e7 i6 => ?_)
  exact zok_pau i6 (s_X12_does_343 i6.P)
theorem s_X12_does_299 {G : Nat → Int} {σ : zSt} (hσ : zIM G σ) {x1 : Int32} (h_x1 : zr (0) (7) x1) {x2 : Int32} (h_x2 : zr (0) (255) x2) {x5 : Int32} (h_x5 : zr (0) (1) x5) {x6 : Int32} (h_x6 : zr (-256) (511) x6) {s0 : Int32} (h_s0 : zr (0) (1) s0) {s1 : Int32} (h_s1 : zr (2) (2) s1) : zok (fX12_does_299 σ x1 x2 x5 x6 s0 s1) (zIM G) := by
  unfold fX12_does_299
  refine zok_bu (s_X12_put hσ (zr_w h_s1 (by decide)) h_s0) (fun σ4 i1 => ?_)
  refine zok_if (fun q2 => ?_) (fun q2 => ?_)
  · have h3 := zc_eql (0) (0) q2 h_x5 (zr_c (lo := 0) (hi := 0) (by decide)) (by decide)
    exact (s_X12_does_314 i1 h_x1 h_x2 h_x6 (zr_w (zr_c (lo := 1) (hi := 1) (by decide)) (by decide)) (zr_c (lo := 1) (hi := 1) (by decide)))
  have h4 := zc_nel (1) (1) q2 h_x5 (zr_c (lo := 0) (hi := 0) (by decide)) (by decide)
  exact (s_X12_does_314 i1 h_x1 h_x2 h_x6 (zr_w (zr_c (lo := 0) (hi := 0) (by decide)) (by decide)) (zr_c (lo := 1) (hi := 1) (by decide)))
theorem s_X12_does_294 {G : Nat → Int} {σ : zSt} (hσ : zIM G σ) {x1 : Int32} (h_x1 : zr (0) (7) x1) {x2 : Int32} (h_x2 : zr (0) (255) x2) {x5 : Int32} (h_x5 : zr (0) (1) x5) {x6 : Int32} (h_x6 : zr (-256) (511) x6) {s0 : Int32} (h_s0 : zr (2) (2) s0) : zok (fX12_does_294 σ x1 x2 x5 x6 s0) (zIM G) := by
  unfold fX12_does_294
  exact (s_X12_does_299 hσ h_x1 h_x2 h_x5 h_x6 (zr_w (zr_c (lo := 1) (hi := 1) (by decide)) (by decide)) h_s0)
theorem s_X12_does_266 {G : Nat → Int} {σ : zSt} (hσ : zIM G σ) {x1 : Int32} (h_x1 : zr (0) (7) x1) {x2 : Int32} (h_x2 : zr (0) (255) x2) {x5 : Int32} (h_x5 : zr (0) (1) x5) {x6 : Int32} (h_x6 : zr (-256) (511) x6) {s0 : Int32} (h_s0 : zr (-256) (255) s0) : zok (fX12_does_266 σ x1 x2 x5 x6 s0) (zIM G) := by
  unfold fX12_does_266
  refine zok_bu (s_X12_by hσ (zr_andr (lo := 0) (hi := 255) (zr_c (lo := 255) (hi := 255) (by decide)) (by decide))) (fun σ5 i1 => ?_)
  refine zok_if (fun q2 => ?_) (fun q2 => ?_)
  · have h3 := zc_ltl (-129) q2 h_s0 (zr_c (lo := -128) (hi := -128) (by decide)) (by decide)
    exact (s_X12_does_294 i1 h_x1 h_x2 h_x5 h_x6 (zr_c (lo := 2) (hi := 2) (by decide)))
  have h4 := zc_ler (-128) (z_nlt q2) (zr_c (lo := -128) (hi := -128) (by decide)) h_s0 (by decide)
  refine zok_if (fun q5 => ?_) (fun q5 => ?_)
  · have h6 := zc_lel (127) q5 h4 (zr_c (lo := 127) (hi := 127) (by decide)) (by decide)
    exact (s_X12_does_299 i1 h_x1 h_x2 h_x5 h_x6 (zr_w (zr_c (lo := 0) (hi := 0) (by decide)) (by decide)) (zr_c (lo := 2) (hi := 2) (by decide)))
  have h7 := zc_ltr (128) (z_nle q5) (zr_c (lo := 127) (hi := 127) (by decide)) h4 (by decide)
  exact (s_X12_does_294 i1 h_x1 h_x2 h_x5 h_x6 (zr_c (lo := 2) (hi := 2) (by decide)))
theorem s_X12_does_231 {G : Nat → Int} {σ : zSt} (hσ : zIM G σ) {x1 : Int32} (h_x1 : zr (0) (7) x1) {x2 : Int32} (h_x2 : zr (0) (255) x2) {x3 : Int32} (h_x3 : zr (0) (255) x3) {x4 : Int32} (h_x4 : zr (0) (1) x4) {x5 : Int32} (h_x5 : zr (0) (1) x5) {x6 : Int32} (h_x6 : zr (-256) (511) x6) {s0 : Int32} (h_s0 : zr (0) (1) s0) {s1 : Int32} (h_s1 : zr (0) (0) s1) : zok (fX12_does_231 σ x1 x2 x3 x4 x5 x6 s0 s1) (zIM G) := by
  unfold fX12_does_231
  refine zok_bu (s_X12_put hσ (zr_w h_s1 (by decide)) h_s0) (fun σ6 i1 => ?_)
  refine zok_if (fun q2 => ?_) (fun q2 => ?_)
  · have h3 := zc_eql (0) (0) q2 h_x5 (zr_c (lo := 0) (hi := 0) (by decide)) (by decide)
    refine zok_pi (s_X12_signed i1.P h_x3) (fun v8 h4 => ?_)
    refine zok_pi (s_X12_signed i1.P h_x2) (fun v10 h5 => ?_)
    exact (s_X12_does_266 i1 h_x1 h_x2 (zr_w h3 (by decide)) h_x6 (zr_sub (lo := -256) (hi := 255) (zr_sub (lo := -255) (hi := 255) h4 h5 (by decide)) h_x4 (by decide)))
  have h6 := zc_nel (1) (1) q2 h_x5 (zr_c (lo := 0) (hi := 0) (by decide)) (by decide)
  refine zok_pi (s_X12_signed i1.P h_x3) (fun v12 h7 => ?_)
  refine zok_pi (s_X12_signed i1.P h_x2) (fun v14 h8 => ?_)
  exact (s_X12_does_266 i1 h_x1 h_x2 (zr_w h6 (by decide)) h_x6 (zr_add (lo := -256) (hi := 255) (zr_add (lo := -256) (hi := 254) h7 h8 (by decide)) h_x4 (by decide)))
theorem s_X12_does_226 {G : Nat → Int} {σ : zSt} (hσ : zIM G σ) {x1 : Int32} (h_x1 : zr (0) (7) x1) {x2 : Int32} (h_x2 : zr (0) (255) x2) {x3 : Int32} (h_x3 : zr (0) (255) x3) {x4 : Int32} (h_x4 : zr (0) (1) x4) {x5 : Int32} (h_x5 : zr (0) (1) x5) {x6 : Int32} (h_x6 : zr (-256) (511) x6) {s0 : Int32} (h_s0 : zr (0) (0) s0) : zok (fX12_does_226 σ x1 x2 x3 x4 x5 x6 s0) (zIM G) := by
  unfold fX12_does_226
  exact (s_X12_does_231 hσ h_x1 h_x2 h_x3 h_x4 h_x5 h_x6 (zr_w (zr_c (lo := 1) (hi := 1) (by decide)) (by decide)) h_s0)
theorem s_X12_does_208 {G : Nat → Int} {σ : zSt} (hσ : zIM G σ) {x1 : Int32} (h_x1 : zr (0) (7) x1) {x2 : Int32} (h_x2 : zr (0) (255) x2) {x3 : Int32} (h_x3 : zr (0) (255) x3) {x4 : Int32} (h_x4 : zr (0) (1) x4) {x5 : Int32} (h_x5 : zr (0) (1) x5) {x6 : Int32} (h_x6 : zr (-256) (511) x6) {s0 : Int32} (h_s0 : zr (0) (1) s0) {s1 : Int32} (h_s1 : zr (4) (4) s1) : zok (fX12_does_208 σ x1 x2 x3 x4 x5 x6 s0 s1) (zIM G) := by
  unfold fX12_does_208
  refine zok_bu (s_X12_put hσ (zr_w h_s1 (by decide)) h_s0) (fun σ15 i1 => ?_)
  refine zok_if (fun q2 => ?_) (fun q2 => ?_)
  · have h3 := zc_ltl (-1) q2 h_x6 (zr_c (lo := 0) (hi := 0) (by decide)) (by decide)
    exact (s_X12_does_226 i1 h_x1 h_x2 h_x3 h_x4 h_x5 (zr_w h3 (by decide)) (zr_c (lo := 0) (hi := 0) (by decide)))
  have h4 := zc_ler (0) (z_nlt q2) (zr_c (lo := 0) (hi := 0) (by decide)) h_x6 (by decide)
  refine zok_if (fun q5 => ?_) (fun q5 => ?_)
  · have h6 := zc_lel (255) q5 h4 (zr_c (lo := 255) (hi := 255) (by decide)) (by decide)
    exact (s_X12_does_231 i1 h_x1 h_x2 h_x3 h_x4 h_x5 (zr_w h6 (by decide)) (zr_w (zr_c (lo := 0) (hi := 0) (by decide)) (by decide)) (zr_c (lo := 0) (hi := 0) (by decide)))
  have h7 := zc_ltr (256) (z_nle q5) (zr_c (lo := 255) (hi := 255) (by decide)) h4 (by decide)
  exact (s_X12_does_226 i1 h_x1 h_x2 h_x3 h_x4 h_x5 (zr_w h7 (by decide)) (zr_c (lo := 0) (hi := 0) (by decide)))
theorem s_X12_does_154 {G : Nat → Int} {σ : zSt} (hσ : zIM G σ) {x1 : Int32} (h_x1 : zr (0) (7) x1) {x2 : Int32} (h_x2 : zr (0) (255) x2) {x3 : Int32} (h_x3 : zr (0) (255) x3) {x4 : Int32} (h_x4 : zr (0) (1) x4) {x5 : Int32} (h_x5 : zr (0) (1) x5) {s0 : Int32} (h_s0 : zr (-256) (511) s0) : zok (fX12_does_154 σ x1 x2 x3 x4 x5 s0) (zIM G) := by
  unfold fX12_does_154
  refine zok_if (fun q1 => ?_) (fun q1 => ?_)
  · have h2 := zc_eql (0) (0) q1 h_x5 (zr_c (lo := 0) (hi := 0) (by decide)) (by decide)
    refine zok_if (fun q3 => ?_) (fun q3 => ?_)
    · have h4 := zc_ler (0) q3 (zr_c (lo := 0) (hi := 0) (by decide)) (zr_sub (lo := -16) (hi := 15) (zr_sub (lo := -15) (hi := 15) (zr_andr (lo := 0) (hi := 15) (zr_c (lo := 15) (hi := 15) (by decide)) (by decide)) (zr_andr (lo := 0) (hi := 15) (zr_c (lo := 15) (hi := 15) (by decide)) (by decide)) (by decide)) h_x4 (by decide)) (by decide)
      exact (s_X12_does_208 hσ h_x1 h_x2 h_x3 h_x4 (zr_w h2 (by decide)) h_s0 (zr_w (zr_c (lo := 0) (hi := 0) (by decide)) (by decide)) (zr_c (lo := 4) (hi := 4) (by decide)))
    have h5 := zc_ltl (-1) (z_nle q3) (zr_sub (lo := -16) (hi := 15) (zr_sub (lo := -15) (hi := 15) (zr_andr (lo := 0) (hi := 15) (zr_c (lo := 15) (hi := 15) (by decide)) (by decide)) (zr_andr (lo := 0) (hi := 15) (zr_c (lo := 15) (hi := 15) (by decide)) (by decide)) (by decide)) h_x4 (by decide)) (zr_c (lo := 0) (hi := 0) (by decide)) (by decide)
    exact (s_X12_does_208 hσ h_x1 h_x2 h_x3 h_x4 (zr_w h2 (by decide)) h_s0 (zr_w (zr_c (lo := 1) (hi := 1) (by decide)) (by decide)) (zr_c (lo := 4) (hi := 4) (by decide)))
  have h6 := zc_nel (1) (1) q1 h_x5 (zr_c (lo := 0) (hi := 0) (by decide)) (by decide)
  refine zok_if (fun q7 => ?_) (fun q7 => ?_)
  · have h8 := zc_lel (15) q7 (zr_add (lo := 0) (hi := 31) (zr_add (lo := 0) (hi := 30) (zr_andr (lo := 0) (hi := 15) (zr_c (lo := 15) (hi := 15) (by decide)) (by decide)) (zr_andr (lo := 0) (hi := 15) (zr_c (lo := 15) (hi := 15) (by decide)) (by decide)) (by decide)) h_x4 (by decide)) (zr_c (lo := 15) (hi := 15) (by decide)) (by decide)
    exact (s_X12_does_208 hσ h_x1 h_x2 h_x3 h_x4 (zr_w h6 (by decide)) h_s0 (zr_w (zr_c (lo := 0) (hi := 0) (by decide)) (by decide)) (zr_c (lo := 4) (hi := 4) (by decide)))
  have h9 := zc_ltr (16) (z_nle q7) (zr_c (lo := 15) (hi := 15) (by decide)) (zr_add (lo := 0) (hi := 31) (zr_add (lo := 0) (hi := 30) (zr_andr (lo := 0) (hi := 15) (zr_c (lo := 15) (hi := 15) (by decide)) (by decide)) (zr_andr (lo := 0) (hi := 15) (zr_c (lo := 15) (hi := 15) (by decide)) (by decide)) (by decide)) h_x4 (by decide)) (by decide)
  exact (s_X12_does_208 hσ h_x1 h_x2 h_x3 h_x4 (zr_w h6 (by decide)) h_s0 (zr_w (zr_c (lo := 1) (hi := 1) (by decide)) (by decide)) (zr_c (lo := 4) (hi := 4) (by decide)))
theorem s_X12_does_132 {G : Nat → Int} {σ : zSt} (hσ : zIM G σ) {x1 : Int32} (h_x1 : zr (0) (7) x1) {x2 : Int32} (h_x2 : zr (0) (255) x2) {x3 : Int32} (h_x3 : zr (0) (255) x3) {x4 : Int32} (h_x4 : zr (0) (1) x4) {s0 : Int32} (h_s0 : zr (0) (1) s0) : zok (fX12_does_132 σ x1 x2 x3 x4 s0) (zIM G) := by
  unfold fX12_does_132
  refine zok_if (fun q1 => ?_) (fun q1 => ?_)
  · have h2 := zc_eql (0) (0) q1 h_s0 (zr_c (lo := 0) (hi := 0) (by decide)) (by decide)
    exact (s_X12_does_154 hσ h_x1 h_x2 h_x3 h_x4 (zr_w h2 (by decide)) (zr_w (zr_sub (lo := -256) (hi := 255) (zr_sub (lo := -255) (hi := 255) h_x3 h_x2 (by decide)) h_x4 (by decide)) (by decide)))
  have h3 := zc_nel (1) (1) q1 h_s0 (zr_c (lo := 0) (hi := 0) (by decide)) (by decide)
  exact (s_X12_does_154 hσ h_x1 h_x2 h_x3 h_x4 (zr_w h3 (by decide)) (zr_w (zr_add (lo := 0) (hi := 511) (zr_add (lo := 0) (hi := 510) h_x3 h_x2 (by decide)) h_x4 (by decide)) (by decide)))
theorem s_X12_does_120 {G : Nat → Int} {σ : zSt} (hσ : zIM G σ) {x1 : Int32} (h_x1 : zr (0) (7) x1) {x2 : Int32} (h_x2 : zr (0) (255) x2) {x3 : Int32} (h_x3 : zr (0) (255) x3) {s0 : Int32} (h_s0 : zr (0) (1) s0) : zok (fX12_does_120 σ x1 x2 x3 s0) (zIM G) := by
  unfold fX12_does_120
  refine zok_if (fun q1 => ?_) (fun q1 => ?_)
  · have h2 := zc_ler (2) q1 (zr_c (lo := 2) (hi := 2) (by decide)) h_x1 (by decide)
    exact (s_X12_does_132 hσ (zr_w h2 (by decide)) h_x2 h_x3 h_s0 (zr_w (zr_c (lo := 0) (hi := 0) (by decide)) (by decide)))
  have h3 := zc_ltl (1) (z_nle q1) h_x1 (zr_c (lo := 2) (hi := 2) (by decide)) (by decide)
  exact (s_X12_does_132 hσ (zr_w h3 (by decide)) h_x2 h_x3 h_s0 (zr_w (zr_c (lo := 1) (hi := 1) (by decide)) (by decide)))
theorem s_X12_does_111 {G : Nat → Int} {σ : zSt} (hσ : zIM G σ) {x1 : Int32} (h_x1 : zr (1) (3) x1) {x2 : Int32} (h_x2 : zr (0) (255) x2) {x3 : Int32} (h_x3 : zr (0) (255) x3) : zok (fX12_does_111 σ x1 x2 x3) (zIM G) := by
  unfold fX12_does_111
  refine zok_pi (s_X12_flag hσ.P (zr_w (zr_c (lo := 0) (hi := 0) (by decide)) (by decide))) (fun v17 h1 => ?_)
  exact (s_X12_does_120 hσ (zr_w h_x1 (by decide)) h_x2 h_x3 h1)
theorem s_X12_does_101 {G : Nat → Int} {σ : zSt} (hσ : zIM G σ) {x1 : Int32} (h_x1 : zr (0) (7) x1) {x2 : Int32} (h_x2 : zr (0) (255) x2) {x3 : Int32} (h_x3 : zr (0) (255) x3) : zok (fX12_does_101 σ x1 x2 x3) (zIM G) := by
  unfold fX12_does_101
  refine zok_if (fun q1 => ?_) (fun q1 => ?_)
  · have h2 := zc_eql (1) (1) q1 h_x1 (zr_c (lo := 1) (hi := 1) (by decide)) (by decide)
    exact (s_X12_does_111 hσ (zr_w h2 (by decide)) h_x2 h_x3)
  refine zok_if (fun q3 => ?_) (fun q3 => ?_)
  · have h4 := zc_eql (3) (3) q3 h_x1 (zr_c (lo := 3) (hi := 3) (by decide)) (by decide)
    exact (s_X12_does_111 hσ (zr_w h4 (by decide)) h_x2 h_x3)
  exact (s_X12_does_120 hσ h_x1 h_x2 h_x3 (zr_w (zr_c (lo := 0) (hi := 0) (by decide)) (by decide)))
theorem s_X12_does_71 {G : Nat → Int} {σ : zSt} (hσ : zIM G σ) {s0 : Int32} (h_s0 : zr (0) (1) s0) {s1 : Int32} (h_s1 : zr (4) (4) s1) : zok (fX12_does_71 σ s0 s1) (zIM G) := by
  unfold fX12_does_71
  refine zok_bu (s_X12_put hσ (zr_w h_s1 (by decide)) h_s0) (fun σ18 i1 => ?_)
  refine zok_ck rfl ?_
  refine zok_pi (s_X12_isEven i1.P (rM_11 i1.sg _ (by decide))) (fun v20 h2 => ?_)
  refine zok_bu (s_X12_put i1 (zr_w (zr_c (lo := 2) (hi := 2) (by decide)) (by decide)) h2) (fun σ21 i3 => ?_)
  refine zok_bu (s_X12_put i3 (zr_w (zr_c (lo := 1) (hi := 1) (by decide)) (by decide)) (zr_w (zr_c (lo := 0) (hi := 0) (by decide)) (by decide))) (fun σ22 i4 => ?_)
  refine zok_bu (s_X12_put i4 (zr_w (zr_c (lo := 0) (hi := 0) (by decide)) (by decide)) (zr_w (zr_c (lo := 0) (hi := 0) (by decide)) (by decide))) (fun σ23 i5 => ?_)
  exact zok_some i5
theorem s_X12_does_48 {G : Nat → Int} {σ : zSt} (hσ : zIM G σ) {x1 : Int32} (h_x1 : zr (4) (6) x1) {s0 : Int32} (h_s0 : zr (0) (255) s0) {s1 : Int32} (h_s1 : zr (0) (0) s1) : zok (fX12_does_48 σ x1 s0 s1) (zIM G) := by
  unfold fX12_does_48
  refine zok_ck (zin_ok h_s1 (by decide)) ?_
  refine zok_bs (hσ.wi 0 0 (z_ix h_s1 (by decide)) h_s0 (by decide +kernel)) (fun σ24 e2 i1 => ?_)
  refine zok_ck rfl ?_
  refine zok_bu (s_X12_by i1 (rM_11 i1.sg _ (by decide))) (fun σ25 i3 => ?_)
  refine zok_if (fun q4 => ?_) (fun q4 => ?_)
  · have h5 := zc_eql (4) (4) q4 h_x1 (zr_c (lo := 4) (hi := 4) (by decide)) (by decide)
    exact (s_X12_does_71 i3 (zr_w (zr_c (lo := 1) (hi := 1) (by decide)) (by decide)) (zr_c (lo := 4) (hi := 4) (by decide)))
  have h6 := zc_nel (5) (6) q4 h_x1 (zr_c (lo := 4) (hi := 4) (by decide)) (by decide)
  exact (s_X12_does_71 i3 (zr_w (zr_c (lo := 0) (hi := 0) (by decide)) (by decide)) (zr_c (lo := 4) (hi := 4) (by decide)))
theorem s_X12_does {G : Nat → Int} {σ : zSt} (hσ : zIM G σ) {x1 : Int32} (h_x1 : zr (0) (7) x1) {x2 : Int32} (h_x2 : zr (0) (255) x2) : zok (fX12_does σ x1 x2) (zIM G) := by
  unfold fX12_does
  refine zok_ck rfl ?_
  refine zok_br (rM_11 hσ.sg _ (by decide)) (fun v26 e2 h1 => ?_)
  refine zok_if (fun q3 => ?_) (fun q3 => ?_)
  · have h4 := zc_ltl (3) q3 h_x1 (zr_c (lo := 4) (hi := 4) (by decide)) (by decide)
    exact (s_X12_does_101 hσ (zr_w h4 (by decide)) h_x2 h1)
  have h5 := zc_ler (4) (z_nlt q3) (zr_c (lo := 4) (hi := 4) (by decide)) h_x1 (by decide)
  refine zok_if (fun q6 => ?_) (fun q6 => ?_)
  · have h7 := zc_ler (7) q6 (zr_c (lo := 7) (hi := 7) (by decide)) h5 (by decide)
    exact (s_X12_does_101 hσ (zr_w h7 (by decide)) h_x2 h1)
  have h8 := zc_ltl (6) (z_nle q6) h5 (zr_c (lo := 7) (hi := 7) (by decide)) (by decide)
  refine zok_if (fun q9 => ?_) (fun q9 => ?_)
  · have h10 := zc_eql (4) (4) q9 h8 (zr_c (lo := 4) (hi := 4) (by decide)) (by decide)
    exact (s_X12_does_48 hσ (zr_w h10 (by decide)) (zr_andr (lo := 0) (hi := 255) h_x2 (by decide)) (zr_c (lo := 0) (hi := 0) (by decide)))
  have h11 := zc_nel (5) (6) q9 h8 (zr_c (lo := 4) (hi := 4) (by decide)) (by decide)
  refine zok_if (fun q12 => ?_) (fun q12 => ?_)
  · have h13 := zc_eql (5) (5) q12 h11 (zr_c (lo := 5) (hi := 5) (by decide)) (by decide)
    exact (s_X12_does_48 hσ (zr_w h13 (by decide)) (zr_xor (lo := 0) (hi := 255) 8 h1 h_x2 (by decide)) (zr_c (lo := 0) (hi := 0) (by decide)))
  have h14 := zc_nel (6) (6) q12 h11 (zr_c (lo := 5) (hi := 5) (by decide)) (by decide)
  exact (s_X12_does_48 hσ (zr_w h14 (by decide)) (zr_or (lo := 0) (hi := 255) 8 h1 h_x2 (by decide)) (zr_c (lo := 0) (hi := 0) (by decide)))
theorem s_X12_blocks_595 {σ : zSt} (hσ : zPM σ) : zok (fX12_blocks_595 σ ) (zPi σ (fun v : Int32 => zr (16) (21) v)) := by
  unfold fX12_blocks_595
  exact zok_spi (zr_w (zr_c (lo := 16) (hi := 16) (by decide)) (by decide))
theorem s_X12_blocks_641 {σ : zSt} (hσ : zPM σ) : zok (fX12_blocks_641 σ ) (zPi σ (fun v : Int32 => zr (16) (21) v)) := by
  unfold fX12_blocks_641
  exact zok_spi (zr_w (zr_c (lo := 21) (hi := 21) (by decide)) (by decide))
theorem s_X12_blocks_584 {G : Nat → Int} {σ : zSt} (hσ : zIM G σ) {x1 : Int32} (h_x1 : zr (4) (7) x1) {x2 : Int32} (h_x2 : zr (0) (3) x2) {x5 : Int32} (h_x5 : zr (0) (1) x5) : zok (fX12_blocks_584 σ x1 x2 x5) (zAi (zIM G) (fun v : Int32 => zr (16) (21) v)) := by
  unfold fX12_blocks_584
  refine zok_if (fun q1 => ?_) (fun q1 => ?_)
  · have h2 := zc_ltl (5) q1 h_x1 (zr_c (lo := 6) (hi := 6) (by decide)) (by decide)
    exact zok_pai hσ (s_X12_blocks_595 hσ.P)
  have h3 := zc_ler (6) (z_nlt q1) (zr_c (lo := 6) (hi := 6) (by decide)) h_x1 (by decide)
  refine zok_if (fun q4 => ?_) (fun q4 => ?_)
  · have h5 := zc_eql (0) (0) q4 h_x5 (zr_c (lo := 0) (hi := 0) (by decide)) (by decide)
    exact zok_pai hσ (s_X12_blocks_595 hσ.P)
  have h6 := zc_nel (1) (1) q4 h_x5 (zr_c (lo := 0) (hi := 0) (by decide)) (by decide)
  refine zok_ck rfl ?_
  refine zok_ck rfl ?_
  refine zok_bs (hσ.wi 19 19 (by decide) (zr_andr (lo := 0) (hi := 65535) (zr_c (lo := 65535) (hi := 65535) (by decide)) (by decide)) (by decide +kernel)) (fun σ1 e8 i7 => ?_)
  refine zok_if (fun q9 => ?_) (fun q9 => ?_)
  · have h10 := zc_ler (2) q9 (zr_c (lo := 2) (hi := 2) (by decide)) h_x2 (by decide)
    exact zok_pai i7 (s_X12_blocks_641 i7.P)
  have h11 := zc_ltl (1) (z_nle q9) h_x2 (zr_c (lo := 2) (hi := 2) (by decide)) (by decide)
  refine zok_ck rfl ?_
  refine zok_ck rfl ?_
  refine zok_bs (i7.wi 20 20 (by decide) (zr_andr (lo := 0) (hi := 65535) (zr_c (lo := 65535) (hi := 65535) (by decide)) (by decide)) (by decide +kernel)) (fun σ2 e13 i12 => ?_)
  exact zok_pai i12 (s_X12_blocks_641 i12.P)
theorem s_X12_blocks_297 {G : Nat → Int} {σ : zSt} (hσ : zIM G σ) {x1 : Int32} (h_x1 : zr (4) (7) x1) {x2 : Int32} (h_x2 : zr (0) (1) x2) {s0 : Int32} (h_s0 : zr (0) (1) s0) : zok (fX12_blocks_297 σ x1 x2 s0) (zAi (zIM G) (fun v : Int32 => zr (16) (21) v)) := by
  unfold fX12_blocks_297
  exact (s_X12_blocks_584 hσ h_x1 (zr_w h_x2 (by decide)) h_s0)
theorem s_X12_blocks_296 {G : Nat → Int} {σ : zSt} (hσ : zIM G σ) {x1 : Int32} (h_x1 : zr (4) (7) x1) {x2 : Int32} (h_x2 : zr (0) (1) x2) : zok (fX12_blocks_296 σ x1 x2) (zAi (zIM G) (fun v : Int32 => zr (16) (21) v)) := by
  unfold fX12_blocks_296
  exact (s_X12_blocks_297 hσ h_x1 h_x2 (zr_w (zr_c (lo := 0) (hi := 0) (by decide)) (by decide)))
theorem s_X12_blocks_292 {G : Nat → Int} {σ : zSt} (hσ : zIM G σ) {x1 : Int32} (h_x1 : zr (4) (7) x1) {x2 : Int32} (h_x2 : zr (0) (1) x2) : zok (fX12_blocks_292 σ x1 x2) (zAi (zIM G) (fun v : Int32 => zr (16) (21) v)) := by
  unfold fX12_blocks_292
  exact (s_X12_blocks_297 hσ h_x1 h_x2 (zr_w (zr_c (lo := 1) (hi := 1) (by decide)) (by decide)))
theorem s_X12_blocks_267 {G : Nat → Int} {σ : zSt} (hσ : zIM G σ) {x1 : Int32} (h_x1 : zr (4) (7) x1) {x2 : Int32} (h_x2 : zr (0) (1) x2) {s0 : Int32} (h_s0 : zr (0) (1) s0) {s1 : Int32} (h_s1 : zr (2) (2) s1) : zok (fX12_blocks_267 σ x1 x2 s0 s1) (zAi (zIM G) (fun v : Int32 => zr (16) (21) v)) := by
  unfold fX12_blocks_267
  refine zok_bu (s_X12_put hσ (zr_w h_s1 (by decide)) h_s0) (fun σ3 i1 => ?_)
  refine zok_pi (s_X12_flag i1.P (zr_w (zr_c (lo := 2) (hi := 2) (by decide)) (by decide))) (fun v5 h2 => ?_)
  refine zok_if (fun q3 => ?_) (fun q3 => ?_)
  · have h4 := zc_eql (1) (1) q3 h2 (zr_c (lo := 1) (hi := 1) (by decide)) (by decide)
    refine zok_if (fun q5 => ?_) (fun q5 => ?_)
    · have h6 := zc_eql (0) (0) q5 h_x2 (zr_c (lo := 0) (hi := 0) (by decide)) (by decide)
      exact (s_X12_blocks_292 i1 h_x1 (zr_w h6 (by decide)))
    have h7 := zc_nel (1) (1) q5 h_x2 (zr_c (lo := 0) (hi := 0) (by decide)) (by decide)
    refine zok_pi (s_X12_flag i1.P (zr_w (zr_c (lo := 6) (hi := 6) (by decide)) (by decide))) (fun v7 h8 => ?_)
    refine zok_if (fun q9 => ?_) (fun q9 => ?_)
    · have h10 := zc_eql (0) (0) q9 h8 (zr_c (lo := 0) (hi := 0) (by decide)) (by decide)
      exact (s_X12_blocks_292 i1 h_x1 (zr_w h7 (by decide)))
    have h11 := zc_nel (1) (1) q9 h8 (zr_c (lo := 0) (hi := 0) (by decide)) (by decide)
    exact (s_X12_blocks_296 i1 h_x1 (zr_w h7 (by decide)))
  have h12 := zc_nel (0) (0) q3 h2 (zr_c (lo := 1) (hi := 1) (by decide)) (by decide)
  exact (s_X12_blocks_296 i1 h_x1 h_x2)
theorem s_X12_blocks_249 {G : Nat → Int} {σ : zSt} (hσ : zIM G σ) {x1 : Int32} (h_x1 : zr (4) (7) x1) {x2 : Int32} (h_x2 : zr (0) (1) x2) {s0 : Int32} (h_s0 : zr (0) (1) s0) {s1 : Int32} (h_s1 : zr (1) (1) s1) : zok (fX12_blocks_249 σ x1 x2 s0 s1) (zAi (zIM G) (fun v : Int32 => zr (16) (21) v)) := by
  unfold fX12_blocks_249
  refine zok_bu (s_X12_put hσ (zr_w h_s1 (by decide)) h_s0) (fun σ8 i1 => ?_)
  refine zok_pi (s_X12_pair i1.P (zr_w (zr_c (lo := 2) (hi := 2) (by decide)) (by decide))) (fun v10 h2 => ?_)
  refine zok_if (fun q3 => ?_) (fun q3 => ?_)
  · have h4 := zc_eql (0) (0) q3 h2 (zr_c (lo := 0) (hi := 0) (by decide)) (by decide)
    exact (s_X12_blocks_267 i1 h_x1 h_x2 (zr_w (zr_c (lo := 0) (hi := 0) (by decide)) (by decide)) (zr_c (lo := 2) (hi := 2) (by decide)))
  have h5 := zc_nel (1) (65535) q3 h2 (zr_c (lo := 0) (hi := 0) (by decide)) (by decide)
  exact (s_X12_blocks_267 i1 h_x1 h_x2 (zr_w (zr_c (lo := 1) (hi := 1) (by decide)) (by decide)) (zr_c (lo := 2) (hi := 2) (by decide)))
theorem s_X12_blocks_234 {G : Nat → Int} {σ : zSt} (hσ : zIM G σ) {x1 : Int32} (h_x1 : zr (4) (7) x1) {x2 : Int32} (h_x2 : zr (0) (1) x2) {s0 : Int32} (h_s0 : zr (0) (1) s0) {s1 : Int32} (h_s1 : zr (3) (3) s1) : zok (fX12_blocks_234 σ x1 x2 s0 s1) (zAi (zIM G) (fun v : Int32 => zr (16) (21) v)) := by
  unfold fX12_blocks_234
  refine zok_bu (s_X12_put hσ (zr_w h_s1 (by decide)) h_s0) (fun σ11 i1 => ?_)
  refine zok_if (fun q2 => ?_) (fun q2 => ?_)
  · have h3 := zc_eql (1) (1) q2 h_x2 (zr_c (lo := 1) (hi := 1) (by decide)) (by decide)
    exact (s_X12_blocks_249 i1 h_x1 (zr_w h3 (by decide)) (zr_w (zr_c (lo := 1) (hi := 1) (by decide)) (by decide)) (zr_c (lo := 1) (hi := 1) (by decide)))
  have h4 := zc_nel (0) (0) q2 h_x2 (zr_c (lo := 1) (hi := 1) (by decide)) (by decide)
  exact (s_X12_blocks_249 i1 h_x1 (zr_w h4 (by decide)) (zr_w (zr_c (lo := 0) (hi := 0) (by decide)) (by decide)) (zr_c (lo := 1) (hi := 1) (by decide)))
theorem s_X12_blocks_216 {G : Nat → Int} {σ : zSt} (hσ : zIM G σ) {x1 : Int32} (h_x1 : zr (4) (7) x1) {x2 : Int32} (h_x2 : zr (0) (1) x2) {x6 : Int32} (h_x6 : zr (-256) (510) x6) {s0 : Int32} (h_s0 : zr (0) (1) s0) {s1 : Int32} (h_s1 : zr (5) (5) s1) : zok (fX12_blocks_216 σ x1 x2 x6 s0 s1) (zAi (zIM G) (fun v : Int32 => zr (16) (21) v)) := by
  unfold fX12_blocks_216
  refine zok_bu (s_X12_put hσ (zr_w h_s1 (by decide)) h_s0) (fun σ12 i1 => ?_)
  refine zok_if (fun q2 => ?_) (fun q2 => ?_)
  · have h3 := zc_eql (0) (0) q2 (zr_andr (lo := 0) (hi := 8) (zr_c (lo := 8) (hi := 8) (by decide)) (by decide)) (zr_c (lo := 0) (hi := 0) (by decide)) (by decide)
    exact (s_X12_blocks_234 i1 h_x1 h_x2 (zr_w (zr_c (lo := 0) (hi := 0) (by decide)) (by decide)) (zr_c (lo := 3) (hi := 3) (by decide)))
  have h4 := zc_nel (1) (8) q2 (zr_andr (lo := 0) (hi := 8) (zr_c (lo := 8) (hi := 8) (by decide)) (by decide)) (zr_c (lo := 0) (hi := 0) (by decide)) (by decide)
  exact (s_X12_blocks_234 i1 h_x1 h_x2 (zr_w (zr_c (lo := 1) (hi := 1) (by decide)) (by decide)) (zr_c (lo := 3) (hi := 3) (by decide)))
theorem s_X12_blocks_202 {G : Nat → Int} {σ : zSt} (hσ : zIM G σ) {x1 : Int32} (h_x1 : zr (4) (7) x1) {x2 : Int32} (h_x2 : zr (0) (1) x2) {x6 : Int32} (h_x6 : zr (-256) (510) x6) : zok (fX12_blocks_202 σ x1 x2 x6) (zAi (zIM G) (fun v : Int32 => zr (16) (21) v)) := by
  unfold fX12_blocks_202
  refine zok_if (fun q1 => ?_) (fun q1 => ?_)
  · have h2 := zc_eql (0) (0) q1 (zr_andr (lo := 0) (hi := 2) (zr_c (lo := 2) (hi := 2) (by decide)) (by decide)) (zr_c (lo := 0) (hi := 0) (by decide)) (by decide)
    exact (s_X12_blocks_216 hσ h_x1 h_x2 h_x6 (zr_w (zr_c (lo := 0) (hi := 0) (by decide)) (by decide)) (zr_c (lo := 5) (hi := 5) (by decide)))
  have h3 := zc_nel (1) (2) q1 (zr_andr (lo := 0) (hi := 2) (zr_c (lo := 2) (hi := 2) (by decide)) (by decide)) (zr_c (lo := 0) (hi := 0) (by decide)) (by decide)
  exact (s_X12_blocks_216 hσ h_x1 h_x2 h_x6 (zr_w (zr_c (lo := 1) (hi := 1) (by decide)) (by decide)) (zr_c (lo := 5) (hi := 5) (by decide)))
theorem s_X12_blocks_190 {G : Nat → Int} {σ : zSt} (hσ : zIM G σ) {x1 : Int32} (h_x1 : zr (4) (7) x1) {x2 : Int32} (h_x2 : zr (1) (1) x2) {s0 : Int32} (h_s0 : zr (0) (1) s0) {s1 : Int32} (h_s1 : zr (-255) (510) s1) : zok (fX12_blocks_190 σ x1 x2 s0 s1) (zAi (zIM G) (fun v : Int32 => zr (16) (21) v)) := by
  unfold fX12_blocks_190
  refine zok_br (zr_sub (lo := -256) (hi := 510) h_s1 h_s0 (by decide)) (fun v13 e2 h1 => ?_)
  exact (s_X12_blocks_202 hσ h_x1 (zr_w h_x2 (by decide)) h1)
theorem s_X12_blocks_159 {G : Nat → Int} {σ : zSt} (hσ : zIM G σ) {x1 : Int32} (h_x1 : zr (4) (7) x1) {x2 : Int32} (h_x2 : zr (1) (1) x2) {x6 : Int32} (h_x6 : zr (-255) (510) x6) {s0 : Int32} (h_s0 : zr (0) (1) s0) : zok (fX12_blocks_159 σ x1 x2 x6 s0) (zAi (zIM G) (fun v : Int32 => zr (16) (21) v)) := by
  unfold fX12_blocks_159
  refine zok_bu (s_X12_by hσ (zr_andr (lo := 0) (hi := 255) (zr_c (lo := 255) (hi := 255) (by decide)) (by decide))) (fun σ14 i1 => ?_)
  refine zok_bu (s_X12_put i1 (zr_w (zr_c (lo := 4) (hi := 4) (by decide)) (by decide)) h_s0) (fun σ15 i2 => ?_)
  refine zok_if (fun q3 => ?_) (fun q3 => ?_)
  · have h4 := zc_eql (0) (0) q3 h_s0 (zr_c (lo := 0) (hi := 0) (by decide)) (by decide)
    exact (s_X12_blocks_190 i2 h_x1 h_x2 (zr_w (zr_c (lo := 0) (hi := 0) (by decide)) (by decide)) h_x6)
  have h5 := zc_nel (1) (1) q3 h_s0 (zr_c (lo := 0) (hi := 0) (by decide)) (by decide)
  exact (s_X12_blocks_190 i2 h_x1 h_x2 (zr_w (zr_c (lo := 1) (hi := 1) (by decide)) (by decide)) h_x6)
theorem s_X12_blocks_111 {G : Nat → Int} {σ : zSt} (hσ : zIM G σ) {x1 : Int32} (h_x1 : zr (4) (7) x1) {x2 : Int32} (h_x2 : zr (0) (1) x2) {x3 : Int32} (h_x3 : zr (-1) (1) x3) {x4 : Int32} (h_x4 : zr (0) (255) x4) {s0 : Int32} (h_s0 : zr (-255) (510) s0) : zok (fX12_blocks_111 σ x1 x2 x3 x4 s0) (zAi (zIM G) (fun v : Int32 => zr (16) (21) v)) := by
  unfold fX12_blocks_111
  refine zok_if (fun q1 => ?_) (fun q1 => ?_)
  · have h2 := zc_eql (1) (1) q1 h_x2 (zr_c (lo := 1) (hi := 1) (by decide)) (by decide)
    refine zok_ck rfl ?_
    refine zok_ck rfl ?_
    refine zok_bs (hσ.wi 20 20 (by decide) (zr_andr (lo := 0) (hi := 65535) (zr_c (lo := 65535) (hi := 65535) (by decide)) (by decide)) (by decide +kernel)) (fun σ17 e4 i3 => ?_)
    refine zok_ck rfl ?_
    refine zok_if (fun q5 => ?_) (fun q5 => ?_)
    · exact (s_X12_blocks_159 i3 h_x1 h2 h_s0 (zr_w (zr_c (lo := 0) (hi := 0) (by decide)) (by decide)))
    have h6 := zc_ltl (14) (z_nle q5) (zr_andr (lo := 0) (hi := 15) (zr_c (lo := 15) (hi := 15) (by decide)) (by decide)) (zr_andr (lo := 0) (hi := 15) (zr_c (lo := 15) (hi := 15) (by decide)) (by decide)) (by decide)
    have h7 := zc_ltr (1) (z_nle q5) (zr_andr (lo := 0) (hi := 15) (zr_c (lo := 15) (hi := 15) (by decide)) (by decide)) (zr_andr (lo := 0) (hi := 15) (zr_c (lo := 15) (hi := 15) (by decide)) (by decide)) (by decide)
    exact (s_X12_blocks_159 i3 h_x1 h2 h_s0 (zr_w (zr_c (lo := 1) (hi := 1) (by decide)) (by decide)))
  have h8 := zc_nel (0) (0) q1 h_x2 (zr_c (lo := 1) (hi := 1) (by decide)) (by decide)
  refine zok_bu (s_X12_put hσ (zr_w (zr_c (lo := 4) (hi := 4) (by decide)) (by decide)) (zr_w (zr_c (lo := 0) (hi := 0) (by decide)) (by decide))) (fun σ16 i9 => ?_)
  exact (s_X12_blocks_202 i9 h_x1 (zr_w h8 (by decide)) (zr_w h_s0 (by decide)))
theorem s_X12_blocks_74 {G : Nat → Int} {σ : zSt} (hσ : zIM G σ) {x1 : Int32} (h_x1 : zr (4) (7) x1) {x2 : Int32} (h_x2 : zr (0) (1) x2) {x3 : Int32} (h_x3 : zr (-1) (1) x3) {x4 : Int32} (h_x4 : zr (0) (255) x4) : zok (fX12_blocks_74 σ x1 x2 x3 x4) (zAi (zIM G) (fun v : Int32 => zr (16) (21) v)) := by
  unfold fX12_blocks_74
  refine zok_pi (s_X12_pair hσ.P (zr_w (zr_c (lo := 2) (hi := 2) (by decide)) (by decide))) (fun v19 h1 => ?_)
  refine zok_bu (s_X12_pairTo hσ (zr_w (zr_c (lo := 2) (hi := 2) (by decide)) (by decide)) (zr_w (zr_sub (lo := -1) (hi := 65534) h1 (zr_c (lo := 1) (hi := 1) (by decide)) (by decide)) (by decide))) (fun σ20 i2 => ?_)
  refine zok_if (fun q3 => ?_) (fun q3 => ?_)
  · have h4 := zc_eql (0) (0) q3 h_x2 (zr_c (lo := 0) (hi := 0) (by decide)) (by decide)
    refine zok_ck rfl ?_
    exact (s_X12_blocks_111 i2 h_x1 (zr_w h4 (by decide)) h_x3 h_x4 (zr_w (zr_add (lo := 0) (hi := 510) (rM_11 i2.sg _ (by decide)) h_x4 (by decide)) (by decide)))
  have h5 := zc_nel (1) (1) q3 h_x2 (zr_c (lo := 0) (hi := 0) (by decide)) (by decide)
  refine zok_ck rfl ?_
  exact (s_X12_blocks_111 i2 h_x1 (zr_w h5 (by decide)) h_x3 h_x4 (zr_w (zr_sub (lo := -255) (hi := 255) (rM_11 i2.sg _ (by decide)) h_x4 (by decide)) (by decide)))
theorem s_X12_blocks_44 {G : Nat → Int} {σ : zSt} (hσ : zIM G σ) {x1 : Int32} (h_x1 : zr (4) (7) x1) {x2 : Int32} (h_x2 : zr (0) (1) x2) {x3 : Int32} (h_x3 : zr (-1) (1) x3) {x4 : Int32} (h_x4 : zr (0) (255) x4) : zok (fX12_blocks_44 σ x1 x2 x3 x4) (zAi (zIM G) (fun v : Int32 => zr (16) (21) v)) := by
  unfold fX12_blocks_44
  refine zok_pi (s_X12_pair hσ.P (zr_w (zr_c (lo := 6) (hi := 6) (by decide)) (by decide))) (fun v22 h1 => ?_)
  refine zok_bu (s_X12_pairTo hσ (zr_w (zr_c (lo := 6) (hi := 6) (by decide)) (by decide)) (zr_w (zr_add (lo := -1) (hi := 65536) h1 h_x3 (by decide)) (by decide))) (fun σ23 i2 => ?_)
  refine zok_if (fun q3 => ?_) (fun q3 => ?_)
  · have h4 := zc_eql (0) (0) q3 h_x2 (zr_c (lo := 0) (hi := 0) (by decide)) (by decide)
    refine zok_pi (s_X12_pair i2.P (zr_w (zr_c (lo := 4) (hi := 4) (by decide)) (by decide))) (fun v25 h5 => ?_)
    refine zok_bu (s_X12_pairTo i2 (zr_w (zr_c (lo := 4) (hi := 4) (by decide)) (by decide)) (zr_w (zr_add (lo := -1) (hi := 65536) h5 h_x3 (by decide)) (by decide))) (fun σ26 i6 => ?_)
    exact (s_X12_blocks_74 i6 h_x1 (zr_w h4 (by decide)) h_x3 h_x4)
  have h7 := zc_nel (1) (1) q3 h_x2 (zr_c (lo := 0) (hi := 0) (by decide)) (by decide)
  exact (s_X12_blocks_74 i2 h_x1 (zr_w h7 (by decide)) h_x3 h_x4)
theorem s_X12_blocks_582 {G : Nat → Int} {σ : zSt} (hσ : zIM G σ) {x1 : Int32} (h_x1 : zr (4) (7) x1) {x2 : Int32} (h_x2 : zr (2) (3) x2) {s0 : Int32} (h_s0 : zr (0) (1) s0) : zok (fX12_blocks_582 σ x1 x2 s0) (zAi (zIM G) (fun v : Int32 => zr (16) (21) v)) := by
  unfold fX12_blocks_582
  exact (s_X12_blocks_584 hσ h_x1 (zr_w h_x2 (by decide)) h_s0)
theorem s_X12_blocks_545 {G : Nat → Int} {σ : zSt} (hσ : zIM G σ) {x1 : Int32} (h_x1 : zr (4) (7) x1) {x2 : Int32} (h_x2 : zr (2) (3) x2) {x6 : Int32} (h_x6 : zr (0) (510) x6) {s0 : Int32} (h_s0 : zr (0) (1) s0) {s1 : Int32} (h_s1 : zr (0) (0) s1) : zok (fX12_blocks_545 σ x1 x2 x6 s0 s1) (zAi (zIM G) (fun v : Int32 => zr (16) (21) v)) := by
  unfold fX12_blocks_545
  refine zok_bu (s_X12_put hσ (zr_w h_s1 (by decide)) h_s0) (fun σ27 i1 => ?_)
  refine zok_ck rfl ?_
  refine zok_pi (s_X12_isEven i1.P (zr_xor (lo := 0) (hi := 255) 8 (zr_andr (lo := 0) (hi := 7) (zr_c (lo := 7) (hi := 7) (by decide)) (by decide)) (rM_11 i1.sg _ (by decide)) (by decide))) (fun v29 h2 => ?_)
  refine zok_bu (s_X12_put i1 (zr_w (zr_c (lo := 2) (hi := 2) (by decide)) (by decide)) h2) (fun σ30 i3 => ?_)
  refine zok_ck rfl ?_
  refine zok_if (fun q4 => ?_) (fun q4 => ?_)
  · have h5 := zc_eql (0) (0) q4 (rM_11 i3.sg _ (by decide)) (zr_c (lo := 0) (hi := 0) (by decide)) (by decide)
    exact (s_X12_blocks_582 i3 h_x1 h_x2 (zr_w (zr_c (lo := 0) (hi := 0) (by decide)) (by decide)))
  have h6 := zc_nel (1) (255) q4 (rM_11 i3.sg _ (by decide)) (zr_c (lo := 0) (hi := 0) (by decide)) (by decide)
  exact (s_X12_blocks_582 i3 h_x1 h_x2 (zr_w (zr_c (lo := 1) (hi := 1) (by decide)) (by decide)))
theorem s_X12_blocks_527 {G : Nat → Int} {σ : zSt} (hσ : zIM G σ) {x1 : Int32} (h_x1 : zr (4) (7) x1) {x2 : Int32} (h_x2 : zr (2) (3) x2) {x6 : Int32} (h_x6 : zr (0) (510) x6) {s0 : Int32} (h_s0 : zr (0) (1) s0) {s1 : Int32} (h_s1 : zr (4) (4) s1) : zok (fX12_blocks_527 σ x1 x2 x6 s0 s1) (zAi (zIM G) (fun v : Int32 => zr (16) (21) v)) := by
  unfold fX12_blocks_527
  refine zok_bu (s_X12_put hσ (zr_w h_s1 (by decide)) h_s0) (fun σ31 i1 => ?_)
  refine zok_if (fun q2 => ?_) (fun q2 => ?_)
  · have h3 := zc_lel (255) q2 h_x6 (zr_c (lo := 255) (hi := 255) (by decide)) (by decide)
    exact (s_X12_blocks_545 i1 h_x1 h_x2 (zr_w h3 (by decide)) (zr_w (zr_c (lo := 0) (hi := 0) (by decide)) (by decide)) (zr_c (lo := 0) (hi := 0) (by decide)))
  have h4 := zc_ltr (256) (z_nle q2) (zr_c (lo := 255) (hi := 255) (by decide)) h_x6 (by decide)
  exact (s_X12_blocks_545 i1 h_x1 h_x2 (zr_w h4 (by decide)) (zr_w (zr_c (lo := 1) (hi := 1) (by decide)) (by decide)) (zr_c (lo := 0) (hi := 0) (by decide)))
theorem s_X12_blocks_509 {G : Nat → Int} {σ : zSt} (hσ : zIM G σ) {x1 : Int32} (h_x1 : zr (4) (7) x1) {x2 : Int32} (h_x2 : zr (2) (3) x2) {x6 : Int32} (h_x6 : zr (0) (510) x6) {s0 : Int32} (h_s0 : zr (0) (1) s0) {s1 : Int32} (h_s1 : zr (1) (1) s1) : zok (fX12_blocks_509 σ x1 x2 x6 s0 s1) (zAi (zIM G) (fun v : Int32 => zr (16) (21) v)) := by
  unfold fX12_blocks_509
  refine zok_bu (s_X12_put hσ (zr_w h_s1 (by decide)) h_s0) (fun σ32 i1 => ?_)
  refine zok_if (fun q2 => ?_) (fun q2 => ?_)
  · have h3 := zc_lel (255) q2 h_x6 (zr_c (lo := 255) (hi := 255) (by decide)) (by decide)
    exact (s_X12_blocks_527 i1 h_x1 h_x2 (zr_w h3 (by decide)) (zr_w (zr_c (lo := 0) (hi := 0) (by decide)) (by decide)) (zr_c (lo := 4) (hi := 4) (by decide)))
  have h4 := zc_ltr (256) (z_nle q2) (zr_c (lo := 255) (hi := 255) (by decide)) h_x6 (by decide)
  exact (s_X12_blocks_527 i1 h_x1 h_x2 (zr_w h4 (by decide)) (zr_w (zr_c (lo := 1) (hi := 1) (by decide)) (by decide)) (zr_c (lo := 4) (hi := 4) (by decide)))
theorem s_X12_blocks_485 {G : Nat → Int} {σ : zSt} (hσ : zIM G σ) {x1 : Int32} (h_x1 : zr (4) (7) x1) {x2 : Int32} (h_x2 : zr (2) (3) x2) {x4 : Int32} (h_x4 : zr (0) (255) x4) {x6 : Int32} (h_x6 : zr (0) (510) x6) : zok (fX12_blocks_485 σ x1 x2 x4 x6) (zAi (zIM G) (fun v : Int32 => zr (16) (21) v)) := by
  unfold fX12_blocks_485
  refine zok_ck rfl ?_
  refine zok_bu (s_X12_by hσ (rM_11 hσ.sg _ (by decide))) (fun σ33 i1 => ?_)
  refine zok_if (fun q2 => ?_) (fun q2 => ?_)
  · have h3 := zc_lel (127) q2 h_x4 (zr_c (lo := 127) (hi := 127) (by decide)) (by decide)
    exact (s_X12_blocks_509 i1 h_x1 h_x2 h_x6 (zr_w (zr_c (lo := 0) (hi := 0) (by decide)) (by decide)) (zr_c (lo := 1) (hi := 1) (by decide)))
  have h4 := zc_ltr (128) (z_nle q2) (zr_c (lo := 127) (hi := 127) (by decide)) h_x4 (by decide)
  exact (s_X12_blocks_509 i1 h_x1 h_x2 h_x6 (zr_w (zr_c (lo := 1) (hi := 1) (by decide)) (by decide)) (zr_c (lo := 1) (hi := 1) (by decide)))
theorem s_X12_blocks_11 {G : Nat → Int} {σ : zSt} (hσ : zIM G σ) {x1 : Int32} (h_x1 : zr (4) (7) x1) {x2 : Int32} (h_x2 : zr (0) (3) x2) {s0 : Int32} (h_s0 : zr (-1) (1) s0) : zok (fX12_blocks_11 σ x1 x2 s0) (zAi (zIM G) (fun v : Int32 => zr (16) (21) v)) := by
  unfold fX12_blocks_11
  refine zok_if (fun q1 => ?_) (fun q1 => ?_)
  · have h2 := zc_ler (2) q1 (zr_c (lo := 2) (hi := 2) (by decide)) h_x2 (by decide)
    refine zok_if (fun q3 => ?_) (fun q3 => ?_)
    · have h4 := zc_eql (2) (2) q3 h2 (zr_c (lo := 2) (hi := 2) (by decide)) (by decide)
      refine zok_pi (s_X12_pair hσ.P (zr_w (zr_c (lo := 2) (hi := 2) (by decide)) (by decide))) (fun v48 h5 => ?_)
      refine zok_ck rfl ?_
      refine zok_bs (hσ.wi 20 20 (by decide) (zr_andr (lo := 0) (hi := 65535) (zr_c (lo := 65535) (hi := 65535) (by decide)) (by decide)) (by decide +kernel)) (fun σ49 e7 i6 => ?_)
      refine zok_ck rfl ?_
      refine zok_ai (s_X12_port i6 (rM_11 i6.sg _ (by decide))) (fun σ50 v51 i8 h9 => ?_)
      refine zok_ck rfl ?_
      refine zok_ck rfl ?_
      refine zok_bs (i8.wi 2 2 (by decide) (zr_andr (lo := 0) (hi := 255) (zr_c (lo := 255) (hi := 255) (by decide)) (by decide)) (by decide +kernel)) (fun σ52 e11 i10 => ?_)
      refine zok_pi (s_X12_pair i10.P (zr_w (zr_c (lo := 6) (hi := 6) (by decide)) (by decide))) (fun v54 h12 => ?_)
      refine zok_bu (s_X12_write i10) (fun σ55 i13 => ?_)
      refine zok_pi (s_X12_pair i13.P (zr_w (zr_c (lo := 6) (hi := 6) (by decide)) (by decide))) (fun v57 h14 => ?_)
      refine zok_bu (s_X12_pairTo i13 (zr_w (zr_c (lo := 6) (hi := 6) (by decide)) (by decide)) (zr_w (zr_add (lo := -1) (hi := 65536) h14 h_s0 (by decide)) (by decide))) (fun σ58 i15 => ?_)
      refine zok_ck rfl ?_
      refine zok_br (zr_add (lo := 0) (hi := 510) h9 (zr_andr (lo := 0) (hi := 255) (zr_c (lo := 255) (hi := 255) (by decide)) (by decide)) (by decide)) (fun v59 e17 h16 => ?_)
      exact (s_X12_blocks_485 i15 h_x1 (zr_w h4 (by decide)) h9 h16)
    have h18 := zc_nel (3) (3) q3 h2 (zr_c (lo := 2) (hi := 2) (by decide)) (by decide)
    refine zok_pi (s_X12_pair hσ.P (zr_w (zr_c (lo := 6) (hi := 6) (by decide)) (by decide))) (fun v35 h19 => ?_)
    refine zok_pi (s_X12_read hσ.P) (fun v37 h20 => ?_)
    refine zok_ck rfl ?_
    refine zok_ck rfl ?_
    refine zok_bs (hσ.wi 2 2 (by decide) (zr_andr (lo := 0) (hi := 255) (zr_c (lo := 255) (hi := 255) (by decide)) (by decide)) (by decide +kernel)) (fun σ38 e22 i21 => ?_)
    refine zok_ck rfl ?_
    refine zok_bu (s_X12_portTo i21 (rM_11 i21.sg _ (by decide)) h20) (fun σ39 i23 => ?_)
    refine zok_pi (s_X12_pair i23.P (zr_w (zr_c (lo := 6) (hi := 6) (by decide)) (by decide))) (fun v41 h24 => ?_)
    refine zok_bu (s_X12_pairTo i23 (zr_w (zr_c (lo := 6) (hi := 6) (by decide)) (by decide)) (zr_w (zr_add (lo := -1) (hi := 65536) h24 h_s0 (by decide)) (by decide))) (fun σ42 i25 => ?_)
    refine zok_pi (s_X12_pair i25.P (zr_w (zr_c (lo := 2) (hi := 2) (by decide)) (by decide))) (fun v44 h26 => ?_)
    refine zok_ck rfl ?_
    refine zok_bs (i25.wi 20 20 (by decide) (zr_andr (lo := 0) (hi := 65535) (zr_c (lo := 65535) (hi := 65535) (by decide)) (by decide)) (by decide +kernel)) (fun σ45 e28 i27 => ?_)
    refine zok_ck rfl ?_
    refine zok_br (zr_add (lo := 0) (hi := 510) h20 (rM_11 i27.sg _ (by decide)) (by decide)) (fun v46 e30 h29 => ?_)
    exact (s_X12_blocks_485 i27 h_x1 (zr_w h18 (by decide)) h20 h29)
  have h31 := zc_ltl (1) (z_nle q1) h_x2 (zr_c (lo := 2) (hi := 2) (by decide)) (by decide)
  refine zok_pi (s_X12_pair hσ.P (zr_w (zr_c (lo := 6) (hi := 6) (by decide)) (by decide))) (fun v61 h32 => ?_)
  refine zok_pi (s_X12_read hσ.P) (fun v63 h33 => ?_)
  refine zok_if (fun q34 => ?_) (fun q34 => ?_)
  · have h35 := zc_eql (0) (0) q34 h31 (zr_c (lo := 0) (hi := 0) (by decide)) (by decide)
    refine zok_pi (s_X12_pair hσ.P (zr_w (zr_c (lo := 4) (hi := 4) (by decide)) (by decide))) (fun v65 h36 => ?_)
    refine zok_bu (s_X12_write hσ) (fun σ66 i37 => ?_)
    exact (s_X12_blocks_44 i37 h_x1 (zr_w h35 (by decide)) h_s0 h33)
  have h38 := zc_nel (1) (1) q34 h31 (zr_c (lo := 0) (hi := 0) (by decide)) (by decide)
  exact (s_X12_blocks_44 hσ h_x1 (zr_w h38 (by decide)) h_s0 h33)
theorem s_X12_blocks {G : Nat → Int} {σ : zSt} (hσ : zIM G σ) {x1 : Int32} (h_x1 : zr (4) (7) x1) {x2 : Int32} (h_x2 : zr (0) (3) x2) : zok (fX12_blocks σ x1 x2) (zAi (zIM G) (fun v : Int32 => zr (16) (21) v)) := by
  unfold fX12_blocks
  refine zok_ck (by decide) ?_
  refine zok_if (fun q1 => ?_) (fun q1 => ?_)
  · have h2 := zc_eql (0) (0) q1 (zr_rem (lo := 0) (hi := 1) 2 (by decide) h_x1 (by decide)) (zr_c (lo := 0) (hi := 0) (by decide)) (by decide)
    exact (s_X12_blocks_11 hσ h_x1 h_x2 (zr_w (zr_c (lo := 1) (hi := 1) (by decide)) (by decide)))
  have h3 := zc_nel (1) (1) q1 (zr_rem (lo := 0) (hi := 1) 2 (by decide) h_x1 (by decide)) (zr_c (lo := 0) (hi := 0) (by decide)) (by decide)
  have h4 := z_odd64 h_x1 h3 (by decide)
  exact (s_X12_blocks_11 hσ h_x1 h_x2 (zr_w (zr_c (lo := -1) (hi := -1) (by decide)) (by decide)))
theorem s_X12_specials_28 {G : Nat → Int} {σ : zSt} (hσ : zIM G σ) {s0 : Int32} (h_s0 : zr (21) (22) s0) : zok (fX12_specials_28 σ s0) (zAi (zIM G) (fun v : Int32 => zr (8) (18) v)) := by
  unfold fX12_specials_28
  refine zok_ck rfl ?_
  refine zok_ck (zin_ok h_s0 (by decide)) ?_
  refine zok_bs (hσ.wi 21 22 (z_ix h_s0 (by decide)) (rM_11 hσ.sg _ (by decide)) (by decide +kernel)) (fun σ1 e2 i1 => ?_)
  exact zok_sai i1 (zr_w (zr_c (lo := 9) (hi := 9) (by decide)) (by decide))
theorem s_X12_specials_244 {σ : zSt} (hσ : zPM σ) {s0 : Int32} (h_s0 : zr (9) (18) s0) : zok (fX12_specials_244 σ s0) (zPi σ (fun v : Int32 => zr (8) (18) v)) := by
  unfold fX12_specials_244
  exact zok_spi (zr_w h_s0 (by decide))
theorem s_X12_specials_220 {G : Nat → Int} {σ : zSt} (hσ : zIM G σ) {x1 : Int32} (h_x1 : zr (2) (5) x1) : zok (fX12_specials_220 σ x1) (zAi (zIM G) (fun v : Int32 => zr (8) (18) v)) := by
  unfold fX12_specials_220
  refine zok_bu (s_X12_put hσ (zr_w (zr_c (lo := 4) (hi := 4) (by decide)) (by decide)) (zr_w (zr_c (lo := 0) (hi := 0) (by decide)) (by decide))) (fun σ2 i1 => ?_)
  refine zok_bu (s_X12_put i1 (zr_w (zr_c (lo := 1) (hi := 1) (by decide)) (by decide)) (zr_w (zr_c (lo := 0) (hi := 0) (by decide)) (by decide))) (fun σ3 i2 => ?_)
  refine zok_if (fun q3 => ?_) (fun q3 => ?_)
  · have h4 := zc_ler (4) q3 (zr_c (lo := 4) (hi := 4) (by decide)) h_x1 (by decide)
    exact zok_pai i2 (s_X12_specials_244 i2.P (zr_w (zr_c (lo := 18) (hi := 18) (by decide)) (by decide)))
  have h5 := zc_ltl (3) (z_nle q3) h_x1 (zr_c (lo := 4) (hi := 4) (by decide)) (by decide)
  exact zok_pai i2 (s_X12_specials_244 i2.P (zr_w (zr_c (lo := 9) (hi := 9) (by decide)) (by decide)))
theorem s_X12_specials_94 {G : Nat → Int} {σ : zSt} (hσ : zIM G σ) {x1 : Int32} (h_x1 : zr (2) (3) x1) {s0 : Int32} (h_s0 : zr (0) (1) s0) {s1 : Int32} (h_s1 : zr (2) (2) s1) : zok (fX12_specials_94 σ x1 s0 s1) (zAi (zIM G) (fun v : Int32 => zr (8) (18) v)) := by
  unfold fX12_specials_94
  refine zok_bu (s_X12_put hσ (zr_w h_s1 (by decide)) h_s0) (fun σ4 i1 => ?_)
  exact (s_X12_specials_220 i1 (zr_w h_x1 (by decide)))
theorem s_X12_specials_64 {G : Nat → Int} {σ : zSt} (hσ : zIM G σ) {x1 : Int32} (h_x1 : zr (2) (3) x1) {s0 : Int32} (h_s0 : zr (21) (22) s0) {s2 : Int32} (h_s2 : zr (0) (0) s2) : zok (fX12_specials_64 σ x1 s0 s2) (zAi (zIM G) (fun v : Int32 => zr (8) (18) v)) := by
  unfold fX12_specials_64
  refine zok_ck (zin_ok h_s0 (by decide)) ?_
  refine zok_ck (zin_ok h_s2 (by decide)) ?_
  refine zok_bs (hσ.wi 0 0 (z_ix h_s2 (by decide)) (rM_14 hσ.sg _ (z_ix h_s0 (by decide))) (by decide +kernel)) (fun σ5 e2 i1 => ?_)
  refine zok_ck rfl ?_
  refine zok_bu (s_X12_by i1 (rM_11 i1.sg _ (by decide))) (fun σ6 i3 => ?_)
  refine zok_ck rfl ?_
  refine zok_if (fun q4 => ?_) (fun q4 => ?_)
  · have h5 := zc_eql (1) (1) q4 (rM_15 i3.sg _ (by decide)) (zr_c (lo := 1) (hi := 1) (by decide)) (by decide)
    exact (s_X12_specials_94 i3 h_x1 (zr_w (zr_c (lo := 1) (hi := 1) (by decide)) (by decide)) (zr_c (lo := 2) (hi := 2) (by decide)))
  have h6 := zc_nel (0) (0) q4 (rM_15 i3.sg _ (by decide)) (zr_c (lo := 1) (hi := 1) (by decide)) (by decide)
  exact (s_X12_specials_94 i3 h_x1 (zr_w (zr_c (lo := 0) (hi := 0) (by decide)) (by decide)) (zr_c (lo := 2) (hi := 2) (by decide)))
theorem s_X12_specials_194 {G : Nat → Int} {σ : zSt} (hσ : zIM G σ) {x1 : Int32} (h_x1 : zr (4) (5) x1) {s0 : Int32} (h_s0 : zr (0) (15) s0) {s1 : Int32} (h_s1 : zr (0) (240) s1) {s2 : Int32} (h_s2 : zr (0) (0) s2) : zok (fX12_specials_194 σ x1 s0 s1 s2) (zAi (zIM G) (fun v : Int32 => zr (8) (18) v)) := by
  unfold fX12_specials_194
  refine zok_ck (zin_ok h_s2 (by decide)) ?_
  refine zok_bs (hσ.wi 0 0 (z_ix h_s2 (by decide)) (zr_or (lo := 0) (hi := 255) 8 h_s1 h_s0 (by decide)) (by decide +kernel)) (fun σ7 e2 i1 => ?_)
  refine zok_ck rfl ?_
  refine zok_bu (s_X12_by i1 (rM_11 i1.sg _ (by decide))) (fun σ8 i3 => ?_)
  refine zok_ck rfl ?_
  refine zok_pi (s_X12_isEven i3.P (rM_11 i3.sg _ (by decide))) (fun v10 h4 => ?_)
  refine zok_bu (s_X12_put i3 (zr_w (zr_c (lo := 2) (hi := 2) (by decide)) (by decide)) h4) (fun σ11 i5 => ?_)
  exact (s_X12_specials_220 i5 (zr_w h_x1 (by decide)))
theorem s_X12_specials_161 {G : Nat → Int} {σ : zSt} (hσ : zIM G σ) {x1 : Int32} (h_x1 : zr (4) (5) x1) {x3 : Int32} (h_x3 : zr (0) (255) x3) {s0 : Int32} (h_s0 : zr (0) (4095) s0) {s1 : Int32} (h_s1 : zr (0) (65535) s1) : zok (fX12_specials_161 σ x1 x3 s0 s1) (zAi (zIM G) (fun v : Int32 => zr (8) (18) v)) := by
  unfold fX12_specials_161
  refine zok_bu (s_X12_write hσ) (fun σ12 i1 => ?_)
  refine zok_ck rfl ?_
  refine zok_if (fun q2 => ?_) (fun q2 => ?_)
  · have h3 := zc_eql (4) (4) q2 h_x1 (zr_c (lo := 4) (hi := 4) (by decide)) (by decide)
    exact (s_X12_specials_194 i1 (zr_w h3 (by decide)) (zr_andr (lo := 0) (hi := 15) (zr_c (lo := 15) (hi := 15) (by decide)) (by decide)) (zr_andr (lo := 0) (hi := 240) (zr_c (lo := 240) (hi := 240) (by decide)) (by decide)) (zr_c (lo := 0) (hi := 0) (by decide)))
  have h4 := zc_nel (5) (5) q2 h_x1 (zr_c (lo := 4) (hi := 4) (by decide)) (by decide)
  exact (s_X12_specials_194 i1 (zr_w h4 (by decide)) (zr_shr (lo := 0) (hi := 15) 4 (by decide) h_x3 (by decide)) (zr_andr (lo := 0) (hi := 240) (zr_c (lo := 240) (hi := 240) (by decide)) (by decide)) (zr_c (lo := 0) (hi := 0) (by decide)))
theorem s_X12_specials {G : Nat → Int} {σ : zSt} (hσ : zIM G σ) {x1 : Int32} (h_x1 : zr (0) (7) x1) : zok (fX12_specials σ x1) (zAi (zIM G) (fun v : Int32 => zr (8) (18) v)) := by
  unfold fX12_specials
  refine zok_if (fun q1 => ?_) (fun q1 => ?_)
  · have h2 := zc_lel (5) q1 h_x1 (zr_c (lo := 5) (hi := 5) (by decide)) (by decide)
    refine zok_if (fun q3 => ?_) (fun q3 => ?_)
    · have h4 := zc_ler (2) q3 (zr_c (lo := 2) (hi := 2) (by decide)) h2 (by decide)
      refine zok_if (fun q5 => ?_) (fun q5 => ?_)
      · have h6 := zc_ler (4) q5 (zr_c (lo := 4) (hi := 4) (by decide)) h4 (by decide)
        refine zok_pi (s_X12_pair hσ.P (zr_w (zr_c (lo := 6) (hi := 6) (by decide)) (by decide))) (fun v14 h7 => ?_)
        refine zok_ck rfl ?_
        refine zok_bs (hσ.wi 20 20 (by decide) (zr_andr (lo := 0) (hi := 65535) (zr_c (lo := 65535) (hi := 65535) (by decide)) (by decide)) (by decide +kernel)) (fun σ15 e9 i8 => ?_)
        refine zok_pi (s_X12_read i8.P) (fun v17 h10 => ?_)
        refine zok_ck rfl ?_
        refine zok_br (zr_andr (lo := 0) (hi := 15) (zr_c (lo := 15) (hi := 15) (by decide)) (by decide)) (fun v18 e12 h11 => ?_)
        refine zok_if (fun q13 => ?_) (fun q13 => ?_)
        · have h14 := zc_eql (4) (4) q13 h6 (zr_c (lo := 4) (hi := 4) (by decide)) (by decide)
          exact (s_X12_specials_161 i8 (zr_w h14 (by decide)) h10 (zr_w (zr_or (lo := 0) (hi := 255) 8 (zr_shl (lo := 0) (hi := 240) 4 (by decide) h11 (by decide)) (zr_shr (lo := 0) (hi := 15) 4 (by decide) h10 (by decide)) (by decide)) (by decide)) h7)
        have h15 := zc_nel (5) (5) q13 h6 (zr_c (lo := 4) (hi := 4) (by decide)) (by decide)
        exact (s_X12_specials_161 i8 (zr_w h15 (by decide)) h10 (zr_or (lo := 0) (hi := 4095) 12 (zr_shl (lo := 0) (hi := 4080) 4 (by decide) h10 (by decide)) h11 (by decide)) h7)
      have h16 := zc_ltl (3) (z_nle q5) h4 (zr_c (lo := 4) (hi := 4) (by decide)) (by decide)
      refine zok_if (fun q17 => ?_) (fun q17 => ?_)
      · have h18 := zc_eql (2) (2) q17 h16 (zr_c (lo := 2) (hi := 2) (by decide)) (by decide)
        exact (s_X12_specials_64 hσ (zr_w h18 (by decide)) (zr_w (zr_c (lo := 21) (hi := 21) (by decide)) (by decide)) (zr_c (lo := 0) (hi := 0) (by decide)))
      have h19 := zc_nel (3) (3) q17 h16 (zr_c (lo := 2) (hi := 2) (by decide)) (by decide)
      exact (s_X12_specials_64 hσ (zr_w h19 (by decide)) (zr_w (zr_c (lo := 22) (hi := 22) (by decide)) (by decide)) (zr_c (lo := 0) (hi := 0) (by decide)))
    have h20 := zc_ltl (1) (z_nle q3) h2 (zr_c (lo := 2) (hi := 2) (by decide)) (by decide)
    refine zok_if (fun q21 => ?_) (fun q21 => ?_)
    · have h22 := zc_eql (0) (0) q21 h20 (zr_c (lo := 0) (hi := 0) (by decide)) (by decide)
      exact (s_X12_specials_28 hσ (zr_w (zr_c (lo := 21) (hi := 21) (by decide)) (by decide)))
    have h23 := zc_nel (1) (1) q21 h20 (zr_c (lo := 0) (hi := 0) (by decide)) (by decide)
    exact (s_X12_specials_28 hσ (zr_w (zr_c (lo := 22) (hi := 22) (by decide)) (by decide)))
  have h24 := zc_ltr (6) (z_nle q1) (zr_c (lo := 5) (hi := 5) (by decide)) h_x1 (by decide)
  exact zok_sai hσ (zr_w (zr_c (lo := 8) (hi := 8) (by decide)) (by decide))
theorem s_X12_words_255 {G : Nat → Int} {σ : zSt} (hσ : zIM G σ) {s0 : Int32} (h_s0 : zr (0) (1) s0) {s1 : Int32} (h_s1 : zr (1) (1) s1) : zok (fX12_words_255 σ s0 s1) (zIM G) := by
  unfold fX12_words_255
  refine zok_bu (s_X12_put hσ (zr_w h_s1 (by decide)) h_s0) (fun σ1 i1 => ?_)
  exact zok_some i1
theorem s_X12_words_241 {G : Nat → Int} {σ : zSt} (hσ : zIM G σ) {x2 : Int32} (h_x2 : zr (0) (1) x2) {s0 : Int32} (h_s0 : zr (0) (1) s0) {s1 : Int32} (h_s1 : zr (2) (2) s1) : zok (fX12_words_241 σ x2 s0 s1) (zIM G) := by
  unfold fX12_words_241
  refine zok_bu (s_X12_put hσ (zr_w h_s1 (by decide)) h_s0) (fun σ2 i1 => ?_)
  refine zok_if (fun q2 => ?_) (fun q2 => ?_)
  · have h3 := zc_eql (0) (0) q2 h_x2 (zr_c (lo := 0) (hi := 0) (by decide)) (by decide)
    exact (s_X12_words_255 i1 (zr_w (zr_c (lo := 1) (hi := 1) (by decide)) (by decide)) (zr_c (lo := 1) (hi := 1) (by decide)))
  have h4 := zc_nel (1) (1) q2 h_x2 (zr_c (lo := 0) (hi := 0) (by decide)) (by decide)
  exact (s_X12_words_255 i1 (zr_w (zr_c (lo := 0) (hi := 0) (by decide)) (by decide)) (zr_c (lo := 1) (hi := 1) (by decide)))
theorem s_X12_words_236 {G : Nat → Int} {σ : zSt} (hσ : zIM G σ) {x2 : Int32} (h_x2 : zr (0) (1) x2) {s0 : Int32} (h_s0 : zr (2) (2) s0) : zok (fX12_words_236 σ x2 s0) (zIM G) := by
  unfold fX12_words_236
  exact (s_X12_words_241 hσ h_x2 (zr_w (zr_c (lo := 1) (hi := 1) (by decide)) (by decide)) h_s0)
theorem s_X12_words_215 {G : Nat → Int} {σ : zSt} (hσ : zIM G σ) {x2 : Int32} (h_x2 : zr (0) (1) x2) {x7 : Int32} {s0 : Int32} (h_s0 : zr (0) (1) s0) {s1 : Int32} (h_s1 : zr (0) (0) s1) : zok (fX12_words_215 σ x2 x7 s0 s1) (zIM G) := by
  unfold fX12_words_215
  refine zok_bu (s_X12_put hσ (zr_w h_s1 (by decide)) h_s0) (fun σ3 i1 => ?_)
  refine zok_if (fun q2 => ?_) (fun q2 => ?_)
  · have h3 := zc_ltl (-32769) q2 zr_any (zr_c (lo := -32768) (hi := -32768) (by decide)) (by decide)
    exact (s_X12_words_236 i1 h_x2 (zr_c (lo := 2) (hi := 2) (by decide)))
  have h4 := zc_ler (-32768) (z_nlt q2) (zr_c (lo := -32768) (hi := -32768) (by decide)) zr_any (by decide)
  refine zok_if (fun q5 => ?_) (fun q5 => ?_)
  · have h6 := zc_lel (32767) q5 h4 (zr_c (lo := 32767) (hi := 32767) (by decide)) (by decide)
    exact (s_X12_words_241 i1 h_x2 (zr_w (zr_c (lo := 0) (hi := 0) (by decide)) (by decide)) (zr_c (lo := 2) (hi := 2) (by decide)))
  have h7 := zc_ltr (32768) (z_nle q5) (zr_c (lo := 32767) (hi := 32767) (by decide)) h4 (by decide)
  exact (s_X12_words_236 i1 h_x2 (zr_c (lo := 2) (hi := 2) (by decide)))
theorem s_X12_words_210 {G : Nat → Int} {σ : zSt} (hσ : zIM G σ) {x2 : Int32} (h_x2 : zr (0) (1) x2) {x7 : Int32} {s0 : Int32} (h_s0 : zr (0) (0) s0) : zok (fX12_words_210 σ x2 x7 s0) (zIM G) := by
  unfold fX12_words_210
  exact (s_X12_words_215 hσ h_x2 (zr_w (zr_c (lo := 1) (hi := 1) (by decide)) (by decide)) h_s0)
theorem s_X12_words_193 {G : Nat → Int} {σ : zSt} (hσ : zIM G σ) {x2 : Int32} (h_x2 : zr (0) (1) x2) {x6 : Int32} (h_x6 : zr (-65536) (131071) x6) {x7 : Int32} {s0 : Int32} (h_s0 : zr (0) (1) s0) {s1 : Int32} (h_s1 : zr (4) (4) s1) : zok (fX12_words_193 σ x2 x6 x7 s0 s1) (zIM G) := by
  unfold fX12_words_193
  refine zok_bu (s_X12_put hσ (zr_w h_s1 (by decide)) h_s0) (fun σ4 i1 => ?_)
  refine zok_if (fun q2 => ?_) (fun q2 => ?_)
  · have h3 := zc_ltl (-1) q2 h_x6 (zr_c (lo := 0) (hi := 0) (by decide)) (by decide)
    exact (s_X12_words_210 i1 h_x2 (zr_c (lo := 0) (hi := 0) (by decide)))
  have h4 := zc_ler (0) (z_nlt q2) (zr_c (lo := 0) (hi := 0) (by decide)) h_x6 (by decide)
  refine zok_if (fun q5 => ?_) (fun q5 => ?_)
  · have h6 := zc_lel (65535) q5 h4 (zr_c (lo := 65535) (hi := 65535) (by decide)) (by decide)
    exact (s_X12_words_215 i1 h_x2 (zr_w (zr_c (lo := 0) (hi := 0) (by decide)) (by decide)) (zr_c (lo := 0) (hi := 0) (by decide)))
  have h7 := zc_ltr (65536) (z_nle q5) (zr_c (lo := 65535) (hi := 65535) (by decide)) h4 (by decide)
  exact (s_X12_words_210 i1 h_x2 (zr_c (lo := 0) (hi := 0) (by decide)))
theorem s_X12_words_123 {G : Nat → Int} {σ : zSt} (hσ : zIM G σ) {x2 : Int32} (h_x2 : zr (0) (1) x2) {x3 : Int32} (h_x3 : zr (0) (65535) x3) {x4 : Int32} (h_x4 : zr (0) (65535) x4) {x5 : Int32} (h_x5 : zr (0) (1) x5) {x6 : Int32} (h_x6 : zr (-65536) (131071) x6) {x7 : Int32} {s0 : Int32} (h_s0 : zr (0) (1) s0) {s1 : Int32} (h_s1 : zr (6) (6) s1) : zok (fX12_words_123 σ x2 x3 x4 x5 x6 x7 s0 s1) (zIM G) := by
  unfold fX12_words_123
  refine zok_bu (s_X12_put hσ (zr_w h_s1 (by decide)) h_s0) (fun σ5 i1 => ?_)
  refine zok_bu (s_X12_xy i1 (zr_shr (lo := -256) (hi := 511) 8 (by decide) h_x6 (by decide))) (fun σ6 i2 => ?_)
  refine zok_if (fun q3 => ?_) (fun q3 => ?_)
  · have h4 := zc_eql (0) (0) q3 h_x2 (zr_c (lo := 0) (hi := 0) (by decide)) (by decide)
    refine zok_if (fun q5 => ?_) (fun q5 => ?_)
    · have h6 := zc_ler (0) q5 (zr_c (lo := 0) (hi := 0) (by decide)) (zr_sub (lo := -4096) (hi := 4095) (zr_sub (lo := -4095) (hi := 4095) (zr_andr (lo := 0) (hi := 4095) (zr_c (lo := 4095) (hi := 4095) (by decide)) (by decide)) (zr_andr (lo := 0) (hi := 4095) (zr_c (lo := 4095) (hi := 4095) (by decide)) (by decide)) (by decide)) h_x5 (by decide)) (by decide)
      exact (s_X12_words_193 i2 (zr_w h4 (by decide)) h_x6 (zr_w (zr_c (lo := 0) (hi := 0) (by decide)) (by decide)) (zr_c (lo := 4) (hi := 4) (by decide)))
    have h7 := zc_ltl (-1) (z_nle q5) (zr_sub (lo := -4096) (hi := 4095) (zr_sub (lo := -4095) (hi := 4095) (zr_andr (lo := 0) (hi := 4095) (zr_c (lo := 4095) (hi := 4095) (by decide)) (by decide)) (zr_andr (lo := 0) (hi := 4095) (zr_c (lo := 4095) (hi := 4095) (by decide)) (by decide)) (by decide)) h_x5 (by decide)) (zr_c (lo := 0) (hi := 0) (by decide)) (by decide)
    exact (s_X12_words_193 i2 (zr_w h4 (by decide)) h_x6 (zr_w (zr_c (lo := 1) (hi := 1) (by decide)) (by decide)) (zr_c (lo := 4) (hi := 4) (by decide)))
  have h8 := zc_nel (1) (1) q3 h_x2 (zr_c (lo := 0) (hi := 0) (by decide)) (by decide)
  refine zok_if (fun q9 => ?_) (fun q9 => ?_)
  · have h10 := zc_lel (4095) q9 (zr_add (lo := 0) (hi := 8191) (zr_add (lo := 0) (hi := 8190) (zr_andr (lo := 0) (hi := 4095) (zr_c (lo := 4095) (hi := 4095) (by decide)) (by decide)) (zr_andr (lo := 0) (hi := 4095) (zr_c (lo := 4095) (hi := 4095) (by decide)) (by decide)) (by decide)) h_x5 (by decide)) (zr_c (lo := 4095) (hi := 4095) (by decide)) (by decide)
    exact (s_X12_words_193 i2 (zr_w h8 (by decide)) h_x6 (zr_w (zr_c (lo := 0) (hi := 0) (by decide)) (by decide)) (zr_c (lo := 4) (hi := 4) (by decide)))
  have h11 := zc_ltr (4096) (z_nle q9) (zr_c (lo := 4095) (hi := 4095) (by decide)) (zr_add (lo := 0) (hi := 8191) (zr_add (lo := 0) (hi := 8190) (zr_andr (lo := 0) (hi := 4095) (zr_c (lo := 4095) (hi := 4095) (by decide)) (by decide)) (zr_andr (lo := 0) (hi := 4095) (zr_c (lo := 4095) (hi := 4095) (by decide)) (by decide)) (by decide)) h_x5 (by decide)) (by decide)
  exact (s_X12_words_193 i2 (zr_w h8 (by decide)) h_x6 (zr_w (zr_c (lo := 1) (hi := 1) (by decide)) (by decide)) (zr_c (lo := 4) (hi := 4) (by decide)))
theorem s_X12_words_104 {G : Nat → Int} {σ : zSt} (hσ : zIM G σ) {x2 : Int32} (h_x2 : zr (0) (1) x2) {x3 : Int32} (h_x3 : zr (0) (65535) x3) {x4 : Int32} (h_x4 : zr (0) (65535) x4) {x5 : Int32} (h_x5 : zr (0) (1) x5) {x6 : Int32} (h_x6 : zr (-65536) (131071) x6) {x7 : Int32} {s0 : Int32} (h_s0 : zr (0) (1) s0) {s1 : Int32} (h_s1 : zr (7) (7) s1) : zok (fX12_words_104 σ x2 x3 x4 x5 x6 x7 s0 s1) (zIM G) := by
  unfold fX12_words_104
  refine zok_bu (s_X12_put hσ (zr_w h_s1 (by decide)) h_s0) (fun σ7 i1 => ?_)
  refine zok_if (fun q2 => ?_) (fun q2 => ?_)
  · have h3 := zc_eql (0) (0) q2 (zr_andr (lo := 0) (hi := 65535) (zr_c (lo := 65535) (hi := 65535) (by decide)) (by decide)) (zr_c (lo := 0) (hi := 0) (by decide)) (by decide)
    exact (s_X12_words_123 i1 h_x2 h_x3 h_x4 h_x5 h_x6 (zr_w (zr_c (lo := 1) (hi := 1) (by decide)) (by decide)) (zr_c (lo := 6) (hi := 6) (by decide)))
  have h4 := zc_nel (1) (65535) q2 (zr_andr (lo := 0) (hi := 65535) (zr_c (lo := 65535) (hi := 65535) (by decide)) (by decide)) (zr_c (lo := 0) (hi := 0) (by decide)) (by decide)
  exact (s_X12_words_123 i1 h_x2 h_x3 h_x4 h_x5 h_x6 (zr_w (zr_c (lo := 0) (hi := 0) (by decide)) (by decide)) (zr_c (lo := 6) (hi := 6) (by decide)))
theorem s_X12_words_80 {G : Nat → Int} {σ : zSt} (hσ : zIM G σ) {x2 : Int32} (h_x2 : zr (0) (1) x2) {x3 : Int32} (h_x3 : zr (0) (65535) x3) {x4 : Int32} (h_x4 : zr (0) (65535) x4) {x5 : Int32} (h_x5 : zr (0) (1) x5) {x6 : Int32} (h_x6 : zr (-65536) (131071) x6) {s0 : Int32} : zok (fX12_words_80 σ x2 x3 x4 x5 x6 s0) (zIM G) := by
  unfold fX12_words_80
  refine zok_bu (s_X12_hlTo hσ h_x6) (fun σ8 i1 => ?_)
  refine zok_if (fun q2 => ?_) (fun q2 => ?_)
  · have h3 := zc_eql (0) (0) q2 (zr_andr (lo := 0) (hi := 32768) (zr_c (lo := 32768) (hi := 32768) (by decide)) (by decide)) (zr_c (lo := 0) (hi := 0) (by decide)) (by decide)
    exact (s_X12_words_104 i1 h_x2 h_x3 h_x4 h_x5 h_x6 (zr_w (zr_c (lo := 0) (hi := 0) (by decide)) (by decide)) (zr_c (lo := 7) (hi := 7) (by decide)))
  have h4 := zc_nel (1) (32768) q2 (zr_andr (lo := 0) (hi := 32768) (zr_c (lo := 32768) (hi := 32768) (by decide)) (by decide)) (zr_c (lo := 0) (hi := 0) (by decide)) (by decide)
  exact (s_X12_words_104 i1 h_x2 h_x3 h_x4 h_x5 h_x6 (zr_w (zr_c (lo := 1) (hi := 1) (by decide)) (by decide)) (zr_c (lo := 7) (hi := 7) (by decide)))
theorem s_X12_words_53 {G : Nat → Int} {σ : zSt} (hσ : zIM G σ) {x2 : Int32} (h_x2 : zr (0) (1) x2) {x3 : Int32} (h_x3 : zr (0) (65535) x3) {x4 : Int32} (h_x4 : zr (0) (65535) x4) {x5 : Int32} (h_x5 : zr (0) (1) x5) {s0 : Int32} (h_s0 : zr (-65536) (131071) s0) : zok (fX12_words_53 σ x2 x3 x4 x5 s0) (zIM G) := by
  unfold fX12_words_53
  refine zok_if (fun q1 => ?_) (fun q1 => ?_)
  · have h2 := zc_eql (0) (0) q1 h_x2 (zr_c (lo := 0) (hi := 0) (by decide)) (by decide)
    exact (s_X12_words_80 hσ (zr_w h2 (by decide)) h_x3 h_x4 h_x5 h_s0)
  have h3 := zc_nel (1) (1) q1 h_x2 (zr_c (lo := 0) (hi := 0) (by decide)) (by decide)
  exact (s_X12_words_80 hσ (zr_w h3 (by decide)) h_x3 h_x4 h_x5 h_s0)
theorem s_X12_words {G : Nat → Int} {σ : zSt} (hσ : zIM G σ) {x1 : Int32} (h_x1 : zr (0) (3) x1) {x2 : Int32} (h_x2 : zr (0) (1) x2) : zok (fX12_words σ x1 x2) (zIM G) := by
  unfold fX12_words
  refine zok_pi (s_X12_hl hσ.P) (fun v10 h1 => ?_)
  refine zok_pi (s_X12_rp hσ.P h_x1) (fun v12 h2 => ?_)
  refine zok_pi (s_X12_flag hσ.P (zr_w (zr_c (lo := 0) (hi := 0) (by decide)) (by decide))) (fun v14 h3 => ?_)
  refine zok_ck rfl ?_
  refine zok_bs (hσ.wi 20 20 (by decide) (zr_andr (lo := 0) (hi := 65535) (zr_c (lo := 65535) (hi := 65535) (by decide)) (by decide)) (by decide +kernel)) (fun σ15 e5 i4 => ?_)
  refine zok_if (fun q6 => ?_) (fun q6 => ?_)
  · have h7 := zc_eql (0) (0) q6 h_x2 (zr_c (lo := 0) (hi := 0) (by decide)) (by decide)
    exact (s_X12_words_53 i4 (zr_w h7 (by decide)) h1 h2 h3 (zr_w (zr_sub (lo := -65536) (hi := 65535) (zr_sub (lo := -65535) (hi := 65535) h1 h2 (by decide)) h3 (by decide)) (by decide)))
  have h8 := zc_nel (1) (1) q6 h_x2 (zr_c (lo := 0) (hi := 0) (by decide)) (by decide)
  exact (s_X12_words_53 i4 (zr_w h8 (by decide)) h1 h2 h3 (zr_w (zr_add (lo := 0) (hi := 131071) (zr_add (lo := 0) (hi := 131070) h1 h2 (by decide)) h3 (by decide)) (by decide)))
theorem s_X12_more_387 {G : Nat → Int} {σ : zSt} (hσ : zIM G σ) {s0 : Int32} (h_s0 : zr (0) (2) s0) {s1 : Int32} (h_s1 : zr (25) (25) s1) : zok (fX12_more_387 σ s0 s1) (zAi (zIM G) (fun v : Int32 => zr (8) (21) v)) := by
  unfold fX12_more_387
  refine zok_ck (zin_ok h_s1 (by decide)) ?_
  refine zok_bs (hσ.wi 25 25 (z_ix h_s1 (by decide)) h_s0 (by decide +kernel)) (fun σ1 e2 i1 => ?_)
  exact zok_sai i1 (zr_w (zr_c (lo := 8) (hi := 8) (by decide)) (by decide))
theorem s_X12_more_281 {G : Nat → Int} {σ : zSt} (hσ : zIM G σ) {x7 : Int32} (h_x7 : zr (0) (65535) x7) : zok (fX12_more_281 σ x7) (zAi (zIM G) (fun v : Int32 => zr (8) (21) v)) := by
  unfold fX12_more_281
  refine zok_ck rfl ?_
  refine zok_bs (hσ.wi 20 20 (by decide) (zr_andr (lo := 0) (hi := 65535) (zr_c (lo := 65535) (hi := 65535) (by decide)) (by decide)) (by decide +kernel)) (fun σ2 e2 i1 => ?_)
  exact zok_sai i1 (zr_w (zr_c (lo := 20) (hi := 20) (by decide)) (by decide))
theorem s_X12_more_234 {G : Nat → Int} {σ : zSt} (hσ : zIM G σ) {s0 : Int32} (h_s0 : zr (0) (1) s0) {s1 : Int32} (h_s1 : zr (0) (3) s1) : zok (fX12_more_234 σ s0 s1) (zAi (zIM G) (fun v : Int32 => zr (8) (21) v)) := by
  unfold fX12_more_234
  refine zok_bu (s_X12_words hσ h_s1 h_s0) (fun σ3 i1 => ?_)
  exact zok_sai i1 (zr_w (zr_c (lo := 15) (hi := 15) (by decide)) (by decide))
theorem s_X12_more_195 {G : Nat → Int} {σ : zSt} (hσ : zIM G σ) {s0 : Int32} (h_s0 : zr (0) (255) s0) {s1 : Int32} (h_s1 : zr (0) (255) s1) : zok (fX12_more_195 σ s0 s1) (zAi (zIM G) (fun v : Int32 => zr (8) (21) v)) := by
  unfold fX12_more_195
  refine zok_bu (s_X12_portTo hσ h_s1 h_s0) (fun σ4 i1 => ?_)
  refine zok_pi (s_X12_pair i1.P (zr_w (zr_c (lo := 2) (hi := 2) (by decide)) (by decide))) (fun v6 h2 => ?_)
  refine zok_ck rfl ?_
  refine zok_bs (i1.wi 20 20 (by decide) (zr_andr (lo := 0) (hi := 65535) (zr_c (lo := 65535) (hi := 65535) (by decide)) (by decide)) (by decide +kernel)) (fun σ7 e4 i3 => ?_)
  exact zok_sai i3 (zr_w (zr_c (lo := 12) (hi := 12) (by decide)) (by decide))
theorem s_X12_more_133 {G : Nat → Int} {σ : zSt} (hσ : zIM G σ) {x5 : Int32} (h_x5 : zr (0) (65535) x5) {x6 : Int32} (h_x6 : zr (0) (255) x6) : zok (fX12_more_133 σ x5 x6) (zAi (zIM G) (fun v : Int32 => zr (8) (21) v)) := by
  unfold fX12_more_133
  refine zok_bu (s_X12_by hσ h_x6) (fun σ8 i1 => ?_)
  refine zok_pi (s_X12_isEven i1.P h_x6) (fun v10 h2 => ?_)
  refine zok_bu (s_X12_put i1 (zr_w (zr_c (lo := 2) (hi := 2) (by decide)) (by decide)) h2) (fun σ11 i3 => ?_)
  refine zok_bu (s_X12_put i3 (zr_w (zr_c (lo := 4) (hi := 4) (by decide)) (by decide)) (zr_w (zr_c (lo := 0) (hi := 0) (by decide)) (by decide))) (fun σ12 i4 => ?_)
  refine zok_bu (s_X12_put i4 (zr_w (zr_c (lo := 1) (hi := 1) (by decide)) (by decide)) (zr_w (zr_c (lo := 0) (hi := 0) (by decide)) (by decide))) (fun σ13 i5 => ?_)
  refine zok_ck rfl ?_
  refine zok_bs (i5.wi 20 20 (by decide) h_x5 (by decide +kernel)) (fun σ14 e7 i6 => ?_)
  exact zok_sai i6 (zr_w (zr_c (lo := 12) (hi := 12) (by decide)) (by decide))
theorem s_X12_more_42 {G : Nat → Int} {σ : zSt} (hσ : zIM G σ) {x2 : Int32} (h_x2 : zr (0) (3) x2) {x3 : Int32} (h_x3 : zr (0) (7) x3) {x4 : Int32} (h_x4 : zr (0) (7) x4) : zok (fX12_more_42 σ x2 x3 x4) (zAi (zIM G) (fun v : Int32 => zr (8) (21) v)) := by
  unfold fX12_more_42
  refine zok_if (fun q1 => ?_) (fun q1 => ?_)
  · have h2 := zc_eql (1) (1) q1 h_x2 (zr_c (lo := 1) (hi := 1) (by decide)) (by decide)
    refine zok_if (fun q3 => ?_) (fun q3 => ?_)
    · have h4 := zc_eql (0) (0) q3 h_x4 (zr_c (lo := 0) (hi := 0) (by decide)) (by decide)
      refine zok_pi (s_X12_pair hσ.P (zr_w (zr_c (lo := 2) (hi := 2) (by decide)) (by decide))) (fun v16 h5 => ?_)
      refine zok_br (zr_andr (lo := 0) (hi := 65535) (zr_c (lo := 65535) (hi := 65535) (by decide)) (by decide)) (fun v17 e7 h6 => ?_)
      refine zok_ck rfl ?_
      refine zok_ai (s_X12_port hσ (rM_11 hσ.sg _ (by decide))) (fun σ18 v19 i8 h9 => ?_)
      refine zok_if (fun q10 => ?_) (fun q10 => ?_)
      · have h11 := zc_eql (6) (6) q10 h_x3 (zr_c (lo := 6) (hi := 6) (by decide)) (by decide)
        exact (s_X12_more_133 i8 h6 h9)
      refine zok_bu (s_X12_rTo i8 h_x3) (fun σ20 i12 => ?_)
      exact (s_X12_more_133 i12 h6 h9)
    have h13 := zc_nel (1) (7) q3 h_x4 (zr_c (lo := 0) (hi := 0) (by decide)) (by decide)
    refine zok_if (fun q14 => ?_) (fun q14 => ?_)
    · have h15 := zc_eql (1) (1) q14 h13 (zr_c (lo := 1) (hi := 1) (by decide)) (by decide)
      refine zok_ck rfl ?_
      refine zok_if (fun q16 => ?_) (fun q16 => ?_)
      · have h17 := zc_eql (6) (6) q16 h_x3 (zr_c (lo := 6) (hi := 6) (by decide)) (by decide)
        exact (s_X12_more_195 hσ (zr_w (zr_c (lo := 0) (hi := 0) (by decide)) (by decide)) (rM_11 hσ.sg _ (by decide)))
      refine zok_pi (s_X12_r hσ.P h_x3) (fun v22 h18 => ?_)
      exact (s_X12_more_195 hσ h18 (rM_11 hσ.sg _ (by decide)))
    have h19 := zc_nel (2) (7) q14 h13 (zr_c (lo := 1) (hi := 1) (by decide)) (by decide)
    refine zok_if (fun q20 => ?_) (fun q20 => ?_)
    · have h21 := zc_eql (2) (2) q20 h19 (zr_c (lo := 2) (hi := 2) (by decide)) (by decide)
      refine zok_ck (by decide) ?_
      refine zok_if (fun q22 => ?_) (fun q22 => ?_)
      · have h23 := zc_eql (1) (1) q22 (zr_rem (lo := 0) (hi := 1) 2 (by decide) h_x3 (by decide)) (zr_c (lo := 1) (hi := 1) (by decide)) (by decide)
        have h24 := z_odd64 h_x3 h23 (by decide)
        exact (s_X12_more_234 hσ (zr_w (zr_c (lo := 1) (hi := 1) (by decide)) (by decide)) (zr_shr (lo := 0) (hi := 3) 1 (by decide) h_x3 (by decide)))
      have h25 := zc_nel (0) (0) q22 (zr_rem (lo := 0) (hi := 1) 2 (by decide) h_x3 (by decide)) (zr_c (lo := 1) (hi := 1) (by decide)) (by decide)
      exact (s_X12_more_234 hσ (zr_w (zr_c (lo := 0) (hi := 0) (by decide)) (by decide)) (zr_shr (lo := 0) (hi := 3) 1 (by decide) h_x3 (by decide)))
    have h26 := zc_nel (3) (7) q20 h19 (zr_c (lo := 2) (hi := 2) (by decide)) (by decide)
    refine zok_if (fun q27 => ?_) (fun q27 => ?_)
    · have h28 := zc_eql (3) (3) q27 h26 (zr_c (lo := 3) (hi := 3) (by decide)) (by decide)
      refine zok_ai (s_X12_nextWord hσ) (fun σ23 v24 i29 h30 => ?_)
      refine zok_ck (by decide) ?_
      refine zok_if (fun q31 => ?_) (fun q31 => ?_)
      · have h32 := zc_eql (0) (0) q31 (zr_rem (lo := 0) (hi := 1) 2 (by decide) h_x3 (by decide)) (zr_c (lo := 0) (hi := 0) (by decide)) (by decide)
        refine zok_pi (s_X12_rp i29.P (zr_shr (lo := 0) (hi := 3) 1 (by decide) h_x3 (by decide))) (fun v29 h33 => ?_)
        refine zok_bu (s_X12_wordTo i29 h30 h33) (fun σ30 i34 => ?_)
        exact (s_X12_more_281 i34 h30)
      have h35 := zc_nel (1) (1) q31 (zr_rem (lo := 0) (hi := 1) 2 (by decide) h_x3 (by decide)) (zr_c (lo := 0) (hi := 0) (by decide)) (by decide)
      have h36 := z_odd64 h_x3 h35 (by decide)
      refine zok_pi (s_X12_word i29.P h30) (fun v26 h37 => ?_)
      refine zok_bu (s_X12_rpTo i29 (zr_shr (lo := 0) (hi := 3) 1 (by decide) h_x3 (by decide)) (zr_w h37 (by decide))) (fun σ27 i38 => ?_)
      exact (s_X12_more_281 i38 h30)
    have h39 := zc_nel (4) (7) q27 h26 (zr_c (lo := 3) (hi := 3) (by decide)) (by decide)
    refine zok_if (fun q40 => ?_) (fun q40 => ?_)
    · have h41 := zc_eql (4) (4) q40 h39 (zr_c (lo := 4) (hi := 4) (by decide)) (by decide)
      refine zok_ck rfl ?_
      refine zok_br (rM_11 hσ.sg _ (by decide)) (fun v31 e43 h42 => ?_)
      refine zok_ck rfl ?_
      refine zok_bs (hσ.wi 0 0 (by decide) (zr_c (lo := 0) (hi := 0) (by decide)) (by decide +kernel)) (fun σ32 e45 i44 => ?_)
      refine zok_bu (s_X12_does i44 (zr_w (zr_c (lo := 2) (hi := 2) (by decide)) (by decide)) h42) (fun σ33 i46 => ?_)
      exact zok_sai i46 (zr_w (zr_c (lo := 8) (hi := 8) (by decide)) (by decide))
    have h47 := zc_nel (5) (7) q40 h39 (zr_c (lo := 4) (hi := 4) (by decide)) (by decide)
    refine zok_if (fun q48 => ?_) (fun q48 => ?_)
    · have h49 := zc_eql (5) (5) q48 h47 (zr_c (lo := 5) (hi := 5) (by decide)) (by decide)
      refine zok_ai (s_X12_pop hσ) (fun σ34 v35 i50 h51 => ?_)
      refine zok_ck rfl ?_
      refine zok_bs (i50.wi 19 19 (by decide) h51 (by decide +kernel)) (fun σ36 e53 i52 => ?_)
      refine zok_ck rfl ?_
      refine zok_ck rfl ?_
      refine zok_bs (i52.wi 20 20 (by decide) (rM_12 i52.sg _ (by decide)) (by decide +kernel)) (fun σ37 e55 i54 => ?_)
      refine zok_ck rfl ?_
      refine zok_ck rfl ?_
      refine zok_bs (i54.wi 23 23 (by decide) (rM_15 i54.sg _ (by decide)) (by decide +kernel)) (fun σ38 e57 i56 => ?_)
      exact zok_sai i56 (zr_w (zr_c (lo := 14) (hi := 14) (by decide)) (by decide))
    have h58 := zc_nel (6) (7) q48 h47 (zr_c (lo := 5) (hi := 5) (by decide)) (by decide)
    refine zok_if (fun q59 => ?_) (fun q59 => ?_)
    · have h60 := zc_eql (6) (6) q59 h58 (zr_c (lo := 6) (hi := 6) (by decide)) (by decide)
      refine zok_ck (by decide) ?_
      refine zok_if (fun q61 => ?_) (fun q61 => ?_)
      · have h62 := zc_ler (2) q61 (zr_c (lo := 2) (hi := 2) (by decide)) (zr_rem (lo := 0) (hi := 3) 4 (by decide) h_x3 (by decide)) (by decide)
        refine zok_ck (by decide) ?_
        exact (s_X12_more_387 hσ (zr_w (zr_sub (lo := 1) (hi := 2) h62 (zr_c (lo := 1) (hi := 1) (by decide)) (by decide)) (by decide)) (zr_c (lo := 25) (hi := 25) (by decide)))
      have h63 := zc_ltl (1) (z_nle q61) (zr_rem (lo := 0) (hi := 3) 4 (by decide) h_x3 (by decide)) (zr_c (lo := 2) (hi := 2) (by decide)) (by decide)
      exact (s_X12_more_387 hσ (zr_w (zr_c (lo := 0) (hi := 0) (by decide)) (by decide)) (zr_c (lo := 25) (hi := 25) (by decide)))
    have h64 := zc_nel (7) (7) q59 h58 (zr_c (lo := 6) (hi := 6) (by decide)) (by decide)
    refine zok_ai (s_X12_specials hσ h_x3) (fun σ39 v40 i65 h66 => ?_)
    exact zok_sai i65 (zr_w h66 (by decide))
  exact zok_sai hσ (zr_w (zr_c (lo := 8) (hi := 8) (by decide)) (by decide))
theorem s_X12_more {G : Nat → Int} {σ : zSt} (hσ : zIM G σ) {x1 : Int32} (h_x1 : zr (0) (255) x1) : zok (fX12_more σ x1) (zAi (zIM G) (fun v : Int32 => zr (8) (21) v)) := by
  unfold fX12_more
  refine zok_br (zr_shr (lo := 0) (hi := 3) 6 (by decide) h_x1 (by decide)) (fun v41 e2 h1 => ?_)
  refine zok_br (zr_andr (lo := 0) (hi := 7) (zr_c (lo := 7) (hi := 7) (by decide)) (by decide)) (fun v42 e4 h3 => ?_)
  refine zok_br (zr_andr (lo := 0) (hi := 7) (zr_c (lo := 7) (hi := 7) (by decide)) (by decide)) (fun v43 e6 h5 => ?_)
  refine zok_if (fun q7 => ?_) (fun q7 => ?_)
  · have h8 := zc_eql (2) (2) q7 h1 (zr_c (lo := 2) (hi := 2) (by decide)) (by decide)
    refine zok_if (fun q9 => ?_) (fun q9 => ?_)
    · have h10 := zc_lel (3) q9 h3 (zr_c (lo := 3) (hi := 3) (by decide)) (by decide)
      exact (s_X12_more_42 hσ (zr_w h8 (by decide)) (zr_w h10 (by decide)) h5)
    have h11 := zc_ltr (4) (z_nle q9) (zr_c (lo := 3) (hi := 3) (by decide)) h3 (by decide)
    refine zok_if (fun q12 => ?_) (fun q12 => ?_)
    · have h13 := zc_ler (4) q12 (zr_c (lo := 4) (hi := 4) (by decide)) h5 (by decide)
      exact (s_X12_more_42 hσ (zr_w h8 (by decide)) (zr_w h11 (by decide)) (zr_w h13 (by decide)))
    have h14 := zc_ltl (3) (z_nle q12) h5 (zr_c (lo := 4) (hi := 4) (by decide)) (by decide)
    refine zok_ai (s_X12_blocks hσ h11 h14) (fun σ44 v45 i15 h16 => ?_)
    exact zok_sai i15 (zr_w h16 (by decide))
  exact (s_X12_more_42 hσ h1 h3 h5)
theorem s_X12_more3_r1_119 {G : Nat → Int} {σ : zSt} (hσ : zIM G σ) {s0 : Int32} (h_s0 : zr (0) (65535) s0) : zok (fX12_more3_r1_119 σ s0) (zAi (zIM G) (fun v : Int32 => zr (4) (23) v)) := by
  unfold fX12_more3_r1_119
  refine zok_bu (s_X12_push hσ h_s0) (fun σ1 i1 => ?_)
  exact zok_sai i1 (zr_w (zr_c (lo := 11) (hi := 11) (by decide)) (by decide))
theorem s_X12_more3_r1_200 {σ : zSt} (hσ : zPM σ) {s0 : Int32} (h_s0 : zr (4) (23) s0) : zok (fX12_more3_r1_200 σ s0) (zPi σ (fun v : Int32 => zr (4) (23) v)) := by
  unfold fX12_more3_r1_200
  exact zok_spi h_s0
theorem s_X12_more3_r1 {G : Nat → Int} {σ : zSt} (hσ : zIM G σ) {x1 : Int32} (h_x1 : zr (0) (7) x1) {x2 : Int32} (h_x2 : zr (4) (7) x2) (nP : ¬ (x2 = 5 ∧ (x1 = 3 ∨ x1 = 7))) : zok (fX12_more3_r1 σ x1 x2) (zAi (zIM G) (fun v : Int32 => zr (4) (23) v)) := by
  unfold fX12_more3_r1
  refine zok_br (zr_shr (lo := 0) (hi := 3) 1 (by decide) h_x1 (by decide)) (fun v4 e2 h1 => ?_)
  refine zok_if (fun q3 => ?_) (fun q3 => ?_)
  · have h4 := zc_eql (4) (4) q3 h_x2 (zr_c (lo := 4) (hi := 4) (by decide)) (by decide)
    refine zok_ai (s_X12_nextWord hσ) (fun σ22 v23 i5 h6 => ?_)
    refine zok_ck rfl ?_
    refine zok_bs (i5.wi 20 20 (by decide) h6 (by decide +kernel)) (fun σ24 e8 i7 => ?_)
    refine zok_pi (s_X12_cc i7.P h_x1) (fun v26 h9 => ?_)
    refine zok_if (fun q10 => ?_) (fun q10 => ?_)
    · have h11 := zc_eql (0) (0) q10 h9 (zr_c (lo := 0) (hi := 0) (by decide)) (by decide)
      exact zok_sai i7 (zr_w (zr_c (lo := 10) (hi := 10) (by decide)) (by decide))
    have h12 := zc_nel (1) (1) q10 h9 (zr_c (lo := 0) (hi := 0) (by decide)) (by decide)
    refine zok_ck rfl ?_
    refine zok_bu (s_X12_push i7 (rM_12 i7.sg _ (by decide))) (fun σ27 i13 => ?_)
    refine zok_ck rfl ?_
    refine zok_ck rfl ?_
    refine zok_bs (i13.wi 19 19 (by decide) (rM_12 i13.sg _ (by decide)) (by decide +kernel)) (fun σ28 e15 i14 => ?_)
    exact zok_sai i14 (zr_w (zr_c (lo := 17) (hi := 17) (by decide)) (by decide))
  have h16 := zc_nel (5) (7) q3 h_x2 (zr_c (lo := 4) (hi := 4) (by decide)) (by decide)
  refine zok_if (fun q17 => ?_) (fun q17 => ?_)
  · have h18 := zc_eql (6) (6) q17 h16 (zr_c (lo := 6) (hi := 6) (by decide)) (by decide)
    refine zok_ai (s_X12_next hσ) (fun σ19 v20 i19 h20 => ?_)
    refine zok_bu (s_X12_does i19 h_x1 h20) (fun σ21 i21 => ?_)
    exact zok_sai i21 (zr_w (zr_c (lo := 7) (hi := 7) (by decide)) (by decide))
  refine zok_if (fun q22 => ?_) (fun q22 => ?_)
  · have h23 := zc_eql (7) (7) q22 h16 (zr_c (lo := 7) (hi := 7) (by decide)) (by decide)
    refine zok_bu (s_X12_call hσ (zr_w (zr_mul (lo := 0) (hi := 56) (zr_c (lo := 8) (hi := 8) (by decide)) h_x1 (by decide)) (by decide))) (fun σ18 i24 => ?_)
    exact zok_sai i24 (zr_w (zr_c (lo := 11) (hi := 11) (by decide)) (by decide))
  have h25 := zc_nel (5) (6) q22 h16 (zr_c (lo := 7) (hi := 7) (by decide)) (by decide)
  refine zok_ck (by decide) ?_
  refine zok_if (fun q26 => ?_) (fun q26 => ?_)
  · have h27 := zc_eql (0) (0) q26 (zr_rem (lo := 0) (hi := 1) 2 (by decide) h_x1 (by decide)) (zr_c (lo := 0) (hi := 0) (by decide)) (by decide)
    refine zok_if (fun q28 => ?_) (fun q28 => ?_)
    · have h29 := zc_eql (3) (3) q28 h1 (zr_c (lo := 3) (hi := 3) (by decide)) (by decide)
      refine zok_pi (s_X12_pair hσ.P (zr_w (zr_c (lo := 0) (hi := 0) (by decide)) (by decide))) (fun v17 h30 => ?_)
      exact (s_X12_more3_r1_119 hσ h30)
    have h31 := zc_nel (0) (2) q28 h1 (zr_c (lo := 3) (hi := 3) (by decide)) (by decide)
    refine zok_pi (s_X12_rp hσ.P (zr_w h31 (by decide))) (fun v15 h32 => ?_)
    exact (s_X12_more3_r1_119 hσ h32)
  have h33 := zc_nel (1) (1) q26 (zr_rem (lo := 0) (hi := 1) 2 (by decide) h_x1 (by decide)) (zr_c (lo := 0) (hi := 0) (by decide)) (by decide)
  have h34 := z_odd64 h_x1 h33 (by decide)
  refine zok_if (fun q35 => ?_) (fun q35 => ?_)
  · have h36 := zc_eql (0) (0) q35 h1 (zr_c (lo := 0) (hi := 0) (by decide)) (by decide)
    refine zok_ai (s_X12_nextWord hσ) (fun σ9 v10 i37 h38 => ?_)
    refine zok_ck rfl ?_
    refine zok_bs (i37.wi 20 20 (by decide) h38 (by decide +kernel)) (fun σ11 e40 i39 => ?_)
    refine zok_ck rfl ?_
    refine zok_bu (s_X12_push i39 (rM_12 i39.sg _ (by decide))) (fun σ12 i41 => ?_)
    refine zok_ck rfl ?_
    refine zok_ck rfl ?_
    refine zok_bs (i41.wi 19 19 (by decide) (rM_12 i41.sg _ (by decide)) (by decide +kernel)) (fun σ13 e43 i42 => ?_)
    exact zok_sai i42 (zr_w (zr_c (lo := 17) (hi := 17) (by decide)) (by decide))
  have h44 := zc_nel (1) (3) q35 h1 (zr_c (lo := 0) (hi := 0) (by decide)) (by decide)
  refine zok_if (fun q45 => ?_) (fun q45 => ?_)
  · have h46 := zc_eql (2) (2) q45 h44 (zr_c (lo := 2) (hi := 2) (by decide)) (by decide)
    refine zok_ai (s_X12_fetch hσ) (fun σ5 v6 i47 h48 => ?_)
    refine zok_ai (s_X12_more i47 h48) (fun σ7 v8 i49 h50 => ?_)
    exact zok_pai i49 (s_X12_more3_r1_200 i49.P (zr_w h50 (by decide)))
  refine zok_if (fun q51 => ?_) (fun q51 => ?_)
  · have h52 := zc_eql (1) (1) q51 h44 (zr_c (lo := 1) (hi := 1) (by decide)) (by decide)
    exact absurd (z_m3 h_x1 h_x2 e2 q3 q17 q22 q26 q35 q45) nP
  have h53 := zc_nel (2) (3) q51 h44 (zr_c (lo := 1) (hi := 1) (by decide)) (by decide)
  exact absurd (z_m3 h_x1 h_x2 e2 q3 q17 q22 q26 q35 q45) nP
theorem s_X12_jump {G : Nat → Int} {σ : zSt} (hσ : zIM G σ) {x1 : Int32} (h_x1 : zr (-128) (127) x1) : zok (fX12_jump σ x1) (zIM G) := by
  unfold fX12_jump
  refine zok_ck rfl ?_
  refine zok_ck rfl ?_
  refine zok_bs (hσ.wi 19 19 (by decide) (zr_andr (lo := 0) (hi := 65535) (zr_c (lo := 65535) (hi := 65535) (by decide)) (by decide)) (by decide +kernel)) (fun σ1 e2 i1 => ?_)
  refine zok_ck rfl ?_
  refine zok_ck rfl ?_
  refine zok_bs (i1.wi 20 20 (by decide) (rM_12 i1.sg _ (by decide)) (by decide +kernel)) (fun σ2 e4 i3 => ?_)
  exact zok_some i3
theorem s_X12_moves_85 {σ : zSt} (hσ : zPM σ) : zok (fX12_moves_85 σ ) (zPi σ (fun v : Int32 => zr (7) (16) v)) := by
  unfold fX12_moves_85
  exact zok_spi (zr_w (zr_c (lo := 7) (hi := 7) (by decide)) (by decide))
theorem s_X12_moves_15 {G : Nat → Int} {σ : zSt} (hσ : zIM G σ) {x2 : Int32} (h_x2 : zr (0) (1) x2) {s0 : Int32} (h_s0 : zr (2) (4) s0) : zok (fX12_moves_15 σ x2 s0) (zAi (zIM G) (fun v : Int32 => zr (7) (16) v)) := by
  unfold fX12_moves_15
  refine zok_pi (s_X12_pair hσ.P (zr_w h_s0 (by decide))) (fun v2 h1 => ?_)
  refine zok_if (fun q2 => ?_) (fun q2 => ?_)
  · have h3 := zc_eql (0) (0) q2 h_x2 (zr_c (lo := 0) (hi := 0) (by decide)) (by decide)
    refine zok_ck rfl ?_
    refine zok_bu (s_X12_write hσ) (fun σ3 i4 => ?_)
    refine zok_ck rfl ?_
    refine zok_ck rfl ?_
    refine zok_bs (i4.wi 20 20 (by decide) (zr_or (lo := 0) (hi := 65535) 16 (zr_shl (lo := 0) (hi := 65280) 8 (by decide) (rM_11 i4.sg _ (by decide)) (by decide)) (zr_andr (lo := 0) (hi := 255) (zr_c (lo := 255) (hi := 255) (by decide)) (by decide)) (by decide)) (by decide +kernel)) (fun σ4 e6 i5 => ?_)
    exact zok_pai i5 (s_X12_moves_85 i5.P)
  have h7 := zc_nel (1) (1) q2 h_x2 (zr_c (lo := 0) (hi := 0) (by decide)) (by decide)
  refine zok_pi (s_X12_read hσ.P) (fun v6 h8 => ?_)
  refine zok_ck rfl ?_
  refine zok_bs (hσ.wi 0 0 (by decide) h8 (by decide +kernel)) (fun σ7 e10 i9 => ?_)
  refine zok_ck rfl ?_
  refine zok_bs (i9.wi 20 20 (by decide) (zr_andr (lo := 0) (hi := 65535) (zr_c (lo := 65535) (hi := 65535) (by decide)) (by decide)) (by decide +kernel)) (fun σ8 e12 i11 => ?_)
  exact zok_pai i11 (s_X12_moves_85 i11.P)
theorem s_X12_moves_214 {σ : zSt} (hσ : zPM σ) {s0 : Int32} (h_s0 : zr (13) (16) s0) : zok (fX12_moves_214 σ s0) (zPi σ (fun v : Int32 => zr (7) (16) v)) := by
  unfold fX12_moves_214
  exact zok_spi (zr_w h_s0 (by decide))
theorem s_X12_moves_201 {G : Nat → Int} {σ : zSt} (hσ : zIM G σ) {x1 : Int32} (h_x1 : zr (2) (3) x1) {s0 : Int32} (h_s0 : zr (0) (65535) s0) {s1 : Int32} (h_s1 : zr (20) (20) s1) : zok (fX12_moves_201 σ x1 s0 s1) (zAi (zIM G) (fun v : Int32 => zr (7) (16) v)) := by
  unfold fX12_moves_201
  refine zok_ck (zin_ok h_s1 (by decide)) ?_
  refine zok_bs (hσ.wi 20 20 (z_ix h_s1 (by decide)) h_s0 (by decide +kernel)) (fun σ9 e2 i1 => ?_)
  refine zok_if (fun q3 => ?_) (fun q3 => ?_)
  · have h4 := zc_eql (2) (2) q3 h_x1 (zr_c (lo := 2) (hi := 2) (by decide)) (by decide)
    exact zok_pai i1 (s_X12_moves_214 i1.P (zr_w (zr_c (lo := 16) (hi := 16) (by decide)) (by decide)))
  have h5 := zc_nel (3) (3) q3 h_x1 (zr_c (lo := 2) (hi := 2) (by decide)) (by decide)
  exact zok_pai i1 (s_X12_moves_214 i1.P (zr_w (zr_c (lo := 13) (hi := 13) (by decide)) (by decide)))
theorem s_X12_moves_195 {G : Nat → Int} {σ : zSt} (hσ : zIM G σ) {x1 : Int32} (h_x1 : zr (2) (3) x1) {x3 : Int32} (h_x3 : zr (0) (65535) x3) {s0 : Int32} (h_s0 : zr (20) (20) s0) : zok (fX12_moves_195 σ x1 x3 s0) (zAi (zIM G) (fun v : Int32 => zr (7) (16) v)) := by
  unfold fX12_moves_195
  exact (s_X12_moves_201 hσ h_x1 (zr_andr (lo := 0) (hi := 65535) (zr_c (lo := 65535) (hi := 65535) (by decide)) (by decide)) h_s0)
theorem s_X12_moves_160 {G : Nat → Int} {σ : zSt} (hσ : zIM G σ) {x1 : Int32} (h_x1 : zr (2) (3) x1) {x2 : Int32} (h_x2 : zr (0) (1) x2) {x3 : Int32} (h_x3 : zr (0) (65535) x3) : zok (fX12_moves_160 σ x1 x2 x3) (zAi (zIM G) (fun v : Int32 => zr (7) (16) v)) := by
  unfold fX12_moves_160
  refine zok_if (fun q1 => ?_) (fun q1 => ?_)
  · have h2 := zc_eql (3) (3) q1 h_x1 (zr_c (lo := 3) (hi := 3) (by decide)) (by decide)
    refine zok_if (fun q3 => ?_) (fun q3 => ?_)
    · have h4 := zc_eql (0) (0) q3 h_x2 (zr_c (lo := 0) (hi := 0) (by decide)) (by decide)
      refine zok_ck rfl ?_
      exact (s_X12_moves_201 hσ (zr_w h2 (by decide)) (zr_or (lo := 0) (hi := 65535) 16 (zr_shl (lo := 0) (hi := 65280) 8 (by decide) (rM_11 hσ.sg _ (by decide)) (by decide)) (zr_andr (lo := 0) (hi := 255) (zr_c (lo := 255) (hi := 255) (by decide)) (by decide)) (by decide)) (zr_c (lo := 20) (hi := 20) (by decide)))
    have h5 := zc_nel (1) (1) q3 h_x2 (zr_c (lo := 0) (hi := 0) (by decide)) (by decide)
    exact (s_X12_moves_195 hσ (zr_w h2 (by decide)) h_x3 (zr_c (lo := 20) (hi := 20) (by decide)))
  have h6 := zc_nel (2) (2) q1 h_x1 (zr_c (lo := 3) (hi := 3) (by decide)) (by decide)
  exact (s_X12_moves_195 hσ (zr_w h6 (by decide)) h_x3 (zr_c (lo := 20) (hi := 20) (by decide)))
theorem s_X12_moves_114 {G : Nat → Int} {σ : zSt} (hσ : zIM G σ) {x1 : Int32} (h_x1 : zr (2) (3) x1) {x2 : Int32} (h_x2 : zr (0) (1) x2) {x3 : Int32} (h_x3 : zr (0) (65535) x3) : zok (fX12_moves_114 σ x1 x2 x3) (zAi (zIM G) (fun v : Int32 => zr (7) (16) v)) := by
  unfold fX12_moves_114
  refine zok_if (fun q1 => ?_) (fun q1 => ?_)
  · have h2 := zc_eql (2) (2) q1 h_x1 (zr_c (lo := 2) (hi := 2) (by decide)) (by decide)
    refine zok_pi (s_X12_hl hσ.P) (fun v15 h3 => ?_)
    refine zok_bu (s_X12_wordTo hσ h_x3 h3) (fun σ16 i4 => ?_)
    exact (s_X12_moves_160 i4 (zr_w h2 (by decide)) h_x2 h_x3)
  have h5 := zc_nel (3) (3) q1 h_x1 (zr_c (lo := 2) (hi := 2) (by decide)) (by decide)
  refine zok_if (fun q6 => ?_) (fun q6 => ?_)
  · have h7 := zc_eql (0) (0) q6 h_x2 (zr_c (lo := 0) (hi := 0) (by decide)) (by decide)
    refine zok_ck rfl ?_
    refine zok_bu (s_X12_write hσ) (fun σ10 i8 => ?_)
    exact (s_X12_moves_160 i8 (zr_w h5 (by decide)) (zr_w h7 (by decide)) h_x3)
  have h9 := zc_nel (1) (1) q6 h_x2 (zr_c (lo := 0) (hi := 0) (by decide)) (by decide)
  refine zok_pi (s_X12_read hσ.P) (fun v12 h10 => ?_)
  refine zok_ck rfl ?_
  refine zok_bs (hσ.wi 0 0 (by decide) h10 (by decide +kernel)) (fun σ13 e12 i11 => ?_)
  exact (s_X12_moves_160 i11 (zr_w h5 (by decide)) (zr_w h9 (by decide)) h_x3)
theorem s_X12_moves {G : Nat → Int} {σ : zSt} (hσ : zIM G σ) {x1 : Int32} (h_x1 : zr (0) (3) x1) {x2 : Int32} (h_x2 : zr (0) (1) x2) : zok (fX12_moves σ x1 x2) (zAi (zIM G) (fun v : Int32 => zr (7) (16) v)) := by
  unfold fX12_moves
  refine zok_if (fun q1 => ?_) (fun q1 => ?_)
  · have h2 := zc_ler (2) q1 (zr_c (lo := 2) (hi := 2) (by decide)) h_x1 (by decide)
    refine zok_ai (s_X12_nextWord hσ) (fun σ17 v18 i3 h4 => ?_)
    refine zok_if (fun q5 => ?_) (fun q5 => ?_)
    · have h6 := zc_eql (2) (2) q5 h2 (zr_c (lo := 2) (hi := 2) (by decide)) (by decide)
      refine zok_if (fun q7 => ?_) (fun q7 => ?_)
      · have h8 := zc_eql (0) (0) q7 h_x2 (zr_c (lo := 0) (hi := 0) (by decide)) (by decide)
        exact (s_X12_moves_114 i3 (zr_w h6 (by decide)) (zr_w h8 (by decide)) h4)
      have h9 := zc_nel (1) (1) q7 h_x2 (zr_c (lo := 0) (hi := 0) (by decide)) (by decide)
      refine zok_pi (s_X12_word i3.P h4) (fun v20 h10 => ?_)
      refine zok_bu (s_X12_hlTo i3 (zr_w h10 (by decide))) (fun σ21 i11 => ?_)
      exact (s_X12_moves_160 i11 (zr_w h6 (by decide)) (zr_w h9 (by decide)) h4)
    have h12 := zc_nel (3) (3) q5 h2 (zr_c (lo := 2) (hi := 2) (by decide)) (by decide)
    exact (s_X12_moves_114 i3 (zr_w h12 (by decide)) h_x2 h4)
  have h13 := zc_ltl (1) (z_nle q1) h_x1 (zr_c (lo := 2) (hi := 2) (by decide)) (by decide)
  refine zok_if (fun q14 => ?_) (fun q14 => ?_)
  · have h15 := zc_eql (0) (0) q14 h13 (zr_c (lo := 0) (hi := 0) (by decide)) (by decide)
    exact (s_X12_moves_15 hσ h_x2 (zr_w (zr_c (lo := 2) (hi := 2) (by decide)) (by decide)))
  have h16 := zc_nel (1) (1) q14 h13 (zr_c (lo := 0) (hi := 0) (by decide)) (by decide)
  exact (s_X12_moves_15 hσ h_x2 (zr_w (zr_c (lo := 4) (hi := 4) (by decide)) (by decide)))
theorem s_X12_zero_154 {σ : zSt} (hσ : zPM σ) {s0 : Int32} (h_s0 : zr (7) (13) s0) : zok (fX12_zero_154 σ s0) (zPi σ (fun v : Int32 => zr (4) (16) v)) := by
  unfold fX12_zero_154
  exact zok_spi (zr_w h_s0 (by decide))
theorem s_X12_zero_122 {σ : zSt} (hσ : zPM σ) {x1 : Int32} (h_x1 : zr (2) (7) x1) {x5 : Int32} (h_x5 : zr (0) (1) x5) : zok (fX12_zero_122 σ x1 x5) (zPi σ (fun v : Int32 => zr (4) (16) v)) := by
  unfold fX12_zero_122
  refine zok_if (fun q1 => ?_) (fun q1 => ?_)
  · have h2 := zc_eql (2) (2) q1 h_x1 (zr_c (lo := 2) (hi := 2) (by decide)) (by decide)
    refine zok_if (fun q3 => ?_) (fun q3 => ?_)
    · have h4 := zc_eql (0) (0) q3 h_x5 (zr_c (lo := 0) (hi := 0) (by decide)) (by decide)
      exact (s_X12_zero_154 hσ (zr_w (zr_c (lo := 8) (hi := 8) (by decide)) (by decide)))
    have h5 := zc_nel (1) (1) q3 h_x5 (zr_c (lo := 0) (hi := 0) (by decide)) (by decide)
    exact (s_X12_zero_154 hσ (zr_w (zr_c (lo := 13) (hi := 13) (by decide)) (by decide)))
  have h6 := zc_nel (3) (7) q1 h_x1 (zr_c (lo := 2) (hi := 2) (by decide)) (by decide)
  refine zok_if (fun q7 => ?_) (fun q7 => ?_)
  · have h8 := zc_eql (0) (0) q7 h_x5 (zr_c (lo := 0) (hi := 0) (by decide)) (by decide)
    exact (s_X12_zero_154 hσ (zr_w (zr_c (lo := 7) (hi := 7) (by decide)) (by decide)))
  have h9 := zc_nel (1) (1) q7 h_x5 (zr_c (lo := 0) (hi := 0) (by decide)) (by decide)
  exact (s_X12_zero_154 hσ (zr_w (zr_c (lo := 12) (hi := 12) (by decide)) (by decide)))
theorem s_X12_zero_109 {G : Nat → Int} {σ : zSt} (hσ : zIM G σ) {x1 : Int32} (h_x1 : zr (2) (7) x1) {x4 : Int32} (h_x4 : zr (-128) (127) x4) {s0 : Int32} (h_s0 : zr (0) (1) s0) : zok (fX12_zero_109 σ x1 x4 s0) (zAi (zIM G) (fun v : Int32 => zr (4) (16) v)) := by
  unfold fX12_zero_109
  refine zok_if (fun q1 => ?_) (fun q1 => ?_)
  · have h2 := zc_eql (0) (0) q1 h_s0 (zr_c (lo := 0) (hi := 0) (by decide)) (by decide)
    exact zok_pai hσ (s_X12_zero_122 hσ.P h_x1 (zr_w h2 (by decide)))
  have h3 := zc_nel (1) (1) q1 h_s0 (zr_c (lo := 0) (hi := 0) (by decide)) (by decide)
  refine zok_bu (s_X12_jump hσ h_x4) (fun σ1 i4 => ?_)
  exact zok_pai i4 (s_X12_zero_122 i4.P h_x1 (zr_w h3 (by decide)))
theorem s_X12_zero_104 {G : Nat → Int} {σ : zSt} (hσ : zIM G σ) {x1 : Int32} (h_x1 : zr (3) (7) x1) {x4 : Int32} (h_x4 : zr (-128) (127) x4) : zok (fX12_zero_104 σ x1 x4) (zAi (zIM G) (fun v : Int32 => zr (4) (16) v)) := by
  unfold fX12_zero_104
  exact (s_X12_zero_109 hσ (zr_w h_x1 (by decide)) h_x4 (zr_w (zr_c (lo := 1) (hi := 1) (by decide)) (by decide)))
end ZJN0
section ZJN1
theorem s_X12_zero_67 {G : Nat → Int} {σ : zSt} (hσ : zIM G σ) {x1 : Int32} (h_x1 : zr (2) (7) x1) {x4 : Int32} (h_x4 : zr (-128) (127) x4) : zok (fX12_zero_67 σ x1 x4) (zAi (zIM G) (fun v : Int32 => zr (4) (16) v)) := by
  unfold fX12_zero_67
  refine zok_if (fun q1 => ?_) (fun q1 => ?_)
  · have h2 := zc_eql (2) (2) q1 h_x1 (zr_c (lo := 2) (hi := 2) (by decide)) (by decide)
    refine zok_ck rfl ?_
    refine zok_if (fun q3 => ?_) (fun q3 => ?_)
    · have h4 := zc_eql (0) (0) q3 (rM_11 hσ.sg _ (by decide)) (zr_c (lo := 0) (hi := 0) (by decide)) (by decide)
      exact (s_X12_zero_109 hσ (zr_w h2 (by decide)) h_x4 (zr_w (zr_c (lo := 0) (hi := 0) (by decide)) (by decide)))
    have h5 := zc_nel (1) (255) q3 (rM_11 hσ.sg _ (by decide)) (zr_c (lo := 0) (hi := 0) (by decide)) (by decide)
    exact (s_X12_zero_109 hσ (zr_w h2 (by decide)) h_x4 (zr_w (zr_c (lo := 1) (hi := 1) (by decide)) (by decide)))
  have h6 := zc_nel (3) (7) q1 h_x1 (zr_c (lo := 2) (hi := 2) (by decide)) (by decide)
  refine zok_if (fun q7 => ?_) (fun q7 => ?_)
  · have h8 := zc_eql (3) (3) q7 h6 (zr_c (lo := 3) (hi := 3) (by decide)) (by decide)
    exact (s_X12_zero_104 hσ (zr_w h8 (by decide)) h_x4)
  have h9 := zc_nel (4) (7) q7 h6 (zr_c (lo := 3) (hi := 3) (by decide)) (by decide)
  refine zok_pi (s_X12_cc hσ.P (zr_w (zr_sub (lo := 0) (hi := 3) h9 (zr_c (lo := 4) (hi := 4) (by decide)) (by decide)) (by decide))) (fun v3 h10 => ?_)
  refine zok_if (fun q11 => ?_) (fun q11 => ?_)
  · have h12 := zc_eql (0) (0) q11 h10 (zr_c (lo := 0) (hi := 0) (by decide)) (by decide)
    exact (s_X12_zero_109 hσ (zr_w h9 (by decide)) h_x4 (zr_w (zr_c (lo := 0) (hi := 0) (by decide)) (by decide)))
  have h13 := zc_nel (1) (1) q11 h10 (zr_c (lo := 0) (hi := 0) (by decide)) (by decide)
  exact (s_X12_zero_104 hσ (zr_w h9 (by decide)) h_x4)
theorem s_X12_zero_266 {G : Nat → Int} {σ : zSt} (hσ : zIM G σ) {x6 : Int32} (h_x6 : zr (0) (131070) x6) {s0 : Int32} (h_s0 : zr (0) (1) s0) {s1 : Int32} (h_s1 : zr (0) (0) s1) : zok (fX12_zero_266 σ x6 s0 s1) (zAi (zIM G) (fun v : Int32 => zr (4) (16) v)) := by
  unfold fX12_zero_266
  refine zok_bu (s_X12_put hσ (zr_w h_s1 (by decide)) h_s0) (fun σ4 i1 => ?_)
  refine zok_bu (s_X12_put i1 (zr_w (zr_c (lo := 1) (hi := 1) (by decide)) (by decide)) (zr_w (zr_c (lo := 0) (hi := 0) (by decide)) (by decide))) (fun σ5 i2 => ?_)
  refine zok_bu (s_X12_xy i2 (zr_w (zr_shr (lo := 0) (hi := 511) 8 (by decide) h_x6 (by decide)) (by decide))) (fun σ6 i3 => ?_)
  exact zok_sai i3 (zr_w (zr_c (lo := 11) (hi := 11) (by decide)) (by decide))
theorem s_X12_zero_249 {G : Nat → Int} {σ : zSt} (hσ : zIM G σ) {x6 : Int32} (h_x6 : zr (0) (131070) x6) {s0 : Int32} (h_s0 : zr (0) (1) s0) {s1 : Int32} (h_s1 : zr (4) (4) s1) : zok (fX12_zero_249 σ x6 s0 s1) (zAi (zIM G) (fun v : Int32 => zr (4) (16) v)) := by
  unfold fX12_zero_249
  refine zok_bu (s_X12_put hσ (zr_w h_s1 (by decide)) h_s0) (fun σ7 i1 => ?_)
  refine zok_if (fun q2 => ?_) (fun q2 => ?_)
  · have h3 := zc_lel (65535) q2 h_x6 (zr_c (lo := 65535) (hi := 65535) (by decide)) (by decide)
    exact (s_X12_zero_266 i1 (zr_w h3 (by decide)) (zr_w (zr_c (lo := 0) (hi := 0) (by decide)) (by decide)) (zr_c (lo := 0) (hi := 0) (by decide)))
  have h4 := zc_ltr (65536) (z_nle q2) (zr_c (lo := 65535) (hi := 65535) (by decide)) h_x6 (by decide)
  exact (s_X12_zero_266 i1 (zr_w h4 (by decide)) (zr_w (zr_c (lo := 1) (hi := 1) (by decide)) (by decide)) (zr_c (lo := 0) (hi := 0) (by decide)))
theorem s_X12_zero_306 {G : Nat → Int} {σ : zSt} (hσ : zIM G σ) {s0 : Int32} (h_s0 : zr (0) (1) s0) {s1 : Int32} (h_s1 : zr (0) (3) s1) : zok (fX12_zero_306 σ s0 s1) (zAi (zIM G) (fun v : Int32 => zr (4) (16) v)) := by
  unfold fX12_zero_306
  refine zok_ai (s_X12_moves hσ h_s1 h_s0) (fun σ8 v9 i1 h2 => ?_)
  exact zok_sai i1 (zr_w h2 (by decide))
theorem s_X12_zero_328 {G : Nat → Int} {σ : zSt} (hσ : zIM G σ) {s0 : Int32} (h_s0 : zr (-1) (1) s0) {s1 : Int32} (h_s1 : zr (0) (65535) s1) {s2 : Int32} (h_s2 : zr (0) (3) s2) : zok (fX12_zero_328 σ s0 s1 s2) (zAi (zIM G) (fun v : Int32 => zr (4) (16) v)) := by
  unfold fX12_zero_328
  refine zok_bu (s_X12_rpTo hσ h_s2 (zr_add (lo := -1) (hi := 65536) h_s1 h_s0 (by decide))) (fun σ10 i1 => ?_)
  exact zok_sai i1 (zr_w (zr_c (lo := 6) (hi := 6) (by decide)) (by decide))
theorem s_X12_zero_178 {G : Nat → Int} {σ : zSt} (hσ : zIM G σ) {x1 : Int32} (h_x1 : zr (0) (7) x1) {x2 : Int32} (h_x2 : zr (1) (3) x2) {x3 : Int32} (h_x3 : zr (0) (3) x3) : zok (fX12_zero_178 σ x1 x2 x3) (zAi (zIM G) (fun v : Int32 => zr (4) (16) v)) := by
  unfold fX12_zero_178
  refine zok_if (fun q1 => ?_) (fun q1 => ?_)
  · have h2 := zc_eql (1) (1) q1 h_x2 (zr_c (lo := 1) (hi := 1) (by decide)) (by decide)
    refine zok_pi (s_X12_hl hσ.P) (fun v14 h3 => ?_)
    refine zok_pi (s_X12_rp hσ.P h_x3) (fun v16 h4 => ?_)
    refine zok_ck rfl ?_
    refine zok_bs (hσ.wi 20 20 (by decide) (zr_andr (lo := 0) (hi := 65535) (zr_c (lo := 65535) (hi := 65535) (by decide)) (by decide)) (by decide +kernel)) (fun σ17 e6 i5 => ?_)
    refine zok_br (zr_add (lo := 0) (hi := 131070) h3 h4 (by decide)) (fun v18 e8 h7 => ?_)
    refine zok_bu (s_X12_hlTo i5 (zr_w h7 (by decide))) (fun σ19 i9 => ?_)
    refine zok_if (fun q10 => ?_) (fun q10 => ?_)
    · have h11 := zc_lel (4095) q10 (zr_add (lo := 0) (hi := 8190) (zr_andr (lo := 0) (hi := 4095) (zr_c (lo := 4095) (hi := 4095) (by decide)) (by decide)) (zr_andr (lo := 0) (hi := 4095) (zr_c (lo := 4095) (hi := 4095) (by decide)) (by decide)) (by decide)) (zr_c (lo := 4095) (hi := 4095) (by decide)) (by decide)
      exact (s_X12_zero_249 i9 h7 (zr_w (zr_c (lo := 0) (hi := 0) (by decide)) (by decide)) (zr_c (lo := 4) (hi := 4) (by decide)))
    have h12 := zc_ltr (4096) (z_nle q10) (zr_c (lo := 4095) (hi := 4095) (by decide)) (zr_add (lo := 0) (hi := 8190) (zr_andr (lo := 0) (hi := 4095) (zr_c (lo := 4095) (hi := 4095) (by decide)) (by decide)) (zr_andr (lo := 0) (hi := 4095) (zr_c (lo := 4095) (hi := 4095) (by decide)) (by decide)) (by decide)) (by decide)
    exact (s_X12_zero_249 i9 h7 (zr_w (zr_c (lo := 1) (hi := 1) (by decide)) (by decide)) (zr_c (lo := 4) (hi := 4) (by decide)))
  have h13 := zc_nel (2) (3) q1 h_x2 (zr_c (lo := 1) (hi := 1) (by decide)) (by decide)
  refine zok_if (fun q14 => ?_) (fun q14 => ?_)
  · have h15 := zc_eql (2) (2) q14 h13 (zr_c (lo := 2) (hi := 2) (by decide)) (by decide)
    refine zok_ck (by decide) ?_
    refine zok_if (fun q16 => ?_) (fun q16 => ?_)
    · have h17 := zc_eql (1) (1) q16 (zr_rem (lo := 0) (hi := 1) 2 (by decide) h_x1 (by decide)) (zr_c (lo := 1) (hi := 1) (by decide)) (by decide)
      have h18 := z_odd64 h_x1 h17 (by decide)
      exact (s_X12_zero_306 hσ (zr_w (zr_c (lo := 1) (hi := 1) (by decide)) (by decide)) h_x3)
    have h19 := zc_nel (0) (0) q16 (zr_rem (lo := 0) (hi := 1) 2 (by decide) h_x1 (by decide)) (zr_c (lo := 1) (hi := 1) (by decide)) (by decide)
    exact (s_X12_zero_306 hσ (zr_w (zr_c (lo := 0) (hi := 0) (by decide)) (by decide)) h_x3)
  have h20 := zc_nel (3) (3) q14 h13 (zr_c (lo := 2) (hi := 2) (by decide)) (by decide)
  refine zok_pi (s_X12_rp hσ.P h_x3) (fun v12 h21 => ?_)
  refine zok_ck (by decide) ?_
  refine zok_if (fun q22 => ?_) (fun q22 => ?_)
  · have h23 := zc_eql (0) (0) q22 (zr_rem (lo := 0) (hi := 1) 2 (by decide) h_x1 (by decide)) (zr_c (lo := 0) (hi := 0) (by decide)) (by decide)
    exact (s_X12_zero_328 hσ (zr_w (zr_c (lo := 1) (hi := 1) (by decide)) (by decide)) h21 h_x3)
  have h24 := zc_nel (1) (1) q22 (zr_rem (lo := 0) (hi := 1) 2 (by decide) h_x1 (by decide)) (zr_c (lo := 0) (hi := 0) (by decide)) (by decide)
  have h25 := z_odd64 h_x1 h24 (by decide)
  exact (s_X12_zero_328 hσ (zr_w (zr_c (lo := -1) (hi := -1) (by decide)) (by decide)) h21 h_x3)
theorem s_X12_zero {G : Nat → Int} {σ : zSt} (hσ : zIM G σ) {x1 : Int32} (h_x1 : zr (0) (7) x1) {x2 : Int32} (h_x2 : zr (0) (3) x2) : zok (fX12_zero σ x1 x2) (zAi (zIM G) (fun v : Int32 => zr (4) (16) v)) := by
  unfold fX12_zero
  refine zok_br (zr_shr (lo := 0) (hi := 3) 1 (by decide) h_x1 (by decide)) (fun v20 e2 h1 => ?_)
  refine zok_if (fun q3 => ?_) (fun q3 => ?_)
  · have h4 := zc_eql (0) (0) q3 h_x2 (zr_c (lo := 0) (hi := 0) (by decide)) (by decide)
    refine zok_if (fun q5 => ?_) (fun q5 => ?_)
    · have h6 := zc_eql (0) (0) q5 h_x1 (zr_c (lo := 0) (hi := 0) (by decide)) (by decide)
      exact zok_sai hσ (zr_w (zr_c (lo := 4) (hi := 4) (by decide)) (by decide))
    have h7 := zc_nel (1) (7) q5 h_x1 (zr_c (lo := 0) (hi := 0) (by decide)) (by decide)
    refine zok_if (fun q8 => ?_) (fun q8 => ?_)
    · have h9 := zc_eql (1) (1) q8 h7 (zr_c (lo := 1) (hi := 1) (by decide)) (by decide)
      refine zok_bu (s_X12_change hσ (zr_w (zr_c (lo := 0) (hi := 0) (by decide)) (by decide)) (zr_w (zr_c (lo := 8) (hi := 8) (by decide)) (by decide))) (fun σ29 i10 => ?_)
      refine zok_bu (s_X12_change i10 (zr_w (zr_c (lo := 1) (hi := 1) (by decide)) (by decide)) (zr_w (zr_c (lo := 9) (hi := 9) (by decide)) (by decide))) (fun σ30 i11 => ?_)
      exact zok_sai i11 (zr_w (zr_c (lo := 4) (hi := 4) (by decide)) (by decide))
    have h12 := zc_nel (2) (7) q8 h7 (zr_c (lo := 1) (hi := 1) (by decide)) (by decide)
    refine zok_ai (s_X12_next hσ) (fun σ24 v25 i13 h14 => ?_)
    refine zok_pi (s_X12_signed i13.P h14) (fun v27 h15 => ?_)
    refine zok_if (fun q16 => ?_) (fun q16 => ?_)
    · have h17 := zc_eql (2) (2) q16 h12 (zr_c (lo := 2) (hi := 2) (by decide)) (by decide)
      refine zok_ck rfl ?_
      refine zok_ck rfl ?_
      refine zok_bs (i13.wi 2 2 (by decide) (zr_andr (lo := 0) (hi := 255) (zr_c (lo := 255) (hi := 255) (by decide)) (by decide)) (by decide +kernel)) (fun σ28 e19 i18 => ?_)
      exact (s_X12_zero_67 i18 (zr_w h17 (by decide)) h15)
    have h20 := zc_nel (3) (7) q16 h12 (zr_c (lo := 2) (hi := 2) (by decide)) (by decide)
    exact (s_X12_zero_67 i13 (zr_w h20 (by decide)) h15)
  have h21 := zc_nel (1) (3) q3 h_x2 (zr_c (lo := 0) (hi := 0) (by decide)) (by decide)
  refine zok_if (fun q22 => ?_) (fun q22 => ?_)
  · have h23 := zc_eql (1) (1) q22 h21 (zr_c (lo := 1) (hi := 1) (by decide)) (by decide)
    refine zok_ck (by decide) ?_
    refine zok_if (fun q24 => ?_) (fun q24 => ?_)
    · have h25 := zc_eql (0) (0) q24 (zr_rem (lo := 0) (hi := 1) 2 (by decide) h_x1 (by decide)) (zr_c (lo := 0) (hi := 0) (by decide)) (by decide)
      refine zok_ai (s_X12_nextWord hσ) (fun σ21 v22 i26 h27 => ?_)
      refine zok_bu (s_X12_rpTo i26 h1 (zr_w h27 (by decide))) (fun σ23 i28 => ?_)
      exact zok_sai i28 (zr_w (zr_c (lo := 10) (hi := 10) (by decide)) (by decide))
    have h29 := zc_nel (1) (1) q24 (zr_rem (lo := 0) (hi := 1) 2 (by decide) h_x1 (by decide)) (zr_c (lo := 0) (hi := 0) (by decide)) (by decide)
    have h30 := z_odd64 h_x1 h29 (by decide)
    exact (s_X12_zero_178 hσ h_x1 (zr_w h23 (by decide)) h1)
  have h31 := zc_nel (2) (3) q22 h21 (zr_c (lo := 1) (hi := 1) (by decide)) (by decide)
  exact (s_X12_zero_178 hσ h_x1 (zr_w h31 (by decide)) h1)
theorem s_X12_adjusts_130 {G : Nat → Int} {σ : zSt} (hσ : zIM G σ) {s0 : Int32} (h_s0 : zr (-102) (357) s0) {s1 : Int32} (h_s1 : zr (0) (0) s1) : zok (fX12_adjusts_130 σ s0 s1) (zIM G) := by
  unfold fX12_adjusts_130
  refine zok_ck (zin_ok h_s1 (by decide)) ?_
  refine zok_bs (hσ.wi 0 0 (z_ix h_s1 (by decide)) (zr_andr (lo := 0) (hi := 255) (zr_c (lo := 255) (hi := 255) (by decide)) (by decide)) (by decide +kernel)) (fun σ1 e2 i1 => ?_)
  refine zok_ck rfl ?_
  refine zok_bu (s_X12_by i1 (rM_11 i1.sg _ (by decide))) (fun σ2 i3 => ?_)
  refine zok_ck rfl ?_
  refine zok_pi (s_X12_isEven i3.P (rM_11 i3.sg _ (by decide))) (fun v4 h4 => ?_)
  refine zok_bu (s_X12_put i3 (zr_w (zr_c (lo := 2) (hi := 2) (by decide)) (by decide)) h4) (fun σ5 i5 => ?_)
  exact zok_some i5
theorem s_X12_adjusts_105 {G : Nat → Int} {σ : zSt} (hσ : zIM G σ) {x1 : Int32} (h_x1 : zr (0) (255) x1) {x2 : Int32} (h_x2 : zr (0) (102) x2) {s0 : Int32} (h_s0 : zr (0) (1) s0) {s1 : Int32} (h_s1 : zr (4) (4) s1) : zok (fX12_adjusts_105 σ x1 x2 s0 s1) (zIM G) := by
  unfold fX12_adjusts_105
  refine zok_bu (s_X12_put hσ (zr_w h_s1 (by decide)) h_s0) (fun σ6 i1 => ?_)
  refine zok_pi (s_X12_flag i1.P (zr_w (zr_c (lo := 1) (hi := 1) (by decide)) (by decide))) (fun v8 h2 => ?_)
  refine zok_if (fun q3 => ?_) (fun q3 => ?_)
  · have h4 := zc_eql (0) (0) q3 h2 (zr_c (lo := 0) (hi := 0) (by decide)) (by decide)
    exact (s_X12_adjusts_130 i1 (zr_w (zr_add (lo := 0) (hi := 357) h_x1 h_x2 (by decide)) (by decide)) (zr_c (lo := 0) (hi := 0) (by decide)))
  have h5 := zc_nel (1) (1) q3 h2 (zr_c (lo := 0) (hi := 0) (by decide)) (by decide)
  exact (s_X12_adjusts_130 i1 (zr_w (zr_sub (lo := -102) (hi := 255) h_x1 h_x2 (by decide)) (by decide)) (zr_c (lo := 0) (hi := 0) (by decide)))
theorem s_X12_adjusts_104 {G : Nat → Int} {σ : zSt} (hσ : zIM G σ) {x1 : Int32} (h_x1 : zr (0) (255) x1) {x2 : Int32} (h_x2 : zr (0) (102) x2) {s0 : Int32} (h_s0 : zr (4) (4) s0) : zok (fX12_adjusts_104 σ x1 x2 s0) (zIM G) := by
  unfold fX12_adjusts_104
  exact (s_X12_adjusts_105 hσ h_x1 h_x2 (zr_w (zr_c (lo := 0) (hi := 0) (by decide)) (by decide)) h_s0)
theorem s_X12_adjusts_55 {G : Nat → Int} {σ : zSt} (hσ : zIM G σ) {x1 : Int32} (h_x1 : zr (0) (255) x1) {x2 : Int32} (h_x2 : zr (0) (102) x2) : zok (fX12_adjusts_55 σ x1 x2) (zIM G) := by
  unfold fX12_adjusts_55
  refine zok_pi (s_X12_flag hσ.P (zr_w (zr_c (lo := 1) (hi := 1) (by decide)) (by decide))) (fun v10 h1 => ?_)
  refine zok_if (fun q2 => ?_) (fun q2 => ?_)
  · have h3 := zc_eql (0) (0) q2 h1 (zr_c (lo := 0) (hi := 0) (by decide)) (by decide)
    refine zok_if (fun q4 => ?_) (fun q4 => ?_)
    · have h5 := zc_lel (9) q4 (zr_andr (lo := 0) (hi := 15) (zr_c (lo := 15) (hi := 15) (by decide)) (by decide)) (zr_c (lo := 9) (hi := 9) (by decide)) (by decide)
      exact (s_X12_adjusts_105 hσ h_x1 h_x2 (zr_w (zr_c (lo := 0) (hi := 0) (by decide)) (by decide)) (zr_c (lo := 4) (hi := 4) (by decide)))
    have h6 := zc_ltr (10) (z_nle q4) (zr_c (lo := 9) (hi := 9) (by decide)) (zr_andr (lo := 0) (hi := 15) (zr_c (lo := 15) (hi := 15) (by decide)) (by decide)) (by decide)
    exact (s_X12_adjusts_105 hσ h_x1 h_x2 (zr_w (zr_c (lo := 1) (hi := 1) (by decide)) (by decide)) (zr_c (lo := 4) (hi := 4) (by decide)))
  have h7 := zc_nel (1) (1) q2 h1 (zr_c (lo := 0) (hi := 0) (by decide)) (by decide)
  refine zok_pi (s_X12_flag hσ.P (zr_w (zr_c (lo := 4) (hi := 4) (by decide)) (by decide))) (fun v12 h8 => ?_)
  refine zok_if (fun q9 => ?_) (fun q9 => ?_)
  · have h10 := zc_eql (1) (1) q9 h8 (zr_c (lo := 1) (hi := 1) (by decide)) (by decide)
    refine zok_if (fun q11 => ?_) (fun q11 => ?_)
    · have h12 := zc_ler (6) q11 (zr_c (lo := 6) (hi := 6) (by decide)) (zr_andr (lo := 0) (hi := 15) (zr_c (lo := 15) (hi := 15) (by decide)) (by decide)) (by decide)
      exact (s_X12_adjusts_104 hσ h_x1 h_x2 (zr_c (lo := 4) (hi := 4) (by decide)))
    have h13 := zc_ltl (5) (z_nle q11) (zr_andr (lo := 0) (hi := 15) (zr_c (lo := 15) (hi := 15) (by decide)) (by decide)) (zr_c (lo := 6) (hi := 6) (by decide)) (by decide)
    exact (s_X12_adjusts_105 hσ h_x1 h_x2 (zr_w (zr_c (lo := 1) (hi := 1) (by decide)) (by decide)) (zr_c (lo := 4) (hi := 4) (by decide)))
  have h14 := zc_nel (0) (0) q9 h8 (zr_c (lo := 1) (hi := 1) (by decide)) (by decide)
  exact (s_X12_adjusts_104 hσ h_x1 h_x2 (zr_c (lo := 4) (hi := 4) (by decide)))
theorem s_X12_adjusts_46 {G : Nat → Int} {σ : zSt} (hσ : zIM G σ) {x1 : Int32} (h_x1 : zr (0) (255) x1) {x2 : Int32} (h_x2 : zr (0) (6) x2) : zok (fX12_adjusts_46 σ x1 x2) (zIM G) := by
  unfold fX12_adjusts_46
  refine zok_br (zr_add (lo := 96) (hi := 102) h_x2 (zr_c (lo := 96) (hi := 96) (by decide)) (by decide)) (fun v13 e2 h1 => ?_)
  refine zok_bu (s_X12_put hσ (zr_w (zr_c (lo := 0) (hi := 0) (by decide)) (by decide)) (zr_w (zr_c (lo := 1) (hi := 1) (by decide)) (by decide))) (fun σ14 i3 => ?_)
  exact (s_X12_adjusts_55 i3 h_x1 (zr_w h1 (by decide)))
theorem s_X12_adjusts_30 {G : Nat → Int} {σ : zSt} (hσ : zIM G σ) {x1 : Int32} (h_x1 : zr (0) (255) x1) {x2 : Int32} (h_x2 : zr (0) (6) x2) : zok (fX12_adjusts_30 σ x1 x2) (zIM G) := by
  unfold fX12_adjusts_30
  refine zok_if (fun q1 => ?_) (fun q1 => ?_)
  · have h2 := zc_ltr (154) q1 (zr_c (lo := 153) (hi := 153) (by decide)) h_x1 (by decide)
    exact (s_X12_adjusts_46 hσ (zr_w h2 (by decide)) h_x2)
  have h3 := zc_lel (153) (z_nlt q1) h_x1 (zr_c (lo := 153) (hi := 153) (by decide)) (by decide)
  refine zok_pi (s_X12_flag hσ.P (zr_w (zr_c (lo := 0) (hi := 0) (by decide)) (by decide))) (fun v16 h4 => ?_)
  refine zok_if (fun q5 => ?_) (fun q5 => ?_)
  · have h6 := zc_eql (1) (1) q5 h4 (zr_c (lo := 1) (hi := 1) (by decide)) (by decide)
    exact (s_X12_adjusts_46 hσ (zr_w h3 (by decide)) h_x2)
  have h7 := zc_nel (0) (0) q5 h4 (zr_c (lo := 1) (hi := 1) (by decide)) (by decide)
  exact (s_X12_adjusts_55 hσ (zr_w h3 (by decide)) (zr_w h_x2 (by decide)))
theorem s_X12_adjusts_27 {G : Nat → Int} {σ : zSt} (hσ : zIM G σ) {x1 : Int32} (h_x1 : zr (0) (255) x1) {x2 : Int32} (h_x2 : zr (0) (0) x2) : zok (fX12_adjusts_27 σ x1 x2) (zIM G) := by
  unfold fX12_adjusts_27
  refine zok_br (zr_add (lo := 6) (hi := 6) h_x2 (zr_c (lo := 6) (hi := 6) (by decide)) (by decide)) (fun v17 e2 h1 => ?_)
  exact (s_X12_adjusts_30 hσ h_x1 (zr_w h1 (by decide)))
theorem s_X12_adjusts {G : Nat → Int} {σ : zSt} (hσ : zIM G σ) : zok (fX12_adjusts σ ) (zIM G) := by
  unfold fX12_adjusts
  refine zok_ck rfl ?_
  refine zok_br (rM_11 hσ.sg _ (by decide)) (fun v18 e2 h1 => ?_)
  refine zok_if (fun q3 => ?_) (fun q3 => ?_)
  · have h4 := zc_ltr (10) q3 (zr_c (lo := 9) (hi := 9) (by decide)) (zr_andr (lo := 0) (hi := 15) (zr_c (lo := 15) (hi := 15) (by decide)) (by decide)) (by decide)
    exact (s_X12_adjusts_27 hσ h1 (zr_c (lo := 0) (hi := 0) (by decide)))
  have h5 := zc_lel (9) (z_nlt q3) (zr_andr (lo := 0) (hi := 15) (zr_c (lo := 15) (hi := 15) (by decide)) (by decide)) (zr_c (lo := 9) (hi := 9) (by decide)) (by decide)
  refine zok_pi (s_X12_flag hσ.P (zr_w (zr_c (lo := 4) (hi := 4) (by decide)) (by decide))) (fun v20 h6 => ?_)
  refine zok_if (fun q7 => ?_) (fun q7 => ?_)
  · have h8 := zc_eql (1) (1) q7 h6 (zr_c (lo := 1) (hi := 1) (by decide)) (by decide)
    exact (s_X12_adjusts_27 hσ h1 (zr_c (lo := 0) (hi := 0) (by decide)))
  have h9 := zc_nel (0) (0) q7 h6 (zr_c (lo := 1) (hi := 1) (by decide)) (by decide)
  exact (s_X12_adjusts_30 hσ h1 (zr_w (zr_c (lo := 0) (hi := 0) (by decide)) (by decide)))
theorem s_X12_singles_28 {σ : zSt} (hσ : zPM σ) {s0 : Int32} (h_s0 : zr (7) (10) s0) : zok (fX12_singles_28 σ s0) (zPi σ (fun v : Int32 => zr (4) (11) v)) := by
  unfold fX12_singles_28
  exact zok_spi (zr_w h_s0 (by decide))
theorem s_X12_singles_149 {σ : zSt} (hσ : zPM σ) {s0 : Int32} (h_s0 : zr (4) (11) s0) : zok (fX12_singles_149 σ s0) (zPi σ (fun v : Int32 => zr (4) (11) v)) := by
  unfold fX12_singles_149
  exact zok_spi h_s0
theorem s_X12_singles_134 {G : Nat → Int} {σ : zSt} (hσ : zIM G σ) {x1 : Int32} (h_x1 : zr (0) (7) x1) {s0 : Int32} (h_s0 : zr (0) (1) s0) {s1 : Int32} (h_s1 : zr (1) (1) s1) : zok (fX12_singles_134 σ x1 s0 s1) (zAi (zIM G) (fun v : Int32 => zr (4) (11) v)) := by
  unfold fX12_singles_134
  refine zok_bu (s_X12_put hσ (zr_w h_s1 (by decide)) h_s0) (fun σ1 i1 => ?_)
  refine zok_if (fun q2 => ?_) (fun q2 => ?_)
  · have h3 := zc_eql (6) (6) q2 h_x1 (zr_c (lo := 6) (hi := 6) (by decide)) (by decide)
    exact zok_pai i1 (s_X12_singles_149 i1.P (zr_w (zr_c (lo := 11) (hi := 11) (by decide)) (by decide)))
  exact zok_pai i1 (s_X12_singles_149 i1.P (zr_w (zr_c (lo := 4) (hi := 4) (by decide)) (by decide)))
theorem s_X12_singles_119 {G : Nat → Int} {σ : zSt} (hσ : zIM G σ) {x1 : Int32} (h_x1 : zr (0) (7) x1) {x2 : Int32} (h_x2 : zr (4) (5) x2) {s0 : Int32} (h_s0 : zr (0) (1) s0) {s1 : Int32} (h_s1 : zr (2) (2) s1) : zok (fX12_singles_119 σ x1 x2 s0 s1) (zAi (zIM G) (fun v : Int32 => zr (4) (11) v)) := by
  unfold fX12_singles_119
  refine zok_bu (s_X12_put hσ (zr_w h_s1 (by decide)) h_s0) (fun σ2 i1 => ?_)
  refine zok_if (fun q2 => ?_) (fun q2 => ?_)
  · have h3 := zc_eql (5) (5) q2 h_x2 (zr_c (lo := 5) (hi := 5) (by decide)) (by decide)
    exact (s_X12_singles_134 i1 h_x1 (zr_w (zr_c (lo := 1) (hi := 1) (by decide)) (by decide)) (zr_c (lo := 1) (hi := 1) (by decide)))
  have h4 := zc_nel (4) (4) q2 h_x2 (zr_c (lo := 5) (hi := 5) (by decide)) (by decide)
  exact (s_X12_singles_134 i1 h_x1 (zr_w (zr_c (lo := 0) (hi := 0) (by decide)) (by decide)) (zr_c (lo := 1) (hi := 1) (by decide)))
theorem s_X12_singles_111 {G : Nat → Int} {σ : zSt} (hσ : zIM G σ) {x1 : Int32} (h_x1 : zr (0) (7) x1) {x2 : Int32} (h_x2 : zr (4) (5) x2) {s0 : Int32} (h_s0 : zr (127) (128) s0) {s1 : Int32} (h_s1 : zr (0) (255) s1) {s2 : Int32} (h_s2 : zr (2) (2) s2) : zok (fX12_singles_111 σ x1 x2 s0 s1 s2) (zAi (zIM G) (fun v : Int32 => zr (4) (11) v)) := by
  unfold fX12_singles_111
  refine zok_if (fun q1 => ?_) (fun q1 => ?_)
  · have h2 := zc_eql (127) (128) q1 h_s1 h_s0 (by decide)
    exact (s_X12_singles_119 hσ h_x1 h_x2 (zr_w (zr_c (lo := 1) (hi := 1) (by decide)) (by decide)) h_s2)
  exact (s_X12_singles_119 hσ h_x1 h_x2 (zr_w (zr_c (lo := 0) (hi := 0) (by decide)) (by decide)) h_s2)
theorem s_X12_singles_92 {G : Nat → Int} {σ : zSt} (hσ : zIM G σ) {x1 : Int32} (h_x1 : zr (0) (7) x1) {x2 : Int32} (h_x2 : zr (4) (5) x2) {x3 : Int32} (h_x3 : zr (0) (255) x3) {s0 : Int32} (h_s0 : zr (0) (1) s0) {s1 : Int32} (h_s1 : zr (4) (4) s1) : zok (fX12_singles_92 σ x1 x2 x3 s0 s1) (zAi (zIM G) (fun v : Int32 => zr (4) (11) v)) := by
  unfold fX12_singles_92
  refine zok_bu (s_X12_put hσ (zr_w h_s1 (by decide)) h_s0) (fun σ3 i1 => ?_)
  refine zok_if (fun q2 => ?_) (fun q2 => ?_)
  · have h3 := zc_eql (4) (4) q2 h_x2 (zr_c (lo := 4) (hi := 4) (by decide)) (by decide)
    exact (s_X12_singles_111 i1 h_x1 (zr_w h3 (by decide)) (zr_w (zr_c (lo := 128) (hi := 128) (by decide)) (by decide)) h_x3 (zr_c (lo := 2) (hi := 2) (by decide)))
  have h4 := zc_nel (5) (5) q2 h_x2 (zr_c (lo := 4) (hi := 4) (by decide)) (by decide)
  exact (s_X12_singles_111 i1 h_x1 (zr_w h4 (by decide)) (zr_w (zr_c (lo := 127) (hi := 127) (by decide)) (by decide)) h_x3 (zr_c (lo := 2) (hi := 2) (by decide)))
theorem s_X12_singles_84 {G : Nat → Int} {σ : zSt} (hσ : zIM G σ) {x1 : Int32} (h_x1 : zr (0) (7) x1) {x2 : Int32} (h_x2 : zr (4) (5) x2) {x3 : Int32} (h_x3 : zr (0) (255) x3) {s0 : Int32} (h_s0 : zr (0) (15) s0) {s1 : Int32} (h_s1 : zr (0) (15) s1) {s2 : Int32} (h_s2 : zr (4) (4) s2) : zok (fX12_singles_84 σ x1 x2 x3 s0 s1 s2) (zAi (zIM G) (fun v : Int32 => zr (4) (11) v)) := by
  unfold fX12_singles_84
  refine zok_if (fun q1 => ?_) (fun q1 => ?_)
  · exact (s_X12_singles_92 hσ h_x1 h_x2 h_x3 (zr_w (zr_c (lo := 1) (hi := 1) (by decide)) (by decide)) h_s2)
  exact (s_X12_singles_92 hσ h_x1 h_x2 h_x3 (zr_w (zr_c (lo := 0) (hi := 0) (by decide)) (by decide)) h_s2)
theorem s_X12_singles_50 {G : Nat → Int} {σ : zSt} (hσ : zIM G σ) {x1 : Int32} (h_x1 : zr (0) (7) x1) {x2 : Int32} (h_x2 : zr (4) (5) x2) {s0 : Int32} (h_s0 : zr (-1) (1) s0) {s1 : Int32} (h_s1 : zr (0) (255) s1) : zok (fX12_singles_50 σ x1 x2 s0 s1) (zAi (zIM G) (fun v : Int32 => zr (4) (11) v)) := by
  unfold fX12_singles_50
  refine zok_br (zr_andr (lo := 0) (hi := 255) (zr_c (lo := 255) (hi := 255) (by decide)) (by decide)) (fun v4 e2 h1 => ?_)
  refine zok_bu (s_X12_rTo hσ h_x1) (fun σ5 i3 => ?_)
  refine zok_bu (s_X12_by i3 h1) (fun σ6 i4 => ?_)
  refine zok_if (fun q5 => ?_) (fun q5 => ?_)
  · have h6 := zc_eql (4) (4) q5 h_x2 (zr_c (lo := 4) (hi := 4) (by decide)) (by decide)
    exact (s_X12_singles_84 i4 h_x1 (zr_w h6 (by decide)) h1 (zr_w (zr_c (lo := 0) (hi := 0) (by decide)) (by decide)) (zr_andr (lo := 0) (hi := 15) (zr_c (lo := 15) (hi := 15) (by decide)) (by decide)) (zr_c (lo := 4) (hi := 4) (by decide)))
  have h7 := zc_nel (5) (5) q5 h_x2 (zr_c (lo := 4) (hi := 4) (by decide)) (by decide)
  exact (s_X12_singles_84 i4 h_x1 (zr_w h7 (by decide)) h1 (zr_w (zr_c (lo := 15) (hi := 15) (by decide)) (by decide)) (zr_andr (lo := 0) (hi := 15) (zr_c (lo := 15) (hi := 15) (by decide)) (by decide)) (zr_c (lo := 4) (hi := 4) (by decide)))
theorem s_X12_singles_316 {σ : zSt} (hσ : zPM σ) : zok (fX12_singles_316 σ ) (zPi σ (fun v : Int32 => zr (4) (11) v)) := by
  unfold fX12_singles_316
  exact zok_spi (zr_w (zr_c (lo := 4) (hi := 4) (by decide)) (by decide))
theorem s_X12_singles_297 {G : Nat → Int} {σ : zSt} (hσ : zIM G σ) {s0 : Int32} (h_s0 : zr (0) (1) s0) {s1 : Int32} (h_s1 : zr (0) (0) s1) : zok (fX12_singles_297 σ s0 s1) (zAi (zIM G) (fun v : Int32 => zr (4) (11) v)) := by
  unfold fX12_singles_297
  refine zok_bu (s_X12_put hσ (zr_w h_s1 (by decide)) h_s0) (fun σ7 i1 => ?_)
  refine zok_bu (s_X12_put i1 (zr_w (zr_c (lo := 1) (hi := 1) (by decide)) (by decide)) (zr_w (zr_c (lo := 0) (hi := 0) (by decide)) (by decide))) (fun σ8 i2 => ?_)
  refine zok_ck rfl ?_
  refine zok_bu (s_X12_xy i2 (zr_w (rM_11 i2.sg _ (by decide)) (by decide))) (fun σ9 i3 => ?_)
  exact zok_pai i3 (s_X12_singles_316 i3.P)
theorem s_X12_singles_292 {G : Nat → Int} {σ : zSt} (hσ : zIM G σ) {s0 : Int32} (h_s0 : zr (0) (0) s0) : zok (fX12_singles_292 σ s0) (zAi (zIM G) (fun v : Int32 => zr (4) (11) v)) := by
  unfold fX12_singles_292
  exact (s_X12_singles_297 hσ (zr_w (zr_c (lo := 1) (hi := 1) (by decide)) (by decide)) h_s0)
theorem s_X12_singles_273 {G : Nat → Int} {σ : zSt} (hσ : zIM G σ) {x1 : Int32} (h_x1 : zr (6) (7) x1) {s0 : Int32} (h_s0 : zr (0) (1) s0) {s1 : Int32} (h_s1 : zr (4) (4) s1) : zok (fX12_singles_273 σ x1 s0 s1) (zAi (zIM G) (fun v : Int32 => zr (4) (11) v)) := by
  unfold fX12_singles_273
  refine zok_bu (s_X12_put hσ (zr_w h_s1 (by decide)) h_s0) (fun σ10 i1 => ?_)
  refine zok_if (fun q2 => ?_) (fun q2 => ?_)
  · have h3 := zc_eql (6) (6) q2 h_x1 (zr_c (lo := 6) (hi := 6) (by decide)) (by decide)
    exact (s_X12_singles_292 i1 (zr_c (lo := 0) (hi := 0) (by decide)))
  have h4 := zc_nel (7) (7) q2 h_x1 (zr_c (lo := 6) (hi := 6) (by decide)) (by decide)
  refine zok_pi (s_X12_flag i1.P (zr_w (zr_c (lo := 0) (hi := 0) (by decide)) (by decide))) (fun v12 h5 => ?_)
  refine zok_if (fun q6 => ?_) (fun q6 => ?_)
  · have h7 := zc_eql (0) (0) q6 h5 (zr_c (lo := 0) (hi := 0) (by decide)) (by decide)
    exact (s_X12_singles_292 i1 (zr_c (lo := 0) (hi := 0) (by decide)))
  have h8 := zc_nel (1) (1) q6 h5 (zr_c (lo := 0) (hi := 0) (by decide)) (by decide)
  exact (s_X12_singles_297 i1 (zr_w (zr_c (lo := 0) (hi := 0) (by decide)) (by decide)) (zr_c (lo := 0) (hi := 0) (by decide)))
theorem s_X12_singles_272 {G : Nat → Int} {σ : zSt} (hσ : zIM G σ) {x1 : Int32} (h_x1 : zr (6) (7) x1) {s0 : Int32} (h_s0 : zr (4) (4) s0) : zok (fX12_singles_272 σ x1 s0) (zAi (zIM G) (fun v : Int32 => zr (4) (11) v)) := by
  unfold fX12_singles_272
  exact (s_X12_singles_273 hσ h_x1 (zr_w (zr_c (lo := 0) (hi := 0) (by decide)) (by decide)) h_s0)
theorem s_X12_singles {G : Nat → Int} {σ : zSt} (hσ : zIM G σ) {x1 : Int32} (h_x1 : zr (0) (7) x1) {x2 : Int32} (h_x2 : zr (4) (7) x2) : zok (fX12_singles σ x1 x2) (zAi (zIM G) (fun v : Int32 => zr (4) (11) v)) := by
  unfold fX12_singles
  refine zok_if (fun q1 => ?_) (fun q1 => ?_)
  · have h2 := zc_eql (6) (6) q1 h_x2 (zr_c (lo := 6) (hi := 6) (by decide)) (by decide)
    refine zok_ai (s_X12_next hσ) (fun σ28 v29 i3 h4 => ?_)
    refine zok_bu (s_X12_rTo i3 h_x1) (fun σ30 i5 => ?_)
    refine zok_if (fun q6 => ?_) (fun q6 => ?_)
    · have h7 := zc_eql (6) (6) q6 h_x1 (zr_c (lo := 6) (hi := 6) (by decide)) (by decide)
      exact zok_pai i5 (s_X12_singles_28 i5.P (zr_w (zr_c (lo := 10) (hi := 10) (by decide)) (by decide)))
    exact zok_pai i5 (s_X12_singles_28 i5.P (zr_w (zr_c (lo := 7) (hi := 7) (by decide)) (by decide)))
  refine zok_if (fun q8 => ?_) (fun q8 => ?_)
  · have h9 := zc_ler (6) q8 (zr_c (lo := 6) (hi := 6) (by decide)) h_x2 (by decide)
    refine zok_if (fun q10 => ?_) (fun q10 => ?_)
    · have h11 := zc_ler (4) q10 (zr_c (lo := 4) (hi := 4) (by decide)) h_x1 (by decide)
      refine zok_if (fun q12 => ?_) (fun q12 => ?_)
      · have h13 := zc_eql (4) (4) q12 h11 (zr_c (lo := 4) (hi := 4) (by decide)) (by decide)
        refine zok_bu (s_X12_adjusts hσ) (fun σ19 i14 => ?_)
        exact zok_pai i14 (s_X12_singles_316 i14.P)
      have h15 := zc_nel (5) (7) q12 h11 (zr_c (lo := 4) (hi := 4) (by decide)) (by decide)
      refine zok_if (fun q16 => ?_) (fun q16 => ?_)
      · have h17 := zc_eql (5) (5) q16 h15 (zr_c (lo := 5) (hi := 5) (by decide)) (by decide)
        refine zok_ck rfl ?_
        refine zok_ck rfl ?_
        refine zok_bs (hσ.wi 0 0 (by decide) (zr_xor (lo := 0) (hi := 255) 8 (rM_11 hσ.sg _ (by decide)) (zr_c (lo := 255) (hi := 255) (by decide)) (by decide)) (by decide +kernel)) (fun σ15 e19 i18 => ?_)
        refine zok_bu (s_X12_put i18 (zr_w (zr_c (lo := 4) (hi := 4) (by decide)) (by decide)) (zr_w (zr_c (lo := 1) (hi := 1) (by decide)) (by decide))) (fun σ16 i20 => ?_)
        refine zok_bu (s_X12_put i20 (zr_w (zr_c (lo := 1) (hi := 1) (by decide)) (by decide)) (zr_w (zr_c (lo := 1) (hi := 1) (by decide)) (by decide))) (fun σ17 i21 => ?_)
        refine zok_ck rfl ?_
        refine zok_bu (s_X12_xy i21 (zr_w (rM_11 i21.sg _ (by decide)) (by decide))) (fun σ18 i22 => ?_)
        exact zok_pai i22 (s_X12_singles_316 i22.P)
      have h23 := zc_nel (6) (7) q16 h15 (zr_c (lo := 5) (hi := 5) (by decide)) (by decide)
      refine zok_if (fun q24 => ?_) (fun q24 => ?_)
      · have h25 := zc_eql (7) (7) q24 h23 (zr_c (lo := 7) (hi := 7) (by decide)) (by decide)
        refine zok_pi (s_X12_flag hσ.P (zr_w (zr_c (lo := 0) (hi := 0) (by decide)) (by decide))) (fun v14 h26 => ?_)
        refine zok_if (fun q27 => ?_) (fun q27 => ?_)
        · have h28 := zc_eql (1) (1) q27 h26 (zr_c (lo := 1) (hi := 1) (by decide)) (by decide)
          exact (s_X12_singles_273 hσ (zr_w h25 (by decide)) (zr_w (zr_c (lo := 1) (hi := 1) (by decide)) (by decide)) (zr_c (lo := 4) (hi := 4) (by decide)))
        have h29 := zc_nel (0) (0) q27 h26 (zr_c (lo := 1) (hi := 1) (by decide)) (by decide)
        exact (s_X12_singles_272 hσ (zr_w h25 (by decide)) (zr_c (lo := 4) (hi := 4) (by decide)))
      have h30 := zc_nel (6) (6) q24 h23 (zr_c (lo := 7) (hi := 7) (by decide)) (by decide)
      exact (s_X12_singles_272 hσ (zr_w h30 (by decide)) (zr_c (lo := 4) (hi := 4) (by decide)))
    have h31 := zc_ltl (3) (z_nle q10) h_x1 (zr_c (lo := 4) (hi := 4) (by decide)) (by decide)
    refine zok_ck rfl ?_
    refine zok_ai (s_X12_turned hσ (zr_w h31 (by decide)) (rM_11 hσ.sg _ (by decide))) (fun σ20 v21 i32 h33 => ?_)
    refine zok_ck rfl ?_
    refine zok_bs (i32.wi 0 0 (by decide) h33 (by decide +kernel)) (fun σ22 e35 i34 => ?_)
    refine zok_ck rfl ?_
    refine zok_bu (s_X12_xy i34 (zr_w (rM_11 i34.sg _ (by decide)) (by decide))) (fun σ23 i36 => ?_)
    refine zok_bu (s_X12_put i36 (zr_w (zr_c (lo := 4) (hi := 4) (by decide)) (by decide)) (zr_w (zr_c (lo := 0) (hi := 0) (by decide)) (by decide))) (fun σ24 i37 => ?_)
    refine zok_bu (s_X12_put i37 (zr_w (zr_c (lo := 1) (hi := 1) (by decide)) (by decide)) (zr_w (zr_c (lo := 0) (hi := 0) (by decide)) (by decide))) (fun σ25 i38 => ?_)
    exact zok_pai i38 (s_X12_singles_316 i38.P)
  have h39 := zc_ltl (5) (z_nle q8) h_x2 (zr_c (lo := 6) (hi := 6) (by decide)) (by decide)
  refine zok_pi (s_X12_r hσ.P h_x1) (fun v27 h40 => ?_)
  refine zok_if (fun q41 => ?_) (fun q41 => ?_)
  · have h42 := zc_eql (4) (4) q41 h39 (zr_c (lo := 4) (hi := 4) (by decide)) (by decide)
    exact (s_X12_singles_50 hσ h_x1 (zr_w h42 (by decide)) (zr_w (zr_c (lo := 1) (hi := 1) (by decide)) (by decide)) h40)
  have h43 := zc_nel (5) (5) q41 h39 (zr_c (lo := 4) (hi := 4) (by decide)) (by decide)
  exact (s_X12_singles_50 hσ h_x1 (zr_w h43 (by decide)) (zr_w (zr_c (lo := -1) (hi := -1) (by decide)) (by decide)) h40)
theorem s_X12_plain_r1_160 {σ : zSt} (hσ : zPM σ) {s0 : Int32} (h_s0 : zr (4) (23) s0) : zok (fX12_plain_r1_160 σ s0) (zPi σ (fun v : Int32 => zr (4) (23) v)) := by
  unfold fX12_plain_r1_160
  exact zok_spi h_s0
theorem s_X12_plain_r1_139 {σ : zSt} (hσ : zPM σ) {s0 : Int32} (h_s0 : zr (4) (7) s0) : zok (fX12_plain_r1_139 σ s0) (zPi σ (fun v : Int32 => zr (4) (23) v)) := by
  unfold fX12_plain_r1_139
  exact zok_spi (zr_w h_s0 (by decide))
theorem s_X12_plain_r1_116 {σ : zSt} (hσ : zPM σ) {s0 : Int32} (h_s0 : zr (4) (7) s0) : zok (fX12_plain_r1_116 σ s0) (zPi σ (fun v : Int32 => zr (4) (23) v)) := by
  unfold fX12_plain_r1_116
  exact zok_spi (zr_w h_s0 (by decide))
theorem s_X12_plain_r1_115 {σ : zSt} (hσ : zPM σ) : zok (fX12_plain_r1_115 σ ) (zPi σ (fun v : Int32 => zr (4) (23) v)) := by
  unfold fX12_plain_r1_115
  exact (s_X12_plain_r1_116 hσ (zr_w (zr_c (lo := 4) (hi := 4) (by decide)) (by decide)))
theorem s_X12_plain_r1_110 {σ : zSt} (hσ : zPM σ) : zok (fX12_plain_r1_110 σ ) (zPi σ (fun v : Int32 => zr (4) (23) v)) := by
  unfold fX12_plain_r1_110
  exact (s_X12_plain_r1_116 hσ (zr_w (zr_c (lo := 7) (hi := 7) (by decide)) (by decide)))
theorem s_X12_plain_r1_92 {σ : zSt} (hσ : zPM σ) {x1 : Int32} (h_x1 : zr (0) (255) x1) {x2 : Int32} (h_x2 : zr (0) (7) x2) {x3 : Int32} (h_x3 : zr (0) (7) x3) : zok (fX12_plain_r1_92 σ x1 x2 x3) (zPi σ (fun v : Int32 => zr (4) (23) v)) := by
  unfold fX12_plain_r1_92
  refine zok_if (fun q1 => ?_) (fun q1 => ?_)
  · have h2 := zc_eql (118) (118) q1 h_x1 (zr_c (lo := 118) (hi := 118) (by decide)) (by decide)
    exact (s_X12_plain_r1_115 hσ)
  refine zok_if (fun q3 => ?_) (fun q3 => ?_)
  · have h4 := zc_eql (6) (6) q3 h_x2 (zr_c (lo := 6) (hi := 6) (by decide)) (by decide)
    exact (s_X12_plain_r1_110 hσ)
  refine zok_if (fun q5 => ?_) (fun q5 => ?_)
  · have h6 := zc_eql (6) (6) q5 h_x3 (zr_c (lo := 6) (hi := 6) (by decide)) (by decide)
    exact (s_X12_plain_r1_110 hσ)
  exact (s_X12_plain_r1_115 hσ)
theorem s_X12_plain_r1_64 {σ : zSt} (hσ : zPM σ) {s0 : Int32} (h_s0 : zr (4) (16) s0) : zok (fX12_plain_r1_64 σ s0) (zPi σ (fun v : Int32 => zr (4) (23) v)) := by
  unfold fX12_plain_r1_64
  exact zok_spi (zr_w h_s0 (by decide))
theorem s_X12_plain_r1 {G : Nat → Int} {σ : zSt} (hσ : zIM G σ) {x1 : Int32} (h_x1 : zr (0) (255) x1) (nP : ¬ x1 = 221 ∧ ¬ x1 = 253) : zok (fX12_plain_r1 σ x1) (zAi (zIM G) (fun v : Int32 => zr (4) (23) v)) := by
  unfold fX12_plain_r1
  refine zok_br (zr_andr (lo := 0) (hi := 7) (zr_c (lo := 7) (hi := 7) (by decide)) (by decide)) (fun v1 e2 h1 => ?_)
  refine zok_br (zr_andr (lo := 0) (hi := 7) (zr_c (lo := 7) (hi := 7) (by decide)) (by decide)) (fun v2 e4 h3 => ?_)
  refine zok_if (fun q5 => ?_) (fun q5 => ?_)
  · have h6 := zc_eql (0) (0) q5 (zr_shr (lo := 0) (hi := 3) 6 (by decide) h_x1 (by decide)) (zr_c (lo := 0) (hi := 0) (by decide)) (by decide)
    refine zok_if (fun q7 => ?_) (fun q7 => ?_)
    · have h8 := zc_ler (4) q7 (zr_c (lo := 4) (hi := 4) (by decide)) h3 (by decide)
      refine zok_ai (s_X12_singles hσ h1 h8) (fun σ3 v4 i9 h10 => ?_)
      exact zok_pai i9 (s_X12_plain_r1_64 i9.P (zr_w h10 (by decide)))
    have h11 := zc_ltl (3) (z_nle q7) h3 (zr_c (lo := 4) (hi := 4) (by decide)) (by decide)
    refine zok_ai (s_X12_zero hσ h1 h11) (fun σ5 v6 i12 h13 => ?_)
    exact zok_pai i12 (s_X12_plain_r1_64 i12.P h13)
  have h14 := zc_nel (1) (3) q5 (zr_shr (lo := 0) (hi := 3) 6 (by decide) h_x1 (by decide)) (zr_c (lo := 0) (hi := 0) (by decide)) (by decide)
  refine zok_if (fun q15 => ?_) (fun q15 => ?_)
  · have h16 := zc_eql (1) (1) q15 h14 (zr_c (lo := 1) (hi := 1) (by decide)) (by decide)
    refine zok_if (fun q17 => ?_) (fun q17 => ?_)
    · have h18 := zc_eql (118) (118) q17 h_x1 (zr_c (lo := 118) (hi := 118) (by decide)) (by decide)
      refine zok_ck rfl ?_
      refine zok_bs (hσ.wi 26 26 (by decide) (zr_c (lo := 1) (hi := 1) (by decide)) (by decide +kernel)) (fun σ10 e20 i19 => ?_)
      exact zok_pai i19 (s_X12_plain_r1_92 i19.P (zr_w h18 (by decide)) h1 h3)
    refine zok_pi (s_X12_r hσ.P h3) (fun v8 h21 => ?_)
    refine zok_bu (s_X12_rTo hσ h1) (fun σ9 i22 => ?_)
    exact zok_pai i22 (s_X12_plain_r1_92 i22.P h_x1 h1 h3)
  have h23 := zc_nel (2) (3) q15 h14 (zr_c (lo := 1) (hi := 1) (by decide)) (by decide)
  refine zok_if (fun q24 => ?_) (fun q24 => ?_)
  · have h25 := zc_eql (2) (2) q24 h23 (zr_c (lo := 2) (hi := 2) (by decide)) (by decide)
    refine zok_pi (s_X12_r hσ.P h3) (fun v12 h26 => ?_)
    refine zok_bu (s_X12_does hσ h1 h26) (fun σ13 i27 => ?_)
    refine zok_if (fun q28 => ?_) (fun q28 => ?_)
    · have h29 := zc_eql (6) (6) q28 h3 (zr_c (lo := 6) (hi := 6) (by decide)) (by decide)
      exact zok_pai i27 (s_X12_plain_r1_139 i27.P (zr_w (zr_c (lo := 7) (hi := 7) (by decide)) (by decide)))
    exact zok_pai i27 (s_X12_plain_r1_139 i27.P (zr_w (zr_c (lo := 4) (hi := 4) (by decide)) (by decide)))
  have h30 := zc_nel (3) (3) q24 h23 (zr_c (lo := 2) (hi := 2) (by decide)) (by decide)
  refine zok_if (fun q31 => ?_) (fun q31 => ?_)
  · have h32 := zc_ler (4) q31 (zr_c (lo := 4) (hi := 4) (by decide)) h3 (by decide)
    refine zok_ai (s_X12_more3_r1 hσ h1 h32 (z_m3b h_x1 e2 e4 q5 q15 q24 nP)) (fun σ14 v15 i33 h34 => ?_)
    exact zok_pai i33 (s_X12_plain_r1_160 i33.P h34)
  have h35 := zc_ltl (3) (z_nle q31) h3 (zr_c (lo := 4) (hi := 4) (by decide)) (by decide)
  refine zok_ai (s_X12_three hσ h1 h35) (fun σ16 v17 i36 h37 => ?_)
  exact zok_pai i36 (s_X12_plain_r1_160 i36.P (zr_w h37 (by decide)))
theorem s_X12_prefixed_33 {G : Nat → Int} {σ : zSt} (hσ : zIM G σ) : zok (fX12_prefixed_33 σ ) (zAi (zIM G) (fun v : Int32 => zr (4) (35) v)) := by
  unfold fX12_prefixed_33
  refine zok_ck rfl ?_
  refine zok_bs (hσ.wi 27 27 (by decide) (zr_c (lo := 1) (hi := 1) (by decide)) (by decide +kernel)) (fun σ1 e2 i1 => ?_)
  exact zok_sai i1 (zr_w (zr_c (lo := 4) (hi := 4) (by decide)) (by decide))
theorem s_X12_prefixed_154 {σ : zSt} (hσ : zPM σ) {s0 : Int32} (h_s0 : zr (16) (23) s0) : zok (fX12_prefixed_154 σ s0) (zPi σ (fun v : Int32 => zr (4) (35) v)) := by
  unfold fX12_prefixed_154
  exact zok_spi (zr_w h_s0 (by decide))
theorem s_X12_prefixed_135 {σ : zSt} (hσ : zPM σ) {x4 : Int32} (h_x4 : zr (0) (255) x4) {x5 : Int32} (h_x5 : zr (8) (15) x5) : zok (fX12_prefixed_135 σ x4 x5) (zPi σ (fun v : Int32 => zr (4) (35) v)) := by
  unfold fX12_prefixed_135
  refine zok_if (fun q1 => ?_) (fun q1 => ?_)
  · have h2 := zc_eql (1) (1) q1 (zr_shr (lo := 0) (hi := 3) 6 (by decide) h_x4 (by decide)) (zr_c (lo := 1) (hi := 1) (by decide)) (by decide)
    exact (s_X12_prefixed_154 hσ (zr_w (zr_c (lo := 20) (hi := 20) (by decide)) (by decide)))
  exact (s_X12_prefixed_154 hσ (zr_add (lo := 16) (hi := 23) h_x5 (zr_c (lo := 8) (hi := 8) (by decide)) (by decide)))
theorem s_X12_prefixed_311 {σ : zSt} (hσ : zPM σ) {s0 : Int32} (h_s0 : zr (9) (12) s0) {s1 : Int32} (h_s1 : zr (4) (23) s1) : zok (fX12_prefixed_311 σ s0 s1) (zPi σ (fun v : Int32 => zr (4) (35) v)) := by
  unfold fX12_prefixed_311
  exact zok_spi (zr_w (zr_add (lo := 13) (hi := 35) h_s1 h_s0 (by decide)) (by decide))
theorem s_X12_prefixed_244 {G : Nat → Int} {σ : zSt} (hσ : zIM G σ) {x1 : Int32} (h_x1 : zr (16) (17) x1) {x3 : Int32} (h_x3 : zr (0) (255) x3) {s0 : Int32} (h_s0 : zr (0) (1) s0) (nP : ¬ x3 = 221 ∧ ¬ x3 = 253) : zok (fX12_prefixed_244 σ x1 x3 s0) (zAi (zIM G) (fun v : Int32 => zr (4) (35) v)) := by
  unfold fX12_prefixed_244
  refine zok_if (fun q1 => ?_) (fun q1 => ?_)
  · have h2 := zc_eql (0) (0) q1 h_s0 (zr_c (lo := 0) (hi := 0) (by decide)) (by decide)
    refine zok_bs (hσ.sp1 h_x1 (by decide)) (fun σ10 e4 i3 => ?_)
    refine zok_ai (s_X12_plain_r1 i3 h_x3 nP) (fun σ11 v12 i5 h6 => ?_)
    exact zok_sai i5 (zr_w (zr_add (lo := 8) (hi := 27) h6 (zr_c (lo := 4) (hi := 4) (by decide)) (by decide)) (by decide))
  have h7 := zc_nel (1) (1) q1 h_s0 (zr_c (lo := 0) (hi := 0) (by decide)) (by decide)
  refine zok_ck (zin_ok h_x1 (by decide)) ?_
  refine zok_ai (s_X12_next hσ) (fun σ2 v3 i8 h9 => ?_)
  refine zok_pi (s_X12_signed i8.P h9) (fun v5 h10 => ?_)
  refine zok_ck rfl ?_
  refine zok_bs (i8.wi 20 20 (by decide) (zr_andr (lo := 0) (hi := 65535) (zr_c (lo := 65535) (hi := 65535) (by decide)) (by decide)) (by decide +kernel)) (fun σ6 e12 i11 => ?_)
  refine zok_ck rfl ?_
  refine zok_bs (i11.wi 32 32 (by decide) (zr_c (lo := 1) (hi := 1) (by decide)) (by decide +kernel)) (fun σ7 e14 i13 => ?_)
  refine zok_ai (s_X12_plain_r1 i13 h_x3 nP) (fun σ8 v9 i15 h16 => ?_)
  refine zok_if (fun q17 => ?_) (fun q17 => ?_)
  · have h18 := zc_eql (54) (54) q17 h_x3 (zr_c (lo := 54) (hi := 54) (by decide)) (by decide)
    exact zok_pai i15 (s_X12_prefixed_311 i15.P (zr_w (zr_c (lo := 9) (hi := 9) (by decide)) (by decide)) h16)
  exact zok_pai i15 (s_X12_prefixed_311 i15.P (zr_w (zr_c (lo := 12) (hi := 12) (by decide)) (by decide)) h16)
theorem s_X12_prefixed_243 {G : Nat → Int} {σ : zSt} (hσ : zIM G σ) {x1 : Int32} (h_x1 : zr (16) (17) x1) {x3 : Int32} (h_x3 : zr (0) (255) x3) (nP : ¬ x3 = 221 ∧ ¬ x3 = 253) : zok (fX12_prefixed_243 σ x1 x3) (zAi (zIM G) (fun v : Int32 => zr (4) (35) v)) := by
  unfold fX12_prefixed_243
  exact (s_X12_prefixed_244 hσ h_x1 h_x3 (zr_w (zr_c (lo := 0) (hi := 0) (by decide)) (by decide)) nP)
theorem s_X12_prefixed_239 {G : Nat → Int} {σ : zSt} (hσ : zIM G σ) {x1 : Int32} (h_x1 : zr (16) (17) x1) {x3 : Int32} (h_x3 : zr (0) (255) x3) (nP : ¬ x3 = 221 ∧ ¬ x3 = 253) : zok (fX12_prefixed_239 σ x1 x3) (zAi (zIM G) (fun v : Int32 => zr (4) (35) v)) := by
  unfold fX12_prefixed_239
  exact (s_X12_prefixed_244 hσ h_x1 h_x3 (zr_w (zr_c (lo := 1) (hi := 1) (by decide)) (by decide)) nP)
theorem s_X12_prefixed_226 {G : Nat → Int} {σ : zSt} (hσ : zIM G σ) {x1 : Int32} (h_x1 : zr (16) (17) x1) {x3 : Int32} (h_x3 : zr (0) (255) x3) {x5 : Int32} (h_x5 : zr (0) (7) x5) {x6 : Int32} (h_x6 : zr (0) (3) x6) (nP : ¬ x3 = 221 ∧ ¬ x3 = 253) : zok (fX12_prefixed_226 σ x1 x3 x5 x6) (zAi (zIM G) (fun v : Int32 => zr (4) (35) v)) := by
  unfold fX12_prefixed_226
  refine zok_if (fun q1 => ?_) (fun q1 => ?_)
  · have h2 := zc_eql (2) (2) q1 h_x6 (zr_c (lo := 2) (hi := 2) (by decide)) (by decide)
    refine zok_if (fun q3 => ?_) (fun q3 => ?_)
    · have h4 := zc_eql (6) (6) q3 h_x5 (zr_c (lo := 6) (hi := 6) (by decide)) (by decide)
      exact (s_X12_prefixed_239 hσ h_x1 h_x3 nP)
    exact (s_X12_prefixed_243 hσ h_x1 h_x3 nP)
  exact (s_X12_prefixed_243 hσ h_x1 h_x3 nP)
theorem s_X12_prefixed_220 {G : Nat → Int} {σ : zSt} (hσ : zIM G σ) {x1 : Int32} (h_x1 : zr (16) (17) x1) {x3 : Int32} (h_x3 : zr (0) (255) x3) {x5 : Int32} (h_x5 : zr (0) (7) x5) {x6 : Int32} (h_x6 : zr (1) (1) x6) (nP : ¬ x3 = 221 ∧ ¬ x3 = 253) : zok (fX12_prefixed_220 σ x1 x3 x5 x6) (zAi (zIM G) (fun v : Int32 => zr (4) (35) v)) := by
  unfold fX12_prefixed_220
  refine zok_if (fun q1 => ?_) (fun q1 => ?_)
  · have h2 := zc_eql (118) (118) q1 h_x3 (zr_c (lo := 118) (hi := 118) (by decide)) (by decide)
    exact (s_X12_prefixed_226 hσ h_x1 (zr_w h2 (by decide)) h_x5 (zr_w h_x6 (by decide)) nP)
  exact (s_X12_prefixed_239 hσ h_x1 h_x3 nP)
theorem s_X12_prefixed_200 {G : Nat → Int} {σ : zSt} (hσ : zIM G σ) {x1 : Int32} (h_x1 : zr (16) (17) x1) {x3 : Int32} (h_x3 : zr (0) (255) x3) {x4 : Int32} (h_x4 : zr (0) (7) x4) {x5 : Int32} (h_x5 : zr (0) (7) x5) {x6 : Int32} (h_x6 : zr (0) (3) x6) (nP : ¬ x3 = 221 ∧ ¬ x3 = 253) : zok (fX12_prefixed_200 σ x1 x3 x4 x5 x6) (zAi (zIM G) (fun v : Int32 => zr (4) (35) v)) := by
  unfold fX12_prefixed_200
  refine zok_if (fun q1 => ?_) (fun q1 => ?_)
  · have h2 := zc_eql (1) (1) q1 h_x6 (zr_c (lo := 1) (hi := 1) (by decide)) (by decide)
    refine zok_if (fun q3 => ?_) (fun q3 => ?_)
    · have h4 := zc_eql (6) (6) q3 h_x4 (zr_c (lo := 6) (hi := 6) (by decide)) (by decide)
      exact (s_X12_prefixed_220 hσ h_x1 h_x3 h_x5 h2 nP)
    refine zok_if (fun q5 => ?_) (fun q5 => ?_)
    · have h6 := zc_eql (6) (6) q5 h_x5 (zr_c (lo := 6) (hi := 6) (by decide)) (by decide)
      exact (s_X12_prefixed_220 hσ h_x1 h_x3 (zr_w h6 (by decide)) h2 nP)
    exact (s_X12_prefixed_226 hσ h_x1 h_x3 h_x5 (zr_w h2 (by decide)) nP)
  exact (s_X12_prefixed_226 hσ h_x1 h_x3 h_x5 h_x6 nP)
theorem s_next_eq {G : Nat → Int} {σ : zSt} (hσ : zIM G σ) {v : Int32} (er : fX12_read σ (zgi σ 3 (19 : Int32).toNatClampNeg) = some (σ, v)) : zok (fX12_next σ ) (zAi (zIM G) (fun w : Int32 => w = v)) := by
  unfold fX12_next
  refine zok_ck rfl ?_
  refine zok_pi (Q := fun w : Int32 => w = v) ⟨_, er, rfl, rfl⟩ (fun w hw => ?_)
  refine zok_ck rfl (zok_ck rfl ?_)
  refine zok_bs (hσ.wi 19 19 (by decide) (zr_andr (lo := 0) (hi := 65535) (zr_c (lo := 65535) (hi := 65535) (by decide)) (by decide)) (by decide +kernel)) (fun σ3 e3 i2 => ?_)
  exact zok_sai i2 hw
theorem s_fetch_eq {G : Nat → Int} {σ : zSt} (hσ : zIM G σ) {v : Int32} (er : fX12_read σ (zgi σ 3 (19 : Int32).toNatClampNeg) = some (σ, v)) : zok (fX12_fetch σ ) (zAi (zIM G) (fun w : Int32 => w = v ∧ zr 0 255 w)) := by
  have hv : zr 0 255 v := by
    obtain ⟨⟨_, w⟩, e, _, hw⟩ := s_X12_read (x1 := zgi σ 3 (19 : Int32).toNatClampNeg) hσ.P
    rw [er] at e
    cases e
    exact hw
  unfold fX12_fetch
  refine zok_ai (s_next_eq hσ er) (fun σ1 w i1 hw => ?_)
  refine zok_bu (s_X12_grows i1) (fun σ3 i3 => zok_sai i3 ?_)
  have hw : w = v := hw
  exact ⟨hw, by rw [hw]; exact hv⟩
theorem s_X12_prefixed {G : Nat → Int} {σ : zSt} (hσ : zIM G σ) {x1 : Int32} (h_x1 : zr (16) (17) x1) : zok (fX12_prefixed σ x1) (zAi (zIM G) (fun v : Int32 => zr (4) (35) v)) := by
  unfold fX12_prefixed
  refine zok_ck rfl ?_
  obtain ⟨⟨_, v14⟩, er, rfl, h1⟩ := s_X12_read (x1 := zgi σ 3 (19 : Int32).toNatClampNeg) hσ.P
  refine zok_pi (Q := fun w : Int32 => w = v14) ⟨_, er, rfl, rfl⟩ (fun w hw => ?_)
  have hw : w = v14 := hw
  subst hw
  refine zok_if (fun q2 => ?_) (fun q2 => ?_)
  · have h3 := zc_eql (221) (221) q2 h1 (zr_c (lo := 221) (hi := 221) (by decide)) (by decide)
    exact (s_X12_prefixed_33 hσ)
  refine zok_if (fun q4 => ?_) (fun q4 => ?_)
  · have h5 := zc_eql (237) (237) q4 h1 (zr_c (lo := 237) (hi := 237) (by decide)) (by decide)
    exact (s_X12_prefixed_33 hσ)
  refine zok_if (fun q6 => ?_) (fun q6 => ?_)
  · have h7 := zc_eql (253) (253) q6 h1 (zr_c (lo := 253) (hi := 253) (by decide)) (by decide)
    exact (s_X12_prefixed_33 hσ)
  refine zok_ai (s_fetch_eq hσ er) (fun σ15 v16 i8 hE => ?_)
  have h9 := hE.2
  have nP : ¬ v16 = 221 ∧ ¬ v16 = 253 := by rw [hE.1]; exact ⟨q2, q6⟩
  refine zok_if (fun q10 => ?_) (fun q10 => ?_)
  · have h11 := zc_eql (203) (203) q10 h9 (zr_c (lo := 203) (hi := 203) (by decide)) (by decide)
    refine zok_ck (zin_ok h_x1 (by decide)) ?_
    refine zok_ai (s_X12_next i8) (fun σ20 v21 i12 h13 => ?_)
    refine zok_pi (s_X12_signed i12.P h13) (fun v23 h14 => ?_)
    refine zok_ck rfl ?_
    refine zok_bs (i12.wi 20 20 (by decide) (zr_andr (lo := 0) (hi := 65535) (zr_c (lo := 65535) (hi := 65535) (by decide)) (by decide)) (by decide +kernel)) (fun σ24 e16 i15 => ?_)
    refine zok_ck rfl ?_
    refine zok_bs (i15.wi 32 32 (by decide) (zr_c (lo := 1) (hi := 1) (by decide)) (by decide +kernel)) (fun σ25 e18 i17 => ?_)
    refine zok_ai (s_X12_next i17) (fun σ26 v27 i19 h20 => ?_)
    refine zok_ai (s_X12_turn i19 h20) (fun σ28 v29 i21 h22 => ?_)
    refine zok_if (fun q23 => ?_) (fun q23 => ?_)
    · have h24 := zc_eql (1) (1) q23 (zr_shr (lo := 0) (hi := 3) 6 (by decide) h20 (by decide)) (zr_c (lo := 1) (hi := 1) (by decide)) (by decide)
      exact zok_pai i21 (s_X12_prefixed_135 i21.P h20 h22)
    refine zok_if (fun q25 => ?_) (fun q25 => ?_)
    · have h26 := zc_eql (6) (6) q25 (zr_andr (lo := 0) (hi := 7) (zr_c (lo := 7) (hi := 7) (by decide)) (by decide)) (zr_c (lo := 6) (hi := 6) (by decide)) (by decide)
      exact zok_pai i21 (s_X12_prefixed_135 i21.P h20 h22)
    refine zok_ck rfl ?_
    refine zok_bs (i21.wi 32 32 (by decide) (zr_c (lo := 0) (hi := 0) (by decide)) (by decide +kernel)) (fun σ30 e28 i27 => ?_)
    refine zok_bu (s_X12_rTo i27 (zr_andr (lo := 0) (hi := 7) (zr_c (lo := 7) (hi := 7) (by decide)) (by decide))) (fun σ31 i29 => ?_)
    exact zok_pai i29 (s_X12_prefixed_135 i29.P h20 h22)
  refine zok_br (zr_andr (lo := 0) (hi := 7) (zr_c (lo := 7) (hi := 7) (by decide)) (by decide)) (fun v17 e31 h30 => ?_)
  refine zok_br (zr_andr (lo := 0) (hi := 7) (zr_c (lo := 7) (hi := 7) (by decide)) (by decide)) (fun v18 e33 h32 => ?_)
  refine zok_br (zr_shr (lo := 0) (hi := 3) 6 (by decide) h9 (by decide)) (fun v19 e35 h34 => ?_)
  refine zok_if (fun q36 => ?_) (fun q36 => ?_)
  · have h37 := zc_eql (0) (0) q36 h34 (zr_c (lo := 0) (hi := 0) (by decide)) (by decide)
    refine zok_if (fun q38 => ?_) (fun q38 => ?_)
    · have h39 := zc_lel (3) q38 h32 (zr_c (lo := 3) (hi := 3) (by decide)) (by decide)
      exact (s_X12_prefixed_200 i8 h_x1 h9 h30 (zr_w h39 (by decide)) (zr_w h37 (by decide)) nP)
    have h40 := zc_ltr (4) (z_nle q38) (zr_c (lo := 3) (hi := 3) (by decide)) h32 (by decide)
    refine zok_if (fun q41 => ?_) (fun q41 => ?_)
    · have h42 := zc_ler (7) q41 (zr_c (lo := 7) (hi := 7) (by decide)) h40 (by decide)
      exact (s_X12_prefixed_200 i8 h_x1 h9 h30 (zr_w h42 (by decide)) (zr_w h37 (by decide)) nP)
    have h43 := zc_ltl (6) (z_nle q41) h40 (zr_c (lo := 7) (hi := 7) (by decide)) (by decide)
    refine zok_if (fun q44 => ?_) (fun q44 => ?_)
    · have h45 := zc_eql (6) (6) q44 h30 (zr_c (lo := 6) (hi := 6) (by decide)) (by decide)
      exact (s_X12_prefixed_239 i8 h_x1 h9 nP)
    exact (s_X12_prefixed_200 i8 h_x1 h9 h30 (zr_w h43 (by decide)) (zr_w h37 (by decide)) nP)
  have h46 := zc_nel (1) (3) q36 h34 (zr_c (lo := 0) (hi := 0) (by decide)) (by decide)
  exact (s_X12_prefixed_200 i8 h_x1 h9 h30 h32 (zr_w h46 (by decide)) nP)
theorem s_X12_more3_119 {G : Nat → Int} {σ : zSt} (hσ : zIM G σ) {s0 : Int32} (h_s0 : zr (0) (65535) s0) : zok (fX12_more3_119 σ s0) (zAi (zIM G) (fun v : Int32 => zr (4) (35) v)) := by
  unfold fX12_more3_119
  refine zok_bu (s_X12_push hσ h_s0) (fun σ1 i1 => ?_)
  exact zok_sai i1 (zr_w (zr_c (lo := 11) (hi := 11) (by decide)) (by decide))
theorem s_X12_more3_200 {σ : zSt} (hσ : zPM σ) {s0 : Int32} (h_s0 : zr (4) (35) s0) : zok (fX12_more3_200 σ s0) (zPi σ (fun v : Int32 => zr (4) (35) v)) := by
  unfold fX12_more3_200
  exact zok_spi h_s0
theorem s_X12_more3_197 {G : Nat → Int} {σ : zSt} (hσ : zIM G σ) {s0 : Int32} (h_s0 : zr (16) (17) s0) : zok (fX12_more3_197 σ s0) (zAi (zIM G) (fun v : Int32 => zr (4) (35) v)) := by
  unfold fX12_more3_197
  refine zok_ai (s_X12_prefixed hσ h_s0) (fun σ2 v3 i1 h2 => ?_)
  exact zok_pai i1 (s_X12_more3_200 i1.P h2)
theorem s_X12_more3 {G : Nat → Int} {σ : zSt} (hσ : zIM G σ) {x1 : Int32} (h_x1 : zr (0) (7) x1) {x2 : Int32} (h_x2 : zr (4) (7) x2) : zok (fX12_more3 σ x1 x2) (zAi (zIM G) (fun v : Int32 => zr (4) (35) v)) := by
  unfold fX12_more3
  refine zok_br (zr_shr (lo := 0) (hi := 3) 1 (by decide) h_x1 (by decide)) (fun v4 e2 h1 => ?_)
  refine zok_if (fun q3 => ?_) (fun q3 => ?_)
  · have h4 := zc_eql (4) (4) q3 h_x2 (zr_c (lo := 4) (hi := 4) (by decide)) (by decide)
    refine zok_ai (s_X12_nextWord hσ) (fun σ22 v23 i5 h6 => ?_)
    refine zok_ck rfl ?_
    refine zok_bs (i5.wi 20 20 (by decide) h6 (by decide +kernel)) (fun σ24 e8 i7 => ?_)
    refine zok_pi (s_X12_cc i7.P h_x1) (fun v26 h9 => ?_)
    refine zok_if (fun q10 => ?_) (fun q10 => ?_)
    · have h11 := zc_eql (0) (0) q10 h9 (zr_c (lo := 0) (hi := 0) (by decide)) (by decide)
      exact zok_sai i7 (zr_w (zr_c (lo := 10) (hi := 10) (by decide)) (by decide))
    have h12 := zc_nel (1) (1) q10 h9 (zr_c (lo := 0) (hi := 0) (by decide)) (by decide)
    refine zok_ck rfl ?_
    refine zok_bu (s_X12_push i7 (rM_12 i7.sg _ (by decide))) (fun σ27 i13 => ?_)
    refine zok_ck rfl ?_
    refine zok_ck rfl ?_
    refine zok_bs (i13.wi 19 19 (by decide) (rM_12 i13.sg _ (by decide)) (by decide +kernel)) (fun σ28 e15 i14 => ?_)
    exact zok_sai i14 (zr_w (zr_c (lo := 17) (hi := 17) (by decide)) (by decide))
  have h16 := zc_nel (5) (7) q3 h_x2 (zr_c (lo := 4) (hi := 4) (by decide)) (by decide)
  refine zok_if (fun q17 => ?_) (fun q17 => ?_)
  · have h18 := zc_eql (6) (6) q17 h16 (zr_c (lo := 6) (hi := 6) (by decide)) (by decide)
    refine zok_ai (s_X12_next hσ) (fun σ19 v20 i19 h20 => ?_)
    refine zok_bu (s_X12_does i19 h_x1 h20) (fun σ21 i21 => ?_)
    exact zok_sai i21 (zr_w (zr_c (lo := 7) (hi := 7) (by decide)) (by decide))
  refine zok_if (fun q22 => ?_) (fun q22 => ?_)
  · have h23 := zc_eql (7) (7) q22 h16 (zr_c (lo := 7) (hi := 7) (by decide)) (by decide)
    refine zok_bu (s_X12_call hσ (zr_w (zr_mul (lo := 0) (hi := 56) (zr_c (lo := 8) (hi := 8) (by decide)) h_x1 (by decide)) (by decide))) (fun σ18 i24 => ?_)
    exact zok_sai i24 (zr_w (zr_c (lo := 11) (hi := 11) (by decide)) (by decide))
  have h25 := zc_nel (5) (6) q22 h16 (zr_c (lo := 7) (hi := 7) (by decide)) (by decide)
  refine zok_ck (by decide) ?_
  refine zok_if (fun q26 => ?_) (fun q26 => ?_)
  · have h27 := zc_eql (0) (0) q26 (zr_rem (lo := 0) (hi := 1) 2 (by decide) h_x1 (by decide)) (zr_c (lo := 0) (hi := 0) (by decide)) (by decide)
    refine zok_if (fun q28 => ?_) (fun q28 => ?_)
    · have h29 := zc_eql (3) (3) q28 h1 (zr_c (lo := 3) (hi := 3) (by decide)) (by decide)
      refine zok_pi (s_X12_pair hσ.P (zr_w (zr_c (lo := 0) (hi := 0) (by decide)) (by decide))) (fun v17 h30 => ?_)
      exact (s_X12_more3_119 hσ h30)
    have h31 := zc_nel (0) (2) q28 h1 (zr_c (lo := 3) (hi := 3) (by decide)) (by decide)
    refine zok_pi (s_X12_rp hσ.P (zr_w h31 (by decide))) (fun v15 h32 => ?_)
    exact (s_X12_more3_119 hσ h32)
  have h33 := zc_nel (1) (1) q26 (zr_rem (lo := 0) (hi := 1) 2 (by decide) h_x1 (by decide)) (zr_c (lo := 0) (hi := 0) (by decide)) (by decide)
  have h34 := z_odd64 h_x1 h33 (by decide)
  refine zok_if (fun q35 => ?_) (fun q35 => ?_)
  · have h36 := zc_eql (0) (0) q35 h1 (zr_c (lo := 0) (hi := 0) (by decide)) (by decide)
    refine zok_ai (s_X12_nextWord hσ) (fun σ9 v10 i37 h38 => ?_)
    refine zok_ck rfl ?_
    refine zok_bs (i37.wi 20 20 (by decide) h38 (by decide +kernel)) (fun σ11 e40 i39 => ?_)
    refine zok_ck rfl ?_
    refine zok_bu (s_X12_push i39 (rM_12 i39.sg _ (by decide))) (fun σ12 i41 => ?_)
    refine zok_ck rfl ?_
    refine zok_ck rfl ?_
    refine zok_bs (i41.wi 19 19 (by decide) (rM_12 i41.sg _ (by decide)) (by decide +kernel)) (fun σ13 e43 i42 => ?_)
    exact zok_sai i42 (zr_w (zr_c (lo := 17) (hi := 17) (by decide)) (by decide))
  have h44 := zc_nel (1) (3) q35 h1 (zr_c (lo := 0) (hi := 0) (by decide)) (by decide)
  refine zok_if (fun q45 => ?_) (fun q45 => ?_)
  · have h46 := zc_eql (2) (2) q45 h44 (zr_c (lo := 2) (hi := 2) (by decide)) (by decide)
    refine zok_ai (s_X12_fetch hσ) (fun σ5 v6 i47 h48 => ?_)
    refine zok_ai (s_X12_more i47 h48) (fun σ7 v8 i49 h50 => ?_)
    exact zok_pai i49 (s_X12_more3_200 i49.P (zr_w h50 (by decide)))
  refine zok_if (fun q51 => ?_) (fun q51 => ?_)
  · have h52 := zc_eql (1) (1) q51 h44 (zr_c (lo := 1) (hi := 1) (by decide)) (by decide)
    exact (s_X12_more3_197 hσ (zr_w (zr_c (lo := 16) (hi := 16) (by decide)) (by decide)))
  have h53 := zc_nel (2) (3) q51 h44 (zr_c (lo := 1) (hi := 1) (by decide)) (by decide)
  exact (s_X12_more3_197 hσ (zr_w (zr_c (lo := 17) (hi := 17) (by decide)) (by decide)))
theorem s_X12_plain_160 {σ : zSt} (hσ : zPM σ) {s0 : Int32} (h_s0 : zr (4) (35) s0) : zok (fX12_plain_160 σ s0) (zPi σ (fun v : Int32 => zr (4) (35) v)) := by
  unfold fX12_plain_160
  exact zok_spi h_s0
theorem s_X12_plain_139 {σ : zSt} (hσ : zPM σ) {s0 : Int32} (h_s0 : zr (4) (7) s0) : zok (fX12_plain_139 σ s0) (zPi σ (fun v : Int32 => zr (4) (35) v)) := by
  unfold fX12_plain_139
  exact zok_spi (zr_w h_s0 (by decide))
theorem s_X12_plain_116 {σ : zSt} (hσ : zPM σ) {s0 : Int32} (h_s0 : zr (4) (7) s0) : zok (fX12_plain_116 σ s0) (zPi σ (fun v : Int32 => zr (4) (35) v)) := by
  unfold fX12_plain_116
  exact zok_spi (zr_w h_s0 (by decide))
theorem s_X12_plain_115 {σ : zSt} (hσ : zPM σ) : zok (fX12_plain_115 σ ) (zPi σ (fun v : Int32 => zr (4) (35) v)) := by
  unfold fX12_plain_115
  exact (s_X12_plain_116 hσ (zr_w (zr_c (lo := 4) (hi := 4) (by decide)) (by decide)))
theorem s_X12_plain_110 {σ : zSt} (hσ : zPM σ) : zok (fX12_plain_110 σ ) (zPi σ (fun v : Int32 => zr (4) (35) v)) := by
  unfold fX12_plain_110
  exact (s_X12_plain_116 hσ (zr_w (zr_c (lo := 7) (hi := 7) (by decide)) (by decide)))
theorem s_X12_plain_92 {σ : zSt} (hσ : zPM σ) {x1 : Int32} (h_x1 : zr (0) (255) x1) {x2 : Int32} (h_x2 : zr (0) (7) x2) {x3 : Int32} (h_x3 : zr (0) (7) x3) : zok (fX12_plain_92 σ x1 x2 x3) (zPi σ (fun v : Int32 => zr (4) (35) v)) := by
  unfold fX12_plain_92
  refine zok_if (fun q1 => ?_) (fun q1 => ?_)
  · have h2 := zc_eql (118) (118) q1 h_x1 (zr_c (lo := 118) (hi := 118) (by decide)) (by decide)
    exact (s_X12_plain_115 hσ)
  refine zok_if (fun q3 => ?_) (fun q3 => ?_)
  · have h4 := zc_eql (6) (6) q3 h_x2 (zr_c (lo := 6) (hi := 6) (by decide)) (by decide)
    exact (s_X12_plain_110 hσ)
  refine zok_if (fun q5 => ?_) (fun q5 => ?_)
  · have h6 := zc_eql (6) (6) q5 h_x3 (zr_c (lo := 6) (hi := 6) (by decide)) (by decide)
    exact (s_X12_plain_110 hσ)
  exact (s_X12_plain_115 hσ)
theorem s_X12_plain_64 {σ : zSt} (hσ : zPM σ) {s0 : Int32} (h_s0 : zr (4) (16) s0) : zok (fX12_plain_64 σ s0) (zPi σ (fun v : Int32 => zr (4) (35) v)) := by
  unfold fX12_plain_64
  exact zok_spi (zr_w h_s0 (by decide))
theorem s_X12_plain {G : Nat → Int} {σ : zSt} (hσ : zIM G σ) {x1 : Int32} (h_x1 : zr (0) (255) x1) : zok (fX12_plain σ x1) (zAi (zIM G) (fun v : Int32 => zr (4) (35) v)) := by
  unfold fX12_plain
  refine zok_br (zr_andr (lo := 0) (hi := 7) (zr_c (lo := 7) (hi := 7) (by decide)) (by decide)) (fun v1 e2 h1 => ?_)
  refine zok_br (zr_andr (lo := 0) (hi := 7) (zr_c (lo := 7) (hi := 7) (by decide)) (by decide)) (fun v2 e4 h3 => ?_)
  refine zok_if (fun q5 => ?_) (fun q5 => ?_)
  · have h6 := zc_eql (0) (0) q5 (zr_shr (lo := 0) (hi := 3) 6 (by decide) h_x1 (by decide)) (zr_c (lo := 0) (hi := 0) (by decide)) (by decide)
    refine zok_if (fun q7 => ?_) (fun q7 => ?_)
    · have h8 := zc_ler (4) q7 (zr_c (lo := 4) (hi := 4) (by decide)) h3 (by decide)
      refine zok_ai (s_X12_singles hσ h1 h8) (fun σ3 v4 i9 h10 => ?_)
      exact zok_pai i9 (s_X12_plain_64 i9.P (zr_w h10 (by decide)))
    have h11 := zc_ltl (3) (z_nle q7) h3 (zr_c (lo := 4) (hi := 4) (by decide)) (by decide)
    refine zok_ai (s_X12_zero hσ h1 h11) (fun σ5 v6 i12 h13 => ?_)
    exact zok_pai i12 (s_X12_plain_64 i12.P h13)
  have h14 := zc_nel (1) (3) q5 (zr_shr (lo := 0) (hi := 3) 6 (by decide) h_x1 (by decide)) (zr_c (lo := 0) (hi := 0) (by decide)) (by decide)
  refine zok_if (fun q15 => ?_) (fun q15 => ?_)
  · have h16 := zc_eql (1) (1) q15 h14 (zr_c (lo := 1) (hi := 1) (by decide)) (by decide)
    refine zok_if (fun q17 => ?_) (fun q17 => ?_)
    · have h18 := zc_eql (118) (118) q17 h_x1 (zr_c (lo := 118) (hi := 118) (by decide)) (by decide)
      refine zok_ck rfl ?_
      refine zok_bs (hσ.wi 26 26 (by decide) (zr_c (lo := 1) (hi := 1) (by decide)) (by decide +kernel)) (fun σ10 e20 i19 => ?_)
      exact zok_pai i19 (s_X12_plain_92 i19.P (zr_w h18 (by decide)) h1 h3)
    refine zok_pi (s_X12_r hσ.P h3) (fun v8 h21 => ?_)
    refine zok_bu (s_X12_rTo hσ h1) (fun σ9 i22 => ?_)
    exact zok_pai i22 (s_X12_plain_92 i22.P h_x1 h1 h3)
  have h23 := zc_nel (2) (3) q15 h14 (zr_c (lo := 1) (hi := 1) (by decide)) (by decide)
  refine zok_if (fun q24 => ?_) (fun q24 => ?_)
  · have h25 := zc_eql (2) (2) q24 h23 (zr_c (lo := 2) (hi := 2) (by decide)) (by decide)
    refine zok_pi (s_X12_r hσ.P h3) (fun v12 h26 => ?_)
    refine zok_bu (s_X12_does hσ h1 h26) (fun σ13 i27 => ?_)
    refine zok_if (fun q28 => ?_) (fun q28 => ?_)
    · have h29 := zc_eql (6) (6) q28 h3 (zr_c (lo := 6) (hi := 6) (by decide)) (by decide)
      exact zok_pai i27 (s_X12_plain_139 i27.P (zr_w (zr_c (lo := 7) (hi := 7) (by decide)) (by decide)))
    exact zok_pai i27 (s_X12_plain_139 i27.P (zr_w (zr_c (lo := 4) (hi := 4) (by decide)) (by decide)))
  have h30 := zc_nel (3) (3) q24 h23 (zr_c (lo := 2) (hi := 2) (by decide)) (by decide)
  refine zok_if (fun q31 => ?_) (fun q31 => ?_)
  · have h32 := zc_ler (4) q31 (zr_c (lo := 4) (hi := 4) (by decide)) h3 (by decide)
    refine zok_ai (s_X12_more3 hσ h1 h32) (fun σ14 v15 i33 h34 => ?_)
    exact zok_pai i33 (s_X12_plain_160 i33.P h34)
  have h35 := zc_ltl (3) (z_nle q31) h3 (zr_c (lo := 4) (hi := 4) (by decide)) (by decide)
  refine zok_ai (s_X12_three hσ h1 h35) (fun σ16 v17 i36 h37 => ?_)
  exact zok_pai i36 (s_X12_plain_160 i36.P (zr_w h37 (by decide)))
theorem s_X12_instruction {G : Nat → Int} {σ : zSt} (hσ : zIM G σ) : zok (fX12_instruction σ ) (zAi (zIM G) (fun v : Int32 => zr (4) (35) v)) := by
  unfold fX12_instruction
  refine zok_bs (hσ.sp0 (zr_c (lo := 0) (hi := 0) (by decide)) (by decide)) (fun σ1 e2 i1 => ?_)
  refine zok_ck rfl ?_
  refine zok_bs (i1.wi 32 32 (by decide) (zr_c (lo := 0) (hi := 0) (by decide)) (by decide +kernel)) (fun σ2 e4 i3 => ?_)
  refine zok_ai (s_X12_fetch i3) (fun σ3 v4 i5 h6 => ?_)
  refine zok_ai (s_X12_plain i5 h6) (fun σ5 v6 i7 h8 => ?_)
  exact zok_sai i7 h8
theorem s_X12_answers {G : Nat → Int} {σ : zSt} (hσ : zIM G σ) : zok (fX12_answers σ ) (zIM G) := by
  unfold fX12_answers
  refine zok_bu (s_X12_grows hσ) (fun σ1 i1 => ?_)
  refine zok_ck rfl ?_
  refine zok_bs (i1.wi 26 26 (by decide) (zr_c (lo := 0) (hi := 0) (by decide)) (by decide +kernel)) (fun σ2 e3 i2 => ?_)
  exact zok_some i2
theorem s_X12_reg {σ : zSt} (hσ : zPM σ) {x1 : Int32} (h_x1 : zr (2) (10) x1) : zok (fX12_reg σ x1) (zPi σ (fun v : Int32 => zr (0) (255) v)) := by
  unfold fX12_reg
  refine zok_ck (zin_ok (zr_add (lo := 49) (hi := 57) (zr_c (lo := 47) (hi := 47) (by decide)) h_x1 (by decide)) (by decide)) ?_
  exact zok_spi (rM_21 hσ.sg _ (z_ix (zr_add (lo := 49) (hi := 57) (zr_c (lo := 47) (hi := 47) (by decide)) h_x1 (by decide)) (by decide)))
theorem s_X12_tileDot_6_body {σ : zSt} {k6 : zSt → Int32 → Int32 → Int32 → Int32 → Int32 → Option (zSt × Int32)} {Mk6 : Int} (hk6 : ∀ (x1 : Int32) (x2 : Int32) (x3 : Int32) (x4 : Int32) (x5 : Int32), zr (0) (15) x4 → zr (0) (4) x5 → (4) - x5.toInt < Mk6 → zok (k6 σ x1 x2 x3 x4 x5) (zPi σ (fun v : Int32 => zr (0) (15) v))) (hσ : zPM σ) {x1 : Int32} {x2 : Int32} {x3 : Int32} {x4 : Int32} (h_x4 : zr (0) (15) x4) {x5 : Int32} (h_x5 : zr (0) (4) x5) (hMk6 : (4) - x5.toInt ≤ Mk6) : zok (fX12_tileDot_6_body k6 σ x1 x2 x3 x4 x5) (zPi σ (fun v : Int32 => zr (0) (15) v)) := by
  unfold fX12_tileDot_6_body
  refine zok_if (fun q1 => ?_) (fun q1 => ?_)
  · have h2 := zc_ler (4) q1 (zr_c (lo := 4) (hi := 4) (by decide)) h_x5 (by decide)
    exact zok_spi h_x4
  have h3 := zc_ltl (3) (z_nle q1) h_x5 (zr_c (lo := 4) (hi := 4) (by decide)) (by decide)
  refine zok_pi (s_X12_video8 hσ) (fun v2 h4 => ?_)
  refine zok_br (zr_or (lo := 0) (hi := 15) 4 h_x4 (zr_shld (lo := 0) (hi := 8) (zr_andr (lo := 0) (hi := 1) (zr_c (lo := 1) (hi := 1) (by decide)) (by decide)) h3 (by decide)) (by decide)) (fun v3 e6 h5 => ?_)
  refine zok_br (zr_add (lo := 1) (hi := 4) h3 (zr_c (lo := 1) (hi := 1) (by decide)) (by decide)) (fun v4 e8 h7 => ?_)
  exact hk6 _ _ _ _ _  h5 (zr_w h7 (by decide)) (by rw [e8]; have := z_tadd (y := (1 : Int32)) h3 (zr_c (lo := 1) (hi := 1) (by decide)) (by decide); have e9 : (1 : Int32).toInt = 1 := rfl; omega) 
theorem s_X12_tileDot_6 {σ : zSt} (hσ : zPM σ) : ∀ (n : Nat) {x1 : Int32} {x2 : Int32} {x3 : Int32} {x4 : Int32} (h_x4 : zr (0) (15) x4) {x5 : Int32} (h_x5 : zr (0) (4) x5) (hm : (4) - x5.toInt < n), zok (fX12_tileDot_6 n σ x1 x2 x3 x4 x5) (zPi σ (fun v : Int32 => zr (0) (15) v)) := by
  intro n
  induction n with
  | zero => intro x1 x2 x3 x4 h_x4 x5 h_x5 hm ; have h9 := h_x5.1; have h8 := h_x5.2; exfalso; omega
  | succ n ih => intro x1 x2 x3 x4 h_x4 x5 h_x5 hm ; exact s_X12_tileDot_6_body (fun x1 x2 x3 x4 x5 h_x4 h_x5 hm1 => ih h_x4 h_x5 (by omega)) hσ h_x4 h_x5 (Int.le_refl _)
theorem s_X12_tileDot {σ : zSt} (hσ : zPM σ) {x1 : Int32} {x2 : Int32} {x3 : Int32} : zok (fX12_tileDot σ x1 x2 x3) (zPi σ (fun v : Int32 => zr (0) (15) v)) := by
  unfold fX12_tileDot
  exact (s_X12_tileDot_6 hσ zfuel (zr_w (zr_c (lo := 0) (hi := 0) (by decide)) (by decide)) (zr_w (zr_c (lo := 0) (hi := 0) (by decide)) (by decide)) (by decide))
theorem s_X12_tile_302 {G : Nat → Int} {σ : zSt} (hσ : zIM G σ) {s0 : Int32} (h_s0 : zr (0) (1) s0) {s1 : Int32} (h_s1 : zr (0) (255) s1) : zok (fX12_tile_302 σ s0 s1) (zIM G) := by
  unfold fX12_tile_302
  refine zok_ck (zin_ok h_s1 (by decide)) ?_
  refine zok_bs (hσ.wk (by decide)) (fun σ1 e2 i1 => ?_)
  exact zok_some i1
theorem s_X12_tile_301 {G : Nat → Int} {σ : zSt} (hσ : zIM G σ) {s0 : Int32} (h_s0 : zr (0) (255) s0) : zok (fX12_tile_301 σ s0) (zIM G) := by
  unfold fX12_tile_301
  exact (s_X12_tile_302 hσ (zr_w (zr_c (lo := 0) (hi := 0) (by decide)) (by decide)) h_s0)
theorem s_X12_tile_276 {G : Nat → Int} {σ : zSt} (hσ : zIM G σ) {x2 : Int32} (h_x2 : zr (0) (255) x2) {x9 : Int32} (h_x9 : zr (0) (65535) x9) {x12 : Int32} (h_x12 : zr (0) (15) x12) {s0 : Int32} (h_s0 : zr (0) (16) s0) {s1 : Int32} (h_s1 : zr (0) (15) s1) {s2 : Int32} (h_s2 : zr (0) (255) s2) : zok (fX12_tile_276 σ x2 x9 x12 s0 s1 s2) (zIM G) := by
  unfold fX12_tile_276
  refine zok_ck (zin_ok h_s2 (by decide)) ?_
  refine zok_bs (hσ.wi 0 255 (z_ix h_s2 (by decide)) (zr_add (lo := 0) (hi := 31) h_s1 h_s0 (by decide)) (by decide +kernel)) (fun σ2 e2 i1 => ?_)
  refine zok_if (fun q3 => ?_) (fun q3 => ?_)
  · have h4 := zc_lel (0) q3 h_x12 (zr_c (lo := 0) (hi := 0) (by decide)) (by decide)
    exact (s_X12_tile_301 i1 h_x2)
  have h5 := zc_ltr (1) (z_nle q3) (zr_c (lo := 0) (hi := 0) (by decide)) h_x12 (by decide)
  refine zok_if (fun q6 => ?_) (fun q6 => ?_)
  · have h7 := zc_eql (0) (0) q6 (zr_andr (lo := 0) (hi := 4096) (zr_c (lo := 4096) (hi := 4096) (by decide)) (by decide)) (zr_c (lo := 0) (hi := 0) (by decide)) (by decide)
    exact (s_X12_tile_301 i1 h_x2)
  have h8 := zc_nel (1) (4096) q6 (zr_andr (lo := 0) (hi := 4096) (zr_c (lo := 4096) (hi := 4096) (by decide)) (by decide)) (zr_c (lo := 0) (hi := 0) (by decide)) (by decide)
  exact (s_X12_tile_302 i1 (zr_w (zr_c (lo := 1) (hi := 1) (by decide)) (by decide)) h_x2)
theorem s_X12_tile_236 {G : Nat → Int} {σ : zSt} (hσ : zIM G σ) {x2 : Int32} (h_x2 : zr (0) (255) x2) {x9 : Int32} (h_x9 : zr (0) (65535) x9) {x10 : Int32} (h_x10 : zr (0) (7) x10) {s0 : Int32} (h_s0 : zr (0) (7) s0) : zok (fX12_tile_236 σ x2 x9 x10 s0) (zIM G) := by
  unfold fX12_tile_236
  refine zok_pi (s_X12_tileDot hσ.P) (fun v4 h1 => ?_)
  refine zok_if (fun q2 => ?_) (fun q2 => ?_)
  · have h3 := zc_eql (0) (0) q2 (zr_andr (lo := 0) (hi := 2048) (zr_c (lo := 2048) (hi := 2048) (by decide)) (by decide)) (zr_c (lo := 0) (hi := 0) (by decide)) (by decide)
    exact (s_X12_tile_276 hσ h_x2 h_x9 h1 (zr_w (zr_c (lo := 0) (hi := 0) (by decide)) (by decide)) h1 h_x2)
  have h4 := zc_nel (1) (2048) q2 (zr_andr (lo := 0) (hi := 2048) (zr_c (lo := 2048) (hi := 2048) (by decide)) (by decide)) (zr_c (lo := 0) (hi := 0) (by decide)) (by decide)
  exact (s_X12_tile_276 hσ h_x2 h_x9 h1 (zr_w (zr_c (lo := 16) (hi := 16) (by decide)) (by decide)) h1 h_x2)
theorem s_X12_tile_209 {G : Nat → Int} {σ : zSt} (hσ : zIM G σ) {x2 : Int32} (h_x2 : zr (0) (255) x2) {x7 : Int32} (h_x7 : zr (0) (255) x7) {x9 : Int32} (h_x9 : zr (0) (65535) x9) {s0 : Int32} (h_s0 : zr (0) (7) s0) : zok (fX12_tile_209 σ x2 x7 x9 s0) (zIM G) := by
  unfold fX12_tile_209
  refine zok_if (fun q1 => ?_) (fun q1 => ?_)
  · have h2 := zc_eql (0) (0) q1 (zr_andr (lo := 0) (hi := 1024) (zr_c (lo := 1024) (hi := 1024) (by decide)) (by decide)) (zr_c (lo := 0) (hi := 0) (by decide)) (by decide)
    refine zok_ck (by decide) ?_
    exact (s_X12_tile_236 hσ h_x2 h_x9 h_s0 (zr_rem (lo := 0) (hi := 7) 8 (by decide) h_x7 (by decide)))
  have h3 := zc_nel (1) (1024) q1 (zr_andr (lo := 0) (hi := 1024) (zr_c (lo := 1024) (hi := 1024) (by decide)) (by decide)) (zr_c (lo := 0) (hi := 0) (by decide)) (by decide)
  refine zok_ck (by decide) ?_
  exact (s_X12_tile_236 hσ h_x2 h_x9 h_s0 (zr_sub (lo := 0) (hi := 7) (zr_c (lo := 7) (hi := 7) (by decide)) (zr_rem (lo := 0) (hi := 7) 8 (by decide) h_x7 (by decide)) (by decide)))
theorem s_X12_tile_141 {G : Nat → Int} {σ : zSt} (hσ : zIM G σ) {x2 : Int32} (h_x2 : zr (0) (255) x2) {x4 : Int32} (h_x4 : zr (0) (14336) x4) {x6 : Int32} (h_x6 : zr (0) (255) x6) {s0 : Int32} (h_s0 : zr (0) (255) s0) : zok (fX12_tile_141 σ x2 x4 x6 s0) (zIM G) := by
  unfold fX12_tile_141
  refine zok_ck (by decide) ?_
  refine zok_ck (by decide) ?_
  refine zok_br (zr_add (lo := 0) (hi := 16382) (zr_add (lo := 0) (hi := 16320) h_x4 (zr_mul (lo := 0) (hi := 1984) (zr_c (lo := 64) (hi := 64) (by decide)) (zr_div (lo := 0) (hi := 31) 8 (by decide) h_s0 (by decide)) (by decide)) (by decide)) (zr_mul (lo := 0) (hi := 62) (zr_c (lo := 2) (hi := 2) (by decide)) (zr_div (lo := 0) (hi := 31) 8 (by decide) h_x6 (by decide)) (by decide)) (by decide)) (fun v5 e2 h1 => ?_)
  refine zok_pi (s_X12_video8 hσ.P) (fun v7 h3 => ?_)
  refine zok_pi (s_X12_video8 hσ.P) (fun v9 h4 => ?_)
  refine zok_br (zr_or (lo := 0) (hi := 65535) 16 h3 (zr_shl (lo := 0) (hi := 65280) 8 (by decide) h4 (by decide)) (by decide)) (fun v10 e6 h5 => ?_)
  refine zok_if (fun q7 => ?_) (fun q7 => ?_)
  · have h8 := zc_eql (0) (0) q7 (zr_andr (lo := 0) (hi := 512) (zr_c (lo := 512) (hi := 512) (by decide)) (by decide)) (zr_c (lo := 0) (hi := 0) (by decide)) (by decide)
    refine zok_ck (by decide) ?_
    exact (s_X12_tile_209 hσ h_x2 h_s0 h5 (zr_rem (lo := 0) (hi := 7) 8 (by decide) h_x6 (by decide)))
  have h9 := zc_nel (1) (512) q7 (zr_andr (lo := 0) (hi := 512) (zr_c (lo := 512) (hi := 512) (by decide)) (by decide)) (zr_c (lo := 0) (hi := 0) (by decide)) (by decide)
  refine zok_ck (by decide) ?_
  exact (s_X12_tile_209 hσ h_x2 h_s0 h5 (zr_sub (lo := 0) (hi := 7) (zr_c (lo := 7) (hi := 7) (by decide)) (zr_rem (lo := 0) (hi := 7) 8 (by decide) h_x6 (by decide)) (by decide)))
theorem s_X12_tile_140 {G : Nat → Int} {σ : zSt} (hσ : zIM G σ) {x2 : Int32} (h_x2 : zr (0) (255) x2) {x4 : Int32} (h_x4 : zr (0) (14336) x4) {x6 : Int32} (h_x6 : zr (0) (255) x6) {s0 : Int32} (h_s0 : zr (224) (256) s0) {s1 : Int32} (h_s1 : zr (0) (494) s1) : zok (fX12_tile_140 σ x2 x4 x6 s0 s1) (zIM G) := by
  unfold fX12_tile_140
  refine zok_ck (zdv_ok h_s0 (by decide)) ?_
  exact (s_X12_tile_141 hσ h_x2 h_x4 h_x6 (zr_remv (lo := 0) (hi := 255) h_s1 h_s0 (by decide)))
theorem s_X12_tile_118 {G : Nat → Int} {σ : zSt} (hσ : zIM G σ) {x1 : Int32} (h_x1 : zr (0) (239) x1) {x2 : Int32} (h_x2 : zr (0) (255) x2) {x3 : Int32} (h_x3 : zr (0) (1) x3) {x4 : Int32} (h_x4 : zr (0) (14336) x4) {x6 : Int32} (h_x6 : zr (0) (255) x6) : zok (fX12_tile_118 σ x1 x2 x3 x4 x6) (zIM G) := by
  unfold fX12_tile_118
  refine zok_ck rfl ?_
  refine zok_if (fun q1 => ?_) (fun q1 => ?_)
  · have h2 := zc_eql (0) (0) q1 h_x3 (zr_c (lo := 0) (hi := 0) (by decide)) (by decide)
    exact (s_X12_tile_140 hσ h_x2 h_x4 h_x6 (zr_w (zr_c (lo := 256) (hi := 256) (by decide)) (by decide)) (zr_add (lo := 0) (hi := 494) h_x1 (rM_28 hσ.sg _ (by decide)) (by decide)))
  have h3 := zc_nel (1) (1) q1 h_x3 (zr_c (lo := 0) (hi := 0) (by decide)) (by decide)
  exact (s_X12_tile_140 hσ h_x2 h_x4 h_x6 (zr_w (zr_c (lo := 224) (hi := 224) (by decide)) (by decide)) (zr_add (lo := 0) (hi := 494) h_x1 (rM_28 hσ.sg _ (by decide)) (by decide)))
theorem s_X12_tile_84 {G : Nat → Int} {σ : zSt} (hσ : zIM G σ) {x1 : Int32} (h_x1 : zr (0) (239) x1) {x2 : Int32} (h_x2 : zr (0) (255) x2) {x3 : Int32} (h_x3 : zr (0) (1) x3) {x4 : Int32} (h_x4 : zr (0) (14336) x4) {s0 : Int32} (h_s0 : zr (0) (255) s0) : zok (fX12_tile_84 σ x1 x2 x3 x4 s0) (zIM G) := by
  unfold fX12_tile_84
  refine zok_br (zr_andr (lo := 0) (hi := 255) (zr_c (lo := 255) (hi := 255) (by decide)) (by decide)) (fun v11 e2 h1 => ?_)
  refine zok_if (fun q3 => ?_) (fun q3 => ?_)
  · have h4 := zc_lel (191) q3 h_x2 (zr_c (lo := 191) (hi := 191) (by decide)) (by decide)
    exact (s_X12_tile_118 hσ h_x1 (zr_w h4 (by decide)) h_x3 h_x4 h1)
  have h5 := zc_ltr (192) (z_nle q3) (zr_c (lo := 191) (hi := 191) (by decide)) h_x2 (by decide)
  refine zok_pi (s_X12_bit hσ.P (zr_w (zr_c (lo := 0) (hi := 0) (by decide)) (by decide)) (zr_w (zr_c (lo := 7) (hi := 7) (by decide)) (by decide))) (fun v13 h6 => ?_)
  refine zok_if (fun q7 => ?_) (fun q7 => ?_)
  · have h8 := zc_eql (1) (1) q7 h6 (zr_c (lo := 1) (hi := 1) (by decide)) (by decide)
    exact (s_X12_tile_141 hσ (zr_w h5 (by decide)) h_x4 h1 (zr_w h_x1 (by decide)))
  have h9 := zc_nel (0) (0) q7 h6 (zr_c (lo := 1) (hi := 1) (by decide)) (by decide)
  exact (s_X12_tile_118 hσ h_x1 (zr_w h5 (by decide)) h_x3 h_x4 h1)
theorem s_X12_tile_78 {G : Nat → Int} {σ : zSt} (hσ : zIM G σ) {x1 : Int32} (h_x1 : zr (0) (239) x1) {x2 : Int32} (h_x2 : zr (0) (255) x2) {x3 : Int32} (h_x3 : zr (0) (1) x3) {x4 : Int32} (h_x4 : zr (0) (14336) x4) : zok (fX12_tile_78 σ x1 x2 x3 x4) (zIM G) := by
  unfold fX12_tile_78
  refine zok_pi (s_X12_reg hσ.P (zr_w (zr_c (lo := 8) (hi := 8) (by decide)) (by decide))) (fun v15 h1 => ?_)
  exact (s_X12_tile_84 hσ h_x1 h_x2 h_x3 h_x4 h1)
theorem s_X12_tile_55 {G : Nat → Int} {σ : zSt} (hσ : zIM G σ) {x1 : Int32} (h_x1 : zr (0) (239) x1) {x2 : Int32} (h_x2 : zr (0) (255) x2) {x3 : Int32} (h_x3 : zr (0) (1) x3) {s0 : Int32} (h_s0 : zr (0) (14336) s0) : zok (fX12_tile_55 σ x1 x2 x3 s0) (zIM G) := by
  unfold fX12_tile_55
  refine zok_if (fun q1 => ?_) (fun q1 => ?_)
  · have h2 := zc_ler (16) q1 (zr_c (lo := 16) (hi := 16) (by decide)) h_x1 (by decide)
    exact (s_X12_tile_78 hσ (zr_w h2 (by decide)) h_x2 h_x3 h_s0)
  have h3 := zc_ltl (15) (z_nle q1) h_x1 (zr_c (lo := 16) (hi := 16) (by decide)) (by decide)
  refine zok_pi (s_X12_bit hσ.P (zr_w (zr_c (lo := 0) (hi := 0) (by decide)) (by decide)) (zr_w (zr_c (lo := 6) (hi := 6) (by decide)) (by decide))) (fun v17 h4 => ?_)
  refine zok_if (fun q5 => ?_) (fun q5 => ?_)
  · have h6 := zc_eql (1) (1) q5 h4 (zr_c (lo := 1) (hi := 1) (by decide)) (by decide)
    exact (s_X12_tile_84 hσ (zr_w h3 (by decide)) h_x2 h_x3 h_s0 (zr_w (zr_c (lo := 0) (hi := 0) (by decide)) (by decide)))
  have h7 := zc_nel (0) (0) q5 h4 (zr_c (lo := 1) (hi := 1) (by decide)) (by decide)
  exact (s_X12_tile_78 hσ (zr_w h3 (by decide)) h_x2 h_x3 h_s0)
theorem s_X12_tile_15 {G : Nat → Int} {σ : zSt} (hσ : zIM G σ) {x1 : Int32} (h_x1 : zr (0) (239) x1) {x2 : Int32} (h_x2 : zr (0) (255) x2) {s0 : Int32} (h_s0 : zr (0) (1) s0) : zok (fX12_tile_15 σ x1 x2 s0) (zIM G) := by
  unfold fX12_tile_15
  refine zok_if (fun q1 => ?_) (fun q1 => ?_)
  · have h2 := zc_eql (0) (0) q1 h_s0 (zr_c (lo := 0) (hi := 0) (by decide)) (by decide)
    refine zok_pi (s_X12_reg hσ.P (zr_w (zr_c (lo := 2) (hi := 2) (by decide)) (by decide))) (fun v19 h3 => ?_)
    refine zok_ck (by decide) ?_
    refine zok_ck (by decide) ?_
    exact (s_X12_tile_55 hσ h_x1 h_x2 (zr_w h2 (by decide)) (zr_w (zr_add (lo := 1792) (hi := 14080) (zr_mul (lo := 0) (hi := 12288) (zr_c (lo := 4096) (hi := 4096) (by decide)) (zr_rem (lo := 0) (hi := 3) 4 (by decide) (zr_div (lo := 0) (hi := 63) 4 (by decide) h3 (by decide)) (by decide)) (by decide)) (zr_c (lo := 1792) (hi := 1792) (by decide)) (by decide)) (by decide)))
  have h4 := zc_nel (1) (1) q1 h_s0 (zr_c (lo := 0) (hi := 0) (by decide)) (by decide)
  refine zok_pi (s_X12_reg hσ.P (zr_w (zr_c (lo := 2) (hi := 2) (by decide)) (by decide))) (fun v21 h5 => ?_)
  refine zok_ck (by decide) ?_
  exact (s_X12_tile_55 hσ h_x1 h_x2 (zr_w h4 (by decide)) (zr_mul (lo := 0) (hi := 14336) (zr_c (lo := 1024) (hi := 1024) (by decide)) (zr_andr (lo := 0) (hi := 14) (zr_c (lo := 14) (hi := 14) (by decide)) (by decide)) (by decide)))
theorem s_X12_tile {G : Nat → Int} {σ : zSt} (hσ : zIM G σ) {x1 : Int32} (h_x1 : zr (0) (239) x1) {x2 : Int32} (h_x2 : zr (0) (255) x2) : zok (fX12_tile σ x1 x2) (zIM G) := by
  unfold fX12_tile
  refine zok_pi (s_X12_height hσ.P) (fun v23 h1 => ?_)
  refine zok_if (fun q2 => ?_) (fun q2 => ?_)
  · have h3 := zc_eql (192) (192) q2 h1 (zr_c (lo := 192) (hi := 192) (by decide)) (by decide)
    exact (s_X12_tile_15 hσ h_x1 h_x2 (zr_w (zr_c (lo := 1) (hi := 1) (by decide)) (by decide)))
  have h4 := zc_nel (193) (240) q2 h1 (zr_c (lo := 192) (hi := 192) (by decide)) (by decide)
  exact (s_X12_tile_15 hσ h_x1 h_x2 (zr_w (zr_c (lo := 0) (hi := 0) (by decide)) (by decide)))
theorem s_X12_sprites_349 {G : Nat → Int} {σ : zSt} {k73 : zSt → Int32 → Int32 → Int32 → Int32 → Int32 → Int32 → Int32 → Option (zSt)} {Mk73 : Int} (hk73 : ∀ (σ : zSt) (x1 : Int32) (x2 : Int32) (x3 : Int32) (x4 : Int32) (x5 : Int32) (x6 : Int32) (x7 : Int32), zIM G σ → zr (0) (239) x1 → zr (0) (16128) x2 → zr (1) (2) x3 → zr (8) (16) x4 → zr (0) (8) x5 → zr (0) (1) x6 → zr (0) (64) x7 → (64) - x7.toInt < Mk73 → zok (k73 σ x1 x2 x3 x4 x5 x6 x7) (zIM G)) (hσ : zIM G σ) {x1 : Int32} (h_x1 : zr (0) (239) x1) {x2 : Int32} (h_x2 : zr (0) (16128) x2) {x3 : Int32} (h_x3 : zr (1) (2) x3) {x4 : Int32} (h_x4 : zr (8) (16) x4) {x5 : Int32} (h_x5 : zr (0) (8) x5) {x6 : Int32} (h_x6 : zr (0) (1) x6) {x7 : Int32} (h_x7 : zr (0) (63) x7) (hMk73 : (64) - x7.toInt ≤ Mk73) : zok (fX12_sprites_349 k73 σ x1 x2 x3 x4 x5 x6 x7) (zIM G) := by
  unfold fX12_sprites_349
  refine zok_br (zr_add (lo := 1) (hi := 64) h_x7 (zr_c (lo := 1) (hi := 1) (by decide)) (by decide)) (fun v1 e2 h1 => ?_)
  exact hk73 _ _ _ _ _ _ _ _ hσ h_x1 h_x2 h_x3 h_x4 h_x5 h_x6 (zr_w h1 (by decide)) (by rw [e2]; have := z_tadd (y := (1 : Int32)) h_x7 (zr_c (lo := 1) (hi := 1) (by decide)) (by decide); have e9 : (1 : Int32).toInt = 1 := rfl; omega) 
theorem s_X12_sprites_343 {G : Nat → Int} {σ : zSt} {k73 : zSt → Int32 → Int32 → Int32 → Int32 → Int32 → Int32 → Int32 → Option (zSt)} {Mk73 : Int} (hk73 : ∀ (σ : zSt) (x1 : Int32) (x2 : Int32) (x3 : Int32) (x4 : Int32) (x5 : Int32) (x6 : Int32) (x7 : Int32), zIM G σ → zr (0) (239) x1 → zr (0) (16128) x2 → zr (1) (2) x3 → zr (8) (16) x4 → zr (0) (8) x5 → zr (0) (1) x6 → zr (0) (64) x7 → (64) - x7.toInt < Mk73 → zok (k73 σ x1 x2 x3 x4 x5 x6 x7) (zIM G)) {k250 : zSt → Int32 → Int32 → Int32 → Int32 → Int32 → Int32 → Int32 → Int32 → Int32 → Int32 → Int32 → Option (zSt)} {Mk250 : Int} (hk250 : ∀ (σ : zSt) (x1 : Int32) (x2 : Int32) (x3 : Int32) (x4 : Int32) (x5 : Int32) (x6 : Int32) (x7 : Int32) (x9 : Int32) (x10 : Int32) (x11 : Int32) (x12 : Int32), zIM G σ → zr (0) (239) x1 → zr (0) (16128) x2 → zr (1) (2) x3 → zr (8) (16) x4 → zr (1) (8) x5 → zr (0) (1) x6 → zr (0) (63) x7 → zr (0) (31) x9 → zr (-8) (255) x11 → zr (0) (16) x12 → (16) - x12.toInt < Mk250 → (64) - x7.toInt ≤ Mk73 → zok (k250 σ x1 x2 x3 x4 x5 x6 x7 x9 x10 x11 x12) (zIM G)) (hσ : zIM G σ) {x1 : Int32} (h_x1 : zr (0) (239) x1) {x2 : Int32} (h_x2 : zr (0) (16128) x2) {x3 : Int32} (h_x3 : zr (1) (2) x3) {x4 : Int32} (h_x4 : zr (8) (16) x4) {x5 : Int32} (h_x5 : zr (1) (8) x5) {x6 : Int32} (h_x6 : zr (0) (1) x6) {x7 : Int32} (h_x7 : zr (0) (63) x7) {x9 : Int32} (h_x9 : zr (0) (31) x9) {x10 : Int32} {x11 : Int32} (h_x11 : zr (-8) (255) x11) {x12 : Int32} (h_x12 : zr (0) (15) x12) (hMk73 : (64) - x7.toInt ≤ Mk73) (hMk250 : (16) - x12.toInt ≤ Mk250) : zok (fX12_sprites_343 k73 k250 σ x1 x2 x3 x4 x5 x6 x7 x9 x10 x11 x12) (zIM G) := by
  unfold fX12_sprites_343
  refine zok_br (zr_add (lo := 1) (hi := 16) h_x12 (zr_c (lo := 1) (hi := 1) (by decide)) (by decide)) (fun v2 e2 h1 => ?_)
  exact hk250 _ _ _ _ _ _ _ _ _ _ _ _ hσ h_x1 h_x2 h_x3 h_x4 h_x5 h_x6 h_x7 h_x9 h_x11 (zr_w h1 (by decide)) (by rw [e2]; have := z_tadd (y := (1 : Int32)) h_x12 (zr_c (lo := 1) (hi := 1) (by decide)) (by decide); have e9 : (1 : Int32).toInt = 1 := rfl; omega) hMk73
theorem s_X12_sprites_250_body {G : Nat → Int} {σ : zSt} {k73 : zSt → Int32 → Int32 → Int32 → Int32 → Int32 → Int32 → Int32 → Option (zSt)} {Mk73 : Int} (hk73 : ∀ (σ : zSt) (x1 : Int32) (x2 : Int32) (x3 : Int32) (x4 : Int32) (x5 : Int32) (x6 : Int32) (x7 : Int32), zIM G σ → zr (0) (239) x1 → zr (0) (16128) x2 → zr (1) (2) x3 → zr (8) (16) x4 → zr (0) (8) x5 → zr (0) (1) x6 → zr (0) (64) x7 → (64) - x7.toInt < Mk73 → zok (k73 σ x1 x2 x3 x4 x5 x6 x7) (zIM G)) {k250 : zSt → Int32 → Int32 → Int32 → Int32 → Int32 → Int32 → Int32 → Int32 → Int32 → Int32 → Int32 → Option (zSt)} {Mk250 : Int} (hk250 : ∀ (σ : zSt) (x1 : Int32) (x2 : Int32) (x3 : Int32) (x4 : Int32) (x5 : Int32) (x6 : Int32) (x7 : Int32) (x9 : Int32) (x10 : Int32) (x11 : Int32) (x12 : Int32), zIM G σ → zr (0) (239) x1 → zr (0) (16128) x2 → zr (1) (2) x3 → zr (8) (16) x4 → zr (1) (8) x5 → zr (0) (1) x6 → zr (0) (63) x7 → zr (0) (31) x9 → zr (-8) (255) x11 → zr (0) (16) x12 → (16) - x12.toInt < Mk250 → (64) - x7.toInt ≤ Mk73 → zok (k250 σ x1 x2 x3 x4 x5 x6 x7 x9 x10 x11 x12) (zIM G)) (hσ : zIM G σ) {x1 : Int32} (h_x1 : zr (0) (239) x1) {x2 : Int32} (h_x2 : zr (0) (16128) x2) {x3 : Int32} (h_x3 : zr (1) (2) x3) {x4 : Int32} (h_x4 : zr (8) (16) x4) {x5 : Int32} (h_x5 : zr (1) (8) x5) {x6 : Int32} (h_x6 : zr (0) (1) x6) {x7 : Int32} (h_x7 : zr (0) (63) x7) {x9 : Int32} (h_x9 : zr (0) (31) x9) {x10 : Int32} {x11 : Int32} (h_x11 : zr (-8) (255) x11) {x12 : Int32} (h_x12 : zr (0) (16) x12) (hMk73 : (64) - x7.toInt ≤ Mk73) (hMk250 : (16) - x12.toInt ≤ Mk250) : zok (fX12_sprites_250_body k73 k250 σ x1 x2 x3 x4 x5 x6 x7 x9 x10 x11 x12) (zIM G) := by
  unfold fX12_sprites_250_body
  refine zok_if (fun q1 => ?_) (fun q1 => ?_)
  · have h2 := zc_ler (8) q1 (zr_mul (lo := 8) (hi := 16) (zr_c (lo := 8) (hi := 8) (by decide)) h_x3 (by decide)) h_x12 (by decide)
    exact (s_X12_sprites_349 hk73 hσ h_x1 h_x2 h_x3 h_x4 (zr_w h_x5 (by decide)) h_x6 h_x7 hMk73)
  have h3 := zc_ltl (15) (z_nle q1) h_x12 (zr_mul (lo := 8) (hi := 16) (zr_c (lo := 8) (hi := 8) (by decide)) h_x3 (by decide)) (by decide)
  refine zok_ck (zdv_ok h_x3 (by decide)) ?_
  refine zok_ck (zdv_ok h_x3 (by decide)) ?_
  refine zok_ck (by decide) ?_
  refine zok_pi (s_X12_tileDot hσ.P) (fun v4 h4 => ?_)
  refine zok_br (zr_add (lo := -8) (hi := 270) h_x11 h3 (by decide)) (fun v5 e6 h5 => ?_)
  refine zok_if (fun q7 => ?_) (fun q7 => ?_)
  · have h8 := zc_eql (0) (0) q7 h4 (zr_c (lo := 0) (hi := 0) (by decide)) (by decide)
    exact (s_X12_sprites_343 hk73 hk250 hσ h_x1 h_x2 h_x3 h_x4 h_x5 h_x6 h_x7 h_x9 h_x11 h3 hMk73 hMk250)
  have h9 := zc_nel (1) (15) q7 h4 (zr_c (lo := 0) (hi := 0) (by decide)) (by decide)
  refine zok_if (fun q10 => ?_) (fun q10 => ?_)
  · have h11 := zc_ltl (-1) q10 h5 (zr_c (lo := 0) (hi := 0) (by decide)) (by decide)
    exact (s_X12_sprites_343 hk73 hk250 hσ h_x1 h_x2 h_x3 h_x4 h_x5 h_x6 h_x7 h_x9 h_x11 h3 hMk73 hMk250)
  have h12 := zc_ler (0) (z_nlt q10) (zr_c (lo := 0) (hi := 0) (by decide)) h5 (by decide)
  refine zok_if (fun q13 => ?_) (fun q13 => ?_)
  · have h14 := zc_lel (255) q13 h12 (zr_c (lo := 255) (hi := 255) (by decide)) (by decide)
    refine zok_ck (zin_ok h14 (by decide)) ?_
    refine zok_if (fun q15 => ?_) (fun q15 => ?_)
    · have h16 := zc_lel (0) q15 (rM_10 hσ.sg _ (z_ix h14 (by decide))) (zr_c (lo := 0) (hi := 0) (by decide)) (by decide)
      refine zok_ck (zin_ok h14 (by decide)) ?_
      refine zok_bs (hσ.wi 0 255 (z_ix h14 (by decide)) (zr_add (lo := 17) (hi := 31) (zr_c (lo := 16) (hi := 16) (by decide)) h9 (by decide)) (by decide +kernel)) (fun σ6 e18 i17 => ?_)
      exact (s_X12_sprites_343 hk73 hk250 i17 h_x1 h_x2 h_x3 h_x4 h_x5 h_x6 h_x7 h_x9 h_x11 h3 hMk73 hMk250)
    have h19 := zc_ltr (1) (z_nle q15) (zr_c (lo := 0) (hi := 0) (by decide)) (rM_10 hσ.sg _ (z_ix h14 (by decide))) (by decide)
    refine zok_ck rfl ?_
    refine zok_ck rfl ?_
    refine zok_bs (hσ.wi 62 62 (by decide) (zr_or (lo := 0) (hi := 255) 8 (rM_26 hσ.sg _ (by decide)) (zr_c (lo := 32) (hi := 32) (by decide)) (by decide)) (by decide +kernel)) (fun σ7 e21 i20 => ?_)
    exact (s_X12_sprites_343 hk73 hk250 i20 h_x1 h_x2 h_x3 h_x4 h_x5 h_x6 h_x7 h_x9 h_x11 h3 hMk73 hMk250)
  have h22 := zc_ltr (256) (z_nle q13) (zr_c (lo := 255) (hi := 255) (by decide)) h12 (by decide)
  exact (s_X12_sprites_343 hk73 hk250 hσ h_x1 h_x2 h_x3 h_x4 h_x5 h_x6 h_x7 h_x9 h_x11 h3 hMk73 hMk250)
theorem s_X12_sprites_250 {G : Nat → Int} {k73 : zSt → Int32 → Int32 → Int32 → Int32 → Int32 → Int32 → Int32 → Option (zSt)} {Mk73 : Int} (hk73 : ∀ (σ : zSt) (x1 : Int32) (x2 : Int32) (x3 : Int32) (x4 : Int32) (x5 : Int32) (x6 : Int32) (x7 : Int32), zIM G σ → zr (0) (239) x1 → zr (0) (16128) x2 → zr (1) (2) x3 → zr (8) (16) x4 → zr (0) (8) x5 → zr (0) (1) x6 → zr (0) (64) x7 → (64) - x7.toInt < Mk73 → zok (k73 σ x1 x2 x3 x4 x5 x6 x7) (zIM G)) : ∀ (n : Nat) {σ : zSt} (hσ : zIM G σ) {x1 : Int32} (h_x1 : zr (0) (239) x1) {x2 : Int32} (h_x2 : zr (0) (16128) x2) {x3 : Int32} (h_x3 : zr (1) (2) x3) {x4 : Int32} (h_x4 : zr (8) (16) x4) {x5 : Int32} (h_x5 : zr (1) (8) x5) {x6 : Int32} (h_x6 : zr (0) (1) x6) {x7 : Int32} (h_x7 : zr (0) (63) x7) {x9 : Int32} (h_x9 : zr (0) (31) x9) {x10 : Int32} {x11 : Int32} (h_x11 : zr (-8) (255) x11) {x12 : Int32} (h_x12 : zr (0) (16) x12) (hm : (16) - x12.toInt < n) (hMk73 : (64) - x7.toInt ≤ Mk73), zok (fX12_sprites_250 k73 n σ x1 x2 x3 x4 x5 x6 x7 x9 x10 x11 x12) (zIM G) := by
  intro n
  induction n with
  | zero => intro σ hσ x1 h_x1 x2 h_x2 x3 h_x3 x4 h_x4 x5 h_x5 x6 h_x6 x7 h_x7 x9 h_x9 x10 x11 h_x11 x12 h_x12 hm hMk73; have h9 := h_x12.1; have h8 := h_x12.2; exfalso; omega
  | succ n ih => intro σ hσ x1 h_x1 x2 h_x2 x3 h_x3 x4 h_x4 x5 h_x5 x6 h_x6 x7 h_x7 x9 h_x9 x10 x11 h_x11 x12 h_x12 hm hMk73; exact s_X12_sprites_250_body hk73 (fun σ x1 x2 x3 x4 x5 x6 x7 x9 x10 x11 x12 hσ h_x1 h_x2 h_x3 h_x4 h_x5 h_x6 h_x7 h_x9 h_x11 h_x12 hm1 hMk73 => ih hσ h_x1 h_x2 h_x3 h_x4 h_x5 h_x6 h_x7 h_x9 h_x11 h_x12 (by omega) hMk73) hσ h_x1 h_x2 h_x3 h_x4 h_x5 h_x6 h_x7 h_x9 h_x11 h_x12 hMk73 (Int.le_refl _)
theorem s_X12_sprites_244 {G : Nat → Int} {σ : zSt} {k73 : zSt → Int32 → Int32 → Int32 → Int32 → Int32 → Int32 → Int32 → Option (zSt)} {Mk73 : Int} (hk73 : ∀ (σ : zSt) (x1 : Int32) (x2 : Int32) (x3 : Int32) (x4 : Int32) (x5 : Int32) (x6 : Int32) (x7 : Int32), zIM G σ → zr (0) (239) x1 → zr (0) (16128) x2 → zr (1) (2) x3 → zr (8) (16) x4 → zr (0) (8) x5 → zr (0) (1) x6 → zr (0) (64) x7 → (64) - x7.toInt < Mk73 → zok (k73 σ x1 x2 x3 x4 x5 x6 x7) (zIM G)) (hσ : zIM G σ) {x1 : Int32} (h_x1 : zr (0) (239) x1) {x2 : Int32} (h_x2 : zr (0) (16128) x2) {x3 : Int32} (h_x3 : zr (1) (2) x3) {x4 : Int32} (h_x4 : zr (8) (16) x4) {x5 : Int32} (h_x5 : zr (1) (8) x5) {x6 : Int32} (h_x6 : zr (0) (1) x6) {x7 : Int32} (h_x7 : zr (0) (63) x7) {x9 : Int32} (h_x9 : zr (0) (31) x9) {x10 : Int32} {s0 : Int32} (h_s0 : zr (0) (8) s0) {s1 : Int32} (h_s1 : zr (0) (255) s1) (hMk73 : (64) - x7.toInt ≤ Mk73) : zok (fX12_sprites_244 k73 σ x1 x2 x3 x4 x5 x6 x7 x9 x10 s0 s1) (zIM G) := by
  unfold fX12_sprites_244
  refine zok_br (zr_sub (lo := -8) (hi := 255) h_s1 h_s0 (by decide)) (fun v8 e2 h1 => ?_)
  exact (s_X12_sprites_250 hk73 zfuel hσ h_x1 h_x2 h_x3 h_x4 h_x5 h_x6 h_x7 h_x9 h1 (zr_w (zr_c (lo := 0) (hi := 0) (by decide)) (by decide)) (by decide) hMk73)
theorem s_X12_sprites_212 {G : Nat → Int} {σ : zSt} {k73 : zSt → Int32 → Int32 → Int32 → Int32 → Int32 → Int32 → Int32 → Option (zSt)} {Mk73 : Int} (hk73 : ∀ (σ : zSt) (x1 : Int32) (x2 : Int32) (x3 : Int32) (x4 : Int32) (x5 : Int32) (x6 : Int32) (x7 : Int32), zIM G σ → zr (0) (239) x1 → zr (0) (16128) x2 → zr (1) (2) x3 → zr (8) (16) x4 → zr (0) (8) x5 → zr (0) (1) x6 → zr (0) (64) x7 → (64) - x7.toInt < Mk73 → zok (k73 σ x1 x2 x3 x4 x5 x6 x7) (zIM G)) (hσ : zIM G σ) {x1 : Int32} (h_x1 : zr (0) (239) x1) {x2 : Int32} (h_x2 : zr (0) (16128) x2) {x3 : Int32} (h_x3 : zr (1) (2) x3) {x4 : Int32} (h_x4 : zr (8) (16) x4) {x5 : Int32} (h_x5 : zr (1) (8) x5) {x6 : Int32} (h_x6 : zr (0) (1) x6) {x7 : Int32} (h_x7 : zr (0) (63) x7) {x9 : Int32} (h_x9 : zr (0) (31) x9) {s0 : Int32} (hMk73 : (64) - x7.toInt ≤ Mk73) : zok (fX12_sprites_212 k73 σ x1 x2 x3 x4 x5 x6 x7 x9 s0) (zIM G) := by
  unfold fX12_sprites_212
  refine zok_pi (s_X12_video8 hσ.P) (fun v10 h1 => ?_)
  refine zok_pi (s_X12_bit hσ.P (zr_w (zr_c (lo := 0) (hi := 0) (by decide)) (by decide)) (zr_w (zr_c (lo := 3) (hi := 3) (by decide)) (by decide))) (fun v12 h2 => ?_)
  refine zok_if (fun q3 => ?_) (fun q3 => ?_)
  · have h4 := zc_eql (1) (1) q3 h2 (zr_c (lo := 1) (hi := 1) (by decide)) (by decide)
    exact (s_X12_sprites_244 hk73 hσ h_x1 h_x2 h_x3 h_x4 h_x5 h_x6 h_x7 h_x9 (zr_w (zr_c (lo := 8) (hi := 8) (by decide)) (by decide)) h1 hMk73)
  have h5 := zc_nel (0) (0) q3 h2 (zr_c (lo := 1) (hi := 1) (by decide)) (by decide)
  exact (s_X12_sprites_244 hk73 hσ h_x1 h_x2 h_x3 h_x4 h_x5 h_x6 h_x7 h_x9 (zr_w (zr_c (lo := 0) (hi := 0) (by decide)) (by decide)) h1 hMk73)
theorem s_X12_sprites_183 {G : Nat → Int} {σ : zSt} {k73 : zSt → Int32 → Int32 → Int32 → Int32 → Int32 → Int32 → Int32 → Option (zSt)} {Mk73 : Int} (hk73 : ∀ (σ : zSt) (x1 : Int32) (x2 : Int32) (x3 : Int32) (x4 : Int32) (x5 : Int32) (x6 : Int32) (x7 : Int32), zIM G σ → zr (0) (239) x1 → zr (0) (16128) x2 → zr (1) (2) x3 → zr (8) (16) x4 → zr (0) (8) x5 → zr (0) (1) x6 → zr (0) (64) x7 → (64) - x7.toInt < Mk73 → zok (k73 σ x1 x2 x3 x4 x5 x6 x7) (zIM G)) (hσ : zIM G σ) {x1 : Int32} (h_x1 : zr (0) (239) x1) {x2 : Int32} (h_x2 : zr (0) (16128) x2) {x3 : Int32} (h_x3 : zr (1) (2) x3) {x4 : Int32} (h_x4 : zr (8) (16) x4) {x5 : Int32} (h_x5 : zr (1) (8) x5) {x6 : Int32} (h_x6 : zr (0) (1) x6) {x7 : Int32} (h_x7 : zr (0) (63) x7) {x9 : Int32} (h_x9 : zr (0) (31) x9) {s0 : Int32} (h_s0 : zr (0) (256) s0) {s1 : Int32} (h_s1 : zr (0) (255) s1) (hMk73 : (64) - x7.toInt ≤ Mk73) : zok (fX12_sprites_183 k73 σ x1 x2 x3 x4 x5 x6 x7 x9 s0 s1) (zIM G) := by
  unfold fX12_sprites_183
  refine zok_br (zr_add (lo := 0) (hi := 511) h_s1 h_s0 (by decide)) (fun v13 e2 h1 => ?_)
  refine zok_if (fun q3 => ?_) (fun q3 => ?_)
  · have h4 := zc_eql (16) (16) q3 h_x4 (zr_c (lo := 16) (hi := 16) (by decide)) (by decide)
    refine zok_ck (zdv_ok h_x3 (by decide)) ?_
    refine zok_ck (by decide) ?_
    exact (s_X12_sprites_212 hk73 hσ h_x1 h_x2 h_x3 (zr_w h4 (by decide)) h_x5 h_x6 h_x7 h_x9 hMk73)
  have h5 := zc_nel (8) (15) q3 h_x4 (zr_c (lo := 16) (hi := 16) (by decide)) (by decide)
  exact (s_X12_sprites_212 hk73 hσ h_x1 h_x2 h_x3 (zr_w h5 (by decide)) h_x5 h_x6 h_x7 h_x9 hMk73)
end ZJN1
section ZJN2
theorem s_X12_sprites_104 {G : Nat → Int} {σ : zSt} {k73 : zSt → Int32 → Int32 → Int32 → Int32 → Int32 → Int32 → Int32 → Option (zSt)} {Mk73 : Int} (hk73 : ∀ (σ : zSt) (x1 : Int32) (x2 : Int32) (x3 : Int32) (x4 : Int32) (x5 : Int32) (x6 : Int32) (x7 : Int32), zIM G σ → zr (0) (239) x1 → zr (0) (16128) x2 → zr (1) (2) x3 → zr (8) (16) x4 → zr (0) (8) x5 → zr (0) (1) x6 → zr (0) (64) x7 → (64) - x7.toInt < Mk73 → zok (k73 σ x1 x2 x3 x4 x5 x6 x7) (zIM G)) (hσ : zIM G σ) {x1 : Int32} (h_x1 : zr (0) (239) x1) {x2 : Int32} (h_x2 : zr (0) (16128) x2) {x3 : Int32} (h_x3 : zr (1) (2) x3) {x4 : Int32} (h_x4 : zr (8) (16) x4) {x5 : Int32} (h_x5 : zr (0) (8) x5) {x6 : Int32} (h_x6 : zr (0) (1) x6) {x7 : Int32} (h_x7 : zr (0) (63) x7) {x8 : Int32} (h_x8 : zr (0) (255) x8) (hMk73 : (64) - x7.toInt ≤ Mk73) : zok (fX12_sprites_104 k73 σ x1 x2 x3 x4 x5 x6 x7 x8) (zIM G) := by
  unfold fX12_sprites_104
  refine zok_br (zr_andr (lo := 0) (hi := 255) (zr_c (lo := 255) (hi := 255) (by decide)) (by decide)) (fun v14 e2 h1 => ?_)
  refine zok_if (fun q3 => ?_) (fun q3 => ?_)
  · have h4 := zc_ltl (31) q3 h1 (zr_mul (lo := 8) (hi := 32) h_x4 h_x3 (by decide)) (by decide)
    refine zok_if (fun q5 => ?_) (fun q5 => ?_)
    · have h6 := zc_eql (8) (8) q5 h_x5 (zr_c (lo := 8) (hi := 8) (by decide)) (by decide)
      refine zok_ck rfl ?_
      refine zok_ck rfl ?_
      refine zok_bs (hσ.wi 62 62 (by decide) (zr_or (lo := 0) (hi := 255) 8 (rM_26 hσ.sg _ (by decide)) (zr_c (lo := 64) (hi := 64) (by decide)) (by decide)) (by decide +kernel)) (fun σ20 e8 i7 => ?_)
      exact zok_some i7
    have h9 := zc_nel (0) (7) q5 h_x5 (zr_c (lo := 8) (hi := 8) (by decide)) (by decide)
    refine zok_br (zr_add (lo := 1) (hi := 8) h9 (zr_c (lo := 1) (hi := 1) (by decide)) (by decide)) (fun v15 e11 h10 => ?_)
    refine zok_pi (s_X12_video8 hσ.P) (fun v17 h12 => ?_)
    refine zok_pi (s_X12_bit hσ.P (zr_w (zr_c (lo := 6) (hi := 6) (by decide)) (by decide)) (zr_w (zr_c (lo := 2) (hi := 2) (by decide)) (by decide))) (fun v19 h13 => ?_)
    refine zok_if (fun q14 => ?_) (fun q14 => ?_)
    · have h15 := zc_eql (1) (1) q14 h13 (zr_c (lo := 1) (hi := 1) (by decide)) (by decide)
      exact (s_X12_sprites_183 hk73 hσ h_x1 h_x2 h_x3 h_x4 h10 h_x6 h_x7 h4 (zr_w (zr_c (lo := 256) (hi := 256) (by decide)) (by decide)) h12 hMk73)
    have h16 := zc_nel (0) (0) q14 h13 (zr_c (lo := 1) (hi := 1) (by decide)) (by decide)
    exact (s_X12_sprites_183 hk73 hσ h_x1 h_x2 h_x3 h_x4 h10 h_x6 h_x7 h4 (zr_w (zr_c (lo := 0) (hi := 0) (by decide)) (by decide)) h12 hMk73)
  have h17 := zc_ler (8) (z_nlt q3) (zr_mul (lo := 8) (hi := 32) h_x4 h_x3 (by decide)) h1 (by decide)
  exact (s_X12_sprites_349 hk73 hσ h_x1 h_x2 h_x3 h_x4 h_x5 h_x6 h_x7 hMk73)
theorem s_X12_sprites_73_body {G : Nat → Int} {σ : zSt} {k73 : zSt → Int32 → Int32 → Int32 → Int32 → Int32 → Int32 → Int32 → Option (zSt)} {Mk73 : Int} (hk73 : ∀ (σ : zSt) (x1 : Int32) (x2 : Int32) (x3 : Int32) (x4 : Int32) (x5 : Int32) (x6 : Int32) (x7 : Int32), zIM G σ → zr (0) (239) x1 → zr (0) (16128) x2 → zr (1) (2) x3 → zr (8) (16) x4 → zr (0) (8) x5 → zr (0) (1) x6 → zr (0) (64) x7 → (64) - x7.toInt < Mk73 → zok (k73 σ x1 x2 x3 x4 x5 x6 x7) (zIM G)) (hσ : zIM G σ) {x1 : Int32} (h_x1 : zr (0) (239) x1) {x2 : Int32} (h_x2 : zr (0) (16128) x2) {x3 : Int32} (h_x3 : zr (1) (2) x3) {x4 : Int32} (h_x4 : zr (8) (16) x4) {x5 : Int32} (h_x5 : zr (0) (8) x5) {x6 : Int32} (h_x6 : zr (0) (1) x6) {x7 : Int32} (h_x7 : zr (0) (64) x7) (hMk73 : (64) - x7.toInt ≤ Mk73) : zok (fX12_sprites_73_body k73 σ x1 x2 x3 x4 x5 x6 x7) (zIM G) := by
  unfold fX12_sprites_73_body
  refine zok_if (fun q1 => ?_) (fun q1 => ?_)
  · have h2 := zc_ler (64) q1 (zr_c (lo := 64) (hi := 64) (by decide)) h_x7 (by decide)
    exact zok_some hσ
  have h3 := zc_ltl (63) (z_nle q1) h_x7 (zr_c (lo := 64) (hi := 64) (by decide)) (by decide)
  refine zok_pi (s_X12_video8 hσ.P) (fun v22 h4 => ?_)
  refine zok_if (fun q5 => ?_) (fun q5 => ?_)
  · have h6 := zc_eql (0) (0) q5 h_x6 (zr_c (lo := 0) (hi := 0) (by decide)) (by decide)
    exact (s_X12_sprites_104 hk73 hσ h_x1 h_x2 h_x3 h_x4 h_x5 (zr_w h6 (by decide)) h3 h4 hMk73)
  have h7 := zc_nel (1) (1) q5 h_x6 (zr_c (lo := 0) (hi := 0) (by decide)) (by decide)
  refine zok_if (fun q8 => ?_) (fun q8 => ?_)
  · have h9 := zc_eql (208) (208) q8 h4 (zr_c (lo := 208) (hi := 208) (by decide)) (by decide)
    exact zok_some hσ
  exact (s_X12_sprites_104 hk73 hσ h_x1 h_x2 h_x3 h_x4 h_x5 (zr_w h7 (by decide)) h3 h4 hMk73)
theorem s_X12_sprites_73 {G : Nat → Int} : ∀ (n : Nat) {σ : zSt} (hσ : zIM G σ) {x1 : Int32} (h_x1 : zr (0) (239) x1) {x2 : Int32} (h_x2 : zr (0) (16128) x2) {x3 : Int32} (h_x3 : zr (1) (2) x3) {x4 : Int32} (h_x4 : zr (8) (16) x4) {x5 : Int32} (h_x5 : zr (0) (8) x5) {x6 : Int32} (h_x6 : zr (0) (1) x6) {x7 : Int32} (h_x7 : zr (0) (64) x7) (hm : (64) - x7.toInt < n), zok (fX12_sprites_73 n σ x1 x2 x3 x4 x5 x6 x7) (zIM G) := by
  intro n
  induction n with
  | zero => intro σ hσ x1 h_x1 x2 h_x2 x3 h_x3 x4 h_x4 x5 h_x5 x6 h_x6 x7 h_x7 hm ; have h9 := h_x7.1; have h8 := h_x7.2; exfalso; omega
  | succ n ih => intro σ hσ x1 h_x1 x2 h_x2 x3 h_x3 x4 h_x4 x5 h_x5 x6 h_x6 x7 h_x7 hm ; exact s_X12_sprites_73_body (fun σ x1 x2 x3 x4 x5 x6 x7 hσ h_x1 h_x2 h_x3 h_x4 h_x5 h_x6 h_x7 hm1 => ih hσ h_x1 h_x2 h_x3 h_x4 h_x5 h_x6 h_x7 (by omega)) hσ h_x1 h_x2 h_x3 h_x4 h_x5 h_x6 h_x7 (Int.le_refl _)
theorem s_X12_sprites_68 {G : Nat → Int} {σ : zSt} (hσ : zIM G σ) {x1 : Int32} (h_x1 : zr (0) (239) x1) {x2 : Int32} (h_x2 : zr (0) (16128) x2) {x3 : Int32} (h_x3 : zr (1) (2) x3) {x4 : Int32} (h_x4 : zr (8) (16) x4) {x5 : Int32} (h_x5 : zr (0) (0) x5) {s0 : Int32} (h_s0 : zr (0) (1) s0) : zok (fX12_sprites_68 σ x1 x2 x3 x4 x5 s0) (zIM G) := by
  unfold fX12_sprites_68
  exact (s_X12_sprites_73 zfuel hσ h_x1 h_x2 h_x3 h_x4 (zr_w h_x5 (by decide)) h_s0 (zr_w (zr_c (lo := 0) (hi := 0) (by decide)) (by decide)) (by decide))
theorem s_X12_sprites_48 {G : Nat → Int} {σ : zSt} (hσ : zIM G σ) {x1 : Int32} (h_x1 : zr (0) (239) x1) {x2 : Int32} (h_x2 : zr (0) (16128) x2) {x3 : Int32} (h_x3 : zr (1) (2) x3) {s0 : Int32} (h_s0 : zr (8) (16) s0) : zok (fX12_sprites_48 σ x1 x2 x3 s0) (zIM G) := by
  unfold fX12_sprites_48
  refine zok_pi (s_X12_height hσ.P) (fun v24 h1 => ?_)
  refine zok_if (fun q2 => ?_) (fun q2 => ?_)
  · have h3 := zc_eql (192) (192) q2 h1 (zr_c (lo := 192) (hi := 192) (by decide)) (by decide)
    exact (s_X12_sprites_68 hσ h_x1 h_x2 h_x3 h_s0 (zr_c (lo := 0) (hi := 0) (by decide)) (zr_w (zr_c (lo := 1) (hi := 1) (by decide)) (by decide)))
  have h4 := zc_nel (193) (240) q2 h1 (zr_c (lo := 192) (hi := 192) (by decide)) (by decide)
  exact (s_X12_sprites_68 hσ h_x1 h_x2 h_x3 h_s0 (zr_c (lo := 0) (hi := 0) (by decide)) (zr_w (zr_c (lo := 0) (hi := 0) (by decide)) (by decide)))
theorem s_X12_sprites_30 {G : Nat → Int} {σ : zSt} (hσ : zIM G σ) {x1 : Int32} (h_x1 : zr (0) (239) x1) {x2 : Int32} (h_x2 : zr (0) (16128) x2) {s0 : Int32} (h_s0 : zr (1) (2) s0) : zok (fX12_sprites_30 σ x1 x2 s0) (zIM G) := by
  unfold fX12_sprites_30
  refine zok_pi (s_X12_bit hσ.P (zr_w (zr_c (lo := 1) (hi := 1) (by decide)) (by decide)) (zr_w (zr_c (lo := 1) (hi := 1) (by decide)) (by decide))) (fun v26 h1 => ?_)
  refine zok_if (fun q2 => ?_) (fun q2 => ?_)
  · have h3 := zc_eql (1) (1) q2 h1 (zr_c (lo := 1) (hi := 1) (by decide)) (by decide)
    exact (s_X12_sprites_48 hσ h_x1 h_x2 h_s0 (zr_w (zr_c (lo := 16) (hi := 16) (by decide)) (by decide)))
  have h4 := zc_nel (0) (0) q2 h1 (zr_c (lo := 1) (hi := 1) (by decide)) (by decide)
  exact (s_X12_sprites_48 hσ h_x1 h_x2 h_s0 (zr_w (zr_c (lo := 8) (hi := 8) (by decide)) (by decide)))
theorem s_X12_sprites {G : Nat → Int} {σ : zSt} (hσ : zIM G σ) {x1 : Int32} (h_x1 : zr (0) (239) x1) : zok (fX12_sprites σ x1) (zIM G) := by
  unfold fX12_sprites
  refine zok_pi (s_X12_reg hσ.P (zr_w (zr_c (lo := 5) (hi := 5) (by decide)) (by decide))) (fun v28 h1 => ?_)
  refine zok_ck (by decide) ?_
  refine zok_ck (by decide) ?_
  refine zok_br (zr_mul (lo := 0) (hi := 16128) (zr_c (lo := 256) (hi := 256) (by decide)) (zr_rem (lo := 0) (hi := 63) 64 (by decide) (zr_div (lo := 0) (hi := 127) 2 (by decide) h1 (by decide)) (by decide)) (by decide)) (fun v29 e3 h2 => ?_)
  refine zok_pi (s_X12_bit hσ.P (zr_w (zr_c (lo := 1) (hi := 1) (by decide)) (by decide)) (zr_w (zr_c (lo := 0) (hi := 0) (by decide)) (by decide))) (fun v31 h4 => ?_)
  refine zok_if (fun q5 => ?_) (fun q5 => ?_)
  · have h6 := zc_eql (1) (1) q5 h4 (zr_c (lo := 1) (hi := 1) (by decide)) (by decide)
    exact (s_X12_sprites_30 hσ h_x1 h2 (zr_w (zr_c (lo := 2) (hi := 2) (by decide)) (by decide)))
  have h7 := zc_nel (0) (0) q5 h4 (zr_c (lo := 1) (hi := 1) (by decide)) (by decide)
  exact (s_X12_sprites_30 hσ h_x1 h2 (zr_w (zr_c (lo := 1) (hi := 1) (by decide)) (by decide)))
theorem s_X12_colour_62 {σ : zSt} (hσ : zPM σ) {s0 : Int32} (h_s0 : zr (0) (4095) s0) : zok (fX12_colour_62 σ s0) (zPi σ (fun v : Int32 => zr (0) (4095) v)) := by
  unfold fX12_colour_62
  exact zok_spi h_s0
theorem s_X12_colour_252 {σ : zSt} (hσ : zPM σ) {s0 : Int32} (h_s0 : zr (0) (4095) s0) : zok (fX12_colour_252 σ s0) (zPi σ (fun v : Int32 => zr (0) (4095) v)) := by
  unfold fX12_colour_252
  exact zok_spi h_s0
theorem s_X12_colour_217 {σ : zSt} (hσ : zPM σ) {x2 : Int32} (h_x2 : zr (0) (63) x2) : zok (fX12_colour_217 σ x2) (zPi σ (fun v : Int32 => zr (0) (4095) v)) := by
  unfold fX12_colour_217
  refine zok_if (fun q1 => ?_) (fun q1 => ?_)
  · have h2 := zc_eql (2) (2) q1 (rM_1 hσ.sg _ (by decide)) (zr_c (lo := 2) (hi := 2) (by decide)) (by decide)
    refine zok_ck (by decide) ?_
    refine zok_ck (by decide) ?_
    refine zok_ck (by decide) ?_
    refine zok_ck (by decide) ?_
    exact (s_X12_colour_252 hσ (zr_add (lo := 0) (hi := 4095) (zr_add (lo := 0) (hi := 255) (zr_mul (lo := 0) (hi := 15) (zr_c (lo := 5) (hi := 5) (by decide)) (zr_rem (lo := 0) (hi := 3) 4 (by decide) h_x2 (by decide)) (by decide)) (zr_mul (lo := 0) (hi := 240) (zr_c (lo := 80) (hi := 80) (by decide)) (zr_rem (lo := 0) (hi := 3) 4 (by decide) (zr_div (lo := 0) (hi := 15) 4 (by decide) h_x2 (by decide)) (by decide)) (by decide)) (by decide)) (zr_mul (lo := 0) (hi := 3840) (zr_c (lo := 1280) (hi := 1280) (by decide)) (zr_div (lo := 0) (hi := 3) 16 (by decide) h_x2 (by decide)) (by decide)) (by decide)))
  have h3 := zc_nel (0) (1) q1 (rM_1 hσ.sg _ (by decide)) (zr_c (lo := 2) (hi := 2) (by decide)) (by decide)
  exact (s_X12_colour_252 hσ (zr_w h_x2 (by decide)))
theorem s_X12_colour {σ : zSt} (hσ : zPM σ) {x1 : Int32} (h_x1 : zr (0) (31) x1) : zok (fX12_colour σ x1) (zPi σ (fun v : Int32 => zr (0) (4095) v)) := by
  unfold fX12_colour
  refine zok_pi (s_X12_mode hσ) (fun v2 h1 => ?_)
  refine zok_if (fun q2 => ?_) (fun q2 => ?_)
  · have h3 := zc_eql (4) (4) q2 h1 (zr_c (lo := 4) (hi := 4) (by decide)) (by decide)
    refine zok_if (fun q4 => ?_) (fun q4 => ?_)
    · have h5 := zc_eql (2) (2) q4 (rM_1 hσ.sg _ (by decide)) (zr_c (lo := 2) (hi := 2) (by decide)) (by decide)
      refine zok_ck (zin_ok (zr_mul (lo := 0) (hi := 62) (zr_c (lo := 2) (hi := 2) (by decide)) h_x1 (by decide)) (by decide)) ?_
      refine zok_ck (zin_ok (zr_add (lo := 1) (hi := 63) (zr_mul (lo := 0) (hi := 62) (zr_c (lo := 2) (hi := 2) (by decide)) h_x1 (by decide)) (zr_c (lo := 1) (hi := 1) (by decide)) (by decide)) (by decide)) ?_
      refine zok_ck (by decide) ?_
      exact (s_X12_colour_62 hσ (zr_rem (lo := 0) (hi := 4095) 4096 (by decide) (zr_or (lo := 0) (hi := 65535) 16 (zr_andr (lo := 0) (hi := 255) (zr_c (lo := 255) (hi := 255) (by decide)) (by decide)) (zr_shl (lo := 0) (hi := 65280) 8 (by decide) (zr_andr (lo := 0) (hi := 255) (zr_c (lo := 255) (hi := 255) (by decide)) (by decide)) (by decide)) (by decide)) (by decide)))
    have h6 := zc_nel (0) (1) q4 (rM_1 hσ.sg _ (by decide)) (zr_c (lo := 2) (hi := 2) (by decide)) (by decide)
    refine zok_ck (zin_ok h_x1 (by decide)) ?_
    exact (s_X12_colour_62 hσ (zr_w (zr_andr (lo := 0) (hi := 63) (zr_c (lo := 63) (hi := 63) (by decide)) (by decide)) (by decide)))
  have h7 := zc_nel (0) (3) q2 h1 (zr_c (lo := 4) (hi := 4) (by decide)) (by decide)
  refine zok_if (fun q8 => ?_) (fun q8 => ?_)
  · have h9 := zc_eql (2) (2) q8 h_x1 (zr_c (lo := 2) (hi := 2) (by decide)) (by decide)
    exact (s_X12_colour_217 hσ (zr_w (zr_c (lo := 8) (hi := 8) (by decide)) (by decide)))
  refine zok_if (fun q10 => ?_) (fun q10 => ?_)
  · have h11 := zc_eql (3) (3) q10 h_x1 (zr_c (lo := 3) (hi := 3) (by decide)) (by decide)
    exact (s_X12_colour_217 hσ (zr_w (zr_c (lo := 12) (hi := 12) (by decide)) (by decide)))
  refine zok_if (fun q12 => ?_) (fun q12 => ?_)
  · have h13 := zc_eql (4) (4) q12 h_x1 (zr_c (lo := 4) (hi := 4) (by decide)) (by decide)
    exact (s_X12_colour_217 hσ (zr_w (zr_c (lo := 16) (hi := 16) (by decide)) (by decide)))
  refine zok_if (fun q14 => ?_) (fun q14 => ?_)
  · have h15 := zc_eql (5) (5) q14 h_x1 (zr_c (lo := 5) (hi := 5) (by decide)) (by decide)
    exact (s_X12_colour_217 hσ (zr_w (zr_c (lo := 48) (hi := 48) (by decide)) (by decide)))
  refine zok_if (fun q16 => ?_) (fun q16 => ?_)
  · have h17 := zc_eql (6) (6) q16 h_x1 (zr_c (lo := 6) (hi := 6) (by decide)) (by decide)
    exact (s_X12_colour_217 hσ (zr_w (zr_c (lo := 1) (hi := 1) (by decide)) (by decide)))
  refine zok_if (fun q18 => ?_) (fun q18 => ?_)
  · have h19 := zc_eql (7) (7) q18 h_x1 (zr_c (lo := 7) (hi := 7) (by decide)) (by decide)
    exact (s_X12_colour_217 hσ (zr_w (zr_c (lo := 60) (hi := 60) (by decide)) (by decide)))
  refine zok_if (fun q20 => ?_) (fun q20 => ?_)
  · have h21 := zc_eql (8) (8) q20 h_x1 (zr_c (lo := 8) (hi := 8) (by decide)) (by decide)
    exact (s_X12_colour_217 hσ (zr_w (zr_c (lo := 2) (hi := 2) (by decide)) (by decide)))
  refine zok_if (fun q22 => ?_) (fun q22 => ?_)
  · have h23 := zc_eql (9) (9) q22 h_x1 (zr_c (lo := 9) (hi := 9) (by decide)) (by decide)
    exact (s_X12_colour_217 hσ (zr_w (zr_c (lo := 3) (hi := 3) (by decide)) (by decide)))
  refine zok_if (fun q24 => ?_) (fun q24 => ?_)
  · have h25 := zc_eql (10) (10) q24 h_x1 (zr_c (lo := 10) (hi := 10) (by decide)) (by decide)
    exact (s_X12_colour_217 hσ (zr_w (zr_c (lo := 5) (hi := 5) (by decide)) (by decide)))
  refine zok_if (fun q26 => ?_) (fun q26 => ?_)
  · have h27 := zc_eql (11) (11) q26 h_x1 (zr_c (lo := 11) (hi := 11) (by decide)) (by decide)
    exact (s_X12_colour_217 hσ (zr_w (zr_c (lo := 15) (hi := 15) (by decide)) (by decide)))
  refine zok_if (fun q28 => ?_) (fun q28 => ?_)
  · have h29 := zc_eql (12) (12) q28 h_x1 (zr_c (lo := 12) (hi := 12) (by decide)) (by decide)
    exact (s_X12_colour_217 hσ (zr_w (zr_c (lo := 4) (hi := 4) (by decide)) (by decide)))
  refine zok_if (fun q30 => ?_) (fun q30 => ?_)
  · have h31 := zc_eql (13) (13) q30 h_x1 (zr_c (lo := 13) (hi := 13) (by decide)) (by decide)
    exact (s_X12_colour_217 hσ (zr_w (zr_c (lo := 51) (hi := 51) (by decide)) (by decide)))
  refine zok_if (fun q32 => ?_) (fun q32 => ?_)
  · have h33 := zc_eql (14) (14) q32 h_x1 (zr_c (lo := 14) (hi := 14) (by decide)) (by decide)
    exact (s_X12_colour_217 hσ (zr_w (zr_c (lo := 21) (hi := 21) (by decide)) (by decide)))
  refine zok_if (fun q34 => ?_) (fun q34 => ?_)
  · have h35 := zc_eql (15) (15) q34 h_x1 (zr_c (lo := 15) (hi := 15) (by decide)) (by decide)
    exact (s_X12_colour_217 hσ (zr_w (zr_c (lo := 63) (hi := 63) (by decide)) (by decide)))
  exact (s_X12_colour_217 hσ (zr_w (zr_c (lo := 0) (hi := 0) (by decide)) (by decide)))
theorem s_X12_old_48 {σ : zSt} (hσ : zPM σ) : zok (fX12_old_48 σ ) (zPi σ (fun v : Int32 => zr (0) (15) v)) := by
  unfold fX12_old_48
  exact zok_spi (zr_w (zr_c (lo := 0) (hi := 0) (by decide)) (by decide))
theorem s_X12_old_131 {σ : zSt} (hσ : zPM σ) {s0 : Int32} (h_s0 : zr (0) (15) s0) : zok (fX12_old_131 σ s0) (zPi σ (fun v : Int32 => zr (0) (15) v)) := by
  unfold fX12_old_131
  exact zok_spi h_s0
theorem s_X12_old_209 {σ : zSt} (hσ : zPM σ) {s0 : Int32} (h_s0 : zr (0) (15) s0) : zok (fX12_old_209 σ s0) (zPi σ (fun v : Int32 => zr (0) (15) v)) := by
  unfold fX12_old_209
  exact zok_spi h_s0
theorem s_X12_old_395 {σ : zSt} (hσ : zPM σ) {s0 : Int32} (h_s0 : zr (0) (15) s0) : zok (fX12_old_395 σ s0) (zPi σ (fun v : Int32 => zr (0) (15) v)) := by
  unfold fX12_old_395
  exact zok_spi h_s0
theorem s_X12_old_367 {σ : zSt} (hσ : zPM σ) {x2 : Int32} (h_x2 : zr (0) (255) x2) {x6 : Int32} (h_x6 : zr (0) (255) x6) {x7 : Int32} (h_x7 : zr (0) (255) x7) : zok (fX12_old_367 σ x2 x6 x7) (zPi σ (fun v : Int32 => zr (0) (15) v)) := by
  unfold fX12_old_367
  refine zok_ck (by decide) ?_
  refine zok_if (fun q1 => ?_) (fun q1 => ?_)
  · have h2 := zc_eql (1) (1) q1 (zr_andr (lo := 0) (hi := 1) (zr_c (lo := 1) (hi := 1) (by decide)) (by decide)) (zr_c (lo := 1) (hi := 1) (by decide)) (by decide)
    exact (s_X12_old_395 hσ (zr_shr (lo := 0) (hi := 15) 4 (by decide) h_x7 (by decide)))
  have h3 := zc_nel (0) (0) q1 (zr_andr (lo := 0) (hi := 1) (zr_c (lo := 1) (hi := 1) (by decide)) (by decide)) (zr_c (lo := 1) (hi := 1) (by decide)) (by decide)
  exact (s_X12_old_395 hσ (zr_andr (lo := 0) (hi := 15) (zr_c (lo := 15) (hi := 15) (by decide)) (by decide)))
theorem s_X12_old {σ : zSt} (hσ : zPM σ) {x1 : Int32} (h_x1 : zr (0) (239) x1) {x2 : Int32} (h_x2 : zr (0) (255) x2) : zok (fX12_old σ x1 x2) (zPi σ (fun v : Int32 => zr (0) (15) v)) := by
  unfold fX12_old
  refine zok_pi (s_X12_reg hσ (zr_w (zr_c (lo := 2) (hi := 2) (by decide)) (by decide))) (fun v2 h1 => ?_)
  refine zok_ck (by decide) ?_
  refine zok_br (zr_mul (lo := 0) (hi := 15360) (zr_c (lo := 1024) (hi := 1024) (by decide)) (zr_rem (lo := 0) (hi := 15) 16 (by decide) h1 (by decide)) (by decide)) (fun v3 e3 h2 => ?_)
  refine zok_pi (s_X12_reg hσ (zr_w (zr_c (lo := 4) (hi := 4) (by decide)) (by decide))) (fun v5 h4 => ?_)
  refine zok_ck (by decide) ?_
  refine zok_br (zr_mul (lo := 0) (hi := 14336) (zr_c (lo := 2048) (hi := 2048) (by decide)) (zr_rem (lo := 0) (hi := 7) 8 (by decide) h4 (by decide)) (by decide)) (fun v6 e6 h5 => ?_)
  refine zok_pi (s_X12_mode hσ) (fun v8 h7 => ?_)
  refine zok_if (fun q8 => ?_) (fun q8 => ?_)
  · have h9 := zc_eql (1) (1) q8 h7 (zr_c (lo := 1) (hi := 1) (by decide)) (by decide)
    refine zok_if (fun q10 => ?_) (fun q10 => ?_)
    · have h11 := zc_ltl (7) q10 h_x2 (zr_c (lo := 8) (hi := 8) (by decide)) (by decide)
      exact (s_X12_old_48 hσ)
    have h12 := zc_ler (8) (z_nlt q10) (zr_c (lo := 8) (hi := 8) (by decide)) h_x2 (by decide)
    refine zok_if (fun q13 => ?_) (fun q13 => ?_)
    · have h14 := zc_lel (247) q13 h12 (zr_c (lo := 247) (hi := 247) (by decide)) (by decide)
      refine zok_ck (by decide) ?_
      refine zok_ck (by decide) ?_
      refine zok_pi (s_X12_video8 hσ) (fun v39 h15 => ?_)
      refine zok_ck (by decide) ?_
      refine zok_pi (s_X12_video8 hσ) (fun v41 h16 => ?_)
      refine zok_ck (by decide) ?_
      refine zok_br (zr_andr (lo := 0) (hi := 1) (zr_c (lo := 1) (hi := 1) (by decide)) (by decide)) (fun v42 e18 h17 => ?_)
      refine zok_if (fun q19 => ?_) (fun q19 => ?_)
      · have h20 := zc_eql (1) (1) q19 h17 (zr_c (lo := 1) (hi := 1) (by decide)) (by decide)
        refine zok_pi (s_X12_reg hσ (zr_w (zr_c (lo := 7) (hi := 7) (by decide)) (by decide))) (fun v46 h21 => ?_)
        exact (s_X12_old_131 hσ (zr_shr (lo := 0) (hi := 15) 4 (by decide) h21 (by decide)))
      have h22 := zc_nel (0) (0) q19 h17 (zr_c (lo := 1) (hi := 1) (by decide)) (by decide)
      refine zok_pi (s_X12_reg hσ (zr_w (zr_c (lo := 7) (hi := 7) (by decide)) (by decide))) (fun v44 h23 => ?_)
      exact (s_X12_old_131 hσ (zr_andr (lo := 0) (hi := 15) (zr_c (lo := 15) (hi := 15) (by decide)) (by decide)))
    have h24 := zc_ltr (248) (z_nle q13) (zr_c (lo := 247) (hi := 247) (by decide)) h12 (by decide)
    exact (s_X12_old_48 hσ)
  refine zok_ck (by decide) ?_
  refine zok_ck (by decide) ?_
  refine zok_pi (s_X12_video8 hσ) (fun v10 h25 => ?_)
  refine zok_pi (s_X12_mode hσ) (fun v12 h26 => ?_)
  refine zok_if (fun q27 => ?_) (fun q27 => ?_)
  · have h28 := zc_eql (3) (3) q27 h26 (zr_c (lo := 3) (hi := 3) (by decide)) (by decide)
    refine zok_ck (by decide) ?_
    refine zok_ck (by decide) ?_
    refine zok_ck (by decide) ?_
    refine zok_ck (by decide) ?_
    refine zok_pi (s_X12_video8 hσ) (fun v37 h29 => ?_)
    refine zok_ck (by decide) ?_
    refine zok_if (fun q30 => ?_) (fun q30 => ?_)
    · have h31 := zc_ler (4) q30 (zr_c (lo := 4) (hi := 4) (by decide)) (zr_rem (lo := 0) (hi := 7) 8 (by decide) h_x2 (by decide)) (by decide)
      exact (s_X12_old_209 hσ (zr_andr (lo := 0) (hi := 15) (zr_c (lo := 15) (hi := 15) (by decide)) (by decide)))
    have h32 := zc_ltl (3) (z_nle q30) (zr_rem (lo := 0) (hi := 7) 8 (by decide) h_x2 (by decide)) (zr_c (lo := 4) (hi := 4) (by decide)) (by decide)
    exact (s_X12_old_209 hσ (zr_shr (lo := 0) (hi := 15) 4 (by decide) h29 (by decide)))
  refine zok_pi (s_X12_mode hσ) (fun v14 h33 => ?_)
  refine zok_if (fun q34 => ?_) (fun q34 => ?_)
  · have h35 := zc_eql (0) (0) q34 h33 (zr_c (lo := 0) (hi := 0) (by decide)) (by decide)
    refine zok_ck (by decide) ?_
    refine zok_pi (s_X12_video8 hσ) (fun v31 h36 => ?_)
    refine zok_pi (s_X12_reg hσ (zr_w (zr_c (lo := 3) (hi := 3) (by decide)) (by decide))) (fun v33 h37 => ?_)
    refine zok_ck (by decide) ?_
    refine zok_pi (s_X12_video8 hσ) (fun v35 h38 => ?_)
    exact (s_X12_old_367 hσ h_x2 h36 h38)
  have h39 := zc_nel (1) (4) q34 h33 (zr_c (lo := 0) (hi := 0) (by decide)) (by decide)
  refine zok_ck (by decide) ?_
  refine zok_br (zr_add (lo := 0) (hi := 1023) h25 (zr_mul (lo := 0) (hi := 768) (zr_c (lo := 256) (hi := 256) (by decide)) (zr_div (lo := 0) (hi := 3) 64 (by decide) h_x1 (by decide)) (by decide)) (by decide)) (fun v15 e41 h40 => ?_)
  refine zok_pi (s_X12_reg hσ (zr_w (zr_c (lo := 4) (hi := 4) (by decide)) (by decide))) (fun v17 h42 => ?_)
  refine zok_ck (by decide) ?_
  refine zok_br (zr_andr (lo := 0) (hi := 1023) (zr_add (lo := 255) (hi := 1023) (zr_mul (lo := 0) (hi := 768) (zr_c (lo := 256) (hi := 256) (by decide)) (zr_rem (lo := 0) (hi := 3) 4 (by decide) h42 (by decide)) (by decide)) (zr_c (lo := 255) (hi := 255) (by decide)) (by decide)) (by decide)) (fun v18 e44 h43 => ?_)
  refine zok_pi (s_X12_reg hσ (zr_w (zr_c (lo := 3) (hi := 3) (by decide)) (by decide))) (fun v20 h45 => ?_)
  refine zok_ck (by decide) ?_
  refine zok_br (zr_andr (lo := 0) (hi := 1023) (zr_add (lo := 7) (hi := 1023) (zr_mul (lo := 0) (hi := 1016) (zr_c (lo := 8) (hi := 8) (by decide)) (zr_rem (lo := 0) (hi := 127) 128 (by decide) h45 (by decide)) (by decide)) (zr_c (lo := 7) (hi := 7) (by decide)) (by decide)) (by decide)) (fun v21 e47 h46 => ?_)
  refine zok_pi (s_X12_bit hσ (zr_w (zr_c (lo := 4) (hi := 4) (by decide)) (by decide)) (zr_w (zr_c (lo := 2) (hi := 2) (by decide)) (by decide))) (fun v23 h48 => ?_)
  refine zok_ck (by decide) ?_
  refine zok_pi (s_X12_video8 hσ) (fun v25 h49 => ?_)
  refine zok_pi (s_X12_bit hσ (zr_w (zr_c (lo := 3) (hi := 3) (by decide)) (by decide)) (zr_w (zr_c (lo := 7) (hi := 7) (by decide)) (by decide))) (fun v27 h50 => ?_)
  refine zok_ck (by decide) ?_
  refine zok_pi (s_X12_video8 hσ) (fun v29 h51 => ?_)
  exact (s_X12_old_367 hσ h_x2 h49 h51)
theorem s_X12_oldSprites_388 {G : Nat → Int} {σ : zSt} {k40 : zSt → Int32 → Int32 → Int32 → Int32 → Int32 → Option (zSt)} {Mk40 : Int} (hk40 : ∀ (σ : zSt) (x1 : Int32) (x2 : Int32) (x3 : Int32) (x4 : Int32) (x5 : Int32), zIM G σ → zr (0) (239) x1 → zr (1) (2) x2 → zr (8) (16) x3 → zr (0) (4) x4 → zr (0) (32) x5 → (32) - x5.toInt < Mk40 → zok (k40 σ x1 x2 x3 x4 x5) (zIM G)) (hσ : zIM G σ) {x1 : Int32} (h_x1 : zr (0) (239) x1) {x2 : Int32} (h_x2 : zr (1) (2) x2) {x3 : Int32} (h_x3 : zr (8) (16) x3) {x4 : Int32} (h_x4 : zr (0) (4) x4) {x5 : Int32} (h_x5 : zr (0) (31) x5) (hMk40 : (32) - x5.toInt ≤ Mk40) : zok (fX12_oldSprites_388 k40 σ x1 x2 x3 x4 x5) (zIM G) := by
  unfold fX12_oldSprites_388
  refine zok_br (zr_add (lo := 1) (hi := 32) h_x5 (zr_c (lo := 1) (hi := 1) (by decide)) (by decide)) (fun v1 e2 h1 => ?_)
  exact hk40 _ _ _ _ _ _ hσ h_x1 h_x2 h_x3 h_x4 (zr_w h1 (by decide)) (by rw [e2]; have := z_tadd (y := (1 : Int32)) h_x5 (zr_c (lo := 1) (hi := 1) (by decide)) (by decide); have e9 : (1 : Int32).toInt = 1 := rfl; omega) 
theorem s_X12_oldSprites_150 {σ : zSt} (hσ : zPM σ) : zok (fX12_oldSprites_150 σ ) (zPu σ) := by
  unfold fX12_oldSprites_150
  exact zok_spu
theorem s_X12_oldSprites_382 {G : Nat → Int} {σ : zSt} {k40 : zSt → Int32 → Int32 → Int32 → Int32 → Int32 → Option (zSt)} {Mk40 : Int} (hk40 : ∀ (σ : zSt) (x1 : Int32) (x2 : Int32) (x3 : Int32) (x4 : Int32) (x5 : Int32), zIM G σ → zr (0) (239) x1 → zr (1) (2) x2 → zr (8) (16) x3 → zr (0) (4) x4 → zr (0) (32) x5 → (32) - x5.toInt < Mk40 → zok (k40 σ x1 x2 x3 x4 x5) (zIM G)) {k231 : zSt → Int32 → Int32 → Int32 → Int32 → Int32 → Int32 → Int32 → Int32 → Int32 → Int32 → Option (zSt)} {Mk231 : Int} (hk231 : ∀ (σ : zSt) (x1 : Int32) (x2 : Int32) (x3 : Int32) (x4 : Int32) (x5 : Int32) (x8 : Int32) (x9 : Int32) (x10 : Int32) (x11 : Int32) (x12 : Int32), zIM G σ → zr (0) (239) x1 → zr (1) (2) x2 → zr (8) (16) x3 → zr (1) (4) x4 → zr (0) (31) x5 → zr (0) (31) x8 → zr (0) (255) x9 → zr (0) (15) x10 → zr (-32) (255) x11 → zr (0) (32) x12 → (32) - x12.toInt < Mk231 → (32) - x5.toInt ≤ Mk40 → zok (k231 σ x1 x2 x3 x4 x5 x8 x9 x10 x11 x12) (zIM G)) (hσ : zIM G σ) {x1 : Int32} (h_x1 : zr (0) (239) x1) {x2 : Int32} (h_x2 : zr (1) (2) x2) {x3 : Int32} (h_x3 : zr (8) (16) x3) {x4 : Int32} (h_x4 : zr (1) (4) x4) {x5 : Int32} (h_x5 : zr (0) (31) x5) {x8 : Int32} (h_x8 : zr (0) (31) x8) {x9 : Int32} (h_x9 : zr (0) (255) x9) {x10 : Int32} (h_x10 : zr (0) (15) x10) {x11 : Int32} (h_x11 : zr (-32) (255) x11) {x12 : Int32} (h_x12 : zr (0) (31) x12) (hMk40 : (32) - x5.toInt ≤ Mk40) (hMk231 : (32) - x12.toInt ≤ Mk231) : zok (fX12_oldSprites_382 k40 k231 σ x1 x2 x3 x4 x5 x8 x9 x10 x11 x12) (zIM G) := by
  unfold fX12_oldSprites_382
  refine zok_br (zr_add (lo := 1) (hi := 32) h_x12 (zr_c (lo := 1) (hi := 1) (by decide)) (by decide)) (fun v2 e2 h1 => ?_)
  exact hk231 _ _ _ _ _ _ _ _ _ _ _ hσ h_x1 h_x2 h_x3 h_x4 h_x5 h_x8 h_x9 h_x10 h_x11 (zr_w h1 (by decide)) (by rw [e2]; have := z_tadd (y := (1 : Int32)) h_x12 (zr_c (lo := 1) (hi := 1) (by decide)) (by decide); have e9 : (1 : Int32).toInt = 1 := rfl; omega) hMk40
theorem s_X12_oldSprites_350 {G : Nat → Int} {σ : zSt} {k40 : zSt → Int32 → Int32 → Int32 → Int32 → Int32 → Option (zSt)} {Mk40 : Int} (hk40 : ∀ (σ : zSt) (x1 : Int32) (x2 : Int32) (x3 : Int32) (x4 : Int32) (x5 : Int32), zIM G σ → zr (0) (239) x1 → zr (1) (2) x2 → zr (8) (16) x3 → zr (0) (4) x4 → zr (0) (32) x5 → (32) - x5.toInt < Mk40 → zok (k40 σ x1 x2 x3 x4 x5) (zIM G)) {k231 : zSt → Int32 → Int32 → Int32 → Int32 → Int32 → Int32 → Int32 → Int32 → Int32 → Int32 → Option (zSt)} {Mk231 : Int} (hk231 : ∀ (σ : zSt) (x1 : Int32) (x2 : Int32) (x3 : Int32) (x4 : Int32) (x5 : Int32) (x8 : Int32) (x9 : Int32) (x10 : Int32) (x11 : Int32) (x12 : Int32), zIM G σ → zr (0) (239) x1 → zr (1) (2) x2 → zr (8) (16) x3 → zr (1) (4) x4 → zr (0) (31) x5 → zr (0) (31) x8 → zr (0) (255) x9 → zr (0) (15) x10 → zr (-32) (255) x11 → zr (0) (32) x12 → (32) - x12.toInt < Mk231 → (32) - x5.toInt ≤ Mk40 → zok (k231 σ x1 x2 x3 x4 x5 x8 x9 x10 x11 x12) (zIM G)) (hσ : zIM G σ) {x1 : Int32} (h_x1 : zr (0) (239) x1) {x2 : Int32} (h_x2 : zr (1) (2) x2) {x3 : Int32} (h_x3 : zr (8) (16) x3) {x4 : Int32} (h_x4 : zr (1) (4) x4) {x5 : Int32} (h_x5 : zr (0) (31) x5) {x8 : Int32} (h_x8 : zr (0) (31) x8) {x9 : Int32} (h_x9 : zr (0) (255) x9) {x10 : Int32} (h_x10 : zr (0) (15) x10) {x11 : Int32} (h_x11 : zr (-32) (255) x11) {x12 : Int32} (h_x12 : zr (0) (31) x12) {x15 : Int32} (h_x15 : zr (0) (255) x15) (hMk40 : (32) - x5.toInt ≤ Mk40) (hMk231 : (32) - x12.toInt ≤ Mk231) : zok (fX12_oldSprites_350 k40 k231 σ x1 x2 x3 x4 x5 x8 x9 x10 x11 x12 x15) (zIM G) := by
  unfold fX12_oldSprites_350
  refine zok_ck (zin_ok h_x15 (by decide)) ?_
  refine zok_bs (hσ.wk (by decide)) (fun σ3 e2 i1 => ?_)
  refine zok_if (fun q3 => ?_) (fun q3 => ?_)
  · have h4 := zc_lel (0) q3 h_x10 (zr_c (lo := 0) (hi := 0) (by decide)) (by decide)
    exact (s_X12_oldSprites_382 hk40 hk231 i1 h_x1 h_x2 h_x3 h_x4 h_x5 h_x8 h_x9 (zr_w h4 (by decide)) h_x11 h_x12 hMk40 hMk231)
  have h5 := zc_ltr (1) (z_nle q3) (zr_c (lo := 0) (hi := 0) (by decide)) h_x10 (by decide)
  refine zok_ck (zin_ok h_x15 (by decide)) ?_
  refine zok_if (fun q6 => ?_) (fun q6 => ?_)
  · have h7 := zc_eql (0) (0) q6 (rM_10 i1.sg _ (z_ix h_x15 (by decide))) (zr_c (lo := 0) (hi := 0) (by decide)) (by decide)
    refine zok_ck (zin_ok h_x15 (by decide)) ?_
    refine zok_bs (i1.wi 0 255 (z_ix h_x15 (by decide)) h5 (by decide +kernel)) (fun σ4 e9 i8 => ?_)
    exact (s_X12_oldSprites_382 hk40 hk231 i8 h_x1 h_x2 h_x3 h_x4 h_x5 h_x8 h_x9 (zr_w h5 (by decide)) h_x11 h_x12 hMk40 hMk231)
  have h10 := zc_nel (1) (31) q6 (rM_10 i1.sg _ (z_ix h_x15 (by decide))) (zr_c (lo := 0) (hi := 0) (by decide)) (by decide)
  exact (s_X12_oldSprites_382 hk40 hk231 i1 h_x1 h_x2 h_x3 h_x4 h_x5 h_x8 h_x9 (zr_w h5 (by decide)) h_x11 h_x12 hMk40 hMk231)
theorem s_X12_oldSprites_283 {G : Nat → Int} {σ : zSt} {k40 : zSt → Int32 → Int32 → Int32 → Int32 → Int32 → Option (zSt)} {Mk40 : Int} (hk40 : ∀ (σ : zSt) (x1 : Int32) (x2 : Int32) (x3 : Int32) (x4 : Int32) (x5 : Int32), zIM G σ → zr (0) (239) x1 → zr (1) (2) x2 → zr (8) (16) x3 → zr (0) (4) x4 → zr (0) (32) x5 → (32) - x5.toInt < Mk40 → zok (k40 σ x1 x2 x3 x4 x5) (zIM G)) {k231 : zSt → Int32 → Int32 → Int32 → Int32 → Int32 → Int32 → Int32 → Int32 → Int32 → Int32 → Option (zSt)} {Mk231 : Int} (hk231 : ∀ (σ : zSt) (x1 : Int32) (x2 : Int32) (x3 : Int32) (x4 : Int32) (x5 : Int32) (x8 : Int32) (x9 : Int32) (x10 : Int32) (x11 : Int32) (x12 : Int32), zIM G σ → zr (0) (239) x1 → zr (1) (2) x2 → zr (8) (16) x3 → zr (1) (4) x4 → zr (0) (31) x5 → zr (0) (31) x8 → zr (0) (255) x9 → zr (0) (15) x10 → zr (-32) (255) x11 → zr (0) (32) x12 → (32) - x12.toInt < Mk231 → (32) - x5.toInt ≤ Mk40 → zok (k231 σ x1 x2 x3 x4 x5 x8 x9 x10 x11 x12) (zIM G)) (hσ : zIM G σ) {x1 : Int32} (h_x1 : zr (0) (239) x1) {x2 : Int32} (h_x2 : zr (1) (2) x2) {x3 : Int32} (h_x3 : zr (8) (16) x3) {x4 : Int32} (h_x4 : zr (1) (4) x4) {x5 : Int32} (h_x5 : zr (0) (31) x5) {x8 : Int32} (h_x8 : zr (0) (31) x8) {x9 : Int32} (h_x9 : zr (0) (255) x9) {x10 : Int32} (h_x10 : zr (0) (15) x10) {x11 : Int32} (h_x11 : zr (-32) (255) x11) {x12 : Int32} (h_x12 : zr (0) (31) x12) {x13 : Int32} {s0 : Int32} (h_s0 : zr (0) (16) s0) {s1 : Int32} (hMk40 : (32) - x5.toInt ≤ Mk40) (hMk231 : (32) - x12.toInt ≤ Mk231) : zok (fX12_oldSprites_283 k40 k231 σ x1 x2 x3 x4 x5 x8 x9 x10 x11 x12 x13 s0 s1) (zIM G) := by
  unfold fX12_oldSprites_283
  refine zok_pi (s_X12_video8 hσ.P) (fun v6 h1 => ?_)
  refine zok_ck (by decide) ?_
  refine zok_br (zr_andr (lo := 0) (hi := 1) (zr_c (lo := 1) (hi := 1) (by decide)) (by decide)) (fun v7 e3 h2 => ?_)
  refine zok_br (zr_add (lo := -32) (hi := 286) h_x11 h_x12 (by decide)) (fun v8 e5 h4 => ?_)
  refine zok_if (fun q6 => ?_) (fun q6 => ?_)
  · have h7 := zc_eql (0) (0) q6 h2 (zr_c (lo := 0) (hi := 0) (by decide)) (by decide)
    exact (s_X12_oldSprites_382 hk40 hk231 hσ h_x1 h_x2 h_x3 h_x4 h_x5 h_x8 h_x9 h_x10 h_x11 h_x12 hMk40 hMk231)
  have h8 := zc_nel (1) (1) q6 h2 (zr_c (lo := 0) (hi := 0) (by decide)) (by decide)
  refine zok_if (fun q9 => ?_) (fun q9 => ?_)
  · have h10 := zc_ltl (-1) q9 h4 (zr_c (lo := 0) (hi := 0) (by decide)) (by decide)
    exact (s_X12_oldSprites_382 hk40 hk231 hσ h_x1 h_x2 h_x3 h_x4 h_x5 h_x8 h_x9 h_x10 h_x11 h_x12 hMk40 hMk231)
  have h11 := zc_ler (0) (z_nlt q9) (zr_c (lo := 0) (hi := 0) (by decide)) h4 (by decide)
  refine zok_if (fun q12 => ?_) (fun q12 => ?_)
  · have h13 := zc_lel (255) q12 h11 (zr_c (lo := 255) (hi := 255) (by decide)) (by decide)
    refine zok_ck (zin_ok h13 (by decide)) ?_
    refine zok_if (fun q14 => ?_) (fun q14 => ?_)
    · have h15 := zc_eql (0) (0) q14 zr_any (zr_c (lo := 0) (hi := 0) (by decide)) (by decide)
      exact (s_X12_oldSprites_350 hk40 hk231 hσ h_x1 h_x2 h_x3 h_x4 h_x5 h_x8 h_x9 h_x10 h_x11 h_x12 h13 hMk40 hMk231)
    refine zok_ck rfl ?_
    refine zok_ck rfl ?_
    refine zok_bs (hσ.wi 62 62 (by decide) (zr_or (lo := 0) (hi := 255) 8 (rM_26 hσ.sg _ (by decide)) (zr_c (lo := 32) (hi := 32) (by decide)) (by decide)) (by decide +kernel)) (fun σ9 e17 i16 => ?_)
    exact (s_X12_oldSprites_350 hk40 hk231 i16 h_x1 h_x2 h_x3 h_x4 h_x5 h_x8 h_x9 h_x10 h_x11 h_x12 h13 hMk40 hMk231)
  have h18 := zc_ltr (256) (z_nle q12) (zr_c (lo := 255) (hi := 255) (by decide)) h11 (by decide)
  exact (s_X12_oldSprites_382 hk40 hk231 hσ h_x1 h_x2 h_x3 h_x4 h_x5 h_x8 h_x9 h_x10 h_x11 h_x12 hMk40 hMk231)
theorem s_X12_oldSprites_231_body {G : Nat → Int} {σ : zSt} {k40 : zSt → Int32 → Int32 → Int32 → Int32 → Int32 → Option (zSt)} {Mk40 : Int} (hk40 : ∀ (σ : zSt) (x1 : Int32) (x2 : Int32) (x3 : Int32) (x4 : Int32) (x5 : Int32), zIM G σ → zr (0) (239) x1 → zr (1) (2) x2 → zr (8) (16) x3 → zr (0) (4) x4 → zr (0) (32) x5 → (32) - x5.toInt < Mk40 → zok (k40 σ x1 x2 x3 x4 x5) (zIM G)) {k231 : zSt → Int32 → Int32 → Int32 → Int32 → Int32 → Int32 → Int32 → Int32 → Int32 → Int32 → Option (zSt)} {Mk231 : Int} (hk231 : ∀ (σ : zSt) (x1 : Int32) (x2 : Int32) (x3 : Int32) (x4 : Int32) (x5 : Int32) (x8 : Int32) (x9 : Int32) (x10 : Int32) (x11 : Int32) (x12 : Int32), zIM G σ → zr (0) (239) x1 → zr (1) (2) x2 → zr (8) (16) x3 → zr (1) (4) x4 → zr (0) (31) x5 → zr (0) (31) x8 → zr (0) (255) x9 → zr (0) (15) x10 → zr (-32) (255) x11 → zr (0) (32) x12 → (32) - x12.toInt < Mk231 → (32) - x5.toInt ≤ Mk40 → zok (k231 σ x1 x2 x3 x4 x5 x8 x9 x10 x11 x12) (zIM G)) (hσ : zIM G σ) {x1 : Int32} (h_x1 : zr (0) (239) x1) {x2 : Int32} (h_x2 : zr (1) (2) x2) {x3 : Int32} (h_x3 : zr (8) (16) x3) {x4 : Int32} (h_x4 : zr (1) (4) x4) {x5 : Int32} (h_x5 : zr (0) (31) x5) {x8 : Int32} (h_x8 : zr (0) (31) x8) {x9 : Int32} (h_x9 : zr (0) (255) x9) {x10 : Int32} (h_x10 : zr (0) (15) x10) {x11 : Int32} (h_x11 : zr (-32) (255) x11) {x12 : Int32} (h_x12 : zr (0) (32) x12) (hMk40 : (32) - x5.toInt ≤ Mk40) (hMk231 : (32) - x12.toInt ≤ Mk231) : zok (fX12_oldSprites_231_body k40 k231 σ x1 x2 x3 x4 x5 x8 x9 x10 x11 x12) (zIM G) := by
  unfold fX12_oldSprites_231_body
  refine zok_if (fun q1 => ?_) (fun q1 => ?_)
  · have h2 := zc_ler (8) q1 (zr_mul (lo := 8) (hi := 32) h_x3 h_x2 (by decide)) h_x12 (by decide)
    exact (s_X12_oldSprites_388 hk40 hσ h_x1 h_x2 h_x3 (zr_w h_x4 (by decide)) h_x5 hMk40)
  have h3 := zc_ltl (31) (z_nle q1) h_x12 (zr_mul (lo := 8) (hi := 32) h_x3 h_x2 (by decide)) (by decide)
  refine zok_ck (zdv_ok h_x2 (by decide)) ?_
  refine zok_bv (fun v10 e5 => ?_)
  refine zok_pi (s_X12_reg hσ.P (zr_w (zr_c (lo := 6) (hi := 6) (by decide)) (by decide))) (fun v12 h6 => ?_)
  refine zok_ck (by decide) ?_
  refine zok_ck (zdv_ok h_x2 (by decide)) ?_
  refine zok_if (fun q7 => ?_) (fun q7 => ?_)
  · have h8 := zc_lel (7) q7 zr_any (zr_c (lo := 7) (hi := 7) (by decide)) (by decide)
    exact (s_X12_oldSprites_283 hk40 hk231 hσ h_x1 h_x2 h_x3 h_x4 h_x5 h_x8 h_x9 h_x10 h_x11 h3 (zr_w (zr_c (lo := 0) (hi := 0) (by decide)) (by decide)) hMk40 hMk231)
  have h9 := zc_ltr (8) (z_nle q7) (zr_c (lo := 7) (hi := 7) (by decide)) zr_any (by decide)
  exact (s_X12_oldSprites_283 hk40 hk231 hσ h_x1 h_x2 h_x3 h_x4 h_x5 h_x8 h_x9 h_x10 h_x11 h3 (zr_w (zr_c (lo := 16) (hi := 16) (by decide)) (by decide)) hMk40 hMk231)
theorem s_X12_oldSprites_231 {G : Nat → Int} {k40 : zSt → Int32 → Int32 → Int32 → Int32 → Int32 → Option (zSt)} {Mk40 : Int} (hk40 : ∀ (σ : zSt) (x1 : Int32) (x2 : Int32) (x3 : Int32) (x4 : Int32) (x5 : Int32), zIM G σ → zr (0) (239) x1 → zr (1) (2) x2 → zr (8) (16) x3 → zr (0) (4) x4 → zr (0) (32) x5 → (32) - x5.toInt < Mk40 → zok (k40 σ x1 x2 x3 x4 x5) (zIM G)) : ∀ (n : Nat) {σ : zSt} (hσ : zIM G σ) {x1 : Int32} (h_x1 : zr (0) (239) x1) {x2 : Int32} (h_x2 : zr (1) (2) x2) {x3 : Int32} (h_x3 : zr (8) (16) x3) {x4 : Int32} (h_x4 : zr (1) (4) x4) {x5 : Int32} (h_x5 : zr (0) (31) x5) {x8 : Int32} (h_x8 : zr (0) (31) x8) {x9 : Int32} (h_x9 : zr (0) (255) x9) {x10 : Int32} (h_x10 : zr (0) (15) x10) {x11 : Int32} (h_x11 : zr (-32) (255) x11) {x12 : Int32} (h_x12 : zr (0) (32) x12) (hm : (32) - x12.toInt < n) (hMk40 : (32) - x5.toInt ≤ Mk40), zok (fX12_oldSprites_231 k40 n σ x1 x2 x3 x4 x5 x8 x9 x10 x11 x12) (zIM G) := by
  intro n
  induction n with
  | zero => intro σ hσ x1 h_x1 x2 h_x2 x3 h_x3 x4 h_x4 x5 h_x5 x8 h_x8 x9 h_x9 x10 h_x10 x11 h_x11 x12 h_x12 hm hMk40; have h9 := h_x12.1; have h8 := h_x12.2; exfalso; omega
  | succ n ih => intro σ hσ x1 h_x1 x2 h_x2 x3 h_x3 x4 h_x4 x5 h_x5 x8 h_x8 x9 h_x9 x10 h_x10 x11 h_x11 x12 h_x12 hm hMk40; exact s_X12_oldSprites_231_body hk40 (fun σ x1 x2 x3 x4 x5 x8 x9 x10 x11 x12 hσ h_x1 h_x2 h_x3 h_x4 h_x5 h_x8 h_x9 h_x10 h_x11 h_x12 hm1 hMk40 => ih hσ h_x1 h_x2 h_x3 h_x4 h_x5 h_x8 h_x9 h_x10 h_x11 h_x12 (by omega) hMk40) hσ h_x1 h_x2 h_x3 h_x4 h_x5 h_x8 h_x9 h_x10 h_x11 h_x12 hMk40 (Int.le_refl _)
theorem s_X12_oldSprites_225 {G : Nat → Int} {σ : zSt} {k40 : zSt → Int32 → Int32 → Int32 → Int32 → Int32 → Option (zSt)} {Mk40 : Int} (hk40 : ∀ (σ : zSt) (x1 : Int32) (x2 : Int32) (x3 : Int32) (x4 : Int32) (x5 : Int32), zIM G σ → zr (0) (239) x1 → zr (1) (2) x2 → zr (8) (16) x3 → zr (0) (4) x4 → zr (0) (32) x5 → (32) - x5.toInt < Mk40 → zok (k40 σ x1 x2 x3 x4 x5) (zIM G)) (hσ : zIM G σ) {x1 : Int32} (h_x1 : zr (0) (239) x1) {x2 : Int32} (h_x2 : zr (1) (2) x2) {x3 : Int32} (h_x3 : zr (8) (16) x3) {x4 : Int32} (h_x4 : zr (1) (4) x4) {x5 : Int32} (h_x5 : zr (0) (31) x5) {x8 : Int32} (h_x8 : zr (0) (31) x8) {x9 : Int32} (h_x9 : zr (0) (255) x9) {x10 : Int32} (h_x10 : zr (0) (15) x10) {s0 : Int32} (h_s0 : zr (0) (32) s0) {s1 : Int32} (h_s1 : zr (0) (255) s1) (hMk40 : (32) - x5.toInt ≤ Mk40) : zok (fX12_oldSprites_225 k40 σ x1 x2 x3 x4 x5 x8 x9 x10 s0 s1) (zIM G) := by
  unfold fX12_oldSprites_225
  refine zok_br (zr_sub (lo := -32) (hi := 255) h_s1 h_s0 (by decide)) (fun v13 e2 h1 => ?_)
  exact (s_X12_oldSprites_231 hk40 zfuel hσ h_x1 h_x2 h_x3 h_x4 h_x5 h_x8 h_x9 h_x10 h1 (zr_w (zr_c (lo := 0) (hi := 0) (by decide)) (by decide)) (by decide) hMk40)
theorem s_X12_oldSprites_183 {G : Nat → Int} {σ : zSt} {k40 : zSt → Int32 → Int32 → Int32 → Int32 → Int32 → Option (zSt)} {Mk40 : Int} (hk40 : ∀ (σ : zSt) (x1 : Int32) (x2 : Int32) (x3 : Int32) (x4 : Int32) (x5 : Int32), zIM G σ → zr (0) (239) x1 → zr (1) (2) x2 → zr (8) (16) x3 → zr (0) (4) x4 → zr (0) (32) x5 → (32) - x5.toInt < Mk40 → zok (k40 σ x1 x2 x3 x4 x5) (zIM G)) (hσ : zIM G σ) {x1 : Int32} (h_x1 : zr (0) (239) x1) {x2 : Int32} (h_x2 : zr (1) (2) x2) {x3 : Int32} (h_x3 : zr (8) (16) x3) {x4 : Int32} (h_x4 : zr (1) (4) x4) {x5 : Int32} (h_x5 : zr (0) (31) x5) {x6 : Int32} (h_x6 : zr (0) (16380) x6) {x8 : Int32} (h_x8 : zr (0) (31) x8) {s0 : Int32} (h_s0 : zr (0) (255) s0) (hMk40 : (32) - x5.toInt ≤ Mk40) : zok (fX12_oldSprites_183 k40 σ x1 x2 x3 x4 x5 x6 x8 s0) (zIM G) := by
  unfold fX12_oldSprites_183
  refine zok_pi (s_X12_video8 hσ.P) (fun v15 h1 => ?_)
  refine zok_br (zr_andr (lo := 0) (hi := 15) (zr_c (lo := 15) (hi := 15) (by decide)) (by decide)) (fun v16 e3 h2 => ?_)
  refine zok_pi (s_X12_video8 hσ.P) (fun v18 h4 => ?_)
  refine zok_pi (s_X12_video8 hσ.P) (fun v20 h5 => ?_)
  refine zok_if (fun q6 => ?_) (fun q6 => ?_)
  · have h7 := zc_lel (127) q6 h5 (zr_c (lo := 127) (hi := 127) (by decide)) (by decide)
    exact (s_X12_oldSprites_225 hk40 hσ h_x1 h_x2 h_x3 h_x4 h_x5 h_x8 h_s0 h2 (zr_w (zr_c (lo := 0) (hi := 0) (by decide)) (by decide)) h4 hMk40)
  have h8 := zc_ltr (128) (z_nle q6) (zr_c (lo := 127) (hi := 127) (by decide)) h5 (by decide)
  exact (s_X12_oldSprites_225 hk40 hσ h_x1 h_x2 h_x3 h_x4 h_x5 h_x8 h_s0 h2 (zr_w (zr_c (lo := 32) (hi := 32) (by decide)) (by decide)) h4 hMk40)
theorem s_X12_oldSprites_40_body {G : Nat → Int} {σ : zSt} {k40 : zSt → Int32 → Int32 → Int32 → Int32 → Int32 → Option (zSt)} {Mk40 : Int} (hk40 : ∀ (σ : zSt) (x1 : Int32) (x2 : Int32) (x3 : Int32) (x4 : Int32) (x5 : Int32), zIM G σ → zr (0) (239) x1 → zr (1) (2) x2 → zr (8) (16) x3 → zr (0) (4) x4 → zr (0) (32) x5 → (32) - x5.toInt < Mk40 → zok (k40 σ x1 x2 x3 x4 x5) (zIM G)) (hσ : zIM G σ) {x1 : Int32} (h_x1 : zr (0) (239) x1) {x2 : Int32} (h_x2 : zr (1) (2) x2) {x3 : Int32} (h_x3 : zr (8) (16) x3) {x4 : Int32} (h_x4 : zr (0) (4) x4) {x5 : Int32} (h_x5 : zr (0) (32) x5) (hMk40 : (32) - x5.toInt ≤ Mk40) : zok (fX12_oldSprites_40_body k40 σ x1 x2 x3 x4 x5) (zIM G) := by
  unfold fX12_oldSprites_40_body
  refine zok_if (fun q1 => ?_) (fun q1 => ?_)
  · have h2 := zc_ler (32) q1 (zr_c (lo := 32) (hi := 32) (by decide)) h_x5 (by decide)
    exact zok_some hσ
  have h3 := zc_ltl (31) (z_nle q1) h_x5 (zr_c (lo := 32) (hi := 32) (by decide)) (by decide)
  refine zok_pi (s_X12_reg hσ.P (zr_w (zr_c (lo := 5) (hi := 5) (by decide)) (by decide))) (fun v22 h4 => ?_)
  refine zok_ck (by decide) ?_
  refine zok_br (zr_add (lo := 0) (hi := 16380) (zr_mul (lo := 0) (hi := 16256) (zr_c (lo := 128) (hi := 128) (by decide)) (zr_rem (lo := 0) (hi := 127) 128 (by decide) h4 (by decide)) (by decide)) (zr_mul (lo := 0) (hi := 124) (zr_c (lo := 4) (hi := 4) (by decide)) h3 (by decide)) (by decide)) (fun v23 e6 h5 => ?_)
  refine zok_pi (s_X12_video8 hσ.P) (fun v25 h7 => ?_)
  refine zok_if (fun q8 => ?_) (fun q8 => ?_)
  · have h9 := zc_eql (208) (208) q8 h7 (zr_c (lo := 208) (hi := 208) (by decide)) (by decide)
    exact zok_some hσ
  refine zok_br (zr_andr (lo := 0) (hi := 255) (zr_c (lo := 255) (hi := 255) (by decide)) (by decide)) (fun v26 e11 h10 => ?_)
  refine zok_if (fun q12 => ?_) (fun q12 => ?_)
  · have h13 := zc_ltl (31) q12 h10 (zr_mul (lo := 8) (hi := 32) h_x3 h_x2 (by decide)) (by decide)
    refine zok_if (fun q14 => ?_) (fun q14 => ?_)
    · have h15 := zc_eql (4) (4) q14 h_x4 (zr_c (lo := 4) (hi := 4) (by decide)) (by decide)
      refine zok_ck rfl ?_
      refine zok_if (fun q16 => ?_) (fun q16 => ?_)
      · have h17 := zc_eql (0) (0) q16 (zr_andr (lo := 0) (hi := 64) (zr_c (lo := 64) (hi := 64) (by decide)) (by decide)) (zr_c (lo := 0) (hi := 0) (by decide)) (by decide)
        refine zok_ck rfl ?_
        refine zok_ck rfl ?_
        refine zok_bs (hσ.wi 62 62 (by decide) (zr_or (lo := 0) (hi := 255) 8 (zr_or (lo := 0) (hi := 255) 8 (zr_andr (lo := 0) (hi := 224) (zr_c (lo := 224) (hi := 224) (by decide)) (by decide)) (zr_c (lo := 64) (hi := 64) (by decide)) (by decide)) h3 (by decide)) (by decide +kernel)) (fun σ32 e19 i18 => ?_)
        exact zok_pau i18 (s_X12_oldSprites_150 i18.P)
      have h20 := zc_nel (1) (64) q16 (zr_andr (lo := 0) (hi := 64) (zr_c (lo := 64) (hi := 64) (by decide)) (by decide)) (zr_c (lo := 0) (hi := 0) (by decide)) (by decide)
      exact zok_pau hσ (s_X12_oldSprites_150 hσ.P)
    have h21 := zc_nel (0) (3) q14 h_x4 (zr_c (lo := 4) (hi := 4) (by decide)) (by decide)
    refine zok_br (zr_add (lo := 1) (hi := 4) h21 (zr_c (lo := 1) (hi := 1) (by decide)) (by decide)) (fun v27 e23 h22 => ?_)
    refine zok_if (fun q24 => ?_) (fun q24 => ?_)
    · have h25 := zc_eql (16) (16) q24 h_x3 (zr_c (lo := 16) (hi := 16) (by decide)) (by decide)
      refine zok_pi (s_X12_video8 hσ.P) (fun v31 h26 => ?_)
      exact (s_X12_oldSprites_183 hk40 hσ h_x1 h_x2 (zr_w h25 (by decide)) h22 h3 h5 h13 (zr_w (zr_andr (lo := 0) (hi := 252) (zr_c (lo := 252) (hi := 252) (by decide)) (by decide)) (by decide)) hMk40)
    have h27 := zc_nel (8) (15) q24 h_x3 (zr_c (lo := 16) (hi := 16) (by decide)) (by decide)
    refine zok_pi (s_X12_video8 hσ.P) (fun v29 h28 => ?_)
    exact (s_X12_oldSprites_183 hk40 hσ h_x1 h_x2 (zr_w h27 (by decide)) h22 h3 h5 h13 h28 hMk40)
  have h29 := zc_ler (8) (z_nlt q12) (zr_mul (lo := 8) (hi := 32) h_x3 h_x2 (by decide)) h10 (by decide)
  exact (s_X12_oldSprites_388 hk40 hσ h_x1 h_x2 h_x3 h_x4 h3 hMk40)
theorem s_X12_oldSprites_40 {G : Nat → Int} : ∀ (n : Nat) {σ : zSt} (hσ : zIM G σ) {x1 : Int32} (h_x1 : zr (0) (239) x1) {x2 : Int32} (h_x2 : zr (1) (2) x2) {x3 : Int32} (h_x3 : zr (8) (16) x3) {x4 : Int32} (h_x4 : zr (0) (4) x4) {x5 : Int32} (h_x5 : zr (0) (32) x5) (hm : (32) - x5.toInt < n), zok (fX12_oldSprites_40 n σ x1 x2 x3 x4 x5) (zIM G) := by
  intro n
  induction n with
  | zero => intro σ hσ x1 h_x1 x2 h_x2 x3 h_x3 x4 h_x4 x5 h_x5 hm ; have h9 := h_x5.1; have h8 := h_x5.2; exfalso; omega
  | succ n ih => intro σ hσ x1 h_x1 x2 h_x2 x3 h_x3 x4 h_x4 x5 h_x5 hm ; exact s_X12_oldSprites_40_body (fun σ x1 x2 x3 x4 x5 hσ h_x1 h_x2 h_x3 h_x4 h_x5 hm1 => ih hσ h_x1 h_x2 h_x3 h_x4 h_x5 (by omega)) hσ h_x1 h_x2 h_x3 h_x4 h_x5 (Int.le_refl _)
theorem s_X12_oldSprites_33 {G : Nat → Int} {σ : zSt} (hσ : zIM G σ) {x1 : Int32} (h_x1 : zr (0) (239) x1) {x2 : Int32} (h_x2 : zr (1) (2) x2) {s0 : Int32} (h_s0 : zr (8) (16) s0) : zok (fX12_oldSprites_33 σ x1 x2 s0) (zIM G) := by
  unfold fX12_oldSprites_33
  exact (s_X12_oldSprites_40 zfuel hσ h_x1 h_x2 h_s0 (zr_w (zr_c (lo := 0) (hi := 0) (by decide)) (by decide)) (zr_w (zr_c (lo := 0) (hi := 0) (by decide)) (by decide)) (by decide))
theorem s_X12_oldSprites_15 {G : Nat → Int} {σ : zSt} (hσ : zIM G σ) {x1 : Int32} (h_x1 : zr (0) (239) x1) {s0 : Int32} (h_s0 : zr (1) (2) s0) : zok (fX12_oldSprites_15 σ x1 s0) (zIM G) := by
  unfold fX12_oldSprites_15
  refine zok_pi (s_X12_bit hσ.P (zr_w (zr_c (lo := 1) (hi := 1) (by decide)) (by decide)) (zr_w (zr_c (lo := 1) (hi := 1) (by decide)) (by decide))) (fun v34 h1 => ?_)
  refine zok_if (fun q2 => ?_) (fun q2 => ?_)
  · have h3 := zc_eql (1) (1) q2 h1 (zr_c (lo := 1) (hi := 1) (by decide)) (by decide)
    exact (s_X12_oldSprites_33 hσ h_x1 h_s0 (zr_w (zr_c (lo := 16) (hi := 16) (by decide)) (by decide)))
  have h4 := zc_nel (0) (0) q2 h1 (zr_c (lo := 1) (hi := 1) (by decide)) (by decide)
  exact (s_X12_oldSprites_33 hσ h_x1 h_s0 (zr_w (zr_c (lo := 8) (hi := 8) (by decide)) (by decide)))
theorem s_X12_oldSprites {G : Nat → Int} {σ : zSt} (hσ : zIM G σ) {x1 : Int32} (h_x1 : zr (0) (239) x1) : zok (fX12_oldSprites σ x1) (zIM G) := by
  unfold fX12_oldSprites
  refine zok_pi (s_X12_bit hσ.P (zr_w (zr_c (lo := 1) (hi := 1) (by decide)) (by decide)) (zr_w (zr_c (lo := 0) (hi := 0) (by decide)) (by decide))) (fun v36 h1 => ?_)
  refine zok_if (fun q2 => ?_) (fun q2 => ?_)
  · have h3 := zc_eql (1) (1) q2 h1 (zr_c (lo := 1) (hi := 1) (by decide)) (by decide)
    exact (s_X12_oldSprites_15 hσ h_x1 (zr_w (zr_c (lo := 2) (hi := 2) (by decide)) (by decide)))
  have h4 := zc_nel (0) (0) q2 h1 (zr_c (lo := 1) (hi := 1) (by decide)) (by decide)
  exact (s_X12_oldSprites_15 hσ h_x1 (zr_w (zr_c (lo := 1) (hi := 1) (by decide)) (by decide)))
theorem s_X12_draws_302_body {G : Nat → Int} {σ : zSt} {k302 : zSt → Int32 → Int32 → Option (zSt)} {Mk302 : Int} (hk302 : ∀ (σ : zSt) (x1 : Int32) (x3 : Int32), zIM G σ → zr (0) (239) x1 → zr (0) (256) x3 → (256) - x3.toInt < Mk302 → zok (k302 σ x1 x3) (zIM G)) (hσ : zIM G σ) {x1 : Int32} (h_x1 : zr (0) (239) x1) {x3 : Int32} (h_x3 : zr (0) (256) x3) (hMk302 : (256) - x3.toInt ≤ Mk302) : zok (fX12_draws_302_body k302 σ x1 x3) (zIM G) := by
  unfold fX12_draws_302_body
  refine zok_if (fun q1 => ?_) (fun q1 => ?_)
  · have h2 := zc_ler (256) q1 (zr_c (lo := 256) (hi := 256) (by decide)) h_x3 (by decide)
    exact zok_some hσ
  have h3 := zc_ltl (255) (z_nle q1) h_x3 (zr_c (lo := 256) (hi := 256) (by decide)) (by decide)
  refine zok_ck (zin_ok h3 (by decide)) ?_
  refine zok_pi (s_X12_colour hσ.P (rM_9 hσ.sg _ (z_ix h3 (by decide)))) (fun v2 h4 => ?_)
  refine zok_ck (zin_ok (zr_add (lo := 0) (hi := 61439) (zr_mul (lo := 0) (hi := 61184) (zr_c (lo := 256) (hi := 256) (by decide)) h_x1 (by decide)) h3 (by decide)) (by decide)) ?_
  refine zok_bs (hσ.wk (by decide)) (fun σ3 e6 i5 => ?_)
  refine zok_br (zr_add (lo := 1) (hi := 256) h3 (zr_c (lo := 1) (hi := 1) (by decide)) (by decide)) (fun v4 e8 h7 => ?_)
  exact hk302 _ _ _ i5 h_x1 (zr_w h7 (by decide)) (by rw [e8]; have := z_tadd (y := (1 : Int32)) h3 (zr_c (lo := 1) (hi := 1) (by decide)) (by decide); have e9 : (1 : Int32).toInt = 1 := rfl; omega) 
theorem s_X12_draws_302 {G : Nat → Int} : ∀ (n : Nat) {σ : zSt} (hσ : zIM G σ) {x1 : Int32} (h_x1 : zr (0) (239) x1) {x3 : Int32} (h_x3 : zr (0) (256) x3) (hm : (256) - x3.toInt < n), zok (fX12_draws_302 n σ x1 x3) (zIM G) := by
  intro n
  induction n with
  | zero => intro σ hσ x1 h_x1 x3 h_x3 hm ; have h9 := h_x3.1; have h8 := h_x3.2; exfalso; omega
  | succ n ih => intro σ hσ x1 h_x1 x3 h_x3 hm ; exact s_X12_draws_302_body (fun σ x1 x3 hσ h_x1 h_x3 hm1 => ih hσ h_x1 h_x3 (by omega)) hσ h_x1 h_x3 (Int.le_refl _)
theorem s_X12_draws_300 {G : Nat → Int} {σ : zSt} (hσ : zIM G σ) {x1 : Int32} (h_x1 : zr (0) (239) x1) : zok (fX12_draws_300 σ x1) (zIM G) := by
  unfold fX12_draws_300
  exact (s_X12_draws_302 zfuel hσ h_x1 (zr_w (zr_c (lo := 0) (hi := 0) (by decide)) (by decide)) (by decide))
theorem s_X12_draws_244 {G : Nat → Int} {σ : zSt} {k213 : zSt → Int32 → Int32 → Int32 → Option (zSt)} {Mk213 : Int} (hk213 : ∀ (σ : zSt) (x1 : Int32) (x2 : Int32) (x3 : Int32), zIM G σ → zr (0) (239) x1 → zr (0) (31) x2 → zr (0) (256) x3 → (256) - x3.toInt < Mk213 → zok (k213 σ x1 x2 x3) (zIM G)) (hσ : zIM G σ) {x1 : Int32} (h_x1 : zr (0) (239) x1) {x2 : Int32} (h_x2 : zr (0) (31) x2) {x3 : Int32} (h_x3 : zr (0) (255) x3) {s0 : Int32} (h_s0 : zr (0) (31) s0) {s1 : Int32} (h_s1 : zr (0) (255) s1) (hMk213 : (256) - x3.toInt ≤ Mk213) : zok (fX12_draws_244 k213 σ x1 x2 x3 s0 s1) (zIM G) := by
  unfold fX12_draws_244
  refine zok_ck (zin_ok h_s1 (by decide)) ?_
  refine zok_bs (hσ.wi 0 255 (z_ix h_s1 (by decide)) h_s0 (by decide +kernel)) (fun σ5 e2 i1 => ?_)
  refine zok_br (zr_add (lo := 1) (hi := 256) h_x3 (zr_c (lo := 1) (hi := 1) (by decide)) (by decide)) (fun v6 e4 h3 => ?_)
  exact hk213 _ _ _ _ i1 h_x1 h_x2 (zr_w h3 (by decide)) (by rw [e4]; have := z_tadd (y := (1 : Int32)) h_x3 (zr_c (lo := 1) (hi := 1) (by decide)) (by decide); have e9 : (1 : Int32).toInt = 1 := rfl; omega) 
theorem s_X12_draws_294 {G : Nat → Int} {σ : zSt} {k266 : zSt → Int32 → Int32 → Option (zSt)} {Mk266 : Int} (hk266 : ∀ (σ : zSt) (x1 : Int32) (x3 : Int32), zIM G σ → zr (0) (239) x1 → zr (0) (256) x3 → (256) - x3.toInt < Mk266 → zok (k266 σ x1 x3) (zIM G)) (hσ : zIM G σ) {x1 : Int32} (h_x1 : zr (0) (239) x1) {x3 : Int32} (h_x3 : zr (0) (255) x3) (hMk266 : (256) - x3.toInt ≤ Mk266) : zok (fX12_draws_294 k266 σ x1 x3) (zIM G) := by
  unfold fX12_draws_294
  refine zok_br (zr_add (lo := 1) (hi := 256) h_x3 (zr_c (lo := 1) (hi := 1) (by decide)) (by decide)) (fun v7 e2 h1 => ?_)
  exact hk266 _ _ _ hσ h_x1 (zr_w h1 (by decide)) (by rw [e2]; have := z_tadd (y := (1 : Int32)) h_x3 (zr_c (lo := 1) (hi := 1) (by decide)) (by decide); have e9 : (1 : Int32).toInt = 1 := rfl; omega) 
theorem s_X12_draws_266_body {G : Nat → Int} {σ : zSt} {k266 : zSt → Int32 → Int32 → Option (zSt)} {Mk266 : Int} (hk266 : ∀ (σ : zSt) (x1 : Int32) (x3 : Int32), zIM G σ → zr (0) (239) x1 → zr (0) (256) x3 → (256) - x3.toInt < Mk266 → zok (k266 σ x1 x3) (zIM G)) (hσ : zIM G σ) {x1 : Int32} (h_x1 : zr (0) (239) x1) {x3 : Int32} (h_x3 : zr (0) (256) x3) (hMk266 : (256) - x3.toInt ≤ Mk266) : zok (fX12_draws_266_body k266 σ x1 x3) (zIM G) := by
  unfold fX12_draws_266_body
  refine zok_if (fun q1 => ?_) (fun q1 => ?_)
  · have h2 := zc_ler (256) q1 (zr_c (lo := 256) (hi := 256) (by decide)) h_x3 (by decide)
    exact (s_X12_draws_300 hσ h_x1)
  have h3 := zc_ltl (255) (z_nle q1) h_x3 (zr_c (lo := 256) (hi := 256) (by decide)) (by decide)
  refine zok_ck (zin_ok h3 (by decide)) ?_
  refine zok_if (fun q4 => ?_) (fun q4 => ?_)
  · have h5 := zc_lel (0) q4 (rM_10 hσ.sg _ (z_ix h3 (by decide))) (zr_c (lo := 0) (hi := 0) (by decide)) (by decide)
    exact (s_X12_draws_294 hk266 hσ h_x1 h3 hMk266)
  have h6 := zc_ltr (1) (z_nle q4) (zr_c (lo := 0) (hi := 0) (by decide)) (rM_10 hσ.sg _ (z_ix h3 (by decide))) (by decide)
  refine zok_ck (zin_ok h3 (by decide)) ?_
  refine zok_ck (zin_ok h3 (by decide)) ?_
  refine zok_bs (hσ.wi 0 255 (z_ix h3 (by decide)) h6 (by decide +kernel)) (fun σ8 e8 i7 => ?_)
  exact (s_X12_draws_294 hk266 i7 h_x1 h3 hMk266)
theorem s_X12_draws_266 {G : Nat → Int} : ∀ (n : Nat) {σ : zSt} (hσ : zIM G σ) {x1 : Int32} (h_x1 : zr (0) (239) x1) {x3 : Int32} (h_x3 : zr (0) (256) x3) (hm : (256) - x3.toInt < n), zok (fX12_draws_266 n σ x1 x3) (zIM G) := by
  intro n
  induction n with
  | zero => intro σ hσ x1 h_x1 x3 h_x3 hm ; have h9 := h_x3.1; have h8 := h_x3.2; exfalso; omega
  | succ n ih => intro σ hσ x1 h_x1 x3 h_x3 hm ; exact s_X12_draws_266_body (fun σ x1 x3 hσ h_x1 h_x3 hm1 => ih hσ h_x1 h_x3 (by omega)) hσ h_x1 h_x3 (Int.le_refl _)
theorem s_X12_draws_264 {G : Nat → Int} {σ : zSt} (hσ : zIM G σ) {x1 : Int32} (h_x1 : zr (0) (239) x1) : zok (fX12_draws_264 σ x1) (zIM G) := by
  unfold fX12_draws_264
  exact (s_X12_draws_266 zfuel hσ h_x1 (zr_w (zr_c (lo := 0) (hi := 0) (by decide)) (by decide)) (by decide))
theorem s_X12_draws_213_body {G : Nat → Int} {σ : zSt} {k213 : zSt → Int32 → Int32 → Int32 → Option (zSt)} {Mk213 : Int} (hk213 : ∀ (σ : zSt) (x1 : Int32) (x2 : Int32) (x3 : Int32), zIM G σ → zr (0) (239) x1 → zr (0) (31) x2 → zr (0) (256) x3 → (256) - x3.toInt < Mk213 → zok (k213 σ x1 x2 x3) (zIM G)) (hσ : zIM G σ) {x1 : Int32} (h_x1 : zr (0) (239) x1) {x2 : Int32} (h_x2 : zr (0) (31) x2) {x3 : Int32} (h_x3 : zr (0) (256) x3) (hMk213 : (256) - x3.toInt ≤ Mk213) : zok (fX12_draws_213_body k213 σ x1 x2 x3) (zIM G) := by
  unfold fX12_draws_213_body
  refine zok_if (fun q1 => ?_) (fun q1 => ?_)
  · have h2 := zc_ler (256) q1 (zr_c (lo := 256) (hi := 256) (by decide)) h_x3 (by decide)
    refine zok_pi (s_X12_mode hσ.P) (fun v10 h3 => ?_)
    refine zok_if (fun q4 => ?_) (fun q4 => ?_)
    · have h5 := zc_eql (1) (1) q4 h3 (zr_c (lo := 1) (hi := 1) (by decide)) (by decide)
      exact (s_X12_draws_264 hσ h_x1)
    refine zok_bu (s_X12_oldSprites hσ h_x1) (fun σ11 i6 => ?_)
    exact (s_X12_draws_264 i6 h_x1)
  have h7 := zc_ltl (255) (z_nle q1) h_x3 (zr_c (lo := 256) (hi := 256) (by decide)) (by decide)
  refine zok_pi (s_X12_old hσ.P h_x1 h7) (fun v13 h8 => ?_)
  refine zok_if (fun q9 => ?_) (fun q9 => ?_)
  · have h10 := zc_eql (0) (0) q9 h8 (zr_c (lo := 0) (hi := 0) (by decide)) (by decide)
    exact (s_X12_draws_244 hk213 hσ h_x1 h_x2 h7 h_x2 h7 hMk213)
  have h11 := zc_nel (1) (15) q9 h8 (zr_c (lo := 0) (hi := 0) (by decide)) (by decide)
  exact (s_X12_draws_244 hk213 hσ h_x1 h_x2 h7 (zr_w h11 (by decide)) h7 hMk213)
theorem s_X12_draws_213 {G : Nat → Int} : ∀ (n : Nat) {σ : zSt} (hσ : zIM G σ) {x1 : Int32} (h_x1 : zr (0) (239) x1) {x2 : Int32} (h_x2 : zr (0) (31) x2) {x3 : Int32} (h_x3 : zr (0) (256) x3) (hm : (256) - x3.toInt < n), zok (fX12_draws_213 n σ x1 x2 x3) (zIM G) := by
  intro n
  induction n with
  | zero => intro σ hσ x1 h_x1 x2 h_x2 x3 h_x3 hm ; have h9 := h_x3.1; have h8 := h_x3.2; exfalso; omega
  | succ n ih => intro σ hσ x1 h_x1 x2 h_x2 x3 h_x3 hm ; exact s_X12_draws_213_body (fun σ x1 x2 x3 hσ h_x1 h_x2 h_x3 hm1 => ih hσ h_x1 h_x2 h_x3 (by omega)) hσ h_x1 h_x2 h_x3 (Int.le_refl _)
theorem s_X12_draws_200 {G : Nat → Int} {σ : zSt} (hσ : zIM G σ) {x1 : Int32} (h_x1 : zr (0) (239) x1) {x2 : Int32} (h_x2 : zr (0) (31) x2) : zok (fX12_draws_200 σ x1 x2) (zIM G) := by
  unfold fX12_draws_200
  refine zok_pi (s_X12_bit hσ.P (zr_w (zr_c (lo := 1) (hi := 1) (by decide)) (by decide)) (zr_w (zr_c (lo := 6) (hi := 6) (by decide)) (by decide))) (fun v15 h1 => ?_)
  refine zok_if (fun q2 => ?_) (fun q2 => ?_)
  · have h3 := zc_eql (1) (1) q2 h1 (zr_c (lo := 1) (hi := 1) (by decide)) (by decide)
    exact (s_X12_draws_213 zfuel hσ h_x1 h_x2 (zr_w (zr_c (lo := 0) (hi := 0) (by decide)) (by decide)) (by decide))
  have h4 := zc_nel (0) (0) q2 h1 (zr_c (lo := 1) (hi := 1) (by decide)) (by decide)
  exact (s_X12_draws_300 hσ h_x1)
theorem s_X12_draws_160 {G : Nat → Int} {σ : zSt} {k123 : zSt → Int32 → Int32 → Int32 → Option (zSt)} {Mk123 : Int} (hk123 : ∀ (σ : zSt) (x1 : Int32) (x2 : Int32) (x3 : Int32), zIM G σ → zr (0) (239) x1 → zr (0) (31) x2 → zr (0) (256) x3 → (256) - x3.toInt < Mk123 → zok (k123 σ x1 x2 x3) (zIM G)) (hσ : zIM G σ) {x1 : Int32} (h_x1 : zr (0) (239) x1) {x2 : Int32} (h_x2 : zr (0) (31) x2) {x3 : Int32} (h_x3 : zr (0) (255) x3) (hMk123 : (256) - x3.toInt ≤ Mk123) : zok (fX12_draws_160 k123 σ x1 x2 x3) (zIM G) := by
  unfold fX12_draws_160
  refine zok_br (zr_add (lo := 1) (hi := 256) h_x3 (zr_c (lo := 1) (hi := 1) (by decide)) (by decide)) (fun v16 e2 h1 => ?_)
  exact hk123 _ _ _ _ hσ h_x1 h_x2 (zr_w h1 (by decide)) (by rw [e2]; have := z_tadd (y := (1 : Int32)) h_x3 (zr_c (lo := 1) (hi := 1) (by decide)) (by decide); have e9 : (1 : Int32).toInt = 1 := rfl; omega) 
theorem s_X12_draws_197 {G : Nat → Int} {σ : zSt} (hσ : zIM G σ) {x1 : Int32} (h_x1 : zr (0) (239) x1) : zok (fX12_draws_197 σ x1) (zIM G) := by
  unfold fX12_draws_197
  exact (s_X12_draws_300 hσ h_x1)
theorem s_X12_draws_168_body {G : Nat → Int} {σ : zSt} {k168 : zSt → Int32 → Int32 → Int32 → Option (zSt)} {Mk168 : Int} (hk168 : ∀ (σ : zSt) (x1 : Int32) (x2 : Int32) (x3 : Int32), zIM G σ → zr (0) (239) x1 → zr (0) (31) x2 → zr (0) (8) x3 → (8) - x3.toInt < Mk168 → zok (k168 σ x1 x2 x3) (zIM G)) (hσ : zIM G σ) {x1 : Int32} (h_x1 : zr (0) (239) x1) {x2 : Int32} (h_x2 : zr (0) (31) x2) {x3 : Int32} (h_x3 : zr (0) (8) x3) (hMk168 : (8) - x3.toInt ≤ Mk168) : zok (fX12_draws_168_body k168 σ x1 x2 x3) (zIM G) := by
  unfold fX12_draws_168_body
  refine zok_if (fun q1 => ?_) (fun q1 => ?_)
  · have h2 := zc_ler (8) q1 (zr_c (lo := 8) (hi := 8) (by decide)) h_x3 (by decide)
    exact (s_X12_draws_197 hσ h_x1)
  have h3 := zc_ltl (7) (z_nle q1) h_x3 (zr_c (lo := 8) (hi := 8) (by decide)) (by decide)
  refine zok_pi (s_X12_bit hσ.P (zr_w (zr_c (lo := 0) (hi := 0) (by decide)) (by decide)) (zr_w (zr_c (lo := 5) (hi := 5) (by decide)) (by decide))) (fun v18 h4 => ?_)
  refine zok_if (fun q5 => ?_) (fun q5 => ?_)
  · have h6 := zc_eql (1) (1) q5 h4 (zr_c (lo := 1) (hi := 1) (by decide)) (by decide)
    refine zok_ck (zin_ok h3 (by decide)) ?_
    refine zok_bs (hσ.wi 0 7 (z_ix h3 (by decide)) h_x2 (by decide +kernel)) (fun σ19 e8 i7 => ?_)
    refine zok_br (zr_add (lo := 1) (hi := 8) h3 (zr_c (lo := 1) (hi := 1) (by decide)) (by decide)) (fun v20 e10 h9 => ?_)
    exact hk168 _ _ _ _ i7 h_x1 h_x2 (zr_w h9 (by decide)) (by rw [e10]; have := z_tadd (y := (1 : Int32)) h3 (zr_c (lo := 1) (hi := 1) (by decide)) (by decide); have e9 : (1 : Int32).toInt = 1 := rfl; omega) 
  have h11 := zc_nel (0) (0) q5 h4 (zr_c (lo := 1) (hi := 1) (by decide)) (by decide)
  exact (s_X12_draws_197 hσ h_x1)
theorem s_X12_draws_168 {G : Nat → Int} : ∀ (n : Nat) {σ : zSt} (hσ : zIM G σ) {x1 : Int32} (h_x1 : zr (0) (239) x1) {x2 : Int32} (h_x2 : zr (0) (31) x2) {x3 : Int32} (h_x3 : zr (0) (8) x3) (hm : (8) - x3.toInt < n), zok (fX12_draws_168 n σ x1 x2 x3) (zIM G) := by
  intro n
  induction n with
  | zero => intro σ hσ x1 h_x1 x2 h_x2 x3 h_x3 hm ; have h9 := h_x3.1; have h8 := h_x3.2; exfalso; omega
  | succ n ih => intro σ hσ x1 h_x1 x2 h_x2 x3 h_x3 hm ; exact s_X12_draws_168_body (fun σ x1 x2 x3 hσ h_x1 h_x2 h_x3 hm1 => ih hσ h_x1 h_x2 h_x3 (by omega)) hσ h_x1 h_x2 h_x3 (Int.le_refl _)
theorem s_X12_draws_123_body {G : Nat → Int} {σ : zSt} {k123 : zSt → Int32 → Int32 → Int32 → Option (zSt)} {Mk123 : Int} (hk123 : ∀ (σ : zSt) (x1 : Int32) (x2 : Int32) (x3 : Int32), zIM G σ → zr (0) (239) x1 → zr (0) (31) x2 → zr (0) (256) x3 → (256) - x3.toInt < Mk123 → zok (k123 σ x1 x2 x3) (zIM G)) (hσ : zIM G σ) {x1 : Int32} (h_x1 : zr (0) (239) x1) {x2 : Int32} (h_x2 : zr (0) (31) x2) {x3 : Int32} (h_x3 : zr (0) (256) x3) (hMk123 : (256) - x3.toInt ≤ Mk123) : zok (fX12_draws_123_body k123 σ x1 x2 x3) (zIM G) := by
  unfold fX12_draws_123_body
  refine zok_if (fun q1 => ?_) (fun q1 => ?_)
  · have h2 := zc_ler (256) q1 (zr_c (lo := 256) (hi := 256) (by decide)) h_x3 (by decide)
    exact (s_X12_draws_168 zfuel hσ h_x1 h_x2 (zr_w (zr_c (lo := 0) (hi := 0) (by decide)) (by decide)) (by decide))
  have h3 := zc_ltl (255) (z_nle q1) h_x3 (zr_c (lo := 256) (hi := 256) (by decide)) (by decide)
  refine zok_ck (zin_ok h3 (by decide)) ?_
  refine zok_if (fun q4 => ?_) (fun q4 => ?_)
  · have h5 := zc_lel (0) q4 (rM_10 hσ.sg _ (z_ix h3 (by decide))) (zr_c (lo := 0) (hi := 0) (by decide)) (by decide)
    exact (s_X12_draws_160 hk123 hσ h_x1 h_x2 h3 hMk123)
  have h6 := zc_ltr (1) (z_nle q4) (zr_c (lo := 0) (hi := 0) (by decide)) (rM_10 hσ.sg _ (z_ix h3 (by decide))) (by decide)
  refine zok_ck (zin_ok h3 (by decide)) ?_
  refine zok_if (fun q7 => ?_) (fun q7 => ?_)
  · have h8 := zc_eql (0) (0) q7 zr_any (zr_c (lo := 0) (hi := 0) (by decide)) (by decide)
    refine zok_ck (zin_ok h3 (by decide)) ?_
    refine zok_ck (zin_ok h3 (by decide)) ?_
    refine zok_bs (hσ.wi 0 255 (z_ix h3 (by decide)) h6 (by decide +kernel)) (fun σ21 e10 i9 => ?_)
    exact (s_X12_draws_160 hk123 i9 h_x1 h_x2 h3 hMk123)
  exact (s_X12_draws_160 hk123 hσ h_x1 h_x2 h3 hMk123)
theorem s_X12_draws_123 {G : Nat → Int} : ∀ (n : Nat) {σ : zSt} (hσ : zIM G σ) {x1 : Int32} (h_x1 : zr (0) (239) x1) {x2 : Int32} (h_x2 : zr (0) (31) x2) {x3 : Int32} (h_x3 : zr (0) (256) x3) (hm : (256) - x3.toInt < n), zok (fX12_draws_123 n σ x1 x2 x3) (zIM G) := by
  intro n
  induction n with
  | zero => intro σ hσ x1 h_x1 x2 h_x2 x3 h_x3 hm ; have h9 := h_x3.1; have h8 := h_x3.2; exfalso; omega
  | succ n ih => intro σ hσ x1 h_x1 x2 h_x2 x3 h_x3 hm ; exact s_X12_draws_123_body (fun σ x1 x2 x3 hσ h_x1 h_x2 h_x3 hm1 => ih hσ h_x1 h_x2 h_x3 (by omega)) hσ h_x1 h_x2 h_x3 (Int.le_refl _)
theorem s_X12_draws_97_body {G : Nat → Int} {σ : zSt} {k97 : zSt → Int32 → Int32 → Int32 → Option (zSt)} {Mk97 : Int} (hk97 : ∀ (σ : zSt) (x1 : Int32) (x2 : Int32) (x3 : Int32), zIM G σ → zr (0) (239) x1 → zr (0) (31) x2 → zr (0) (256) x3 → (256) - x3.toInt < Mk97 → zok (k97 σ x1 x2 x3) (zIM G)) (hσ : zIM G σ) {x1 : Int32} (h_x1 : zr (0) (239) x1) {x2 : Int32} (h_x2 : zr (0) (31) x2) {x3 : Int32} (h_x3 : zr (0) (256) x3) (hMk97 : (256) - x3.toInt ≤ Mk97) : zok (fX12_draws_97_body k97 σ x1 x2 x3) (zIM G) := by
  unfold fX12_draws_97_body
  refine zok_if (fun q1 => ?_) (fun q1 => ?_)
  · have h2 := zc_ler (256) q1 (zr_c (lo := 256) (hi := 256) (by decide)) h_x3 (by decide)
    refine zok_bu (s_X12_sprites hσ h_x1) (fun σ22 i3 => ?_)
    exact (s_X12_draws_123 zfuel i3 h_x1 h_x2 (zr_w (zr_c (lo := 0) (hi := 0) (by decide)) (by decide)) (by decide))
  have h4 := zc_ltl (255) (z_nle q1) h_x3 (zr_c (lo := 256) (hi := 256) (by decide)) (by decide)
  refine zok_bu (s_X12_tile hσ h_x1 h4) (fun σ23 i5 => ?_)
  refine zok_br (zr_add (lo := 1) (hi := 256) h4 (zr_c (lo := 1) (hi := 1) (by decide)) (by decide)) (fun v24 e7 h6 => ?_)
  exact hk97 _ _ _ _ i5 h_x1 h_x2 (zr_w h6 (by decide)) (by rw [e7]; have := z_tadd (y := (1 : Int32)) h4 (zr_c (lo := 1) (hi := 1) (by decide)) (by decide); have e9 : (1 : Int32).toInt = 1 := rfl; omega) 
theorem s_X12_draws_97 {G : Nat → Int} : ∀ (n : Nat) {σ : zSt} (hσ : zIM G σ) {x1 : Int32} (h_x1 : zr (0) (239) x1) {x2 : Int32} (h_x2 : zr (0) (31) x2) {x3 : Int32} (h_x3 : zr (0) (256) x3) (hm : (256) - x3.toInt < n), zok (fX12_draws_97 n σ x1 x2 x3) (zIM G) := by
  intro n
  induction n with
  | zero => intro σ hσ x1 h_x1 x2 h_x2 x3 h_x3 hm ; have h9 := h_x3.1; have h8 := h_x3.2; exfalso; omega
  | succ n ih => intro σ hσ x1 h_x1 x2 h_x2 x3 h_x3 hm ; exact s_X12_draws_97_body (fun σ x1 x2 x3 hσ h_x1 h_x2 h_x3 hm1 => ih hσ h_x1 h_x2 h_x3 (by omega)) hσ h_x1 h_x2 h_x3 (Int.le_refl _)
theorem s_X12_draws_35_body {G : Nat → Int} {σ : zSt} {k35 : zSt → Int32 → Int32 → Int32 → Option (zSt)} {Mk35 : Int} (hk35 : ∀ (σ : zSt) (x1 : Int32) (x2 : Int32) (x3 : Int32), zIM G σ → zr (0) (239) x1 → zr (0) (31) x2 → zr (0) (256) x3 → (256) - x3.toInt < Mk35 → zok (k35 σ x1 x2 x3) (zIM G)) (hσ : zIM G σ) {x1 : Int32} (h_x1 : zr (0) (239) x1) {x2 : Int32} (h_x2 : zr (0) (31) x2) {x3 : Int32} (h_x3 : zr (0) (256) x3) (hMk35 : (256) - x3.toInt ≤ Mk35) : zok (fX12_draws_35_body k35 σ x1 x2 x3) (zIM G) := by
  unfold fX12_draws_35_body
  refine zok_if (fun q1 => ?_) (fun q1 => ?_)
  · have h2 := zc_ler (256) q1 (zr_c (lo := 256) (hi := 256) (by decide)) h_x3 (by decide)
    refine zok_pi (s_X12_bit hσ.P (zr_w (zr_c (lo := 1) (hi := 1) (by decide)) (by decide)) (zr_w (zr_c (lo := 6) (hi := 6) (by decide)) (by decide))) (fun v26 h3 => ?_)
    refine zok_if (fun q4 => ?_) (fun q4 => ?_)
    · have h5 := zc_eql (1) (1) q4 h3 (zr_c (lo := 1) (hi := 1) (by decide)) (by decide)
      refine zok_pi (s_X12_mode hσ.P) (fun v28 h6 => ?_)
      refine zok_if (fun q7 => ?_) (fun q7 => ?_)
      · have h8 := zc_eql (4) (4) q7 h6 (zr_c (lo := 4) (hi := 4) (by decide)) (by decide)
        exact (s_X12_draws_97 zfuel hσ h_x1 h_x2 (zr_w (zr_c (lo := 0) (hi := 0) (by decide)) (by decide)) (by decide))
      have h9 := zc_nel (0) (3) q7 h6 (zr_c (lo := 4) (hi := 4) (by decide)) (by decide)
      exact (s_X12_draws_200 hσ h_x1 h_x2)
    have h10 := zc_nel (0) (0) q4 h3 (zr_c (lo := 1) (hi := 1) (by decide)) (by decide)
    exact (s_X12_draws_200 hσ h_x1 h_x2)
  have h11 := zc_ltl (255) (z_nle q1) h_x3 (zr_c (lo := 256) (hi := 256) (by decide)) (by decide)
  refine zok_ck (zin_ok h11 (by decide)) ?_
  refine zok_bs (hσ.wi 0 255 (z_ix h11 (by decide)) h_x2 (by decide +kernel)) (fun σ29 e13 i12 => ?_)
  refine zok_ck (zin_ok h11 (by decide)) ?_
  refine zok_bs (i12.wk (by decide)) (fun σ30 e15 i14 => ?_)
  refine zok_ck (zin_ok h11 (by decide)) ?_
  refine zok_bs (i14.wi 0 255 (z_ix h11 (by decide)) (zr_c (lo := 0) (hi := 0) (by decide)) (by decide +kernel)) (fun σ31 e17 i16 => ?_)
  refine zok_ck (zin_ok h11 (by decide)) ?_
  refine zok_bs (i16.wk (by decide)) (fun σ32 e19 i18 => ?_)
  refine zok_br (zr_add (lo := 1) (hi := 256) h11 (zr_c (lo := 1) (hi := 1) (by decide)) (by decide)) (fun v33 e21 h20 => ?_)
  exact hk35 _ _ _ _ i18 h_x1 h_x2 (zr_w h20 (by decide)) (by rw [e21]; have := z_tadd (y := (1 : Int32)) h11 (zr_c (lo := 1) (hi := 1) (by decide)) (by decide); have e9 : (1 : Int32).toInt = 1 := rfl; omega) 
theorem s_X12_draws_35 {G : Nat → Int} : ∀ (n : Nat) {σ : zSt} (hσ : zIM G σ) {x1 : Int32} (h_x1 : zr (0) (239) x1) {x2 : Int32} (h_x2 : zr (0) (31) x2) {x3 : Int32} (h_x3 : zr (0) (256) x3) (hm : (256) - x3.toInt < n), zok (fX12_draws_35 n σ x1 x2 x3) (zIM G) := by
  intro n
  induction n with
  | zero => intro σ hσ x1 h_x1 x2 h_x2 x3 h_x3 hm ; have h9 := h_x3.1; have h8 := h_x3.2; exfalso; omega
  | succ n ih => intro σ hσ x1 h_x1 x2 h_x2 x3 h_x3 hm ; exact s_X12_draws_35_body (fun σ x1 x2 x3 hσ h_x1 h_x2 h_x3 hm1 => ih hσ h_x1 h_x2 h_x3 (by omega)) hσ h_x1 h_x2 h_x3 (Int.le_refl _)
theorem s_X12_draws_32 {G : Nat → Int} {σ : zSt} (hσ : zIM G σ) {x1 : Int32} (h_x1 : zr (0) (239) x1) {s0 : Int32} (h_s0 : zr (0) (31) s0) : zok (fX12_draws_32 σ x1 s0) (zIM G) := by
  unfold fX12_draws_32
  exact (s_X12_draws_35 zfuel hσ h_x1 h_s0 (zr_w (zr_c (lo := 0) (hi := 0) (by decide)) (by decide)) (by decide))
theorem s_X12_draws {G : Nat → Int} {σ : zSt} (hσ : zIM G σ) {x1 : Int32} (h_x1 : zr (0) (239) x1) : zok (fX12_draws σ x1) (zIM G) := by
  unfold fX12_draws
  refine zok_pi (s_X12_mode hσ.P) (fun v35 h1 => ?_)
  refine zok_if (fun q2 => ?_) (fun q2 => ?_)
  · have h3 := zc_eql (4) (4) q2 h1 (zr_c (lo := 4) (hi := 4) (by decide)) (by decide)
    refine zok_pi (s_X12_reg hσ.P (zr_w (zr_c (lo := 7) (hi := 7) (by decide)) (by decide))) (fun v39 h4 => ?_)
    refine zok_ck (by decide) ?_
    exact (s_X12_draws_32 hσ h_x1 (zr_w (zr_add (lo := 16) (hi := 31) (zr_c (lo := 16) (hi := 16) (by decide)) (zr_rem (lo := 0) (hi := 15) 16 (by decide) h4 (by decide)) (by decide)) (by decide)))
  have h5 := zc_nel (0) (3) q2 h1 (zr_c (lo := 4) (hi := 4) (by decide)) (by decide)
  refine zok_pi (s_X12_reg hσ.P (zr_w (zr_c (lo := 7) (hi := 7) (by decide)) (by decide))) (fun v37 h6 => ?_)
  refine zok_ck (by decide) ?_
  exact (s_X12_draws_32 hσ h_x1 (zr_w (zr_rem (lo := 0) (hi := 15) 16 (by decide) h6 (by decide)) (by decide)))
theorem s_plan_68 {G : Nat → Int} {k0 : zSt → Option zSt} {M : Int} (hk : ∀ σ : zSt, zIM G σ → (zgi σ 3 (171 : Int32).toNatClampNeg).toInt < M → zok (k0 σ) (zIM G)) : ∀ (n : Nat) {σ : zSt} (hσ : zIM G σ) {x1 : Int32} (h1 : zr 0 765 x1) (hN : zr 0 255 (zgi σ 3 (171 : Int32).toNatClampNeg)) (hM : (zgi σ 3 (171 : Int32).toNatClampNeg).toInt < M) (hm : 765 - x1.toInt < n), zok (fX12_planned_68 k0 n σ x1) (zIM G) := by
  intro n
  induction n with
  | zero => intro σ hσ x1 h1 hN hM hm; have := h1.2; exfalso; omega
  | succ n ih =>
    intro σ hσ x1 h1 hN hM hm
    show zok (fX12_planned_68_body k0 (fX12_planned_68 k0 n) σ x1) _
    unfold fX12_planned_68_body
    refine zok_ck rfl (zok_if (fun q => hk σ hσ hM) (fun q => ?_))
    have q1 := Int32.lt_iff_toInt_lt.mp (z_nle q)
    have k3 : zr 3 3 (3 : Int32) := zr_c (by decide)
    have c3 : (3 : Int32).toInt = 3 := rfl
    have t3 : (3 * (zgi σ 3 (171 : Int32).toNatClampNeg)).toInt = (3 : Int32).toInt * (zgi σ 3 (171 : Int32).toNatClampNeg).toInt := z_tmul k3 hN (by decide)
    rw [t3, c3] at q1
    have b1 := h1.1
    have b2 := hN.2
    have h5 : zr 0 764 x1 := ⟨b1, by omega⟩
    have k28 : zr 280 280 (280 : Int32) := zr_c (by decide)
    have c28 : (280 : Int32).toInt = 280 := rfl
    have t1 : (280 + x1).toInt = (280 : Int32).toInt + x1.toInt := z_tadd k28 h5 (by decide)
    have r1 := zr_add (lo := 280) (hi := 1044) k28 h5 (by decide)
    have t2 : (280 + x1 + 3).toInt = (280 + x1).toInt + (3 : Int32).toInt := z_tadd r1 k3 (by decide)
    have r2 := zr_add (lo := 283) (hi := 1047) r1 k3 (by decide)
    refine zok_ck (zin_ok r2 (by decide)) (zok_ck (zin_ok r1 (by decide)) ?_)
    have e1 : (280 + x1).toNatClampNeg = (280 + x1).toInt.toNat := rfl
    have e2 : (280 + x1 + 3).toNatClampNeg = (280 + x1 + 3).toInt.toNat := rfl
    refine zok_bs (I := zIM G) (hσ.sh (j3 := (280 + x1 + 3).toNatClampNeg) (by omega)) (fun σ1 e i1 => ?_)
    have kN : zgi σ1 3 (171 : Int32).toNatClampNeg = zgi σ 3 (171 : Int32).toNatClampNeg := by
      have c17 : (171 : Int32).toNatClampNeg = 171 := rfl
      subst e; unfold zgi; rw [c17, zsi_off (by omega)]
    have a1 : zr 1 1 (1 : Int32) := zr_c (by decide)
    have c1 : (1 : Int32).toInt = 1 := rfl
    have t : (x1 + 1).toInt = x1.toInt + (1 : Int32).toInt := z_tadd h5 a1 (by decide)
    refine zok_bv (fun v3 e3 => ?_)
    subst e3
    exact ih i1 ⟨by omega, by omega⟩ (by rw [kN]; exact hN) (by rw [kN]; exact hM) (by omega)
theorem s_plan_0 {G : Nat → Int} : ∀ (n : Nat) {σ : zSt} (hσ : zIM G σ) (hm : (zgi σ 3 (171 : Int32).toNatClampNeg).toInt < n), zok (fX12_planned_0 n σ) (zIM G) := by
  intro n
  induction n with
  | zero =>
    intro σ hσ hm
    have hN : zr 0 256 (zgi σ 3 (171 : Int32).toNatClampNeg) := rM_45 hσ.sg (171 : Int32).toNatClampNeg (by decide)
    have := hN.1
    exfalso; omega
  | succ n ih =>
    intro σ hσ hm
    show zok (fX12_planned_0_body (fX12_planned_0 n) σ) _
    unfold fX12_planned_0_body
    have hN : zr 0 256 (zgi σ 3 (171 : Int32).toNatClampNeg) := rM_45 hσ.sg (171 : Int32).toNatClampNeg (by decide)
    refine zok_ck rfl (zok_if (fun q => zok_some hσ) (fun q => ?_))
    refine zok_ck rfl (zok_ck rfl (zok_if (fun _ => zok_some hσ) (fun _ => ?_)))
    have q1 := Int32.lt_iff_toInt_lt.mp (z_nle q)
    have c0 : (0 : Int32).toInt = 0 := rfl
    have hN1 : zr 1 256 (zgi σ 3 (171 : Int32).toNatClampNeg) := ⟨by omega, hN.2⟩
    have hP : zr 0 1 (zgi σ 3 (281 : Int32).toNatClampNeg) := by
      have c28 : (281 : Int32).toNatClampNeg = 281 + 3 * 0 := rfl
      rw [c28]; exact hσ.Y.2.2.1 0 (by decide)
    have hI := zr_add (lo := 42) (hi := 43) (zr_c (lo := 42) (hi := 42) (x := 42) (by decide)) hP (by decide)
    refine zok_ck rfl (zok_ck rfl (zok_ck (zin_ok hI (by decide)) ?_))
    refine zok_bs (I := zIM G) (hσ.wi 42 43 (z_ix hI (by decide)) zr_any (by decide +kernel)) (fun σ1 e1 i1 => ?_)
    have hN2 := z_trr (j1 := (171 : Int32).toNatClampNeg) e1 (z_ix (c := 42) (d := 43) hI (by decide)) (by decide) hN1
    have kN : zgi σ1 3 (171 : Int32).toNatClampNeg = zgi σ 3 (171 : Int32).toNatClampNeg := by
      have b := z_ix (c := 42) (d := 43) hI (by decide)
      rw [e1]
      show (zsi σ 3 _ _).1 3 171 = σ.1 3 171
      exact zsi_off (by omega)
    have a1 : zr 1 1 (1 : Int32) := zr_c (by decide)
    have c1 : (1 : Int32).toInt = 1 := rfl
    have h9 := zr_sub (lo := 0) (hi := 255) hN2 a1 (by decide)
    have t9 : (zgi σ1 3 (171 : Int32).toNatClampNeg - 1).toInt = (zgi σ1 3 (171 : Int32).toNatClampNeg).toInt - (1 : Int32).toInt := z_tsub hN2 a1 (by decide)
    refine zok_ck rfl (zok_ck rfl ?_)
    refine zok_bs (I := zIM G) (i1.wi 171 171 (by decide) h9 (by decide +kernel)) (fun σ2 e2 i2 => ?_)
    have k2 : zgi σ2 3 (171 : Int32).toNatClampNeg = zgi σ1 3 (171 : Int32).toNatClampNeg - 1 := by
      subst e2; show (zsi _ _ _ _).1 _ _ = _; rw [zsi_ej]
    refine s_plan_68 (M := (n : Int)) (fun σ3 i3 h3 => ih i3 h3) zfuel i2 (zr_c (by decide)) (by rw [k2]; exact h9) (by rw [k2, t9, kN]; omega) (by decide)
theorem s_X12_planned {G : Nat → Int} {σ : zSt} (hσ : zIM G σ) : zok (fX12_planned σ ) (zIM G) := by
  unfold fX12_planned
  have hN : zr 0 256 (zgi σ 3 (171 : Int32).toNatClampNeg) := rM_45 hσ.sg (171 : Int32).toNatClampNeg (by decide)
  have b := hN.2
  exact s_plan_0 zfuel hσ (by unfold zfuel; omega)
theorem s_X12_ends_195 {σ : zSt} (hσ : zPM σ) : zok (fX12_ends_195 σ ) (zPu σ) := by
  unfold fX12_ends_195
  exact zok_spu
theorem s_X12_ends_169 {G : Nat → Int} {σ : zSt} (hσ : zIM G σ) {x1 : Int32} (h_x1 : zr (192) (240) x1) : zok (fX12_ends_169 σ x1) (zIM G) := by
  unfold fX12_ends_169
  refine zok_ck rfl ?_
  refine zok_if (fun q1 => ?_) (fun q1 => ?_)
  · have h2 := zc_eql (193) (241) q1 (rM_29 hσ.sg _ (by decide)) (zr_add (lo := 193) (hi := 241) h_x1 (zr_c (lo := 1) (hi := 1) (by decide)) (by decide)) (by decide)
    refine zok_ck rfl ?_
    refine zok_ck rfl ?_
    refine zok_bs (hσ.wi 62 62 (by decide) (zr_or (lo := 0) (hi := 255) 8 (rM_26 hσ.sg _ (by decide)) (zr_c (lo := 128) (hi := 128) (by decide)) (by decide)) (by decide +kernel)) (fun σ1 e4 i3 => ?_)
    exact zok_pau i3 (s_X12_ends_195 i3.P)
  exact zok_pau hσ (s_X12_ends_195 hσ.P)
theorem s_ends_131 {G : Nat → Int} {σ : zSt} (hσ : zIM (zset G 3 (G 3 + 1)) σ) {x1 : Int32} (h_x1 : zr (192) (240) x1) {s0 s1 : Int32} (h1 : s1.toInt = G 3 + 1) (h0 : s0.toInt = zln G) (g3 : zEh G) : zok (fX12_ends_131 σ x1 s0 s1) (zIM (zEnd G)) := by
  unfold fX12_ends_131
  refine zok_if (fun q => ?_) (fun q => ?_)
  · have qe : G 3 + 1 = zln G := by rw [← h1, ← h0, q]
    have eE : zEnd G = zset (zset (zset G 3 (G 3 + 1)) 3 0) 101 (G 101 + 1) := if_pos qe
    rw [eE]
    refine zok_ck rfl ?_
    refine zok_bs (I := zIM (zset (zset G 3 (G 3 + 1)) 3 0)) (zIM.wg (v := 0) 3 hσ (by decide) (by decide) (zr_c (lo := 0) (hi := 0) (by decide)) (by decide +kernel)) (fun σ2 e5 i4 => ?_)
    refine zok_pi (s_X12_reg i4.P (zr_w (zr_c (lo := 9) (hi := 9) (by decide)) (by decide))) (fun v4 h6 => ?_)
    refine zok_ck rfl ?_
    refine zok_bs (I := zIM (zset (zset G 3 (G 3 + 1)) 3 0)) (i4.wi 65 65 (by decide) h6 (by decide +kernel)) (fun σ5 e8 i7 => ?_)
    refine zok_ck rfl (zok_ck rfl ?_)
    have e : (zgl σ5 4 (2 : Int32).toNatClampNeg).toInt = G 101 := by
      rw [i7.atl 1 (by decide), zset_ne (by decide), zset_ne (by decide)]
    have c1 : (1 : Int64).toInt = 1 := rfl
    obtain ⟨_, g1, g2⟩ := g3
    have t : (zgl σ5 4 (2 : Int32).toNatClampNeg + 1).toInt = G 101 + 1 := by
      rw [z_tladd (a := 0) (b := 1125899906842624) (x := zgl σ5 4 (2 : Int32).toNatClampNeg) (y := 1) ⟨by omega, by omega⟩ (zrl_c (lo := 1) (hi := 1) (x := 1) (by decide)) (by decide), e, c1]
    refine zok_bs (I := zIM (zset (zset (zset G 3 (G 3 + 1)) 3 0) 101 (G 101 + 1))) (by rw [← t]; exact i7.wgl 1 (by decide)) (fun σ6 e10 i9 => ?_)
    refine zok_bu (s_X12_planned i9) (fun σ7 i11 => ?_)
    exact s_X12_ends_169 i11 h_x1
  · have eE : zEnd G = zset G 3 (G 3 + 1) := if_neg (fun r => q (Int32.toInt_inj.mp (by rw [h1, h0, r])))
    rw [eE]
    exact s_X12_ends_169 hσ h_x1
theorem s_X12_ends_96 {G : Nat → Int} {σ : zSt} (hσ : zIM G σ) {x1 : Int32} (h_x1 : zr (192) (240) x1) (g3 : zEh G) : zok (fX12_ends_96 σ x1) (zIM (zEnd G)) := by
  unfold fX12_ends_96
  refine zok_ck rfl (zok_ck rfl ?_)
  have e : (zgi σ 3 (66 : Int32).toNatClampNeg).toInt = G 3 := hσ.at 3 (by decide)
  have c1 : (1 : Int32).toInt = 1 := rfl
  have lb := zln_b G
  have g := g3.1
  have hl : zr 0 312 (zgi σ 3 (66 : Int32).toNatClampNeg) := ⟨by omega, by omega⟩
  have a1 : zr 1 1 (1 : Int32) := zr_c (by decide)
  have t : (zgi σ 3 (66 : Int32).toNatClampNeg + 1).toInt = G 3 + 1 := by rw [z_tadd hl a1 (by decide), e, c1]
  refine zok_bs (I := zIM (zset G 3 (G 3 + 1))) (by rw [← t]; exact hσ.wg 3 (by decide) (by decide) (zr_add (lo := 1) (hi := 313) hl a1 (by decide)) (by decide +kernel)) (fun σ8 e8 i8 => ?_)
  refine zok_ck rfl ?_
  have k1 : (zgi σ8 0 3).toInt = G 1 := by rw [i8.at 1 (by decide), zset_ne (by decide)]
  have l1 : (zgi σ8 3 (66 : Int32).toNatClampNeg).toInt = G 3 + 1 := by rw [i8.at 3 (by decide), zset_eq]
  refine zok_if (fun q => ?_) (fun q => ?_)
  · have q1 : G 1 = 1 := by rw [← k1, q]; rfl
    exact s_ends_131 i8 h_x1 l1 (by unfold zln; rw [if_pos q1]; rfl) g3
  · have q1 : ¬ G 1 = 1 := fun r => q (Int32.toInt_inj.mp (by rw [k1, r]; rfl))
    exact s_ends_131 i8 h_x1 l1 (by unfold zln; rw [if_neg q1]; rfl) g3
theorem s_X12_ends_27 {G : Nat → Int} {σ : zSt} (hσ : zIM G σ) {x1 : Int32} (h_x1 : zr (192) (240) x1) (g3 : zEh G) : zok (fX12_ends_27 σ x1) (zIM (zEnd G)) := by
  unfold fX12_ends_27
  refine zok_ck rfl ?_
  refine zok_if (fun q1 => ?_) (fun q1 => ?_)
  · have h2 := zc_ltr (193) q1 h_x1 (rM_29 hσ.sg _ (by decide)) (by decide)
    refine zok_pi (s_X12_reg hσ.P (zr_w (zr_c (lo := 10) (hi := 10) (by decide)) (by decide))) (fun v10 h3 => ?_)
    refine zok_ck rfl ?_
    refine zok_bs (hσ.wi 64 64 (by decide) h3 (by decide +kernel)) (fun σ11 e5 i4 => ?_)
    exact (s_X12_ends_96 i4 h_x1 g3)
  have h6 := zc_lel (240) (z_nlt q1) (rM_29 hσ.sg _ (by decide)) h_x1 (by decide)
  refine zok_ck rfl ?_
  refine zok_ck rfl ?_
  refine zok_bs (hσ.wi 64 64 (by decide) zr_any (by decide +kernel)) (fun σ12 e8 i7 => ?_)
  refine zok_ck rfl ?_
  refine zok_if (fun q9 => ?_) (fun q9 => ?_)
  · have h10 := zc_ler (0) q9 (zr_c (lo := 0) (hi := 0) (by decide)) zr_any (by decide)
    exact (s_X12_ends_96 i7 h_x1 g3)
  have h11 := zc_ltl (-1) (z_nle q9) zr_any (zr_c (lo := 0) (hi := 0) (by decide)) (by decide)
  refine zok_pi (s_X12_reg i7.P (zr_w (zr_c (lo := 10) (hi := 10) (by decide)) (by decide))) (fun v14 h12 => ?_)
  refine zok_ck rfl ?_
  refine zok_bs (i7.wi 64 64 (by decide) h12 (by decide +kernel)) (fun σ15 e14 i13 => ?_)
  refine zok_ck rfl ?_
  refine zok_bs (i13.wi 63 63 (by decide) (zr_c (lo := 1) (hi := 1) (by decide)) (by decide +kernel)) (fun σ16 e16 i15 => ?_)
  exact (s_X12_ends_96 i15 h_x1 g3)
theorem s_X12_ends {G : Nat → Int} {σ : zSt} (hσ : zIM G σ) (g3 : zEh G) : zok (fX12_ends σ ) (zIM (zEnd G)) := by
  unfold fX12_ends
  refine zok_pi (s_X12_height hσ.P) (fun v18 h1 => ?_)
  refine zok_ck rfl ?_
  refine zok_if (fun q2 => ?_) (fun q2 => ?_)
  · have h3 := zc_ler (192) q2 h1 (rM_29 hσ.sg _ (by decide)) (by decide)
    exact (s_X12_ends_27 hσ h1 g3)
  have h4 := zc_ltl (239) (z_nle q2) (rM_29 hσ.sg _ (by decide)) h1 (by decide)
  refine zok_ck rfl ?_
  refine zok_bu (s_X12_draws hσ h4) (fun σ19 i5 => ?_)
  exact (s_X12_ends_27 i5 h1 g3)
theorem s_X12_loudness {σ : zSt} (hσ : zPM σ) {x0 : Int32} (h_x0 : zr (0) (15) x0) : zok (fX12_loudness σ x0) (zPi σ (fun v : Int32 => zr (0) (8191) v)) := by
  unfold fX12_loudness
  refine zok_if (fun q1 => ?_) (fun q1 => ?_)
  · have h2 := zc_eql (0) (0) q1 h_x0 (zr_c (lo := 0) (hi := 0) (by decide)) (by decide)
    exact zok_spi (zr_w (zr_c (lo := 8191) (hi := 8191) (by decide)) (by decide))
  have h3 := zc_nel (1) (15) q1 h_x0 (zr_c (lo := 0) (hi := 0) (by decide)) (by decide)
  refine zok_if (fun q4 => ?_) (fun q4 => ?_)
  · have h5 := zc_eql (1) (1) q4 h3 (zr_c (lo := 1) (hi := 1) (by decide)) (by decide)
    exact zok_spi (zr_w (zr_c (lo := 6506) (hi := 6506) (by decide)) (by decide))
  have h6 := zc_nel (2) (15) q4 h3 (zr_c (lo := 1) (hi := 1) (by decide)) (by decide)
  refine zok_if (fun q7 => ?_) (fun q7 => ?_)
  · have h8 := zc_eql (2) (2) q7 h6 (zr_c (lo := 2) (hi := 2) (by decide)) (by decide)
    exact zok_spi (zr_w (zr_c (lo := 5168) (hi := 5168) (by decide)) (by decide))
  have h9 := zc_nel (3) (15) q7 h6 (zr_c (lo := 2) (hi := 2) (by decide)) (by decide)
  refine zok_if (fun q10 => ?_) (fun q10 => ?_)
  · have h11 := zc_eql (3) (3) q10 h9 (zr_c (lo := 3) (hi := 3) (by decide)) (by decide)
    exact zok_spi (zr_w (zr_c (lo := 4105) (hi := 4105) (by decide)) (by decide))
  have h12 := zc_nel (4) (15) q10 h9 (zr_c (lo := 3) (hi := 3) (by decide)) (by decide)
  refine zok_if (fun q13 => ?_) (fun q13 => ?_)
  · have h14 := zc_eql (4) (4) q13 h12 (zr_c (lo := 4) (hi := 4) (by decide)) (by decide)
    exact zok_spi (zr_w (zr_c (lo := 3261) (hi := 3261) (by decide)) (by decide))
  have h15 := zc_nel (5) (15) q13 h12 (zr_c (lo := 4) (hi := 4) (by decide)) (by decide)
  refine zok_if (fun q16 => ?_) (fun q16 => ?_)
  · have h17 := zc_eql (5) (5) q16 h15 (zr_c (lo := 5) (hi := 5) (by decide)) (by decide)
    exact zok_spi (zr_w (zr_c (lo := 2590) (hi := 2590) (by decide)) (by decide))
  have h18 := zc_nel (6) (15) q16 h15 (zr_c (lo := 5) (hi := 5) (by decide)) (by decide)
  refine zok_if (fun q19 => ?_) (fun q19 => ?_)
  · have h20 := zc_eql (6) (6) q19 h18 (zr_c (lo := 6) (hi := 6) (by decide)) (by decide)
    exact zok_spi (zr_w (zr_c (lo := 2057) (hi := 2057) (by decide)) (by decide))
  have h21 := zc_nel (7) (15) q19 h18 (zr_c (lo := 6) (hi := 6) (by decide)) (by decide)
  refine zok_if (fun q22 => ?_) (fun q22 => ?_)
  · have h23 := zc_eql (7) (7) q22 h21 (zr_c (lo := 7) (hi := 7) (by decide)) (by decide)
    exact zok_spi (zr_w (zr_c (lo := 1634) (hi := 1634) (by decide)) (by decide))
  have h24 := zc_nel (8) (15) q22 h21 (zr_c (lo := 7) (hi := 7) (by decide)) (by decide)
  refine zok_if (fun q25 => ?_) (fun q25 => ?_)
  · have h26 := zc_eql (8) (8) q25 h24 (zr_c (lo := 8) (hi := 8) (by decide)) (by decide)
    exact zok_spi (zr_w (zr_c (lo := 1298) (hi := 1298) (by decide)) (by decide))
  have h27 := zc_nel (9) (15) q25 h24 (zr_c (lo := 8) (hi := 8) (by decide)) (by decide)
  refine zok_if (fun q28 => ?_) (fun q28 => ?_)
  · have h29 := zc_eql (9) (9) q28 h27 (zr_c (lo := 9) (hi := 9) (by decide)) (by decide)
    exact zok_spi (zr_w (zr_c (lo := 1031) (hi := 1031) (by decide)) (by decide))
  have h30 := zc_nel (10) (15) q28 h27 (zr_c (lo := 9) (hi := 9) (by decide)) (by decide)
  refine zok_if (fun q31 => ?_) (fun q31 => ?_)
  · have h32 := zc_eql (10) (10) q31 h30 (zr_c (lo := 10) (hi := 10) (by decide)) (by decide)
    exact zok_spi (zr_w (zr_c (lo := 819) (hi := 819) (by decide)) (by decide))
  have h33 := zc_nel (11) (15) q31 h30 (zr_c (lo := 10) (hi := 10) (by decide)) (by decide)
  refine zok_if (fun q34 => ?_) (fun q34 => ?_)
  · have h35 := zc_eql (11) (11) q34 h33 (zr_c (lo := 11) (hi := 11) (by decide)) (by decide)
    exact zok_spi (zr_w (zr_c (lo := 650) (hi := 650) (by decide)) (by decide))
  have h36 := zc_nel (12) (15) q34 h33 (zr_c (lo := 11) (hi := 11) (by decide)) (by decide)
  refine zok_if (fun q37 => ?_) (fun q37 => ?_)
  · have h38 := zc_eql (12) (12) q37 h36 (zr_c (lo := 12) (hi := 12) (by decide)) (by decide)
    exact zok_spi (zr_w (zr_c (lo := 517) (hi := 517) (by decide)) (by decide))
  have h39 := zc_nel (13) (15) q37 h36 (zr_c (lo := 12) (hi := 12) (by decide)) (by decide)
  refine zok_if (fun q40 => ?_) (fun q40 => ?_)
  · have h41 := zc_eql (13) (13) q40 h39 (zr_c (lo := 13) (hi := 13) (by decide)) (by decide)
    exact zok_spi (zr_w (zr_c (lo := 410) (hi := 410) (by decide)) (by decide))
  have h42 := zc_nel (14) (15) q40 h39 (zr_c (lo := 13) (hi := 13) (by decide)) (by decide)
  refine zok_if (fun q43 => ?_) (fun q43 => ?_)
  · have h44 := zc_eql (14) (14) q43 h42 (zr_c (lo := 14) (hi := 14) (by decide)) (by decide)
    exact zok_spi (zr_w (zr_c (lo := 326) (hi := 326) (by decide)) (by decide))
  have h45 := zc_nel (15) (15) q43 h42 (zr_c (lo := 14) (hi := 14) (by decide)) (by decide)
  exact zok_spi (zr_w (zr_c (lo := 0) (hi := 0) (by decide)) (by decide))
theorem s_X12_sample_102 {G : Nat → Int} {σ : zSt} {k2 : zSt → Int32 → Option (zSt)} {Mk2 : Int} (hk2 : ∀ (σ : zSt) (x1 : Int32), zIM G σ → zr (0) (3) x1 → (3) - x1.toInt < Mk2 → zok (k2 σ x1) (zIM (zset G 5 (G 5 + 1)))) (hσ : zIM G σ) {x1 : Int32} (h_x1 : zr (0) (2) x1) (g5 : 0 ≤ G 5 ∧ G 5 ≤ 536870912) (hMk2 : (3) - x1.toInt ≤ Mk2) : zok (fX12_sample_102 k2 σ x1) (zIM (zset G 5 (G 5 + 1))) := by
  unfold fX12_sample_102
  refine zok_br (zr_add (lo := 1) (hi := 3) h_x1 (zr_c (lo := 1) (hi := 1) (by decide)) (by decide)) (fun v1 e2 h1 => ?_)
  exact hk2 _ _ hσ (zr_w h1 (by decide)) (by rw [e2]; have := z_tadd (y := (1 : Int32)) h_x1 (zr_c (lo := 1) (hi := 1) (by decide)) (by decide); have e9 : (1 : Int32).toInt = 1 := rfl; omega) 
theorem s_X12_sample_101 {G : Nat → Int} {σ : zSt} {k2 : zSt → Int32 → Option (zSt)} {Mk2 : Int} (hk2 : ∀ (σ : zSt) (x1 : Int32), zIM G σ → zr (0) (3) x1 → (3) - x1.toInt < Mk2 → zok (k2 σ x1) (zIM (zset G 5 (G 5 + 1)))) (hσ : zIM G σ) {x1 : Int32} (h_x1 : zr (0) (2) x1) {s0 : Int32} {s1 : Int32} (h_s1 : zr (75) (77) s1) (g5 : 0 ≤ G 5 ∧ G 5 ≤ 536870912) (hMk2 : (3) - x1.toInt ≤ Mk2) : zok (fX12_sample_101 k2 σ x1 s0 s1) (zIM (zset G 5 (G 5 + 1))) := by
  unfold fX12_sample_101
  refine zok_ck (zin_ok h_s1 (by decide)) ?_
  refine zok_bs (hσ.wi 75 77 (z_ix h_s1 (by decide)) zr_any (by decide +kernel)) (fun σ2 e2 i1 => ?_)
  exact (s_X12_sample_102 hk2 i1 h_x1 g5 hMk2)
theorem s_X12_sample_32 {G : Nat → Int} {σ : zSt} {k2 : zSt → Int32 → Option (zSt)} {Mk2 : Int} (hk2 : ∀ (σ : zSt) (x1 : Int32), zIM G σ → zr (0) (3) x1 → (3) - x1.toInt < Mk2 → zok (k2 σ x1) (zIM (zset G 5 (G 5 + 1)))) (hσ : zIM G σ) {x1 : Int32} (h_x1 : zr (0) (2) x1) (g5 : 0 ≤ G 5 ∧ G 5 ≤ 536870912) (hMk2 : (3) - x1.toInt ≤ Mk2) : zok (fX12_sample_32 k2 σ x1) (zIM (zset G 5 (G 5 + 1))) := by
  unfold fX12_sample_32
  refine zok_ck (zin_ok (zr_add (lo := 72) (hi := 74) (zr_c (lo := 72) (hi := 72) (by decide)) h_x1 (by decide)) (by decide)) ?_
  refine zok_if (fun q1 => ?_) (fun q1 => ?_)
  · have h2 := zc_lel (0) q1 zr_any (zr_c (lo := 0) (hi := 0) (by decide)) (by decide)
    refine zok_ck (zin_ok (zr_add (lo := 69) (hi := 71) (zr_c (lo := 69) (hi := 69) (by decide)) h_x1 (by decide)) (by decide)) ?_
    refine zok_ck (zin_ok (zr_add (lo := 72) (hi := 74) (zr_c (lo := 72) (hi := 72) (by decide)) h_x1 (by decide)) (by decide)) ?_
    refine zok_bs (hσ.wi 72 74 (z_ix (zr_add (lo := 72) (hi := 74) (zr_c (lo := 72) (hi := 72) (by decide)) h_x1 (by decide)) (by decide)) (rM_32 hσ.sg _ (z_ix (zr_add (lo := 69) (hi := 71) (zr_c (lo := 69) (hi := 69) (by decide)) h_x1 (by decide)) (by decide))) (by decide +kernel)) (fun σ3 e4 i3 => ?_)
    refine zok_ck (zin_ok (zr_add (lo := 69) (hi := 71) (zr_c (lo := 69) (hi := 69) (by decide)) h_x1 (by decide)) (by decide)) ?_
    refine zok_if (fun q5 => ?_) (fun q5 => ?_)
    · have h6 := zc_ler (2) q5 (zr_c (lo := 2) (hi := 2) (by decide)) (rM_32 i3.sg _ (z_ix (zr_add (lo := 69) (hi := 71) (zr_c (lo := 69) (hi := 69) (by decide)) h_x1 (by decide)) (by decide))) (by decide)
      refine zok_ck (zin_ok (zr_add (lo := 75) (hi := 77) (zr_c (lo := 75) (hi := 75) (by decide)) h_x1 (by decide)) (by decide)) ?_
      exact (s_X12_sample_101 hk2 i3 h_x1 (zr_add (lo := 75) (hi := 77) (zr_c (lo := 75) (hi := 75) (by decide)) h_x1 (by decide)) g5 hMk2)
    have h7 := zc_ltl (1) (z_nle q5) (rM_32 i3.sg _ (z_ix (zr_add (lo := 69) (hi := 71) (zr_c (lo := 69) (hi := 69) (by decide)) h_x1 (by decide)) (by decide))) (zr_c (lo := 2) (hi := 2) (by decide)) (by decide)
    exact (s_X12_sample_101 hk2 i3 h_x1 (zr_add (lo := 75) (hi := 77) (zr_c (lo := 75) (hi := 75) (by decide)) h_x1 (by decide)) g5 hMk2)
  have h8 := zc_ltr (1) (z_nle q1) (zr_c (lo := 0) (hi := 0) (by decide)) zr_any (by decide)
  exact (s_X12_sample_102 hk2 hσ h_x1 g5 hMk2)
theorem s_X12_sample_407 {G : Nat → Int} {σ : zSt} {k275 : zSt → Int64 → Int64 → Int32 → Option (zSt)} {Mk275 : Int} (hk275 : ∀ (σ : zSt) (x1 : Int64) (x3 : Int64) (x5 : Int32), zIM G σ → zr (0) (4) x5 → (4) - x5.toInt < Mk275 → zok (k275 σ x1 x3 x5) (zIM (zset G 5 (G 5 + 1)))) (hσ : zIM G σ) {x1 : Int64} {x3 : Int64} {x5 : Int32} (h_x5 : zr (0) (3) x5) (g5 : 0 ≤ G 5 ∧ G 5 ≤ 536870912) (hMk275 : (4) - x5.toInt ≤ Mk275) : zok (fX12_sample_407 k275 σ x1 x3 x5) (zIM (zset G 5 (G 5 + 1))) := by
  unfold fX12_sample_407
  refine zok_br (zr_add (lo := 1) (hi := 4) h_x5 (zr_c (lo := 1) (hi := 1) (by decide)) (by decide)) (fun v4 e2 h1 => ?_)
  exact hk275 _ _ _ _ hσ (zr_w h1 (by decide)) (by rw [e2]; have := z_tadd (y := (1 : Int32)) h_x5 (zr_c (lo := 1) (hi := 1) (by decide)) (by decide); have e9 : (1 : Int32).toInt = 1 := rfl; omega) 
end ZJN2
section ZJN3
theorem s_X12_sample_369 {G : Nat → Int} {σ : zSt} {k275 : zSt → Int64 → Int64 → Int32 → Option (zSt)} {Mk275 : Int} (hk275 : ∀ (σ : zSt) (x1 : Int64) (x3 : Int64) (x5 : Int32), zIM G σ → zr (0) (4) x5 → (4) - x5.toInt < Mk275 → zok (k275 σ x1 x3 x5) (zIM (zset G 5 (G 5 + 1)))) (hσ : zIM G σ) {x1 : Int64} {x3 : Int64} {x5 : Int32} (h_x5 : zr (0) (3) x5) {x6 : Int32} (h_x6 : zr (0) (1) x6) (g5 : 0 ≤ G 5 ∧ G 5 ≤ 536870912) (hMk275 : (4) - x5.toInt ≤ Mk275) : zok (fX12_sample_369 k275 σ x1 x3 x5 x6) (zIM (zset G 5 (G 5 + 1))) := by
  unfold fX12_sample_369
  refine zok_if (fun q1 => ?_) (fun q1 => ?_)
  · have h2 := zc_eql (0) (0) q1 h_x6 (zr_c (lo := 0) (hi := 0) (by decide)) (by decide)
    exact (s_X12_sample_407 hk275 hσ h_x5 g5 hMk275)
  have h3 := zc_nel (1) (1) q1 h_x6 (zr_c (lo := 0) (hi := 0) (by decide)) (by decide)
  refine zok_ck rfl ?_
  refine zok_if (fun q4 => ?_) (fun q4 => ?_)
  · have h5 := zc_eql (1) (1) q4 (zr_andr (lo := 0) (hi := 1) (zr_c (lo := 1) (hi := 1) (by decide)) (by decide)) (zr_c (lo := 1) (hi := 1) (by decide)) (by decide)
    refine zok_ck (zin_ok (zr_add (lo := 78) (hi := 81) (zr_c (lo := 78) (hi := 78) (by decide)) h_x5 (by decide)) (by decide)) ?_
    refine zok_pi (s_X12_loudness hσ.P (rM_33 hσ.sg _ (z_ix (zr_add (lo := 78) (hi := 81) (zr_c (lo := 78) (hi := 78) (by decide)) h_x5 (by decide)) (by decide)))) (fun v6 h6 => ?_)
    refine zok_bv (fun v7 e8 => ?_)
    exact (s_X12_sample_407 hk275 hσ h_x5 g5 hMk275)
  have h9 := zc_nel (0) (0) q4 (zr_andr (lo := 0) (hi := 1) (zr_c (lo := 1) (hi := 1) (by decide)) (by decide)) (zr_c (lo := 1) (hi := 1) (by decide)) (by decide)
  exact (s_X12_sample_407 hk275 hσ h_x5 g5 hMk275)
theorem s_X12_sample_327 {G : Nat → Int} {σ : zSt} {k275 : zSt → Int64 → Int64 → Int32 → Option (zSt)} {Mk275 : Int} (hk275 : ∀ (σ : zSt) (x1 : Int64) (x3 : Int64) (x5 : Int32), zIM G σ → zr (0) (4) x5 → (4) - x5.toInt < Mk275 → zok (k275 σ x1 x3 x5) (zIM (zset G 5 (G 5 + 1)))) (hσ : zIM G σ) {x1 : Int64} {x3 : Int64} {x5 : Int32} (h_x5 : zr (0) (3) x5) {s0 : Int32} (h_s0 : zr (0) (1) s0) (g5 : 0 ≤ G 5 ∧ G 5 ≤ 536870912) (hMk275 : (4) - x5.toInt ≤ Mk275) : zok (fX12_sample_327 k275 σ x1 x3 x5 s0) (zIM (zset G 5 (G 5 + 1))) := by
  unfold fX12_sample_327
  refine zok_if (fun q1 => ?_) (fun q1 => ?_)
  · have h2 := zc_eql (0) (0) q1 h_s0 (zr_c (lo := 0) (hi := 0) (by decide)) (by decide)
    exact (s_X12_sample_369 hk275 hσ h_x5 (zr_w h2 (by decide)) g5 hMk275)
  have h3 := zc_nel (1) (1) q1 h_s0 (zr_c (lo := 0) (hi := 0) (by decide)) (by decide)
  refine zok_ck rfl ?_
  refine zok_if (fun q4 => ?_) (fun q4 => ?_)
  · have h5 := zc_eql (1) (1) q4 (zr_andr (lo := 0) (hi := 1) (zr_c (lo := 1) (hi := 1) (by decide)) (by decide)) (zr_c (lo := 1) (hi := 1) (by decide)) (by decide)
    refine zok_ck (zin_ok (zr_add (lo := 78) (hi := 81) (zr_c (lo := 78) (hi := 78) (by decide)) h_x5 (by decide)) (by decide)) ?_
    refine zok_pi (s_X12_loudness hσ.P (rM_33 hσ.sg _ (z_ix (zr_add (lo := 78) (hi := 81) (zr_c (lo := 78) (hi := 78) (by decide)) h_x5 (by decide)) (by decide)))) (fun v9 h6 => ?_)
    refine zok_bv (fun v10 e8 => ?_)
    exact (s_X12_sample_369 hk275 hσ h_x5 (zr_w h3 (by decide)) g5 hMk275)
  have h9 := zc_nel (0) (0) q4 (zr_andr (lo := 0) (hi := 1) (zr_c (lo := 1) (hi := 1) (by decide)) (by decide)) (zr_c (lo := 1) (hi := 1) (by decide)) (by decide)
  exact (s_X12_sample_369 hk275 hσ h_x5 (zr_w h3 (by decide)) g5 hMk275)
theorem s_X12_sample_508 {G : Nat → Int} {σ : zSt} (hσ : zIM G σ) {x1 : Int64} {x3 : Int64} (c_3_87 : zr (1) (4096) (zgi σ 3 87)) : zok (fX12_sample_508 σ x1 x3) (zIM G) := by
  unfold fX12_sample_508
  refine zok_ck rfl ?_
  refine zok_ck rfl ?_
  refine zok_ck (by decide) ?_
  refine zok_ck (zin_ok (zr_rem (lo := 0) (hi := 4095) 4096 (by decide) (zr_sub (lo := 0) (hi := 8190) (zr_add (lo := 1) (hi := 8191) (rM_38 hσ.sg _ (by decide)) c_3_87 (by decide)) (zr_c (lo := 1) (hi := 1) (by decide)) (by decide)) (by decide)) (by decide)) ?_
  refine zok_bs (hσ.wl 0 4095 (z_ix (zr_rem (lo := 0) (hi := 4095) 4096 (by decide) (zr_sub (lo := 0) (hi := 8190) (zr_add (lo := 1) (hi := 8191) (rM_38 hσ.sg _ (by decide)) c_3_87 (by decide)) (zr_c (lo := 1) (hi := 1) (by decide)) (by decide)) (by decide)) (by decide)) (by decide)) (fun σ11 e2 i1 => ?_)
  exact zok_some i1
theorem s_X12_sample_275_body {G : Nat → Int} {σ : zSt} {k275 : zSt → Int64 → Int64 → Int32 → Option (zSt)} {Mk275 : Int} (hk275 : ∀ (σ : zSt) (x1 : Int64) (x3 : Int64) (x5 : Int32), zIM G σ → zr (0) (4) x5 → (4) - x5.toInt < Mk275 → zok (k275 σ x1 x3 x5) (zIM (zset G 5 (G 5 + 1)))) (hσ : zIM G σ) {x1 : Int64} {x3 : Int64} {x5 : Int32} (h_x5 : zr (0) (4) x5) (g5 : 0 ≤ G 5 ∧ G 5 ≤ 536870912) (hMk275 : (4) - x5.toInt ≤ Mk275) : zok (fX12_sample_275_body k275 σ x1 x3 x5) (zIM (zset G 5 (G 5 + 1))) := by
  unfold fX12_sample_275_body
  refine zok_if (fun q1 => ?_) (fun q1 => ?_)
  · have h2 := zc_ler (4) q1 (zr_c (lo := 4) (hi := 4) (by decide)) h_x5 (by decide)
    refine zok_ck rfl ?_
    refine zok_ck rfl ?_
    refine zok_bs (hσ.wl 3 3 (by decide) (by decide)) (fun σ12 e4 i3 => ?_)
    refine zok_ck rfl ?_
    refine zok_ck rfl ?_
    refine zok_bs (i3.wi 166 166 (by decide) zr_any (by decide +kernel)) (fun σ13 e6 i5 => ?_)
    refine zok_ck rfl ?_
    refine zok_ck rfl ?_
    refine zok_bs (i5.wi 167 167 (by decide) zr_any (by decide +kernel)) (fun σ14 e8 i7 => ?_)
    refine zok_ck rfl ?_
    refine zok_ck rfl ?_
    refine zok_bs (I := zIM (zset G 5 (G 5 + 1))) (z_s168 i7 g5) (fun σ15 e10 i9 => ?_)
    refine zok_ck rfl ?_
    refine zok_if (fun q11 => ?_) (fun q11 => ?_)
    · have h12 := zc_eql (4096) (4096) q11 (rM_37 i9.sg _ (by decide)) (zr_c (lo := 4096) (hi := 4096) (by decide)) (by decide)
      refine zok_ck rfl ?_
      refine zok_ck (by decide) ?_
      refine zok_ck rfl ?_
      refine zok_bs (i9.wi 88 88 (by decide) (zr_rem (lo := 0) (hi := 4095) 4096 (by decide) (zr_add (lo := 1) (hi := 4096) (rM_38 i9.sg _ (by decide)) (zr_c (lo := 1) (hi := 1) (by decide)) (by decide)) (by decide)) (by decide +kernel)) (fun σ17 e14 i13 => ?_)
      exact (s_X12_sample_508 i13 (zr_w (z_trj e14 (by decide) h12) (by decide)))
    have h15 := zc_nel (0) (4095) q11 (rM_37 i9.sg _ (by decide)) (zr_c (lo := 4096) (hi := 4096) (by decide)) (by decide)
    refine zok_ck rfl ?_
    refine zok_ck rfl ?_
    refine zok_bs (i9.wi 87 87 (by decide) (zr_add (lo := 1) (hi := 4096) h15 (zr_c (lo := 1) (hi := 1) (by decide)) (by decide)) (by decide +kernel)) (fun σ16 e17 i16 => ?_)
    exact (s_X12_sample_508 i16 (z_own e17 (zr_add (lo := 1) (hi := 4096) h15 (zr_c (lo := 1) (hi := 1) (by decide)) (by decide))))
  have h18 := zc_ltl (3) (z_nle q1) h_x5 (zr_c (lo := 4) (hi := 4) (by decide)) (by decide)
  refine zok_if (fun q19 => ?_) (fun q19 => ?_)
  · have h20 := zc_ler (3) q19 (zr_c (lo := 3) (hi := 3) (by decide)) h18 (by decide)
    refine zok_ck rfl ?_
    refine zok_if (fun q21 => ?_) (fun q21 => ?_)
    · have h22 := zc_eql (1) (1) q21 (zr_andr (lo := 0) (hi := 1) (zr_c (lo := 1) (hi := 1) (by decide)) (by decide)) (zr_c (lo := 1) (hi := 1) (by decide)) (by decide)
      exact (s_X12_sample_327 hk275 hσ (zr_w h20 (by decide)) (zr_w (zr_c (lo := 1) (hi := 1) (by decide)) (by decide)) g5 hMk275)
    have h23 := zc_nel (0) (0) q21 (zr_andr (lo := 0) (hi := 1) (zr_c (lo := 1) (hi := 1) (by decide)) (by decide)) (zr_c (lo := 1) (hi := 1) (by decide)) (by decide)
    exact (s_X12_sample_327 hk275 hσ (zr_w h20 (by decide)) (zr_w (zr_c (lo := 0) (hi := 0) (by decide)) (by decide)) g5 hMk275)
  have h24 := zc_ltl (2) (z_nle q19) h18 (zr_c (lo := 3) (hi := 3) (by decide)) (by decide)
  refine zok_ck (zin_ok (zr_add (lo := 75) (hi := 77) (zr_c (lo := 75) (hi := 75) (by decide)) h24 (by decide)) (by decide)) ?_
  refine zok_if (fun q25 => ?_) (fun q25 => ?_)
  · have h26 := zc_eql (1) (1) q25 zr_any (zr_c (lo := 1) (hi := 1) (by decide)) (by decide)
    exact (s_X12_sample_327 hk275 hσ (zr_w h24 (by decide)) (zr_w (zr_c (lo := 1) (hi := 1) (by decide)) (by decide)) g5 hMk275)
  exact (s_X12_sample_327 hk275 hσ (zr_w h24 (by decide)) (zr_w (zr_c (lo := 0) (hi := 0) (by decide)) (by decide)) g5 hMk275)
theorem s_X12_sample_275 {G : Nat → Int} (g5 : 0 ≤ G 5 ∧ G 5 ≤ 536870912) : ∀ (n : Nat) {σ : zSt} (hσ : zIM G σ) {x1 : Int64} {x3 : Int64} {x5 : Int32} (h_x5 : zr (0) (4) x5) (hm : (4) - x5.toInt < n), zok (fX12_sample_275 n σ x1 x3 x5) (zIM (zset G 5 (G 5 + 1))) := by
  intro n
  induction n with
  | zero => intro σ hσ x1 x3 x5 h_x5 hm ; have h9 := h_x5.1; have h8 := h_x5.2; exfalso; omega
  | succ n ih => intro σ hσ x1 x3 x5 h_x5 hm ; exact s_X12_sample_275_body (fun σ x1 x3 x5 hσ h_x5 hm1 => ih hσ h_x5 (by omega)) hσ h_x5 g5 (Int.le_refl _)
theorem s_X12_sample_268 {G : Nat → Int} {σ : zSt} (hσ : zIM G σ) (g5 : 0 ≤ G 5 ∧ G 5 ≤ 536870912) : zok (fX12_sample_268 σ ) (zIM (zset G 5 (G 5 + 1))) := by
  unfold fX12_sample_268
  exact (s_X12_sample_275 g5 zfuel hσ (zr_w (zr_c (lo := 0) (hi := 0) (by decide)) (by decide)) (by decide))
theorem s_X12_sample_246 {G : Nat → Int} {σ : zSt} (hσ : zIM G σ) {s0 : Int32} (h_s0 : zr (0) (1) s0) (g5 : 0 ≤ G 5 ∧ G 5 ≤ 536870912) : zok (fX12_sample_246 σ s0) (zIM (zset G 5 (G 5 + 1))) := by
  unfold fX12_sample_246
  refine zok_ck rfl ?_
  refine zok_ck rfl ?_
  refine zok_bs (hσ.wi 85 85 (by decide) (zr_or (lo := 0) (hi := 65535) 16 (zr_shr (lo := 0) (hi := 32767) 1 (by decide) (rM_35 hσ.sg _ (by decide)) (by decide)) (zr_shl (lo := 0) (hi := 32768) 15 (by decide) h_s0 (by decide)) (by decide)) (by decide +kernel)) (fun σ18 e2 i1 => ?_)
  exact (s_X12_sample_268 i1 g5)
theorem s_X12_sample_174 {G : Nat → Int} {σ : zSt} (hσ : zIM G σ) {s0 : Int32} (h_s0 : zr (0) (1023) s0) {s1 : Int32} (h_s1 : zr (83) (83) s1) (g5 : 0 ≤ G 5 ∧ G 5 ≤ 536870912) : zok (fX12_sample_174 σ s0 s1) (zIM (zset G 5 (G 5 + 1))) := by
  unfold fX12_sample_174
  refine zok_ck (zin_ok h_s1 (by decide)) ?_
  refine zok_bs (hσ.wi 83 83 (z_ix h_s1 (by decide)) h_s0 (by decide +kernel)) (fun σ19 e2 i1 => ?_)
  refine zok_ck rfl ?_
  refine zok_ck rfl ?_
  refine zok_bs (i1.wi 84 84 (by decide) zr_any (by decide +kernel)) (fun σ20 e4 i3 => ?_)
  refine zok_ck rfl ?_
  refine zok_if (fun q5 => ?_) (fun q5 => ?_)
  · have h6 := zc_eql (1) (1) q5 zr_any (zr_c (lo := 1) (hi := 1) (by decide)) (by decide)
    refine zok_ck rfl ?_
    refine zok_if (fun q7 => ?_) (fun q7 => ?_)
    · have h8 := zc_ler (4) q7 (zr_c (lo := 4) (hi := 4) (by decide)) (rM_34 i3.sg _ (by decide)) (by decide)
      refine zok_ck rfl ?_
      refine zok_ck rfl ?_
      exact (s_X12_sample_246 i3 (zr_xor (lo := 0) (hi := 1) 1 (zr_andr (lo := 0) (hi := 1) (zr_c (lo := 1) (hi := 1) (by decide)) (by decide)) (zr_andr (lo := 0) (hi := 1) (zr_c (lo := 1) (hi := 1) (by decide)) (by decide)) (by decide)) g5)
    have h9 := zc_ltl (3) (z_nle q7) (rM_34 i3.sg _ (by decide)) (zr_c (lo := 4) (hi := 4) (by decide)) (by decide)
    refine zok_ck rfl ?_
    exact (s_X12_sample_246 i3 (zr_andr (lo := 0) (hi := 1) (zr_c (lo := 1) (hi := 1) (by decide)) (by decide)) g5)
  exact (s_X12_sample_268 i3 g5)
theorem s_X12_sample_129 {G : Nat → Int} {σ : zSt} (hσ : zIM G σ) (g5 : 0 ≤ G 5 ∧ G 5 ≤ 536870912) : zok (fX12_sample_129 σ ) (zIM (zset G 5 (G 5 + 1))) := by
  unfold fX12_sample_129
  refine zok_ck rfl ?_
  refine zok_if (fun q1 => ?_) (fun q1 => ?_)
  · have h2 := zc_eql (0) (0) q1 zr_any (zr_c (lo := 0) (hi := 0) (by decide)) (by decide)
    refine zok_ck rfl ?_
    refine zok_ck (by decide) ?_
    refine zok_br (zr_rem (lo := 0) (hi := 3) 4 (by decide) (rM_34 hσ.sg _ (by decide)) (by decide)) (fun v21 e4 h3 => ?_)
    refine zok_if (fun q5 => ?_) (fun q5 => ?_)
    · have h6 := zc_eql (3) (3) q5 h3 (zr_c (lo := 3) (hi := 3) (by decide)) (by decide)
      refine zok_ck rfl ?_
      exact (s_X12_sample_174 hσ (rM_32 hσ.sg _ (by decide)) (zr_c (lo := 83) (hi := 83) (by decide)) g5)
    have h7 := zc_nel (0) (2) q5 h3 (zr_c (lo := 3) (hi := 3) (by decide)) (by decide)
    exact (s_X12_sample_174 hσ (zr_w (zr_shld (lo := 0) (hi := 64) (zr_c (lo := 16) (hi := 16) (by decide)) h7 (by decide)) (by decide)) (zr_c (lo := 83) (hi := 83) (by decide)) g5)
  exact (s_X12_sample_268 hσ g5)
theorem s_X12_sample_2_body {G : Nat → Int} {σ : zSt} {k2 : zSt → Int32 → Option (zSt)} {Mk2 : Int} (hk2 : ∀ (σ : zSt) (x1 : Int32), zIM G σ → zr (0) (3) x1 → (3) - x1.toInt < Mk2 → zok (k2 σ x1) (zIM (zset G 5 (G 5 + 1)))) (hσ : zIM G σ) {x1 : Int32} (h_x1 : zr (0) (3) x1) (g5 : 0 ≤ G 5 ∧ G 5 ≤ 536870912) (hMk2 : (3) - x1.toInt ≤ Mk2) : zok (fX12_sample_2_body k2 σ x1) (zIM (zset G 5 (G 5 + 1))) := by
  unfold fX12_sample_2_body
  refine zok_if (fun q1 => ?_) (fun q1 => ?_)
  · have h2 := zc_ler (3) q1 (zr_c (lo := 3) (hi := 3) (by decide)) h_x1 (by decide)
    refine zok_ck rfl ?_
    refine zok_if (fun q3 => ?_) (fun q3 => ?_)
    · have h4 := zc_lel (0) q3 zr_any (zr_c (lo := 0) (hi := 0) (by decide)) (by decide)
      exact (s_X12_sample_129 hσ g5)
    have h5 := zc_ltr (1) (z_nle q3) (zr_c (lo := 0) (hi := 0) (by decide)) zr_any (by decide)
    refine zok_ck rfl ?_
    refine zok_ck rfl ?_
    refine zok_bs (hσ.wi 83 83 (by decide) (zr_sub (lo := 0) (hi := 2147483646) h5 (zr_c (lo := 1) (hi := 1) (by decide)) (by decide)) (by decide +kernel)) (fun σ22 e7 i6 => ?_)
    exact (s_X12_sample_129 i6 g5)
  have h8 := zc_ltl (2) (z_nle q1) h_x1 (zr_c (lo := 3) (hi := 3) (by decide)) (by decide)
  refine zok_ck (zin_ok (zr_add (lo := 72) (hi := 74) (zr_c (lo := 72) (hi := 72) (by decide)) h8 (by decide)) (by decide)) ?_
  refine zok_if (fun q9 => ?_) (fun q9 => ?_)
  · have h10 := zc_lel (0) q9 zr_any (zr_c (lo := 0) (hi := 0) (by decide)) (by decide)
    exact (s_X12_sample_32 hk2 hσ h8 g5 hMk2)
  have h11 := zc_ltr (1) (z_nle q9) (zr_c (lo := 0) (hi := 0) (by decide)) zr_any (by decide)
  refine zok_br (zr_add (lo := 72) (hi := 74) (zr_c (lo := 72) (hi := 72) (by decide)) h8 (by decide)) (fun v23 e13 h12 => ?_)
  refine zok_ck (zin_ok h12 (by decide)) ?_
  refine zok_ck (zin_ok h12 (by decide)) ?_
  refine zok_bs (hσ.wi 72 74 (z_ix h12 (by decide)) zr_any (by decide +kernel)) (fun σ24 e15 i14 => ?_)
  exact (s_X12_sample_32 hk2 i14 h8 g5 hMk2)
theorem s_X12_sample_2 {G : Nat → Int} (g5 : 0 ≤ G 5 ∧ G 5 ≤ 536870912) : ∀ (n : Nat) {σ : zSt} (hσ : zIM G σ) {x1 : Int32} (h_x1 : zr (0) (3) x1) (hm : (3) - x1.toInt < n), zok (fX12_sample_2 n σ x1) (zIM (zset G 5 (G 5 + 1))) := by
  intro n
  induction n with
  | zero => intro σ hσ x1 h_x1 hm ; have h9 := h_x1.1; have h8 := h_x1.2; exfalso; omega
  | succ n ih => intro σ hσ x1 h_x1 hm ; exact s_X12_sample_2_body (fun σ x1 hσ h_x1 hm1 => ih hσ h_x1 (by omega)) hσ h_x1 g5 (Int.le_refl _)
theorem s_X12_sample {G : Nat → Int} {σ : zSt} (hσ : zIM G σ) (g5 : 0 ≤ G 5 ∧ G 5 ≤ 536870912) : zok (fX12_sample σ ) (zIM (zset G 5 (G 5 + 1))) := by
  unfold fX12_sample
  exact (s_X12_sample_2 g5 zfuel hσ (zr_w (zr_c (lo := 0) (hi := 0) (by decide)) (by decide)) (by decide))
theorem s_X12_wreg {σ : zSt} (hσ : zPM σ) {x1 : Int32} (h_x1 : zr (0) (63) x1) : zok (fX12_wreg σ x1) (zPi σ (fun v : Int32 => zr (0) (255) v)) := by
  unfold fX12_wreg
  refine zok_ck (zin_ok (zr_add (lo := 98) (hi := 161) (zr_c (lo := 98) (hi := 98) (by decide)) h_x1 (by decide)) (by decide)) ?_
  exact zok_spi (rM_40 hσ.sg _ (z_ix (zr_add (lo := 98) (hi := 161) (zr_c (lo := 98) (hi := 98) (by decide)) h_x1 (by decide)) (by decide)))
theorem s_X12_isRhythm_22 {σ : zSt} (hσ : zPM σ) {s0 : Int32} (h_s0 : zr (0) (1) s0) : zok (fX12_isRhythm_22 σ s0) (zPi σ (fun v : Int32 => zr (0) (1) v)) := by
  unfold fX12_isRhythm_22
  refine zok_ck (zbo_ok h_s0 (by decide)) ?_
  exact zok_spi h_s0
theorem s_X12_isRhythm_21 {σ : zSt} (hσ : zPM σ) : zok (fX12_isRhythm_21 σ ) (zPi σ (fun v : Int32 => zr (0) (1) v)) := by
  unfold fX12_isRhythm_21
  exact (s_X12_isRhythm_22 hσ (zr_w (zr_c (lo := 0) (hi := 0) (by decide)) (by decide)))
theorem s_X12_isRhythm {σ : zSt} (hσ : zPM σ) {x1 : Int32} (h_x1 : zr (0) (8) x1) : zok (fX12_isRhythm σ x1) (zPi σ (fun v : Int32 => zr (0) (1) v)) := by
  unfold fX12_isRhythm
  refine zok_if (fun q1 => ?_) (fun q1 => ?_)
  · have h2 := zc_lel (5) q1 h_x1 (zr_c (lo := 5) (hi := 5) (by decide)) (by decide)
    exact (s_X12_isRhythm_21 hσ)
  have h3 := zc_ltr (6) (z_nle q1) (zr_c (lo := 5) (hi := 5) (by decide)) h_x1 (by decide)
  refine zok_pi (s_X12_wreg hσ (zr_w (zr_c (lo := 14) (hi := 14) (by decide)) (by decide))) (fun v2 h4 => ?_)
  refine zok_if (fun q5 => ?_) (fun q5 => ?_)
  · have h6 := zc_eql (0) (0) q5 (zr_andr (lo := 0) (hi := 32) (zr_c (lo := 32) (hi := 32) (by decide)) (by decide)) (zr_c (lo := 0) (hi := 0) (by decide)) (by decide)
    exact (s_X12_isRhythm_21 hσ)
  have h7 := zc_nel (1) (32) q5 (zr_andr (lo := 0) (hi := 32) (zr_c (lo := 32) (hi := 32) (by decide)) (by decide)) (zr_c (lo := 0) (hi := 0) (by decide)) (by decide)
  exact (s_X12_isRhythm_22 hσ (zr_w (zr_c (lo := 1) (hi := 1) (by decide)) (by decide)))
theorem s_X12_isOn_60 {σ : zSt} (hσ : zPM σ) {x3 : Int32} (h_x3 : zr (0) (1) x3) {s0 : Int32} (h_s0 : zr (0) (4) s0) : zok (fX12_isOn_60 σ x3 s0) (zPi σ (fun v : Int32 => zr (0) (1) v)) := by
  unfold fX12_isOn_60
  refine zok_pi (s_X12_wreg hσ (zr_w (zr_c (lo := 14) (hi := 14) (by decide)) (by decide))) (fun v2 h1 => ?_)
  exact zok_spi (zr_or (lo := 0) (hi := 1) 1 h_x3 (zr_andr (lo := 0) (hi := 1) (zr_c (lo := 1) (hi := 1) (by decide)) (by decide)) (by decide))
theorem s_X12_isOn {σ : zSt} (hσ : zPM σ) {x1 : Int32} (h_x1 : zr (0) (8) x1) {x2 : Int32} (h_x2 : zr (0) (1) x2) : zok (fX12_isOn σ x1 x2) (zPi σ (fun v : Int32 => zr (0) (1) v)) := by
  unfold fX12_isOn
  refine zok_pi (s_X12_wreg hσ (zr_w (zr_add (lo := 32) (hi := 40) (zr_c (lo := 32) (hi := 32) (by decide)) h_x1 (by decide)) (by decide))) (fun v4 h1 => ?_)
  refine zok_br (zr_andr (lo := 0) (hi := 1) (zr_c (lo := 1) (hi := 1) (by decide)) (by decide)) (fun v5 e3 h2 => ?_)
  refine zok_pi (s_X12_isRhythm hσ h_x1) (fun v7 h4 => ?_)
  refine zok_if (fun q5 => ?_) (fun q5 => ?_)
  · have h6 := zc_eql (0) (0) q5 h4 (zr_c (lo := 0) (hi := 0) (by decide)) (by decide)
    exact zok_spi h2
  have h7 := zc_nel (1) (1) q5 h4 (zr_c (lo := 0) (hi := 0) (by decide)) (by decide)
  refine zok_if (fun q8 => ?_) (fun q8 => ?_)
  · have h9 := zc_eql (6) (6) q8 h_x1 (zr_c (lo := 6) (hi := 6) (by decide)) (by decide)
    exact (s_X12_isOn_60 hσ h2 (zr_w (zr_c (lo := 4) (hi := 4) (by decide)) (by decide)))
  refine zok_if (fun q10 => ?_) (fun q10 => ?_)
  · have h11 := zc_eql (7) (7) q10 h_x1 (zr_c (lo := 7) (hi := 7) (by decide)) (by decide)
    refine zok_if (fun q12 => ?_) (fun q12 => ?_)
    · have h13 := zc_eql (0) (0) q12 h_x2 (zr_c (lo := 0) (hi := 0) (by decide)) (by decide)
      exact (s_X12_isOn_60 hσ h2 (zr_w (zr_c (lo := 0) (hi := 0) (by decide)) (by decide)))
    have h14 := zc_nel (1) (1) q12 h_x2 (zr_c (lo := 0) (hi := 0) (by decide)) (by decide)
    exact (s_X12_isOn_60 hσ h2 (zr_w (zr_c (lo := 3) (hi := 3) (by decide)) (by decide)))
  refine zok_if (fun q15 => ?_) (fun q15 => ?_)
  · have h16 := zc_eql (0) (0) q15 h_x2 (zr_c (lo := 0) (hi := 0) (by decide)) (by decide)
    exact (s_X12_isOn_60 hσ h2 (zr_w (zr_c (lo := 2) (hi := 2) (by decide)) (by decide)))
  have h17 := zc_nel (1) (1) q15 h_x2 (zr_c (lo := 0) (hi := 0) (by decide)) (by decide)
  exact (s_X12_isOn_60 hσ h2 (zr_w (zr_c (lo := 1) (hi := 1) (by decide)) (by decide)))
theorem s_X12_digit_20 {σ : zSt} (hσ : zPM σ) {s0 : Int32} (h_s0 : zr (0) (48) s0) : zok (fX12_digit_20 σ s0) (zPi σ (fun v : Int32 => zr (0) (48) v)) := by
  unfold fX12_digit_20
  exact zok_spi h_s0
theorem s_X12_digit {σ : zSt} (hσ : zPM σ) {x0 : Int32} (h_x0 : zr (48) (102) x0) : zok (fX12_digit σ x0) (zPi σ (fun v : Int32 => zr (0) (48) v)) := by
  unfold fX12_digit
  refine zok_if (fun q1 => ?_) (fun q1 => ?_)
  · have h2 := zc_ler (97) q1 (zr_c (lo := 97) (hi := 97) (by decide)) h_x0 (by decide)
    exact (s_X12_digit_20 hσ (zr_w (zr_add (lo := 10) (hi := 15) (zr_sub (lo := 0) (hi := 5) h2 (zr_c (lo := 97) (hi := 97) (by decide)) (by decide)) (zr_c (lo := 10) (hi := 10) (by decide)) (by decide)) (by decide)))
  have h3 := zc_ltl (96) (z_nle q1) h_x0 (zr_c (lo := 97) (hi := 97) (by decide)) (by decide)
  exact (s_X12_digit_20 hσ (zr_sub (lo := 0) (hi := 48) h3 (zr_c (lo := 48) (hi := 48) (by decide)) (by decide)))
theorem s_X12_patchByte_25 {σ : zSt} (hσ : zPM σ) {x2 : Int32} (h_x2 : zr (0) (7) x2) {s0 : Int32} (h_s0 : zr (0) (18) s0) : zok (fX12_patchByte_25 σ x2 s0) (zPi σ (fun v : Int32 => zr (0) (816) v)) := by
  unfold fX12_patchByte_25
  refine zok_if (fun q1 => ?_) (fun q1 => ?_)
  · have h2 := zc_eql (0) (0) q1 h_s0 (zr_c (lo := 0) (hi := 0) (by decide)) (by decide)
    refine zok_pi (s_X12_wreg hσ (zr_w h_x2 (by decide))) (fun v7 h3 => ?_)
    exact zok_spi (zr_w h3 (by decide))
  have h4 := zc_nel (1) (18) q1 h_s0 (zr_c (lo := 0) (hi := 0) (by decide)) (by decide)
  refine zok_br (zr_add (lo := 0) (hi := 286) (zr_mul (lo := 0) (hi := 272) (zr_c (lo := 16) (hi := 16) (by decide)) (zr_sub (lo := 0) (hi := 17) h4 (zr_c (lo := 1) (hi := 1) (by decide)) (by decide)) (by decide)) (zr_mul (lo := 0) (hi := 14) (zr_c (lo := 2) (hi := 2) (by decide)) h_x2 (by decide)) (by decide)) (fun v1 e6 h5 => ?_)
  refine zok_ck (by decide) ?_
  refine zok_ck (zin_ok h5 (by decide +kernel)) ?_
  refine zok_pi (s_X12_digit hσ (zkC70_r _ (z_ixlt h5 (by decide)))) (fun v3 h7 => ?_)
  refine zok_ck (by decide) ?_
  refine zok_ck (zin_ok (zr_add (lo := 1) (hi := 287) h5 (zr_c (lo := 1) (hi := 1) (by decide)) (by decide)) (by decide +kernel)) ?_
  refine zok_pi (s_X12_digit hσ (zkC70_r _ (z_ixlt (zr_add (lo := 1) (hi := 287) h5 (zr_c (lo := 1) (hi := 1) (by decide)) (by decide)) (by decide)))) (fun v5 h8 => ?_)
  exact zok_spi (zr_add (lo := 0) (hi := 816) (zr_mul (lo := 0) (hi := 768) (zr_c (lo := 16) (hi := 16) (by decide)) h7 (by decide)) h8 (by decide))
theorem s_X12_patchByte {σ : zSt} (hσ : zPM σ) {x1 : Int32} (h_x1 : zr (0) (8) x1) {x2 : Int32} (h_x2 : zr (0) (7) x2) : zok (fX12_patchByte σ x1 x2) (zPi σ (fun v : Int32 => zr (0) (816) v)) := by
  unfold fX12_patchByte
  refine zok_pi (s_X12_isRhythm hσ h_x1) (fun v9 h1 => ?_)
  refine zok_if (fun q2 => ?_) (fun q2 => ?_)
  · have h3 := zc_eql (0) (0) q2 h1 (zr_c (lo := 0) (hi := 0) (by decide)) (by decide)
    refine zok_pi (s_X12_wreg hσ (zr_w (zr_add (lo := 48) (hi := 56) (zr_c (lo := 48) (hi := 48) (by decide)) h_x1 (by decide)) (by decide))) (fun v11 h4 => ?_)
    exact (s_X12_patchByte_25 hσ h_x2 (zr_w (zr_shr (lo := 0) (hi := 15) 4 (by decide) h4 (by decide)) (by decide)))
  have h5 := zc_nel (1) (1) q2 h1 (zr_c (lo := 0) (hi := 0) (by decide)) (by decide)
  exact (s_X12_patchByte_25 hσ h_x2 (zr_w (zr_add (lo := 10) (hi := 18) h_x1 (zr_c (lo := 10) (hi := 10) (by decide)) (by decide)) (by decide)))
theorem s_X12_rate_140 {σ : zSt} (hσ : zPM σ) {s0 : Int32} (h_s0 : zr (0) (15) s0) : zok (fX12_rate_140 σ s0) (zPi σ (fun v : Int32 => zr (0) (51) v)) := by
  unfold fX12_rate_140
  exact zok_spi (zr_w h_s0 (by decide))
theorem s_X12_rate_99 {σ : zSt} (hσ : zPM σ) {s0 : Int32} (h_s0 : zr (0) (15) s0) : zok (fX12_rate_99 σ s0) (zPi σ (fun v : Int32 => zr (0) (51) v)) := by
  unfold fX12_rate_99
  exact zok_spi (zr_w h_s0 (by decide))
theorem s_X12_rate_17 {σ : zSt} (hσ : zPM σ) {x1 : Int32} {x2 : Int32} (h_x2 : zr (0) (8) x2) {x3 : Int32} (h_x3 : zr (0) (1) x3) {s0 : Int32} (h_s0 : zr (0) (1) s0) : zok (fX12_rate_17 σ x1 x2 x3 s0) (zPi σ (fun v : Int32 => zr (0) (51) v)) := by
  unfold fX12_rate_17
  refine zok_if (fun q1 => ?_) (fun q1 => ?_)
  · have h2 := zc_eql (0) (0) q1 zr_any (zr_c (lo := 0) (hi := 0) (by decide)) (by decide)
    exact zok_spi (zr_w (zr_c (lo := 12) (hi := 12) (by decide)) (by decide))
  refine zok_if (fun q3 => ?_) (fun q3 => ?_)
  · have h4 := zc_eql (1) (1) q3 zr_any (zr_c (lo := 1) (hi := 1) (by decide)) (by decide)
    refine zok_pi (s_X12_patchByte hσ h_x2 (zr_w (zr_add (lo := 4) (hi := 5) (zr_c (lo := 4) (hi := 4) (by decide)) h_x3 (by decide)) (by decide))) (fun v2 h5 => ?_)
    exact zok_spi (zr_shr (lo := 0) (hi := 51) 4 (by decide) h5 (by decide))
  refine zok_if (fun q6 => ?_) (fun q6 => ?_)
  · have h7 := zc_eql (2) (2) q6 zr_any (zr_c (lo := 2) (hi := 2) (by decide)) (by decide)
    refine zok_pi (s_X12_patchByte hσ h_x2 (zr_w (zr_add (lo := 4) (hi := 5) (zr_c (lo := 4) (hi := 4) (by decide)) h_x3 (by decide)) (by decide))) (fun v4 h8 => ?_)
    exact zok_spi (zr_w (zr_andr (lo := 0) (hi := 15) (zr_c (lo := 15) (hi := 15) (by decide)) (by decide)) (by decide))
  refine zok_if (fun q9 => ?_) (fun q9 => ?_)
  · have h10 := zc_eql (3) (3) q9 zr_any (zr_c (lo := 3) (hi := 3) (by decide)) (by decide)
    refine zok_if (fun q11 => ?_) (fun q11 => ?_)
    · have h12 := zc_eql (0) (0) q11 h_s0 (zr_c (lo := 0) (hi := 0) (by decide)) (by decide)
      refine zok_pi (s_X12_patchByte hσ h_x2 (zr_w (zr_add (lo := 6) (hi := 7) (zr_c (lo := 6) (hi := 6) (by decide)) h_x3 (by decide)) (by decide))) (fun v6 h13 => ?_)
      exact (s_X12_rate_99 hσ (zr_andr (lo := 0) (hi := 15) (zr_c (lo := 15) (hi := 15) (by decide)) (by decide)))
    have h14 := zc_nel (1) (1) q11 h_s0 (zr_c (lo := 0) (hi := 0) (by decide)) (by decide)
    exact (s_X12_rate_99 hσ (zr_w (zr_c (lo := 0) (hi := 0) (by decide)) (by decide)))
  refine zok_pi (s_X12_wreg hσ (zr_w (zr_add (lo := 32) (hi := 40) (zr_c (lo := 32) (hi := 32) (by decide)) h_x2 (by decide)) (by decide))) (fun v8 h15 => ?_)
  refine zok_if (fun q16 => ?_) (fun q16 => ?_)
  · have h17 := zc_eql (0) (0) q16 (zr_andr (lo := 0) (hi := 32) (zr_c (lo := 32) (hi := 32) (by decide)) (by decide)) (zr_c (lo := 0) (hi := 0) (by decide)) (by decide)
    refine zok_if (fun q18 => ?_) (fun q18 => ?_)
    · have h19 := zc_eql (0) (0) q18 h_s0 (zr_c (lo := 0) (hi := 0) (by decide)) (by decide)
      exact (s_X12_rate_140 hσ (zr_w (zr_c (lo := 7) (hi := 7) (by decide)) (by decide)))
    have h20 := zc_nel (1) (1) q18 h_s0 (zr_c (lo := 0) (hi := 0) (by decide)) (by decide)
    refine zok_pi (s_X12_patchByte hσ h_x2 (zr_w (zr_add (lo := 6) (hi := 7) (zr_c (lo := 6) (hi := 6) (by decide)) h_x3 (by decide)) (by decide))) (fun v10 h21 => ?_)
    exact (s_X12_rate_140 hσ (zr_andr (lo := 0) (hi := 15) (zr_c (lo := 15) (hi := 15) (by decide)) (by decide)))
  have h22 := zc_nel (1) (32) q16 (zr_andr (lo := 0) (hi := 32) (zr_c (lo := 32) (hi := 32) (by decide)) (by decide)) (zr_c (lo := 0) (hi := 0) (by decide)) (by decide)
  exact (s_X12_rate_140 hσ (zr_w (zr_c (lo := 5) (hi := 5) (by decide)) (by decide)))
theorem s_X12_rate {σ : zSt} (hσ : zPM σ) {x1 : Int32} {x2 : Int32} (h_x2 : zr (0) (8) x2) {x3 : Int32} (h_x3 : zr (0) (1) x3) : zok (fX12_rate σ x1 x2 x3) (zPi σ (fun v : Int32 => zr (0) (51) v)) := by
  unfold fX12_rate
  refine zok_pi (s_X12_patchByte hσ h_x2 (zr_w h_x3 (by decide))) (fun v12 h1 => ?_)
  refine zok_if (fun q2 => ?_) (fun q2 => ?_)
  · have h3 := zc_eql (0) (0) q2 (zr_andr (lo := 0) (hi := 32) (zr_c (lo := 32) (hi := 32) (by decide)) (by decide)) (zr_c (lo := 0) (hi := 0) (by decide)) (by decide)
    exact (s_X12_rate_17 hσ h_x2 h_x3 (zr_w (zr_c (lo := 0) (hi := 0) (by decide)) (by decide)))
  have h4 := zc_nel (1) (32) q2 (zr_andr (lo := 0) (hi := 32) (zr_c (lo := 32) (hi := 32) (by decide)) (by decide)) (zr_c (lo := 0) (hi := 0) (by decide)) (by decide)
  exact (s_X12_rate_17 hσ h_x2 h_x3 (zr_w (zr_c (lo := 1) (hi := 1) (by decide)) (by decide)))
theorem s_X12_block {σ : zSt} (hσ : zPM σ) {x1 : Int32} (h_x1 : zr (0) (8) x1) : zok (fX12_block σ x1) (zPi σ (fun v : Int32 => zr (0) (7) v)) := by
  unfold fX12_block
  refine zok_pi (s_X12_wreg hσ (zr_w (zr_add (lo := 32) (hi := 40) (zr_c (lo := 32) (hi := 32) (by decide)) h_x1 (by decide)) (by decide))) (fun v2 h1 => ?_)
  exact zok_spi (zr_andr (lo := 0) (hi := 7) (zr_c (lo := 7) (hi := 7) (by decide)) (by decide))
theorem s_X12_f {σ : zSt} (hσ : zPM σ) {x1 : Int32} (h_x1 : zr (0) (8) x1) : zok (fX12_f σ x1) (zPi σ (fun v : Int32 => zr (0) (511) v)) := by
  unfold fX12_f
  refine zok_pi (s_X12_wreg hσ (zr_w (zr_add (lo := 16) (hi := 24) (zr_c (lo := 16) (hi := 16) (by decide)) h_x1 (by decide)) (by decide))) (fun v2 h1 => ?_)
  refine zok_pi (s_X12_wreg hσ (zr_w (zr_add (lo := 32) (hi := 40) (zr_c (lo := 32) (hi := 32) (by decide)) h_x1 (by decide)) (by decide))) (fun v4 h2 => ?_)
  exact zok_spi (zr_or (lo := 0) (hi := 511) 9 h1 (zr_shl (lo := 0) (hi := 256) 8 (by decide) (zr_andr (lo := 0) (hi := 1) (zr_c (lo := 1) (hi := 1) (by decide)) (by decide)) (by decide)) (by decide))
theorem s_X12_t_40 {σ : zSt} (hσ : zPM σ) {s0 : Int32} (h_s0 : zr (0) (1) s0) : zok (fX12_t_40 σ s0) (zPi σ (fun v : Int32 => zr (0) (1) v)) := by
  unfold fX12_t_40
  exact zok_spi h_s0
theorem s_X12_t_35 {σ : zSt} (hσ : zPM σ) : zok (fX12_t_35 σ ) (zPi σ (fun v : Int32 => zr (0) (1) v)) := by
  unfold fX12_t_35
  exact (s_X12_t_40 hσ (zr_w (zr_c (lo := 1) (hi := 1) (by decide)) (by decide)))
theorem s_X12_t_39 {σ : zSt} (hσ : zPM σ) : zok (fX12_t_39 σ ) (zPi σ (fun v : Int32 => zr (0) (1) v)) := by
  unfold fX12_t_39
  exact (s_X12_t_40 hσ (zr_w (zr_c (lo := 0) (hi := 0) (by decide)) (by decide)))
theorem s_X12_t_19 {σ : zSt} (hσ : zPM σ) {x0 : Int32} {x1 : Int32} (h_x1 : zr (0) (3) x1) : zok (fX12_t_19 σ x0 x1) (zPi σ (fun v : Int32 => zr (0) (1) v)) := by
  unfold fX12_t_19
  refine zok_if (fun q1 => ?_) (fun q1 => ?_)
  · have h2 := zc_lel (1) q1 h_x1 (zr_c (lo := 1) (hi := 1) (by decide)) (by decide)
    exact (s_X12_t_39 hσ)
  have h3 := zc_ltr (2) (z_nle q1) (zr_c (lo := 1) (hi := 1) (by decide)) h_x1 (by decide)
  refine zok_if (fun q4 => ?_) (fun q4 => ?_)
  · have h5 := zc_eql (2) (2) q4 zr_any (zr_c (lo := 2) (hi := 2) (by decide)) (by decide)
    exact (s_X12_t_35 hσ)
  refine zok_if (fun q6 => ?_) (fun q6 => ?_)
  · have h7 := zc_eql (6) (6) q6 zr_any (zr_c (lo := 6) (hi := 6) (by decide)) (by decide)
    exact (s_X12_t_35 hσ)
  exact (s_X12_t_39 hσ)
theorem s_X12_t {σ : zSt} (hσ : zPM σ) {x0 : Int32} {x1 : Int32} (h_x1 : zr (0) (3) x1) : zok (fX12_t σ x0 x1) (zPi σ (fun v : Int32 => zr (0) (1) v)) := by
  unfold fX12_t
  refine zok_ck (by decide) ?_
  refine zok_if (fun q1 => ?_) (fun q1 => ?_)
  · have h2 := zc_eql (1) (1) q1 zr_any (zr_c (lo := 1) (hi := 1) (by decide)) (by decide)
    exact (s_X12_t_35 hσ)
  refine zok_ck (by decide) ?_
  refine zok_if (fun q4 => ?_) (fun q4 => ?_)
  · have h5 := zc_eql (1) (1) q4 (zr_rem (lo := 0) (hi := 1) 2 (by decide) h_x1 (by decide)) (zr_c (lo := 1) (hi := 1) (by decide)) (by decide)
    have h6 := z_odd64 h_x1 h5 (by decide)
    refine zok_if (fun q7 => ?_) (fun q7 => ?_)
    · have h8 := zc_eql (4) (4) q7 zr_any (zr_c (lo := 4) (hi := 4) (by decide)) (by decide)
      exact (s_X12_t_35 hσ)
    exact (s_X12_t_19 hσ h_x1)
  have h9 := zc_nel (0) (0) q4 (zr_rem (lo := 0) (hi := 1) 2 (by decide) h_x1 (by decide)) (zr_c (lo := 1) (hi := 1) (by decide)) (by decide)
  exact (s_X12_t_19 hσ h_x1)
theorem s_X12_envelope_275 {G : Nat → Int} {σ : zSt} (hσ : zIM G σ) {s0 : Int32} (h_s0 : zr (0) (127) s0) {s1 : Int32} (h_s1 : zr (172) (274) s1) (t_s1 : zat 0 s1) : zok (fX12_envelope_275 σ s0 s1) (zIM G) := by
  unfold fX12_envelope_275
  refine zok_ck (zin_ok h_s1 (by decide)) ?_
  refine zok_bs (hσ.lv t_s1 h_s0 (by decide)) (fun σ1 e2 i1 => ?_)
  exact zok_some i1
theorem s_X12_envelope_259 {G : Nat → Int} {σ : zSt} (hσ : zIM G σ) {x1 : Int32} (h_x1 : zr (172) (274) x1) {x15 : Int32} (h_x15 : zr (-128) (127) x15) (t_x1 : zat 0 x1) : zok (fX12_envelope_259 σ x1 x15) (zIM G) := by
  unfold fX12_envelope_259
  refine zok_if (fun q1 => ?_) (fun q1 => ?_)
  · have h2 := zc_ler (0) q1 (zr_c (lo := 0) (hi := 0) (by decide)) h_x15 (by decide)
    exact (s_X12_envelope_275 hσ h2 h_x1 t_x1)
  have h3 := zc_ltl (-1) (z_nle q1) h_x15 (zr_c (lo := 0) (hi := 0) (by decide)) (by decide)
  exact (s_X12_envelope_275 hσ (zr_w (zr_c (lo := 0) (hi := 0) (by decide)) (by decide)) h_x1 t_x1)
theorem s_X12_envelope_220 {G : Nat → Int} {σ : zSt} (hσ : zIM G σ) {x1 : Int32} (h_x1 : zr (172) (274) x1) {s0 : Int32} (h_s0 : zr (-8) (127) s0) (t_x1 : zat 0 x1) : zok (fX12_envelope_220 σ x1 s0) (zIM G) := by
  unfold fX12_envelope_220
  exact (s_X12_envelope_259 hσ h_x1 (zr_w h_s0 (by decide)) t_x1)
theorem s_X12_envelope_257 {G : Nat → Int} {σ : zSt} (hσ : zIM G σ) {x1 : Int32} (h_x1 : zr (172) (274) x1) {s0 : Int32} (h_s0 : zr (-128) (126) s0) (t_x1 : zat 0 x1) : zok (fX12_envelope_257 σ x1 s0) (zIM G) := by
  unfold fX12_envelope_257
  exact (s_X12_envelope_259 hσ h_x1 (zr_w h_s0 (by decide)) t_x1)
theorem s_X12_envelope_358 {G : Nat → Int} {σ : zSt} (hσ : zIM G σ) {s0 : Int32} (h_s0 : zr (0) (127) s0) {s1 : Int32} (h_s1 : zr (172) (274) s1) (t_s1 : zat 0 s1) : zok (fX12_envelope_358 σ s0 s1) (zIM G) := by
  unfold fX12_envelope_358
  refine zok_ck (zin_ok h_s1 (by decide)) ?_
  refine zok_bs (hσ.lv t_s1 h_s0 (by decide)) (fun σ2 e2 i1 => ?_)
  exact zok_some i1
theorem s_X12_envelope_336 {G : Nat → Int} {σ : zSt} (hσ : zIM G σ) {x1 : Int32} (h_x1 : zr (172) (274) x1) {s0 : Int32} (h_s0 : zr (0) (2) s0) {s1 : Int32} (h_s1 : zr (0) (127) s1) (t_x1 : zat 0 x1) : zok (fX12_envelope_336 σ x1 s0 s1) (zIM G) := by
  unfold fX12_envelope_336
  refine zok_br (zr_add (lo := 0) (hi := 129) h_s1 h_s0 (by decide)) (fun v3 e2 h1 => ?_)
  refine zok_if (fun q3 => ?_) (fun q3 => ?_)
  · have h4 := zc_lel (127) q3 h1 (zr_c (lo := 127) (hi := 127) (by decide)) (by decide)
    exact (s_X12_envelope_358 hσ h4 h_x1 t_x1)
  have h5 := zc_ltr (128) (z_nle q3) (zr_c (lo := 127) (hi := 127) (by decide)) h1 (by decide)
  exact (s_X12_envelope_358 hσ (zr_w (zr_c (lo := 127) (hi := 127) (by decide)) (by decide)) h_x1 t_x1)
theorem s_X12_envelope_159 {G : Nat → Int} {σ : zSt} (hσ : zIM G σ) {x1 : Int32} (h_x1 : zr (172) (274) x1) {x4 : Int32} {x7 : Int32} (h_x7 : zr (1) (15) x7) {x8 : Int32} (h_x8 : zr (0) (3) x8) {x9 : Int64} {s0 : Int32} (h_s0 : zr (0) (1) s0) (t_x1 : zat 0 x1) : zok (fX12_envelope_159 σ x1 x4 x7 x8 x9 s0) (zIM G) := by
  unfold fX12_envelope_159
  refine zok_ck (by decide) ?_
  refine zok_ck (by decide) ?_
  refine zok_bv (fun v4 e2 => ?_)
  refine zok_ck (zin_ok h_x1 (by decide)) ?_
  refine zok_br (rM_lv hσ.Y t_x1) (fun v5 e4 h3 => ?_)
  refine zok_if (fun q5 => ?_) (fun q5 => ?_)
  · have h6 := zc_eql (1) (1) q5 zr_any (zr_c (lo := 1) (hi := 1) (by decide)) (by decide)
    refine zok_if (fun q7 => ?_) (fun q7 => ?_)
    · have h8 := zc_ler (12) q7 (zr_c (lo := 12) (hi := 12) (by decide)) h_x7 (by decide)
      refine zok_if (fun q9 => ?_) (fun q9 => ?_)
      · have h10 := zc_eql (15) (15) q9 h8 (zr_c (lo := 15) (hi := 15) (by decide)) (by decide)
        exact (s_X12_envelope_257 hσ h_x1 (zr_w (zr_c (lo := 0) (hi := 0) (by decide)) (by decide)) t_x1)
      have h11 := zc_nel (12) (14) q9 h8 (zr_c (lo := 15) (hi := 15) (by decide)) (by decide)
      refine zok_pi (s_X12_t hσ.P h_x8) (fun v11 h12 => ?_)
      exact (s_X12_envelope_257 hσ h_x1 (zr_sub (lo := -128) (hi := 126) (zr_sub (lo := -127) (hi := 127) h3 (zr_shra (lo := 0) (hi := 127) h3 (by decide)) (by decide)) (zr_c (lo := 1) (hi := 1) (by decide)) (by decide)) t_x1)
    have h13 := zc_ltl (11) (z_nle q7) h_x7 (zr_c (lo := 12) (hi := 12) (by decide)) (by decide)
    refine zok_if (fun q14 => ?_) (fun q14 => ?_)
    · have h15 := zc_eql (1) (1) q14 h_s0 (zr_c (lo := 1) (hi := 1) (by decide)) (by decide)
      refine zok_ck (by decide) ?_
      exact (s_X12_envelope_220 hσ h_x1 (zr_w (zr_sub (lo := -8) (hi := 126) (zr_sub (lo := -7) (hi := 127) h3 (zr_div (lo := 0) (hi := 7) 16 (by decide) h3 (by decide)) (by decide)) (zr_c (lo := 1) (hi := 1) (by decide)) (by decide)) (by decide)) t_x1)
    have h16 := zc_nel (0) (0) q14 h_s0 (zr_c (lo := 1) (hi := 1) (by decide)) (by decide)
    exact (s_X12_envelope_220 hσ h_x1 (zr_w h3 (by decide)) t_x1)
  refine zok_if (fun q17 => ?_) (fun q17 => ?_)
  · have h18 := zc_ler (13) q17 (zr_c (lo := 13) (hi := 13) (by decide)) h_x7 (by decide)
    refine zok_if (fun q19 => ?_) (fun q19 => ?_)
    · have h20 := zc_eql (13) (13) q19 h18 (zr_c (lo := 13) (hi := 13) (by decide)) (by decide)
      refine zok_ck (by decide) ?_
      refine zok_pi (s_X12_t hσ.P h_x8) (fun v9 h21 => ?_)
      exact (s_X12_envelope_336 hσ h_x1 (zr_w h21 (by decide)) h3 t_x1)
    have h22 := zc_nel (14) (15) q19 h18 (zr_c (lo := 13) (hi := 13) (by decide)) (by decide)
    refine zok_if (fun q23 => ?_) (fun q23 => ?_)
    · have h24 := zc_eql (14) (14) q23 h22 (zr_c (lo := 14) (hi := 14) (by decide)) (by decide)
      refine zok_pi (s_X12_t hσ.P h_x8) (fun v7 h25 => ?_)
      exact (s_X12_envelope_336 hσ h_x1 (zr_w (zr_add (lo := 1) (hi := 2) h25 (zr_c (lo := 1) (hi := 1) (by decide)) (by decide)) (by decide)) h3 t_x1)
    have h26 := zc_nel (15) (15) q23 h22 (zr_c (lo := 14) (hi := 14) (by decide)) (by decide)
    exact (s_X12_envelope_336 hσ h_x1 (zr_w (zr_c (lo := 2) (hi := 2) (by decide)) (by decide)) h3 t_x1)
  have h27 := zc_ltl (12) (z_nle q17) h_x7 (zr_c (lo := 13) (hi := 13) (by decide)) (by decide)
  exact (s_X12_envelope_336 hσ h_x1 (zr_w h_s0 (by decide)) h3 t_x1)
theorem s_X12_envelope_158 {G : Nat → Int} {σ : zSt} (hσ : zIM G σ) {x1 : Int32} (h_x1 : zr (172) (274) x1) {x4 : Int32} {x7 : Int32} (h_x7 : zr (1) (15) x7) {x8 : Int32} (h_x8 : zr (0) (3) x8) {x9 : Int64} (t_x1 : zat 0 x1) : zok (fX12_envelope_158 σ x1 x4 x7 x8 x9) (zIM G) := by
  unfold fX12_envelope_158
  exact (s_X12_envelope_159 hσ h_x1 h_x7 h_x8 (zr_w (zr_c (lo := 0) (hi := 0) (by decide)) (by decide)) t_x1)
theorem s_X12_envelope_121 {G : Nat → Int} {σ : zSt} (hσ : zIM G σ) {x1 : Int32} (h_x1 : zr (172) (274) x1) {x4 : Int32} {x7 : Int32} (h_x7 : zr (1) (15) x7) {x8 : Int32} (h_x8 : zr (0) (3) x8) {x9 : Int64} {s0 : Int64} (h_s0 : zrl (1) (8192) s0) (t_x1 : zat 0 x1) : zok (fX12_envelope_121 σ x1 x4 x7 x8 x9 s0) (zIM G) := by
  unfold fX12_envelope_121
  refine zok_if (fun q1 => ?_) (fun q1 => ?_)
  · have h2 := zc_ler (13) q1 (zr_c (lo := 13) (hi := 13) (by decide)) h_x7 (by decide)
    exact (s_X12_envelope_158 hσ h_x1 (zr_w h2 (by decide)) h_x8 t_x1)
  have h3 := zc_ltl (12) (z_nle q1) h_x7 (zr_c (lo := 13) (hi := 13) (by decide)) (by decide)
  refine zok_ck (zdvl_ok h_s0 (by decide)) ?_
  refine zok_if (fun q4 => ?_) (fun q4 => ?_)
  · refine zok_ck (zdvl_ok h_s0 (by decide)) ?_
    refine zok_ck (by decide) ?_
    refine zok_pi (s_X12_t hσ.P h_x8) (fun v13 h5 => ?_)
    exact (s_X12_envelope_159 hσ h_x1 (zr_w h3 (by decide)) h_x8 h5 t_x1)
  exact (s_X12_envelope_158 hσ h_x1 (zr_w h3 (by decide)) h_x8 t_x1)
theorem s_X12_envelope_87 {G : Nat → Int} {σ : zSt} (hσ : zIM G σ) {x1 : Int32} (h_x1 : zr (172) (274) x1) {x4 : Int32} {x6 : Int32} (h_x6 : zr (0) (15) x6) {s0 : Int32} (h_s0 : zr (1) (15) s0) (t_x1 : zat 0 x1) : zok (fX12_envelope_87 σ x1 x4 x6 s0) (zIM G) := by
  unfold fX12_envelope_87
  refine zok_ck (by decide) ?_
  refine zok_br (zr_rem (lo := 0) (hi := 3) 4 (by decide) h_x6 (by decide)) (fun v14 e2 h1 => ?_)
  refine zok_ck rfl ?_
  refine zok_bv (fun v15 e4 => ?_)
  refine zok_if (fun q5 => ?_) (fun q5 => ?_)
  · have h6 := zc_ler (13) q5 (zr_c (lo := 13) (hi := 13) (by decide)) h_s0 (by decide)
    exact (s_X12_envelope_121 hσ h_x1 (zr_w h6 (by decide)) h1 (zrl_w (zrl_c (lo := 1) (hi := 1) (by decide)) (by decide)) t_x1)
  have h7 := zc_ltl (12) (z_nle q5) h_s0 (zr_c (lo := 13) (hi := 13) (by decide)) (by decide)
  exact (s_X12_envelope_121 hσ h_x1 (zr_w h7 (by decide)) h1 (zrl_shl (lo := 1) (hi := 8192) (zr_sub (lo := 1) (hi := 12) (zr_c (lo := 13) (hi := 13) (by decide)) h7 (by decide)) (by decide)) t_x1)
theorem s_X12_envelope_63 {G : Nat → Int} {σ : zSt} (hσ : zIM G σ) {x1 : Int32} (h_x1 : zr (172) (274) x1) {x4 : Int32} {x5 : Int32} (h_x5 : zr (1) (51) x5) {x6 : Int32} (h_x6 : zr (0) (15) x6) (t_x1 : zat 0 x1) : zok (fX12_envelope_63 σ x1 x4 x5 x6) (zIM G) := by
  unfold fX12_envelope_63
  refine zok_ck (by decide) ?_
  refine zok_if (fun q1 => ?_) (fun q1 => ?_)
  · have h2 := zc_lel (15) q1 (zr_add (lo := 1) (hi := 54) h_x5 (zr_div (lo := 0) (hi := 3) 4 (by decide) h_x6 (by decide)) (by decide)) (zr_c (lo := 15) (hi := 15) (by decide)) (by decide)
    refine zok_ck (by decide) ?_
    exact (s_X12_envelope_87 hσ h_x1 h_x6 h2 t_x1)
  have h3 := zc_ltr (16) (z_nle q1) (zr_c (lo := 15) (hi := 15) (by decide)) (zr_add (lo := 1) (hi := 54) h_x5 (zr_div (lo := 0) (hi := 3) 4 (by decide) h_x6 (by decide)) (by decide)) (by decide)
  exact (s_X12_envelope_87 hσ h_x1 h_x6 (zr_w (zr_c (lo := 15) (hi := 15) (by decide)) (by decide)) t_x1)
theorem s_X12_envelope {G : Nat → Int} {σ : zSt} (hσ : zIM G σ) {x1 : Int32} (h_x1 : zr (172) (274) x1) {x2 : Int32} (h_x2 : zr (0) (8) x2) {x3 : Int32} (h_x3 : zr (0) (1) x3) (t_x1 : zat 0 x1) : zok (fX12_envelope σ x1 x2 x3) (zIM G) := by
  unfold fX12_envelope
  refine zok_ck (zin_ok (zr_add (lo := 173) (hi := 275) h_x1 (zr_c (lo := 1) (hi := 1) (by decide)) (by decide)) (by decide)) ?_
  refine zok_bv (fun v16 e2 => ?_)
  refine zok_pi (s_X12_rate hσ.P h_x2 h_x3) (fun v18 h3 => ?_)
  refine zok_if (fun q4 => ?_) (fun q4 => ?_)
  · have h5 := zc_eql (0) (0) q4 h3 (zr_c (lo := 0) (hi := 0) (by decide)) (by decide)
    exact zok_some hσ
  have h6 := zc_nel (1) (51) q4 h3 (zr_c (lo := 0) (hi := 0) (by decide)) (by decide)
  refine zok_pi (s_X12_block hσ.P h_x2) (fun v20 h7 => ?_)
  refine zok_pi (s_X12_f hσ.P h_x2) (fun v22 h8 => ?_)
  refine zok_ck (by decide) ?_
  refine zok_br (zr_add (lo := 0) (hi := 15) (zr_mul (lo := 0) (hi := 14) (zr_c (lo := 2) (hi := 2) (by decide)) h7 (by decide)) (zr_div (lo := 0) (hi := 1) 256 (by decide) h8 (by decide)) (by decide)) (fun v23 e10 h9 => ?_)
  refine zok_pi (s_X12_patchByte hσ.P h_x2 (zr_w h_x3 (by decide))) (fun v25 h11 => ?_)
  refine zok_if (fun q12 => ?_) (fun q12 => ?_)
  · have h13 := zc_eql (0) (0) q12 (zr_andr (lo := 0) (hi := 16) (zr_c (lo := 16) (hi := 16) (by decide)) (by decide)) (zr_c (lo := 0) (hi := 0) (by decide)) (by decide)
    refine zok_ck (by decide) ?_
    refine zok_br (zr_div (lo := 0) (hi := 3) 4 (by decide) h9 (by decide)) (fun v26 e15 h14 => ?_)
    exact (s_X12_envelope_63 hσ h_x1 h6 (zr_w h14 (by decide)) t_x1)
  have h16 := zc_nel (1) (16) q12 (zr_andr (lo := 0) (hi := 16) (zr_c (lo := 16) (hi := 16) (by decide)) (by decide)) (zr_c (lo := 0) (hi := 0) (by decide)) (by decide)
  exact (s_X12_envelope_63 hσ h_x1 h6 h9 t_x1)
theorem s_X12_phase_150 {G : Nat → Int} {σ : zSt} (hσ : zIM G σ) {x1 : Int32} (h_x1 : zr (172) (274) x1) {x2 : Int32} (h_x2 : zr (0) (8) x2) {x5 : Int32} (h_x5 : zr (1) (30) x5) {x6 : Int32} (h_x6 : zr (-7) (7) x6) (t_x1 : zat 0 x1) : zok (fX12_phase_150 σ x1 x2 x5 x6) (zIM G) := by
  unfold fX12_phase_150
  refine zok_ck (zin_ok (zr_add (lo := 174) (hi := 276) h_x1 (zr_c (lo := 2) (hi := 2) (by decide)) (by decide)) (by decide)) ?_
  refine zok_pi (s_X12_f hσ.P h_x2) (fun v2 h1 => ?_)
  refine zok_pi (s_X12_block hσ.P h_x2) (fun v4 h2 => ?_)
  refine zok_ck (by decide) ?_
  refine zok_ck (zin_ok (zr_add (lo := 174) (hi := 276) h_x1 (zr_c (lo := 2) (hi := 2) (by decide)) (by decide)) (by decide)) ?_
  refine zok_bs (hσ.op (zat_add t_x1 (c1 := 2) 2 (by decide) (by decide)) (by decide)) (fun σ5 e4 i3 => ?_)
  exact zok_some i3
theorem s_X12_phase_148 {G : Nat → Int} {σ : zSt} (hσ : zIM G σ) {x1 : Int32} (h_x1 : zr (172) (274) x1) {x2 : Int32} (h_x2 : zr (0) (8) x2) {x5 : Int32} (h_x5 : zr (1) (30) x5) {s0 : Int32} (h_s0 : zr (-7) (7) s0) (t_x1 : zat 0 x1) : zok (fX12_phase_148 σ x1 x2 x5 s0) (zIM G) := by
  unfold fX12_phase_148
  exact (s_X12_phase_150 hσ h_x1 h_x2 h_x5 h_s0 t_x1)
theorem s_X12_phase_132 {G : Nat → Int} {σ : zSt} (hσ : zIM G σ) {x1 : Int32} (h_x1 : zr (172) (274) x1) {x2 : Int32} (h_x2 : zr (0) (8) x2) {x5 : Int32} (h_x5 : zr (1) (30) x5) {x7 : Int32} {s0 : Int32} (h_s0 : zr (0) (7) s0) (t_x1 : zat 0 x1) : zok (fX12_phase_132 σ x1 x2 x5 x7 s0) (zIM G) := by
  unfold fX12_phase_132
  refine zok_if (fun q1 => ?_) (fun q1 => ?_)
  · have h2 := zc_ler (4) q1 (zr_c (lo := 4) (hi := 4) (by decide)) zr_any (by decide)
    exact (s_X12_phase_148 hσ h_x1 h_x2 h_x5 (zr_w (zr_neg (lo := -7) (hi := 0) h_s0 (by decide)) (by decide)) t_x1)
  have h3 := zc_ltl (3) (z_nle q1) zr_any (zr_c (lo := 4) (hi := 4) (by decide)) (by decide)
  exact (s_X12_phase_148 hσ h_x1 h_x2 h_x5 (zr_w h_s0 (by decide)) t_x1)
theorem s_X12_phase_60 {G : Nat → Int} {σ : zSt} (hσ : zIM G σ) {x1 : Int32} (h_x1 : zr (172) (274) x1) {x2 : Int32} (h_x2 : zr (0) (8) x2) {x3 : Int32} (h_x3 : zr (0) (1) x3) {s0 : Int32} (h_s0 : zr (1) (30) s0) (t_x1 : zat 0 x1) : zok (fX12_phase_60 σ x1 x2 x3 s0) (zIM G) := by
  unfold fX12_phase_60
  refine zok_pi (s_X12_patchByte hσ.P h_x2 (zr_w h_x3 (by decide))) (fun v7 h1 => ?_)
  refine zok_if (fun q2 => ?_) (fun q2 => ?_)
  · have h3 := zc_eql (0) (0) q2 (zr_andr (lo := 0) (hi := 64) (zr_c (lo := 64) (hi := 64) (by decide)) (by decide)) (zr_c (lo := 0) (hi := 0) (by decide)) (by decide)
    exact (s_X12_phase_150 hσ h_x1 h_x2 h_s0 (zr_w (zr_c (lo := 0) (hi := 0) (by decide)) (by decide)) t_x1)
  have h4 := zc_nel (1) (64) q2 (zr_andr (lo := 0) (hi := 64) (zr_c (lo := 64) (hi := 64) (by decide)) (by decide)) (zr_c (lo := 0) (hi := 0) (by decide)) (by decide)
  refine zok_ck rfl ?_
  refine zok_ck (by decide) ?_
  refine zok_ck (by decide) ?_
  refine zok_bv (fun v8 e6 => ?_)
  refine zok_pi (s_X12_f hσ.P h_x2) (fun v10 h7 => ?_)
  refine zok_ck (by decide) ?_
  refine zok_br (zr_div (lo := 0) (hi := 7) 64 (by decide) h7 (by decide)) (fun v11 e9 h8 => ?_)
  refine zok_ck (by decide) ?_
  refine zok_if (fun q10 => ?_) (fun q10 => ?_)
  · have h11 := zc_eql (0) (0) q10 zr_any (zr_c (lo := 0) (hi := 0) (by decide)) (by decide)
    exact (s_X12_phase_132 hσ h_x1 h_x2 h_s0 (zr_w (zr_c (lo := 0) (hi := 0) (by decide)) (by decide)) t_x1)
  refine zok_ck (by decide) ?_
  refine zok_if (fun q12 => ?_) (fun q12 => ?_)
  · have h13 := zc_eql (2) (2) q12 zr_any (zr_c (lo := 2) (hi := 2) (by decide)) (by decide)
    exact (s_X12_phase_132 hσ h_x1 h_x2 h_s0 h8 t_x1)
  refine zok_ck (by decide) ?_
  exact (s_X12_phase_132 hσ h_x1 h_x2 h_s0 (zr_w (zr_div (lo := 0) (hi := 3) 2 (by decide) h8 (by decide)) (by decide)) t_x1)
theorem s_X12_phase {G : Nat → Int} {σ : zSt} (hσ : zIM G σ) {x1 : Int32} (h_x1 : zr (172) (274) x1) {x2 : Int32} (h_x2 : zr (0) (8) x2) {x3 : Int32} (h_x3 : zr (0) (1) x3) (t_x1 : zat 0 x1) : zok (fX12_phase σ x1 x2 x3) (zIM G) := by
  unfold fX12_phase
  refine zok_pi (s_X12_patchByte hσ.P h_x2 (zr_w h_x3 (by decide))) (fun v13 h1 => ?_)
  refine zok_br (zr_andr (lo := 0) (hi := 15) (zr_c (lo := 15) (hi := 15) (by decide)) (by decide)) (fun v14 e3 h2 => ?_)
  refine zok_if (fun q4 => ?_) (fun q4 => ?_)
  · have h5 := zc_eql (0) (0) q4 h2 (zr_c (lo := 0) (hi := 0) (by decide)) (by decide)
    exact (s_X12_phase_60 hσ h_x1 h_x2 h_x3 (zr_w (zr_c (lo := 1) (hi := 1) (by decide)) (by decide)) t_x1)
  have h6 := zc_nel (1) (15) q4 h2 (zr_c (lo := 0) (hi := 0) (by decide)) (by decide)
  refine zok_if (fun q7 => ?_) (fun q7 => ?_)
  · have h8 := zc_ler (11) q7 (zr_c (lo := 11) (hi := 11) (by decide)) h6 (by decide)
    refine zok_if (fun q9 => ?_) (fun q9 => ?_)
    · have h10 := zc_eql (11) (11) q9 h8 (zr_c (lo := 11) (hi := 11) (by decide)) (by decide)
      exact (s_X12_phase_60 hσ h_x1 h_x2 h_x3 (zr_w (zr_c (lo := 20) (hi := 20) (by decide)) (by decide)) t_x1)
    have h11 := zc_nel (12) (15) q9 h8 (zr_c (lo := 11) (hi := 11) (by decide)) (by decide)
    refine zok_if (fun q12 => ?_) (fun q12 => ?_)
    · have h13 := zc_ler (14) q12 (zr_c (lo := 14) (hi := 14) (by decide)) h11 (by decide)
      exact (s_X12_phase_60 hσ h_x1 h_x2 h_x3 (zr_w (zr_c (lo := 30) (hi := 30) (by decide)) (by decide)) t_x1)
    have h14 := zc_ltl (13) (z_nle q12) h11 (zr_c (lo := 14) (hi := 14) (by decide)) (by decide)
    exact (s_X12_phase_60 hσ h_x1 h_x2 h_x3 (zr_w (zr_c (lo := 24) (hi := 24) (by decide)) (by decide)) t_x1)
  have h15 := zc_ltl (10) (z_nle q7) h6 (zr_c (lo := 11) (hi := 11) (by decide)) (by decide)
  exact (s_X12_phase_60 hσ h_x1 h_x2 h_x3 (zr_w (zr_mul (lo := 2) (hi := 20) (zr_c (lo := 2) (hi := 2) (by decide)) h15 (by decide)) (by decide)) t_x1)
theorem s_X12_drum_191 {σ : zSt} (hσ : zPM σ) {s0 : Int32} (h_s0 : zr (0) (768) s0) : zok (fX12_drum_191 σ s0) (zPi σ (fun v : Int32 => True)) := by
  unfold fX12_drum_191
  exact zok_spi trivial
theorem s_X12_drum_214 {σ : zSt} (hσ : zPM σ) {s0 : Int32} : zok (fX12_drum_214 σ s0) (zPi σ (fun v : Int32 => True)) := by
  unfold fX12_drum_214
  exact zok_spi trivial
theorem s_X12_drum_148 {σ : zSt} (hσ : zPM σ) {x1 : Int32} (h_x1 : zr (7) (8) x1) {x2 : Int32} (h_x2 : zr (0) (1) x2) {x3 : Int32} {x6 : Int32} (h_x6 : zr (0) (1) x6) {x7 : Int32} (h_x7 : zr (0) (1) x7) : zok (fX12_drum_148 σ x1 x2 x3 x6 x7) (zPi σ (fun v : Int32 => True)) := by
  unfold fX12_drum_148
  refine zok_if (fun q1 => ?_) (fun q1 => ?_)
  · have h2 := zc_eql (7) (7) q1 h_x1 (zr_c (lo := 7) (hi := 7) (by decide)) (by decide)
    refine zok_if (fun q3 => ?_) (fun q3 => ?_)
    · have h4 := zc_eql (0) (0) q3 (zr_andr (lo := 0) (hi := 512) (zr_c (lo := 512) (hi := 512) (by decide)) (by decide)) (zr_c (lo := 0) (hi := 0) (by decide)) (by decide)
      refine zok_if (fun q5 => ?_) (fun q5 => ?_)
      · have h6 := zc_eql (0) (0) q5 h_x7 (zr_c (lo := 0) (hi := 0) (by decide)) (by decide)
        exact (s_X12_drum_191 hσ (zr_w (zr_c (lo := 256) (hi := 256) (by decide)) (by decide)))
      have h7 := zc_nel (1) (1) q5 h_x7 (zr_c (lo := 0) (hi := 0) (by decide)) (by decide)
      exact (s_X12_drum_191 hσ (zr_w (zr_c (lo := 0) (hi := 0) (by decide)) (by decide)))
    have h8 := zc_nel (1) (512) q3 (zr_andr (lo := 0) (hi := 512) (zr_c (lo := 512) (hi := 512) (by decide)) (by decide)) (zr_c (lo := 0) (hi := 0) (by decide)) (by decide)
    refine zok_if (fun q9 => ?_) (fun q9 => ?_)
    · have h10 := zc_eql (0) (0) q9 h_x7 (zr_c (lo := 0) (hi := 0) (by decide)) (by decide)
      exact (s_X12_drum_191 hσ (zr_w (zr_c (lo := 512) (hi := 512) (by decide)) (by decide)))
    have h11 := zc_nel (1) (1) q9 h_x7 (zr_c (lo := 0) (hi := 0) (by decide)) (by decide)
    exact (s_X12_drum_191 hσ (zr_w (zr_c (lo := 768) (hi := 768) (by decide)) (by decide)))
  have h12 := zc_nel (8) (8) q1 h_x1 (zr_c (lo := 7) (hi := 7) (by decide)) (by decide)
  refine zok_if (fun q13 => ?_) (fun q13 => ?_)
  · have h14 := zc_eql (0) (0) q13 h_x2 (zr_c (lo := 0) (hi := 0) (by decide)) (by decide)
    exact (s_X12_drum_214 hσ)
  have h15 := zc_nel (1) (1) q13 h_x2 (zr_c (lo := 0) (hi := 0) (by decide)) (by decide)
  refine zok_if (fun q16 => ?_) (fun q16 => ?_)
  · have h17 := zc_eql (0) (0) q16 h_x6 (zr_c (lo := 0) (hi := 0) (by decide)) (by decide)
    exact (s_X12_drum_214 hσ)
  have h18 := zc_nel (1) (1) q16 h_x6 (zr_c (lo := 0) (hi := 0) (by decide)) (by decide)
  exact (s_X12_drum_214 hσ)
theorem s_X12_drum_147 {σ : zSt} (hσ : zPM σ) {s0 : Int32} (h_s0 : zr (52) (720) s0) : zok (fX12_drum_147 σ s0) (zPi σ (fun v : Int32 => True)) := by
  unfold fX12_drum_147
  exact zok_spi trivial
theorem s_X12_drum_100 {σ : zSt} (hσ : zPM σ) {x1 : Int32} (h_x1 : zr (7) (8) x1) {x2 : Int32} (h_x2 : zr (0) (1) x2) {x3 : Int32} {x6 : Int32} (h_x6 : zr (0) (1) x6) {s0 : Int32} (h_s0 : zr (0) (1) s0) : zok (fX12_drum_100 σ x1 x2 x3 x6 s0) (zPi σ (fun v : Int32 => True)) := by
  unfold fX12_drum_100
  refine zok_if (fun q1 => ?_) (fun q1 => ?_)
  · have h2 := zc_eql (7) (7) q1 h_x1 (zr_c (lo := 7) (hi := 7) (by decide)) (by decide)
    refine zok_if (fun q3 => ?_) (fun q3 => ?_)
    · have h4 := zc_eql (0) (0) q3 h_x2 (zr_c (lo := 0) (hi := 0) (by decide)) (by decide)
      refine zok_if (fun q5 => ?_) (fun q5 => ?_)
      · have h6 := zc_eql (0) (0) q5 h_x6 (zr_c (lo := 0) (hi := 0) (by decide)) (by decide)
        refine zok_if (fun q7 => ?_) (fun q7 => ?_)
        · have h8 := zc_eql (0) (0) q7 h_s0 (zr_c (lo := 0) (hi := 0) (by decide)) (by decide)
          exact (s_X12_drum_147 hσ (zr_w (zr_c (lo := 208) (hi := 208) (by decide)) (by decide)))
        have h9 := zc_nel (1) (1) q7 h_s0 (zr_c (lo := 0) (hi := 0) (by decide)) (by decide)
        exact (s_X12_drum_147 hσ (zr_w (zr_c (lo := 52) (hi := 52) (by decide)) (by decide)))
      have h10 := zc_nel (1) (1) q5 h_x6 (zr_c (lo := 0) (hi := 0) (by decide)) (by decide)
      refine zok_if (fun q11 => ?_) (fun q11 => ?_)
      · have h12 := zc_eql (0) (0) q11 h_s0 (zr_c (lo := 0) (hi := 0) (by decide)) (by decide)
        exact (s_X12_drum_147 hσ (zr_w (zr_c (lo := 564) (hi := 564) (by decide)) (by decide)))
      have h13 := zc_nel (1) (1) q11 h_s0 (zr_c (lo := 0) (hi := 0) (by decide)) (by decide)
      exact (s_X12_drum_147 hσ (zr_w (zr_c (lo := 720) (hi := 720) (by decide)) (by decide)))
    have h14 := zc_nel (1) (1) q3 h_x2 (zr_c (lo := 0) (hi := 0) (by decide)) (by decide)
    exact (s_X12_drum_148 hσ (zr_w h2 (by decide)) (zr_w h14 (by decide)) h_x6 h_s0)
  have h15 := zc_nel (8) (8) q1 h_x1 (zr_c (lo := 7) (hi := 7) (by decide)) (by decide)
  exact (s_X12_drum_148 hσ (zr_w h15 (by decide)) h_x2 h_x6 h_s0)
theorem s_X12_drum_79 {σ : zSt} (hσ : zPM σ) {x1 : Int32} (h_x1 : zr (7) (8) x1) {x2 : Int32} (h_x2 : zr (0) (1) x2) {x3 : Int32} {s0 : Int32} (h_s0 : zr (0) (1) s0) : zok (fX12_drum_79 σ x1 x2 x3 s0) (zPi σ (fun v : Int32 => True)) := by
  unfold fX12_drum_79
  refine zok_ck rfl ?_
  refine zok_if (fun q1 => ?_) (fun q1 => ?_)
  · have h2 := zc_eql (1) (1) q1 (zr_andr (lo := 0) (hi := 1) (zr_c (lo := 1) (hi := 1) (by decide)) (by decide)) (zr_c (lo := 1) (hi := 1) (by decide)) (by decide)
    exact (s_X12_drum_100 hσ h_x1 h_x2 h_s0 (zr_w (zr_c (lo := 1) (hi := 1) (by decide)) (by decide)))
  have h3 := zc_nel (0) (0) q1 (zr_andr (lo := 0) (hi := 1) (zr_c (lo := 1) (hi := 1) (by decide)) (by decide)) (zr_c (lo := 1) (hi := 1) (by decide)) (by decide)
  exact (s_X12_drum_100 hσ h_x1 h_x2 h_s0 (zr_w (zr_c (lo := 0) (hi := 0) (by decide)) (by decide)))
theorem s_X12_drum_74 {σ : zSt} (hσ : zPM σ) {x1 : Int32} (h_x1 : zr (7) (8) x1) {x2 : Int32} (h_x2 : zr (0) (1) x2) {x3 : Int32} : zok (fX12_drum_74 σ x1 x2 x3) (zPi σ (fun v : Int32 => True)) := by
  unfold fX12_drum_74
  exact (s_X12_drum_79 hσ h_x1 h_x2 (zr_w (zr_c (lo := 1) (hi := 1) (by decide)) (by decide)))
theorem s_X12_drum {σ : zSt} (hσ : zPM σ) {x1 : Int32} (h_x1 : zr (7) (8) x1) {x2 : Int32} (h_x2 : zr (0) (1) x2) {x3 : Int32} : zok (fX12_drum σ x1 x2 x3) (zPi σ (fun v : Int32 => True)) := by
  unfold fX12_drum
  refine zok_ck rfl ?_
  refine zok_ck (by decide) ?_
  refine zok_bv (fun v1 e2 => ?_)
  refine zok_ck rfl ?_
  refine zok_ck (by decide) ?_
  refine zok_bv (fun v2 e4 => ?_)
  refine zok_if (fun q5 => ?_) (fun q5 => ?_)
  · refine zok_if (fun q6 => ?_) (fun q6 => ?_)
    · refine zok_if (fun q7 => ?_) (fun q7 => ?_)
      · exact (s_X12_drum_79 hσ h_x1 h_x2 (zr_w (zr_c (lo := 0) (hi := 0) (by decide)) (by decide)))
      exact (s_X12_drum_74 hσ h_x1 h_x2)
    exact (s_X12_drum_74 hσ h_x1 h_x2)
  exact (s_X12_drum_74 hσ h_x1 h_x2)
theorem s_X12_kept_97 {σ : zSt} (hσ : zPM σ) {s0 : Int32} (h_s0 : zr (0) (112) s0) : zok (fX12_kept_97 σ s0) (zPi σ (fun v : Int32 => zr (0) (112) v)) := by
  unfold fX12_kept_97
  exact zok_spi h_s0
theorem s_X12_kept {σ : zSt} (hσ : zPM σ) {x0 : Int32} (h_x0 : zr (0) (15) x0) : zok (fX12_kept σ x0) (zPi σ (fun v : Int32 => zr (0) (112) v)) := by
  unfold fX12_kept
  refine zok_if (fun q1 => ?_) (fun q1 => ?_)
  · have h2 := zc_eql (0) (0) q1 h_x0 (zr_c (lo := 0) (hi := 0) (by decide)) (by decide)
    exact (s_X12_kept_97 hσ (zr_w (zr_c (lo := 0) (hi := 0) (by decide)) (by decide)))
  have h3 := zc_nel (1) (15) q1 h_x0 (zr_c (lo := 0) (hi := 0) (by decide)) (by decide)
  refine zok_if (fun q4 => ?_) (fun q4 => ?_)
  · have h5 := zc_eql (1) (1) q4 h3 (zr_c (lo := 1) (hi := 1) (by decide)) (by decide)
    exact (s_X12_kept_97 hσ (zr_w (zr_c (lo := 48) (hi := 48) (by decide)) (by decide)))
  have h6 := zc_nel (2) (15) q4 h3 (zr_c (lo := 1) (hi := 1) (by decide)) (by decide)
  refine zok_if (fun q7 => ?_) (fun q7 => ?_)
  · have h8 := zc_eql (2) (2) q7 h6 (zr_c (lo := 2) (hi := 2) (by decide)) (by decide)
    exact (s_X12_kept_97 hσ (zr_w (zr_c (lo := 64) (hi := 64) (by decide)) (by decide)))
  have h9 := zc_nel (3) (15) q7 h6 (zr_c (lo := 2) (hi := 2) (by decide)) (by decide)
  refine zok_if (fun q10 => ?_) (fun q10 => ?_)
  · have h11 := zc_eql (3) (3) q10 h9 (zr_c (lo := 3) (hi := 3) (by decide)) (by decide)
    exact (s_X12_kept_97 hσ (zr_w (zr_c (lo := 74) (hi := 74) (by decide)) (by decide)))
  have h12 := zc_nel (4) (15) q10 h9 (zr_c (lo := 3) (hi := 3) (by decide)) (by decide)
  refine zok_if (fun q13 => ?_) (fun q13 => ?_)
  · have h14 := zc_eql (4) (4) q13 h12 (zr_c (lo := 4) (hi := 4) (by decide)) (by decide)
    exact (s_X12_kept_97 hσ (zr_w (zr_c (lo := 80) (hi := 80) (by decide)) (by decide)))
  have h15 := zc_nel (5) (15) q13 h12 (zr_c (lo := 4) (hi := 4) (by decide)) (by decide)
  refine zok_if (fun q16 => ?_) (fun q16 => ?_)
  · have h17 := zc_eql (5) (5) q16 h15 (zr_c (lo := 5) (hi := 5) (by decide)) (by decide)
    exact (s_X12_kept_97 hσ (zr_w (zr_c (lo := 86) (hi := 86) (by decide)) (by decide)))
  have h18 := zc_nel (6) (15) q16 h15 (zr_c (lo := 5) (hi := 5) (by decide)) (by decide)
  refine zok_if (fun q19 => ?_) (fun q19 => ?_)
  · have h20 := zc_eql (6) (6) q19 h18 (zr_c (lo := 6) (hi := 6) (by decide)) (by decide)
    exact (s_X12_kept_97 hσ (zr_w (zr_c (lo := 90) (hi := 90) (by decide)) (by decide)))
  have h21 := zc_nel (7) (15) q19 h18 (zr_c (lo := 6) (hi := 6) (by decide)) (by decide)
  refine zok_if (fun q22 => ?_) (fun q22 => ?_)
  · have h23 := zc_eql (7) (7) q22 h21 (zr_c (lo := 7) (hi := 7) (by decide)) (by decide)
    exact (s_X12_kept_97 hσ (zr_w (zr_c (lo := 94) (hi := 94) (by decide)) (by decide)))
  have h24 := zc_nel (8) (15) q22 h21 (zr_c (lo := 7) (hi := 7) (by decide)) (by decide)
  refine zok_if (fun q25 => ?_) (fun q25 => ?_)
  · have h26 := zc_eql (8) (8) q25 h24 (zr_c (lo := 8) (hi := 8) (by decide)) (by decide)
    exact (s_X12_kept_97 hσ (zr_w (zr_c (lo := 96) (hi := 96) (by decide)) (by decide)))
  have h27 := zc_nel (9) (15) q25 h24 (zr_c (lo := 8) (hi := 8) (by decide)) (by decide)
  exact (s_X12_kept_97 hσ (zr_w (zr_add (lo := 100) (hi := 112) (zr_c (lo := 82) (hi := 82) (by decide)) (zr_mul (lo := 18) (hi := 30) (zr_c (lo := 2) (hi := 2) (by decide)) h27 (by decide)) (by decide)) (by decide)))
theorem s_X12_waveAt_376 {σ : zSt} (hσ : zPM σ) {s0 : Int32} : zok (fX12_waveAt_376 σ s0) (zPi σ (fun v : Int32 => True)) := by
  unfold fX12_waveAt_376
  exact zok_spi trivial
theorem s_X12_waveAt_296 {σ : zSt} (hσ : zPM σ) {x2 : Int32} (h_x2 : zr (0) (8) x2) {x3 : Int32} (h_x3 : zr (0) (1) x3) {x4 : Int32} (h_x4 : zr (0) (1023) x4) {x5 : Int32} (h_x5 : zr (0) (255) x5) {s0 : Int32} (h_s0 : zr (0) (127) s0) : zok (fX12_waveAt_296 σ x2 x3 x4 x5 s0) (zPi σ (fun v : Int32 => True)) := by
  unfold fX12_waveAt_296
  refine zok_ck (zin_ok h_x5 (by decide)) ?_
  refine zok_br (zr_add (lo := 0) (hi := 4169) (zt11_r _) (zr_mul (lo := 0) (hi := 2032) (zr_c (lo := 16) (hi := 16) (by decide)) h_s0 (by decide)) (by decide)) (fun v1 e2 h1 => ?_)
  refine zok_ck (by decide) ?_
  refine zok_ck (zin_ok (zr_sub (lo := 0) (hi := 255) (zr_c (lo := 255) (hi := 255) (by decide)) (zr_rem (lo := 0) (hi := 255) 256 (by decide) h1 (by decide)) (by decide)) (by decide)) ?_
  refine zok_ck (by decide) ?_
  refine zok_bv (fun v2 e4 => ?_)
  refine zok_if (fun q5 => ?_) (fun q5 => ?_)
  · have h6 := zc_eql (0) (0) q5 (zr_andr (lo := 0) (hi := 512) (zr_c (lo := 512) (hi := 512) (by decide)) (by decide)) (zr_c (lo := 0) (hi := 0) (by decide)) (by decide)
    exact zok_spi trivial
  have h7 := zc_nel (1) (512) q5 (zr_andr (lo := 0) (hi := 512) (zr_c (lo := 512) (hi := 512) (by decide)) (by decide)) (zr_c (lo := 0) (hi := 0) (by decide)) (by decide)
  refine zok_pi (s_X12_patchByte hσ h_x2 (zr_w (zr_c (lo := 3) (hi := 3) (by decide)) (by decide))) (fun v4 h8 => ?_)
  refine zok_if (fun q9 => ?_) (fun q9 => ?_)
  · have h10 := zc_eql (1) (1) q9 (zr_andr (lo := 0) (hi := 1) (zr_c (lo := 1) (hi := 1) (by decide)) (by decide)) (zr_c (lo := 1) (hi := 1) (by decide)) (by decide)
    exact (s_X12_waveAt_376 hσ)
  have h11 := zc_nel (0) (0) q9 (zr_andr (lo := 0) (hi := 1) (zr_c (lo := 1) (hi := 1) (by decide)) (by decide)) (zr_c (lo := 1) (hi := 1) (by decide)) (by decide)
  exact (s_X12_waveAt_376 hσ)
theorem s_X12_waveAt_263 {σ : zSt} (hσ : zPM σ) {x1 : Int32} (h_x1 : zr (172) (274) x1) {x2 : Int32} (h_x2 : zr (0) (8) x2) {x3 : Int32} (h_x3 : zr (0) (1) x3) {x4 : Int32} (h_x4 : zr (0) (1023) x4) {x5 : Int32} (h_x5 : zr (0) (255) x5) {x8 : Int32} (h_x8 : zr (0) (112) x8) {x11 : Int32} (h_x11 : zr (0) (126) x11) {s0 : Int32} (h_s0 : zr (0) (13) s0) (t_x1 : zat 0 x1) (c_4_4 : zrl (0) (1152921504606846976) (zgl σ 4 4)) : zok (fX12_waveAt_263 σ x1 x2 x3 x4 x5 x8 x11 s0) (zPi σ (fun v : Int32 => True)) := by
  unfold fX12_waveAt_263
  refine zok_ck (zin_ok h_x1 (by decide)) ?_
  refine zok_br (zr_add (lo := 0) (hi := 378) (zr_add (lo := 0) (hi := 365) (zr_add (lo := 0) (hi := 239) (rM_lv hσ.Y t_x1) h_x8 (by decide)) h_x11 (by decide)) h_s0 (by decide)) (fun v5 e2 h1 => ?_)
  refine zok_if (fun q3 => ?_) (fun q3 => ?_)
  · have h4 := zc_lel (127) q3 h1 (zr_c (lo := 127) (hi := 127) (by decide)) (by decide)
    exact (s_X12_waveAt_296 hσ h_x2 h_x3 h_x4 h_x5 h4)
  have h5 := zc_ltr (128) (z_nle q3) (zr_c (lo := 127) (hi := 127) (by decide)) h1 (by decide)
  exact (s_X12_waveAt_296 hσ h_x2 h_x3 h_x4 h_x5 (zr_w (zr_c (lo := 127) (hi := 127) (by decide)) (by decide)))
theorem s_X12_waveAt_260 {σ : zSt} (hσ : zPM σ) {x1 : Int32} (h_x1 : zr (172) (274) x1) {x2 : Int32} (h_x2 : zr (0) (8) x2) {x3 : Int32} (h_x3 : zr (0) (1) x3) {x4 : Int32} (h_x4 : zr (0) (1023) x4) {x5 : Int32} (h_x5 : zr (0) (255) x5) {x8 : Int32} (h_x8 : zr (0) (112) x8) {x11 : Int32} (h_x11 : zr (0) (126) x11) {s0 : Int32} (h_s0 : zr (0) (105) s0) (t_x1 : zat 0 x1) (c_4_4 : zrl (0) (1152921504606846976) (zgl σ 4 4)) : zok (fX12_waveAt_260 σ x1 x2 x3 x4 x5 x8 x11 s0) (zPi σ (fun v : Int32 => True)) := by
  unfold fX12_waveAt_260
  refine zok_ck (by decide) ?_
  exact (s_X12_waveAt_263 hσ h_x1 h_x2 h_x3 h_x4 h_x5 h_x8 h_x11 (zr_div (lo := 0) (hi := 13) 8 (by decide) h_s0 (by decide)) t_x1 c_4_4)
theorem s_X12_waveAt_206 {σ : zSt} (hσ : zPM σ) {x1 : Int32} (h_x1 : zr (172) (274) x1) {x2 : Int32} (h_x2 : zr (0) (8) x2) {x3 : Int32} (h_x3 : zr (0) (1) x3) {x4 : Int32} (h_x4 : zr (0) (1023) x4) {x5 : Int32} (h_x5 : zr (0) (255) x5) {x8 : Int32} (h_x8 : zr (0) (112) x8) {s0 : Int32} (h_s0 : zr (0) (126) s0) (t_x1 : zat 0 x1) (c_4_4 : zrl (0) (1152921504606846976) (zgl σ 4 4)) : zok (fX12_waveAt_206 σ x1 x2 x3 x4 x5 x8 s0) (zPi σ (fun v : Int32 => True)) := by
  unfold fX12_waveAt_206
  refine zok_ck rfl ?_
  refine zok_ck (by decide) ?_
  refine zok_ck (by decide) ?_
  refine zok_br (zr_l (lo := 0) (hi := 209) (zrl_rem (lo := 0) (hi := 209) 210 (by decide) (zrl_div (lo := 0) (hi := 18014398509481984) 64 (by decide) c_4_4 (by decide)) (by decide)) (by decide)) (fun v6 e2 h1 => ?_)
  refine zok_pi (s_X12_patchByte hσ h_x2 (zr_w h_x3 (by decide))) (fun v8 h3 => ?_)
  refine zok_if (fun q4 => ?_) (fun q4 => ?_)
  · have h5 := zc_eql (0) (0) q4 (zr_andr (lo := 0) (hi := 128) (zr_c (lo := 128) (hi := 128) (by decide)) (by decide)) (zr_c (lo := 0) (hi := 0) (by decide)) (by decide)
    exact (s_X12_waveAt_263 hσ h_x1 h_x2 h_x3 h_x4 h_x5 h_x8 h_s0 (zr_w (zr_c (lo := 0) (hi := 0) (by decide)) (by decide)) t_x1 c_4_4)
  have h6 := zc_nel (1) (128) q4 (zr_andr (lo := 0) (hi := 128) (zr_c (lo := 128) (hi := 128) (by decide)) (by decide)) (zr_c (lo := 0) (hi := 0) (by decide)) (by decide)
  refine zok_if (fun q7 => ?_) (fun q7 => ?_)
  · have h8 := zc_ler (105) q7 (zr_c (lo := 105) (hi := 105) (by decide)) h1 (by decide)
    exact (s_X12_waveAt_260 hσ h_x1 h_x2 h_x3 h_x4 h_x5 h_x8 h_s0 (zr_w (zr_sub (lo := 1) (hi := 105) (zr_c (lo := 210) (hi := 210) (by decide)) h8 (by decide)) (by decide)) t_x1 c_4_4)
  have h9 := zc_ltl (104) (z_nle q7) h1 (zr_c (lo := 105) (hi := 105) (by decide)) (by decide)
  exact (s_X12_waveAt_260 hσ h_x1 h_x2 h_x3 h_x4 h_x5 h_x8 h_s0 (zr_w h9 (by decide)) t_x1 c_4_4)
theorem s_X12_waveAt_192 {σ : zSt} (hσ : zPM σ) {x1 : Int32} (h_x1 : zr (172) (274) x1) {x2 : Int32} (h_x2 : zr (0) (8) x2) {x3 : Int32} (h_x3 : zr (0) (0) x3) {x4 : Int32} (h_x4 : zr (0) (1023) x4) {x5 : Int32} (h_x5 : zr (0) (255) x5) {x8 : Int32} (h_x8 : zr (0) (112) x8) {x9 : Int32} (h_x9 : zr (0) (63) x9) (t_x1 : zat 0 x1) (c_4_4 : zrl (0) (1152921504606846976) (zgl σ 4 4)) : zok (fX12_waveAt_192 σ x1 x2 x3 x4 x5 x8 x9) (zPi σ (fun v : Int32 => True)) := by
  unfold fX12_waveAt_192
  refine zok_ck (by decide) ?_
  refine zok_ck (by decide) ?_
  exact (s_X12_waveAt_206 hσ h_x1 h_x2 (zr_w h_x3 (by decide)) h_x4 h_x5 h_x8 (zr_add (lo := 0) (hi := 126) (zr_mul (lo := 0) (hi := 120) (zr_c (lo := 8) (hi := 8) (by decide)) (zr_div (lo := 0) (hi := 15) 4 (by decide) h_x9 (by decide)) (by decide)) (zr_mul (lo := 0) (hi := 6) (zr_c (lo := 2) (hi := 2) (by decide)) (zr_rem (lo := 0) (hi := 3) 4 (by decide) h_x9 (by decide)) (by decide)) (by decide)) t_x1 c_4_4)
theorem s_X12_waveAt_123 {σ : zSt} (hσ : zPM σ) {x1 : Int32} (h_x1 : zr (172) (274) x1) {x2 : Int32} (h_x2 : zr (0) (8) x2) {x3 : Int32} (h_x3 : zr (0) (1) x3) {x4 : Int32} (h_x4 : zr (0) (1023) x4) {x5 : Int32} (h_x5 : zr (0) (255) x5) {s0 : Int32} (h_s0 : zr (0) (112) s0) (t_x1 : zat 0 x1) (c_4_4 : zrl (0) (1152921504606846976) (zgl σ 4 4)) : zok (fX12_waveAt_123 σ x1 x2 x3 x4 x5 s0) (zPi σ (fun v : Int32 => True)) := by
  unfold fX12_waveAt_123
  refine zok_pi (s_X12_patchByte hσ h_x2 (zr_w (zr_c (lo := 2) (hi := 2) (by decide)) (by decide))) (fun v10 h1 => ?_)
  refine zok_br (zr_andr (lo := 0) (hi := 63) (zr_c (lo := 63) (hi := 63) (by decide)) (by decide)) (fun v11 e3 h2 => ?_)
  refine zok_pi (s_X12_wreg hσ (zr_w (zr_add (lo := 48) (hi := 56) (zr_c (lo := 48) (hi := 48) (by decide)) h_x2 (by decide)) (by decide))) (fun v13 h4 => ?_)
  refine zok_br (zr_andr (lo := 0) (hi := 15) (zr_c (lo := 15) (hi := 15) (by decide)) (by decide)) (fun v14 e6 h5 => ?_)
  refine zok_if (fun q7 => ?_) (fun q7 => ?_)
  · have h8 := zc_eql (1) (1) q7 h_x3 (zr_c (lo := 1) (hi := 1) (by decide)) (by decide)
    exact (s_X12_waveAt_206 hσ h_x1 h_x2 (zr_w h8 (by decide)) h_x4 h_x5 h_s0 (zr_w (zr_mul (lo := 0) (hi := 120) (zr_c (lo := 8) (hi := 8) (by decide)) h5 (by decide)) (by decide)) t_x1 c_4_4)
  have h9 := zc_nel (0) (0) q7 h_x3 (zr_c (lo := 1) (hi := 1) (by decide)) (by decide)
  refine zok_pi (s_X12_isRhythm hσ h_x2) (fun v16 h10 => ?_)
  refine zok_if (fun q11 => ?_) (fun q11 => ?_)
  · have h12 := zc_eql (0) (0) q11 h10 (zr_c (lo := 0) (hi := 0) (by decide)) (by decide)
    exact (s_X12_waveAt_192 hσ h_x1 h_x2 h9 h_x4 h_x5 h_s0 h2 t_x1 c_4_4)
  have h13 := zc_nel (1) (1) q11 h10 (zr_c (lo := 0) (hi := 0) (by decide)) (by decide)
  refine zok_if (fun q14 => ?_) (fun q14 => ?_)
  · have h15 := zc_lel (6) q14 h_x2 (zr_c (lo := 6) (hi := 6) (by decide)) (by decide)
    exact (s_X12_waveAt_192 hσ h_x1 (zr_w h15 (by decide)) h9 h_x4 h_x5 h_s0 h2 t_x1 c_4_4)
  have h16 := zc_ltr (7) (z_nle q14) (zr_c (lo := 6) (hi := 6) (by decide)) h_x2 (by decide)
  refine zok_pi (s_X12_wreg hσ (zr_w (zr_add (lo := 55) (hi := 56) (zr_c (lo := 48) (hi := 48) (by decide)) h16 (by decide)) (by decide))) (fun v18 h17 => ?_)
  exact (s_X12_waveAt_206 hσ h_x1 (zr_w h16 (by decide)) (zr_w h9 (by decide)) h_x4 h_x5 h_s0 (zr_w (zr_mul (lo := 0) (hi := 120) (zr_c (lo := 8) (hi := 8) (by decide)) (zr_shr (lo := 0) (hi := 15) 4 (by decide) h17 (by decide)) (by decide)) (by decide)) t_x1 c_4_4)
theorem s_X12_waveAt_91 {σ : zSt} (hσ : zPM σ) {x1 : Int32} (h_x1 : zr (172) (274) x1) {x2 : Int32} (h_x2 : zr (0) (8) x2) {x3 : Int32} (h_x3 : zr (0) (1) x3) {x4 : Int32} (h_x4 : zr (0) (1023) x4) {x5 : Int32} (h_x5 : zr (0) (255) x5) (t_x1 : zat 0 x1) (c_4_4 : zrl (0) (1152921504606846976) (zgl σ 4 4)) : zok (fX12_waveAt_91 σ x1 x2 x3 x4 x5) (zPi σ (fun v : Int32 => True)) := by
  unfold fX12_waveAt_91
  exact (s_X12_waveAt_123 hσ h_x1 h_x2 h_x3 h_x4 h_x5 (zr_w (zr_c (lo := 0) (hi := 0) (by decide)) (by decide)) t_x1 c_4_4)
theorem s_X12_waveAt_41 {σ : zSt} (hσ : zPM σ) {x1 : Int32} (h_x1 : zr (172) (274) x1) {x2 : Int32} (h_x2 : zr (0) (8) x2) {x3 : Int32} (h_x3 : zr (0) (1) x3) {x4 : Int32} (h_x4 : zr (0) (1023) x4) {s0 : Int32} (h_s0 : zr (0) (255) s0) (t_x1 : zat 0 x1) (c_4_4 : zrl (0) (1152921504606846976) (zgl σ 4 4)) : zok (fX12_waveAt_41 σ x1 x2 x3 x4 s0) (zPi σ (fun v : Int32 => True)) := by
  unfold fX12_waveAt_41
  refine zok_pi (s_X12_patchByte hσ h_x2 (zr_w (zr_add (lo := 2) (hi := 3) (zr_c (lo := 2) (hi := 2) (by decide)) h_x3 (by decide)) (by decide))) (fun v20 h1 => ?_)
  refine zok_br (zr_shr (lo := 0) (hi := 12) 6 (by decide) h1 (by decide)) (fun v21 e3 h2 => ?_)
  refine zok_pi (s_X12_f hσ h_x2) (fun v23 h4 => ?_)
  refine zok_ck (by decide) ?_
  refine zok_pi (s_X12_kept hσ (zr_div (lo := 0) (hi := 15) 32 (by decide) h4 (by decide))) (fun v25 h5 => ?_)
  refine zok_pi (s_X12_block hσ h_x2) (fun v27 h6 => ?_)
  refine zok_br (zr_sub (lo := -112) (hi := 112) h5 (zr_mul (lo := 0) (hi := 112) (zr_c (lo := 16) (hi := 16) (by decide)) (zr_sub (lo := 0) (hi := 7) (zr_c (lo := 7) (hi := 7) (by decide)) h6 (by decide)) (by decide)) (by decide)) (fun v28 e8 h7 => ?_)
  refine zok_if (fun q9 => ?_) (fun q9 => ?_)
  · have h10 := zc_ltl (-1) q9 h7 (zr_c (lo := 0) (hi := 0) (by decide)) (by decide)
    exact (s_X12_waveAt_91 hσ h_x1 h_x2 h_x3 h_x4 h_s0 t_x1 c_4_4)
  have h11 := zc_ler (0) (z_nlt q9) (zr_c (lo := 0) (hi := 0) (by decide)) h7 (by decide)
  refine zok_if (fun q12 => ?_) (fun q12 => ?_)
  · have h13 := zc_eql (0) (0) q12 h2 (zr_c (lo := 0) (hi := 0) (by decide)) (by decide)
    exact (s_X12_waveAt_91 hσ h_x1 h_x2 h_x3 h_x4 h_s0 t_x1 c_4_4)
  have h14 := zc_nel (1) (12) q12 h2 (zr_c (lo := 0) (hi := 0) (by decide)) (by decide)
  refine zok_if (fun q15 => ?_) (fun q15 => ?_)
  · have h16 := zc_eql (1) (1) q15 h14 (zr_c (lo := 1) (hi := 1) (by decide)) (by decide)
    refine zok_ck (by decide) ?_
    exact (s_X12_waveAt_123 hσ h_x1 h_x2 h_x3 h_x4 h_s0 (zr_w (zr_div (lo := 0) (hi := 28) 4 (by decide) h11 (by decide)) (by decide)) t_x1 c_4_4)
  have h17 := zc_nel (2) (12) q15 h14 (zr_c (lo := 1) (hi := 1) (by decide)) (by decide)
  refine zok_if (fun q18 => ?_) (fun q18 => ?_)
  · have h19 := zc_eql (2) (2) q18 h17 (zr_c (lo := 2) (hi := 2) (by decide)) (by decide)
    refine zok_ck (by decide) ?_
    exact (s_X12_waveAt_123 hσ h_x1 h_x2 h_x3 h_x4 h_s0 (zr_w (zr_div (lo := 0) (hi := 56) 2 (by decide) h11 (by decide)) (by decide)) t_x1 c_4_4)
  have h20 := zc_nel (3) (12) q18 h17 (zr_c (lo := 2) (hi := 2) (by decide)) (by decide)
  exact (s_X12_waveAt_123 hσ h_x1 h_x2 h_x3 h_x4 h_s0 h11 t_x1 c_4_4)
theorem s_X12_waveAt {σ : zSt} (hσ : zPM σ) {x1 : Int32} (h_x1 : zr (172) (274) x1) {x2 : Int32} (h_x2 : zr (0) (8) x2) {x3 : Int32} (h_x3 : zr (0) (1) x3) {x4 : Int32} (h_x4 : zr (0) (1023) x4) (t_x1 : zat 0 x1) (c_4_4 : zrl (0) (1152921504606846976) (zgl σ 4 4)) : zok (fX12_waveAt σ x1 x2 x3 x4) (zPi σ (fun v : Int32 => True)) := by
  unfold fX12_waveAt
  refine zok_ck (zin_ok h_x1 (by decide)) ?_
  refine zok_if (fun q1 => ?_) (fun q1 => ?_)
  · have h2 := zc_ltl (123) q1 (rM_lv hσ.Y t_x1) (zr_c (lo := 124) (hi := 124) (by decide)) (by decide)
    refine zok_if (fun q3 => ?_) (fun q3 => ?_)
    · have h4 := zc_eql (0) (0) q3 (zr_andr (lo := 0) (hi := 256) (zr_c (lo := 256) (hi := 256) (by decide)) (by decide)) (zr_c (lo := 0) (hi := 0) (by decide)) (by decide)
      refine zok_ck (by decide) ?_
      exact (s_X12_waveAt_41 hσ h_x1 h_x2 h_x3 h_x4 (zr_rem (lo := 0) (hi := 255) 256 (by decide) h_x4 (by decide)) t_x1 c_4_4)
    have h5 := zc_nel (1) (256) q3 (zr_andr (lo := 0) (hi := 256) (zr_c (lo := 256) (hi := 256) (by decide)) (by decide)) (zr_c (lo := 0) (hi := 0) (by decide)) (by decide)
    refine zok_ck (by decide) ?_
    exact (s_X12_waveAt_41 hσ h_x1 h_x2 h_x3 h_x4 (zr_sub (lo := 0) (hi := 255) (zr_c (lo := 255) (hi := 255) (by decide)) (zr_rem (lo := 0) (hi := 255) 256 (by decide) h_x4 (by decide)) (by decide)) t_x1 c_4_4)
  have h6 := zc_ler (124) (z_nlt q1) (zr_c (lo := 124) (hi := 124) (by decide)) (rM_lv hσ.Y t_x1) (by decide)
  exact zok_spi trivial
theorem s_X12_operator_319 {G : Nat → Int} {σ : zSt} (hσ : zIM G σ) {x1 : Int32} (h_x1 : zr (0) (8) x1) {x2 : Int32} (h_x2 : zr (0) (1) x2) {x3 : Int32} (h_x3 : zr (172) (274) x3) {x5 : Int32} {x8 : Int32} (t_x3 : zat 0 x3) (g4 : 0 ≤ G 104 ∧ G 104 ≤ 1152921504606846976) : zok (fX12_operator_319 σ x1 x2 x3 x5 x8) (zIM G) := by
  unfold fX12_operator_319
  refine zok_ck (zin_ok (zr_add (lo := 176) (hi := 278) h_x3 (zr_c (lo := 4) (hi := 4) (by decide)) (by decide)) (by decide)) ?_
  refine zok_bs (hσ.op (zat_add t_x3 (c1 := 4) 4 (by decide) (by decide)) (by decide)) (fun σ1 e2 i1 => ?_)
  refine zok_pi (s_X12_waveAt i1.P h_x3 h_x1 h_x2 (zr_andr (lo := 0) (hi := 1023) (zr_c (lo := 1023) (hi := 1023) (by decide)) (by decide)) t_x3 (rM_g4 i1 g4)) (fun v3 h3 => ?_)
  refine zok_ck (zin_ok (zr_add (lo := 175) (hi := 277) h_x3 (zr_c (lo := 3) (hi := 3) (by decide)) (by decide)) (by decide)) ?_
  refine zok_bs (i1.op (zat_add t_x3 (c1 := 3) 3 (by decide) (by decide)) (by decide)) (fun σ4 e5 i4 => ?_)
  exact zok_some i4
theorem s_X12_operator_266 {G : Nat → Int} {σ : zSt} (hσ : zIM G σ) {x1 : Int32} (h_x1 : zr (0) (8) x1) {x2 : Int32} (h_x2 : zr (0) (1) x2) {x3 : Int32} (h_x3 : zr (172) (274) x3) {x5 : Int32} {s0 : Int32} (t_x3 : zat 0 x3) (g4 : 0 ≤ G 104 ∧ G 104 ≤ 1152921504606846976) : zok (fX12_operator_266 σ x1 x2 x3 x5 s0) (zIM G) := by
  unfold fX12_operator_266
  refine zok_ck (zin_ok (zr_add (lo := 174) (hi := 276) h_x3 (zr_c (lo := 2) (hi := 2) (by decide)) (by decide)) (by decide)) ?_
  refine zok_ck (by decide) ?_
  refine zok_bv (fun v5 e2 => ?_)
  refine zok_pi (s_X12_isRhythm hσ.P h_x1) (fun v7 h3 => ?_)
  refine zok_if (fun q4 => ?_) (fun q4 => ?_)
  · have h5 := zc_eql (0) (0) q4 h3 (zr_c (lo := 0) (hi := 0) (by decide)) (by decide)
    exact (s_X12_operator_319 hσ h_x1 h_x2 h_x3 t_x3 g4)
  have h6 := zc_nel (1) (1) q4 h3 (zr_c (lo := 0) (hi := 0) (by decide)) (by decide)
  refine zok_if (fun q7 => ?_) (fun q7 => ?_)
  · have h8 := zc_lel (6) q7 h_x1 (zr_c (lo := 6) (hi := 6) (by decide)) (by decide)
    exact (s_X12_operator_319 hσ (zr_w h8 (by decide)) h_x2 h_x3 t_x3 g4)
  have h9 := zc_ltr (7) (z_nle q7) (zr_c (lo := 6) (hi := 6) (by decide)) h_x1 (by decide)
  refine zok_ck (zin_ok (zr_add (lo := 174) (hi := 276) h_x3 (zr_c (lo := 2) (hi := 2) (by decide)) (by decide)) (by decide)) ?_
  refine zok_ck (by decide) ?_
  refine zok_pi (s_X12_drum hσ.P h9 h_x2) (fun v9 h10 => ?_)
  exact (s_X12_operator_319 hσ (zr_w h9 (by decide)) h_x2 h_x3 t_x3 g4)
theorem s_X12_operator_190 {G : Nat → Int} {σ : zSt} (hσ : zIM G σ) {x1 : Int32} (h_x1 : zr (0) (8) x1) {x2 : Int32} (h_x2 : zr (0) (1) x2) {x3 : Int32} (h_x3 : zr (172) (274) x3) (t_x3 : zat 0 x3) (g4 : 0 ≤ G 104 ∧ G 104 ≤ 1152921504606846976) : zok (fX12_operator_190 σ x1 x2 x3) (zIM G) := by
  unfold fX12_operator_190
  refine zok_bu (s_X12_phase hσ h_x3 h_x1 h_x2 t_x3) (fun σ10 i1 => ?_)
  refine zok_ck (zin_ok (zr_add (lo := 175) (hi := 277) h_x3 (zr_c (lo := 3) (hi := 3) (by decide)) (by decide)) (by decide)) ?_
  refine zok_bv (fun v11 e3 => ?_)
  refine zok_pi (s_X12_patchByte i1.P h_x1 (zr_w (zr_c (lo := 3) (hi := 3) (by decide)) (by decide))) (fun v13 h4 => ?_)
  refine zok_br (zr_andr (lo := 0) (hi := 7) (zr_c (lo := 7) (hi := 7) (by decide)) (by decide)) (fun v14 e6 h5 => ?_)
  refine zok_if (fun q7 => ?_) (fun q7 => ?_)
  · have h8 := zc_eql (1) (1) q7 h_x2 (zr_c (lo := 1) (hi := 1) (by decide)) (by decide)
    refine zok_ck (zin_ok (zr_sub (lo := 169) (hi := 271) h_x3 (zr_c (lo := 3) (hi := 3) (by decide)) (by decide)) (by decide)) ?_
    exact (s_X12_operator_266 i1 h_x1 (zr_w h8 (by decide)) h_x3 t_x3 g4)
  have h9 := zc_nel (0) (0) q7 h_x2 (zr_c (lo := 1) (hi := 1) (by decide)) (by decide)
  refine zok_if (fun q10 => ?_) (fun q10 => ?_)
  · have h11 := zc_eql (0) (0) q10 h5 (zr_c (lo := 0) (hi := 0) (by decide)) (by decide)
    exact (s_X12_operator_266 i1 h_x1 (zr_w h9 (by decide)) h_x3 t_x3 g4)
  have h12 := zc_nel (1) (7) q10 h5 (zr_c (lo := 0) (hi := 0) (by decide)) (by decide)
  refine zok_ck (zin_ok (zr_add (lo := 175) (hi := 277) h_x3 (zr_c (lo := 3) (hi := 3) (by decide)) (by decide)) (by decide)) ?_
  refine zok_ck (zin_ok (zr_add (lo := 176) (hi := 278) h_x3 (zr_c (lo := 4) (hi := 4) (by decide)) (by decide)) (by decide)) ?_
  exact (s_X12_operator_266 i1 h_x1 (zr_w h9 (by decide)) h_x3 t_x3 g4)
theorem s_X12_operator_146 {G : Nat → Int} {σ : zSt} (hσ : zIM G σ) {x1 : Int32} (h_x1 : zr (0) (8) x1) {x2 : Int32} (h_x2 : zr (0) (1) x2) {x3 : Int32} (h_x3 : zr (172) (274) x3) (t_x3 : zat 0 x3) (g4 : 0 ≤ G 104 ∧ G 104 ≤ 1152921504606846976) : zok (fX12_operator_146 σ x1 x2 x3) (zIM G) := by
  unfold fX12_operator_146
  refine zok_ck (zin_ok (zr_add (lo := 173) (hi := 275) h_x3 (zr_c (lo := 1) (hi := 1) (by decide)) (by decide)) (by decide)) ?_
  refine zok_if (fun q1 => ?_) (fun q1 => ?_)
  · have h2 := zc_eql (2) (2) q1 zr_any (zr_c (lo := 2) (hi := 2) (by decide)) (by decide)
    refine zok_ck (zin_ok h_x3 (by decide)) ?_
    refine zok_ck (by decide) ?_
    refine zok_pi (s_X12_patchByte hσ.P h_x1 (zr_w (zr_add (lo := 6) (hi := 7) (zr_c (lo := 6) (hi := 6) (by decide)) h_x2 (by decide)) (by decide))) (fun v16 h3 => ?_)
    refine zok_if (fun q4 => ?_) (fun q4 => ?_)
    · have h5 := zc_ltr (1) q4 (zr_div (lo := 0) (hi := 15) 8 (by decide) (rM_lv hσ.Y t_x3) (by decide)) (zr_shr (lo := 0) (hi := 51) 4 (by decide) h3 (by decide)) (by decide)
      exact (s_X12_operator_190 hσ h_x1 h_x2 h_x3 t_x3 g4)
    have h6 := zc_lel (15) (z_nlt q4) (zr_shr (lo := 0) (hi := 51) 4 (by decide) h3 (by decide)) (zr_div (lo := 0) (hi := 15) 8 (by decide) (rM_lv hσ.Y t_x3) (by decide)) (by decide)
    refine zok_ck (zin_ok (zr_add (lo := 173) (hi := 275) h_x3 (zr_c (lo := 1) (hi := 1) (by decide)) (by decide)) (by decide)) ?_
    refine zok_bs (hσ.op (zat_add t_x3 (c1 := 1) 1 (by decide) (by decide)) (by decide)) (fun σ17 e8 i7 => ?_)
    exact (s_X12_operator_190 i7 h_x1 h_x2 h_x3 t_x3 g4)
  exact (s_X12_operator_190 hσ h_x1 h_x2 h_x3 t_x3 g4)
theorem s_X12_operator_113 {G : Nat → Int} {σ : zSt} (hσ : zIM G σ) {x1 : Int32} (h_x1 : zr (0) (8) x1) {x2 : Int32} (h_x2 : zr (0) (1) x2) {x3 : Int32} (h_x3 : zr (172) (274) x3) (t_x3 : zat 0 x3) (g4 : 0 ≤ G 104 ∧ G 104 ≤ 1152921504606846976) : zok (fX12_operator_113 σ x1 x2 x3) (zIM G) := by
  unfold fX12_operator_113
  refine zok_ck (zin_ok (zr_add (lo := 173) (hi := 275) h_x3 (zr_c (lo := 1) (hi := 1) (by decide)) (by decide)) (by decide)) ?_
  refine zok_if (fun q1 => ?_) (fun q1 => ?_)
  · have h2 := zc_eql (1) (1) q1 zr_any (zr_c (lo := 1) (hi := 1) (by decide)) (by decide)
    refine zok_ck (zin_ok h_x3 (by decide)) ?_
    refine zok_if (fun q3 => ?_) (fun q3 => ?_)
    · have h4 := zc_eql (0) (0) q3 (rM_lv hσ.Y t_x3) (zr_c (lo := 0) (hi := 0) (by decide)) (by decide)
      refine zok_ck (zin_ok (zr_add (lo := 173) (hi := 275) h_x3 (zr_c (lo := 1) (hi := 1) (by decide)) (by decide)) (by decide)) ?_
      refine zok_bs (hσ.op (zat_add t_x3 (c1 := 1) 1 (by decide) (by decide)) (by decide)) (fun σ18 e6 i5 => ?_)
      exact (s_X12_operator_190 i5 h_x1 h_x2 h_x3 t_x3 g4)
    have h7 := zc_nel (1) (127) q3 (rM_lv hσ.Y t_x3) (zr_c (lo := 0) (hi := 0) (by decide)) (by decide)
    exact (s_X12_operator_146 hσ h_x1 h_x2 h_x3 t_x3 g4)
  exact (s_X12_operator_146 hσ h_x1 h_x2 h_x3 t_x3 g4)
theorem s_X12_operator_53 {G : Nat → Int} {σ : zSt} (hσ : zIM G σ) {x1 : Int32} (h_x1 : zr (0) (8) x1) {x2 : Int32} (h_x2 : zr (0) (1) x2) {x3 : Int32} (h_x3 : zr (172) (274) x3) {x4 : Int32} (h_x4 : zr (0) (1) x4) (t_x3 : zat 0 x3) (g4 : 0 ≤ G 104 ∧ G 104 ≤ 1152921504606846976) : zok (fX12_operator_53 σ x1 x2 x3 x4) (zIM G) := by
  unfold fX12_operator_53
  refine zok_ck (zin_ok (zr_add (lo := 177) (hi := 279) h_x3 (zr_c (lo := 5) (hi := 5) (by decide)) (by decide)) (by decide)) ?_
  refine zok_bs (hσ.op (zat_add t_x3 (c1 := 5) 5 (by decide) (by decide)) (by decide)) (fun σ19 e2 i1 => ?_)
  refine zok_bu (s_X12_envelope i1 h_x3 h_x1 h_x2 t_x3) (fun σ20 i3 => ?_)
  refine zok_ck (zin_ok (zr_add (lo := 173) (hi := 275) h_x3 (zr_c (lo := 1) (hi := 1) (by decide)) (by decide)) (by decide)) ?_
  refine zok_if (fun q4 => ?_) (fun q4 => ?_)
  · have h5 := zc_eql (0) (0) q4 zr_any (zr_c (lo := 0) (hi := 0) (by decide)) (by decide)
    refine zok_ck (zin_ok h_x3 (by decide)) ?_
    refine zok_if (fun q6 => ?_) (fun q6 => ?_)
    · have h7 := zc_ltl (123) q6 (rM_lv i3.Y t_x3) (zr_c (lo := 124) (hi := 124) (by decide)) (by decide)
      exact (s_X12_operator_113 i3 h_x1 h_x2 h_x3 t_x3 g4)
    have h8 := zc_ler (124) (z_nlt q6) (zr_c (lo := 124) (hi := 124) (by decide)) (rM_lv i3.Y t_x3) (by decide)
    refine zok_ck (zin_ok (zr_add (lo := 173) (hi := 275) h_x3 (zr_c (lo := 1) (hi := 1) (by decide)) (by decide)) (by decide)) ?_
    refine zok_bs (i3.op (zat_add t_x3 (c1 := 1) 1 (by decide) (by decide)) (by decide)) (fun σ21 e10 i9 => ?_)
    refine zok_ck (zin_ok (zr_add (lo := 174) (hi := 276) h_x3 (zr_c (lo := 2) (hi := 2) (by decide)) (by decide)) (by decide)) ?_
    refine zok_bs (i9.op (zat_add t_x3 (c1 := 2) 2 (by decide) (by decide)) (by decide)) (fun σ22 e12 i11 => ?_)
    exact (s_X12_operator_190 i11 h_x1 h_x2 h_x3 t_x3 g4)
  exact (s_X12_operator_113 i3 h_x1 h_x2 h_x3 t_x3 g4)
theorem s_X12_operator_52 {G : Nat → Int} {σ : zSt} (hσ : zIM G σ) {x1 : Int32} (h_x1 : zr (0) (8) x1) {x2 : Int32} (h_x2 : zr (0) (1) x2) {x3 : Int32} (h_x3 : zr (172) (274) x3) {x4 : Int32} (h_x4 : zr (0) (1) x4) {s0 : Int32} (h_s0 : zr (0) (4) s0) {s1 : Int32} (h_s1 : zr (173) (275) s1) (t_x3 : zat 0 x3) (t_s1 : zat 1 s1) (g4 : 0 ≤ G 104 ∧ G 104 ≤ 1152921504606846976) : zok (fX12_operator_52 σ x1 x2 x3 x4 s0 s1) (zIM G) := by
  unfold fX12_operator_52
  refine zok_ck (zin_ok h_s1 (by decide)) ?_
  refine zok_bs (hσ.op t_s1 (by decide)) (fun σ23 e2 i1 => ?_)
  exact (s_X12_operator_53 i1 h_x1 h_x2 h_x3 h_x4 t_x3 g4)
theorem s_X12_operator {G : Nat → Int} {σ : zSt} (hσ : zIM G σ) {x1 : Int32} (h_x1 : zr (0) (8) x1) {x2 : Int32} (h_x2 : zr (0) (1) x2) (g4 : 0 ≤ G 104 ∧ G 104 ≤ 1152921504606846976) : zok (fX12_operator σ x1 x2) (zIM G) := by
  unfold fX12_operator
  refine zok_br (zr_add (lo := 172) (hi := 274) (zr_c (lo := 172) (hi := 172) (by decide)) (zr_mul (lo := 0) (hi := 102) (zr_c (lo := 6) (hi := 6) (by decide)) (zr_add (lo := 0) (hi := 17) (zr_mul (lo := 0) (hi := 16) (zr_c (lo := 2) (hi := 2) (by decide)) h_x1 (by decide)) h_x2 (by decide)) (by decide)) (by decide)) (fun v24 e2 h1 => ?_)
  have h3 := z_at0 e2 h_x1 h_x2 (by decide)
  refine zok_pi (s_X12_isOn hσ.P h_x1 h_x2) (fun v26 h4 => ?_)
  refine zok_ck (zin_ok (zr_add (lo := 177) (hi := 279) h1 (zr_c (lo := 5) (hi := 5) (by decide)) (by decide)) (by decide)) ?_
  refine zok_if (fun q5 => ?_) (fun q5 => ?_)
  · have h6 := zc_eqr (0) (1) q5 h4 zr_any (by decide)
    exact (s_X12_operator_53 hσ h_x1 h_x2 h1 h4 h3 g4)
  refine zok_if (fun q7 => ?_) (fun q7 => ?_)
  · have h8 := zc_eql (1) (1) q7 h4 (zr_c (lo := 1) (hi := 1) (by decide)) (by decide)
    exact (s_X12_operator_52 hσ h_x1 h_x2 h1 (zr_w h8 (by decide)) (zr_w (zr_c (lo := 0) (hi := 0) (by decide)) (by decide)) (zr_add (lo := 173) (hi := 275) h1 (zr_c (lo := 1) (hi := 1) (by decide)) (by decide)) h3 (zat_add h3 (c1 := 1) 1 (by decide) (by decide)) g4)
  have h9 := zc_nel (0) (0) q7 h4 (zr_c (lo := 1) (hi := 1) (by decide)) (by decide)
  exact (s_X12_operator_52 hσ h_x1 h_x2 h1 (zr_w h9 (by decide)) (zr_w (zr_c (lo := 4) (hi := 4) (by decide)) (by decide)) (zr_add (lo := 173) (hi := 275) h1 (zr_c (lo := 1) (hi := 1) (by decide)) (by decide)) h3 (zat_add h3 (c1 := 1) 1 (by decide) (by decide)) g4)
theorem s_X12_waves_20_body {G : Nat → Int} {σ : zSt} {k12 : zSt → Int32 → Option (zSt)} {Mk12 : Int} (hk12 : ∀ (σ : zSt) (x1 : Int32), zIM G σ → zr (0) (9) x1 → (9) - x1.toInt < Mk12 → zok (k12 σ x1) (zIM G)) {k20 : zSt → Int32 → Int32 → Option (zSt)} {Mk20 : Int} (hk20 : ∀ (σ : zSt) (x1 : Int32) (x2 : Int32), zIM G σ → zr (0) (8) x1 → zr (0) (2) x2 → (2) - x2.toInt < Mk20 → (9) - x1.toInt ≤ Mk12 → zok (k20 σ x1 x2) (zIM G)) (hσ : zIM G σ) {x1 : Int32} (h_x1 : zr (0) (8) x1) {x2 : Int32} (h_x2 : zr (0) (2) x2) (g4 : 0 ≤ G 104 ∧ G 104 ≤ 1152921504606846976) (hMk12 : (9) - x1.toInt ≤ Mk12) (hMk20 : (2) - x2.toInt ≤ Mk20) : zok (fX12_waves_20_body k12 k20 σ x1 x2) (zIM G) := by
  unfold fX12_waves_20_body
  refine zok_if (fun q1 => ?_) (fun q1 => ?_)
  · have h2 := zc_ler (2) q1 (zr_c (lo := 2) (hi := 2) (by decide)) h_x2 (by decide)
    refine zok_br (zr_add (lo := 1) (hi := 9) h_x1 (zr_c (lo := 1) (hi := 1) (by decide)) (by decide)) (fun v1 e4 h3 => ?_)
    exact hk12 _ _ hσ (zr_w h3 (by decide)) (by rw [e4]; have := z_tadd (y := (1 : Int32)) h_x1 (zr_c (lo := 1) (hi := 1) (by decide)) (by decide); have e9 : (1 : Int32).toInt = 1 := rfl; omega) 
  have h5 := zc_ltl (1) (z_nle q1) h_x2 (zr_c (lo := 2) (hi := 2) (by decide)) (by decide)
  refine zok_bu (s_X12_operator hσ h_x1 h5 g4) (fun σ2 i6 => ?_)
  refine zok_br (zr_add (lo := 1) (hi := 2) h5 (zr_c (lo := 1) (hi := 1) (by decide)) (by decide)) (fun v3 e8 h7 => ?_)
  exact hk20 _ _ _ i6 h_x1 (zr_w h7 (by decide)) (by rw [e8]; have := z_tadd (y := (1 : Int32)) h5 (zr_c (lo := 1) (hi := 1) (by decide)) (by decide); have e9 : (1 : Int32).toInt = 1 := rfl; omega) hMk12
theorem s_X12_waves_20 {G : Nat → Int} {k12 : zSt → Int32 → Option (zSt)} {Mk12 : Int} (hk12 : ∀ (σ : zSt) (x1 : Int32), zIM G σ → zr (0) (9) x1 → (9) - x1.toInt < Mk12 → zok (k12 σ x1) (zIM G)) (g4 : 0 ≤ G 104 ∧ G 104 ≤ 1152921504606846976) : ∀ (n : Nat) {σ : zSt} (hσ : zIM G σ) {x1 : Int32} (h_x1 : zr (0) (8) x1) {x2 : Int32} (h_x2 : zr (0) (2) x2) (hm : (2) - x2.toInt < n) (hMk12 : (9) - x1.toInt ≤ Mk12), zok (fX12_waves_20 k12 n σ x1 x2) (zIM G) := by
  intro n
  induction n with
  | zero => intro σ hσ x1 h_x1 x2 h_x2 hm hMk12; have h9 := h_x2.1; have h8 := h_x2.2; exfalso; omega
  | succ n ih => intro σ hσ x1 h_x1 x2 h_x2 hm hMk12; exact s_X12_waves_20_body hk12 (fun σ x1 x2 hσ h_x1 h_x2 hm1 hMk12 => ih hσ h_x1 h_x2 (by omega) hMk12) hσ h_x1 h_x2 g4 hMk12 (Int.le_refl _)
theorem s_X12_waves_157 {G : Nat → Int} {σ : zSt} {k82 : zSt → Int32 → Int32 → Option (zSt)} {Mk82 : Int} (hk82 : ∀ (σ : zSt) (x2 : Int32) (x3 : Int32), zIM G σ → zr (0) (9) x3 → (9) - x3.toInt < Mk82 → zok (k82 σ x2 x3) (zIM G)) (hσ : zIM G σ) {x2 : Int32} {x3 : Int32} (h_x3 : zr (0) (8) x3) (hMk82 : (9) - x3.toInt ≤ Mk82) : zok (fX12_waves_157 k82 σ x2 x3) (zIM G) := by
  unfold fX12_waves_157
  refine zok_br (zr_add (lo := 1) (hi := 9) h_x3 (zr_c (lo := 1) (hi := 1) (by decide)) (by decide)) (fun v4 e2 h1 => ?_)
  exact hk82 _ _ _ hσ (zr_w h1 (by decide)) (by rw [e2]; have := z_tadd (y := (1 : Int32)) h_x3 (zr_c (lo := 1) (hi := 1) (by decide)) (by decide); have e9 : (1 : Int32).toInt = 1 := rfl; omega) 
theorem s_X12_waves_153 {G : Nat → Int} {σ : zSt} {k82 : zSt → Int32 → Int32 → Option (zSt)} {Mk82 : Int} (hk82 : ∀ (σ : zSt) (x2 : Int32) (x3 : Int32), zIM G σ → zr (0) (9) x3 → (9) - x3.toInt < Mk82 → zok (k82 σ x2 x3) (zIM G)) (hσ : zIM G σ) {x3 : Int32} (h_x3 : zr (0) (8) x3) {s0 : Int32} {s1 : Int32} {s2 : Int32} (h_s2 : zr (2) (2) s2) {s3 : Int32} (hMk82 : (9) - x3.toInt ≤ Mk82) : zok (fX12_waves_153 k82 σ x3 s0 s1 s2 s3) (zIM G) := by
  unfold fX12_waves_153
  refine zok_bv (fun v5 e2 => ?_)
  exact (s_X12_waves_157 hk82 hσ h_x3 hMk82)
theorem s_X12_waves_82_body {G : Nat → Int} {σ : zSt} {k82 : zSt → Int32 → Int32 → Option (zSt)} {Mk82 : Int} (hk82 : ∀ (σ : zSt) (x2 : Int32) (x3 : Int32), zIM G σ → zr (0) (9) x3 → (9) - x3.toInt < Mk82 → zok (k82 σ x2 x3) (zIM G)) (hσ : zIM G σ) {x2 : Int32} {x3 : Int32} (h_x3 : zr (0) (9) x3) (hMk82 : (9) - x3.toInt ≤ Mk82) : zok (fX12_waves_82_body k82 σ x2 x3) (zIM G) := by
  unfold fX12_waves_82_body
  refine zok_if (fun q1 => ?_) (fun q1 => ?_)
  · have h2 := zc_ler (9) q1 (zr_c (lo := 9) (hi := 9) (by decide)) h_x3 (by decide)
    refine zok_ck rfl ?_
    refine zok_bs (hσ.wi 165 165 (by decide) zr_any (by decide +kernel)) (fun σ6 e4 i3 => ?_)
    exact zok_some i3
  have h5 := zc_ltl (8) (z_nle q1) h_x3 (zr_c (lo := 9) (hi := 9) (by decide)) (by decide)
  refine zok_br (zr_add (lo := 172) (hi := 268) (zr_c (lo := 172) (hi := 172) (by decide)) (zr_mul (lo := 0) (hi := 96) (zr_c (lo := 12) (hi := 12) (by decide)) h5 (by decide)) (by decide)) (fun v7 e7 h6 => ?_)
  refine zok_pi (s_X12_isRhythm hσ.P h5) (fun v9 h8 => ?_)
  refine zok_if (fun q9 => ?_) (fun q9 => ?_)
  · have h10 := zc_eql (0) (0) q9 h8 (zr_c (lo := 0) (hi := 0) (by decide)) (by decide)
    refine zok_ck (zin_ok (zr_add (lo := 181) (hi := 277) h6 (zr_c (lo := 9) (hi := 9) (by decide)) (by decide)) (by decide)) ?_
    refine zok_bv (fun v10 e12 => ?_)
    exact (s_X12_waves_157 hk82 hσ h5 hMk82)
  have h13 := zc_nel (1) (1) q9 h8 (zr_c (lo := 0) (hi := 0) (by decide)) (by decide)
  refine zok_ck (zin_ok (zr_add (lo := 181) (hi := 277) h6 (zr_c (lo := 9) (hi := 9) (by decide)) (by decide)) (by decide)) ?_
  refine zok_if (fun q14 => ?_) (fun q14 => ?_)
  · have h15 := zc_lel (6) q14 h5 (zr_c (lo := 6) (hi := 6) (by decide)) (by decide)
    exact (s_X12_waves_153 hk82 hσ (zr_w h15 (by decide)) (zr_c (lo := 2) (hi := 2) (by decide)) hMk82)
  have h16 := zc_ltr (7) (z_nle q14) (zr_c (lo := 6) (hi := 6) (by decide)) h5 (by decide)
  refine zok_ck (zin_ok (zr_add (lo := 175) (hi := 271) h6 (zr_c (lo := 3) (hi := 3) (by decide)) (by decide)) (by decide)) ?_
  exact (s_X12_waves_153 hk82 hσ (zr_w h16 (by decide)) (zr_c (lo := 2) (hi := 2) (by decide)) hMk82)
theorem s_X12_waves_82 {G : Nat → Int} : ∀ (n : Nat) {σ : zSt} (hσ : zIM G σ) {x2 : Int32} {x3 : Int32} (h_x3 : zr (0) (9) x3) (hm : (9) - x3.toInt < n), zok (fX12_waves_82 n σ x2 x3) (zIM G) := by
  intro n
  induction n with
  | zero => intro σ hσ x2 x3 h_x3 hm ; have h9 := h_x3.1; have h8 := h_x3.2; exfalso; omega
  | succ n ih => intro σ hσ x2 x3 h_x3 hm ; exact s_X12_waves_82_body (fun σ x2 x3 hσ h_x3 hm1 => ih hσ h_x3 (by omega)) hσ h_x3 (Int.le_refl _)
end ZJN3
section ZJN4
theorem s_X12_waves_75 {G : Nat → Int} {σ : zSt} (hσ : zIM G σ) {s0 : Int32} {s1 : Int32} (h_s1 : zr (164) (164) s1) : zok (fX12_waves_75 σ s0 s1) (zIM G) := by
  unfold fX12_waves_75
  refine zok_ck (zin_ok h_s1 (by decide)) ?_
  refine zok_bs (hσ.wi 164 164 (z_ix h_s1 (by decide)) (zr_shr (lo := -1073741824) (hi := 1073741823) 1 (by decide) zr_any (by decide)) (by decide +kernel)) (fun σ11 e2 i1 => ?_)
  exact (s_X12_waves_82 zfuel i1 (zr_w (zr_c (lo := 0) (hi := 0) (by decide)) (by decide)) (by decide))
theorem s_X12_waves_12_body {G : Nat → Int} {σ : zSt} {k12 : zSt → Int32 → Option (zSt)} {Mk12 : Int} (hk12 : ∀ (σ : zSt) (x1 : Int32), zIM G σ → zr (0) (9) x1 → (9) - x1.toInt < Mk12 → zok (k12 σ x1) (zIM G)) (hσ : zIM G σ) {x1 : Int32} (h_x1 : zr (0) (9) x1) (g4 : 0 ≤ G 104 ∧ G 104 ≤ 1152921504606846976) (hMk12 : (9) - x1.toInt ≤ Mk12) : zok (fX12_waves_12_body k12 σ x1) (zIM G) := by
  unfold fX12_waves_12_body
  refine zok_if (fun q1 => ?_) (fun q1 => ?_)
  · have h2 := zc_ler (9) q1 (zr_c (lo := 9) (hi := 9) (by decide)) h_x1 (by decide)
    refine zok_ck rfl ?_
    refine zok_bv (fun v12 e4 => ?_)
    refine zok_if (fun q5 => ?_) (fun q5 => ?_)
    · have h6 := zc_eql (1) (1) q5 (zr_andr (lo := 0) (hi := 1) (zr_c (lo := 1) (hi := 1) (by decide)) (by decide)) (zr_c (lo := 1) (hi := 1) (by decide)) (by decide)
      exact (s_X12_waves_75 hσ (zr_c (lo := 164) (hi := 164) (by decide)))
    have h7 := zc_nel (0) (0) q5 (zr_andr (lo := 0) (hi := 1) (zr_c (lo := 1) (hi := 1) (by decide)) (by decide)) (zr_c (lo := 1) (hi := 1) (by decide)) (by decide)
    exact (s_X12_waves_75 hσ (zr_c (lo := 164) (hi := 164) (by decide)))
  have h8 := zc_ltl (8) (z_nle q1) h_x1 (zr_c (lo := 9) (hi := 9) (by decide)) (by decide)
  exact (s_X12_waves_20 hk12 g4 zfuel hσ h8 (zr_w (zr_c (lo := 0) (hi := 0) (by decide)) (by decide)) (by decide) hMk12)
theorem s_X12_waves_12 {G : Nat → Int} (g4 : 0 ≤ G 104 ∧ G 104 ≤ 1152921504606846976) : ∀ (n : Nat) {σ : zSt} (hσ : zIM G σ) {x1 : Int32} (h_x1 : zr (0) (9) x1) (hm : (9) - x1.toInt < n), zok (fX12_waves_12 n σ x1) (zIM G) := by
  intro n
  induction n with
  | zero => intro σ hσ x1 h_x1 hm ; have h9 := h_x1.1; have h8 := h_x1.2; exfalso; omega
  | succ n ih => intro σ hσ x1 h_x1 hm ; exact s_X12_waves_12_body (fun σ x1 hσ h_x1 hm1 => ih hσ h_x1 (by omega)) hσ h_x1 g4 (Int.le_refl _)
theorem s_X12_waves {G : Nat → Int} {σ : zSt} (hσ : zIM G σ) (g4 : 0 ≤ G 104 ∧ G 104 ≤ 1125899906842624) : zok (fX12_waves σ ) (zIM (zset G 104 (G 104 + 1))) := by
  unfold fX12_waves
  refine zok_ck rfl (zok_ck rfl ?_)
  refine zok_bs (I := zIM (zset G 104 (G 104 + 1))) (z_w44 hσ g4) (fun σ1 e i1 => ?_)
  exact s_X12_waves_12 (by rw [zset_eq]; omega) zfuel i1 (zr_w (zr_c (lo := 0) (hi := 0) (by decide)) (by decide)) (by decide)
theorem s_X12_mixed_151 {G : Nat → Int} {σ : zSt} (hσ : zIM G σ) {x2 : Int64} (c_3_169 : zr (1) (4096) (zgi σ 3 169)) : zok (fX12_mixed_151 σ x2) (zIM G) := by
  unfold fX12_mixed_151
  refine zok_ck rfl ?_
  refine zok_ck rfl ?_
  refine zok_ck (by decide) ?_
  refine zok_ck (zin_ok (zr_rem (lo := 0) (hi := 4095) 4096 (by decide) (zr_sub (lo := 0) (hi := 8190) (zr_add (lo := 1) (hi := 8191) (rM_44 hσ.sg _ (by decide)) c_3_169 (by decide)) (zr_c (lo := 1) (hi := 1) (by decide)) (by decide)) (by decide)) (by decide)) ?_
  refine zok_bs (hσ.wl 0 4095 (z_ix (zr_rem (lo := 0) (hi := 4095) 4096 (by decide) (zr_sub (lo := 0) (hi := 8190) (zr_add (lo := 1) (hi := 8191) (rM_44 hσ.sg _ (by decide)) c_3_169 (by decide)) (zr_c (lo := 1) (hi := 1) (by decide)) (by decide)) (by decide)) (by decide)) (by decide)) (fun σ1 e2 i1 => ?_)
  exact zok_some i1
theorem s_mixed_76_x {G : Nat → Int} {σ : zSt} (hσ : zIM G σ) {x2 : Int64} {k : zSt → Int64 → Int32 → Option zSt} : zok (fX12_mixed_76_body k σ x2 3) (zIM G) := by
  unfold fX12_mixed_76_body
  rw [if_pos (by decide)]
  refine zok_ck rfl ?_
  have hw := rM_43 hσ.sg (169 : Int32).toNatClampNeg (by decide)
  have hf := rM_44 hσ.sg (170 : Int32).toNatClampNeg (by decide)
  refine zok_if (fun q => ?_) (fun q => ?_)
  · refine zok_ck rfl (zok_ck (by decide) (zok_ck rfl ?_))
    have h4 := zc_eql (4096) (4096) q hw (zr_c (lo := 4096) (hi := 4096) (by decide)) (by decide)
    refine zok_bs (hσ.wi 170 170 (by decide) (zr_rem (lo := 0) (hi := 4095) 4096 (by decide) (zr_add (lo := 1) (hi := 4096) hf (zr_c (lo := 1) (hi := 1) (by decide)) (by decide)) (by decide)) (by decide +kernel)) (fun σ3 e3 i3 => ?_)
    exact s_X12_mixed_151 i3 (zr_w (z_trj e3 (by decide) h4) (by decide))
  · refine zok_ck rfl (zok_ck rfl ?_)
    have h4 := zc_nel (0) (4095) q hw (zr_c (lo := 4096) (hi := 4096) (by decide)) (by decide)
    have h5 := zr_add (lo := 1) (hi := 4096) h4 (zr_c (lo := 1) (hi := 1) (x := 1) (by decide)) (by decide)
    refine zok_bs (hσ.wi 169 169 (by decide) h5 (by decide +kernel)) (fun σ3 e3 i3 => ?_)
    exact s_X12_mixed_151 i3 (z_own e3 h5)
theorem s_mixed_76 {G : Nat → Int} (n : Nat) {σ : zSt} (hσ : zIM G σ) {x2 : Int64} : zok (fX12_mixed_76 (n + 4) σ x2 0) (zIM (zset G 5 0)) := by
  show zok (fX12_mixed_76_body (fX12_mixed_76 (n + 3)) σ x2 0) _
  unfold fX12_mixed_76_body
  rw [if_neg (by decide)]
  refine zok_ck rfl ?_
  refine zok_bs (hσ.wi 166 166 (by decide) zr_any (by decide +kernel)) (fun σ1 e1 i1 => ?_)
  show zok (fX12_mixed_76_body (fX12_mixed_76 (n + 2)) σ1 x2 1) _
  unfold fX12_mixed_76_body
  rw [if_neg (by decide)]
  refine zok_ck rfl ?_
  refine zok_bs (i1.wi 167 167 (by decide) zr_any (by decide +kernel)) (fun σ2 e2 i2 => ?_)
  show zok (fX12_mixed_76_body (fX12_mixed_76 (n + 1)) σ2 x2 2) _
  unfold fX12_mixed_76_body
  rw [if_neg (by decide)]
  refine zok_ck rfl ?_
  refine zok_bs (I := zIM (zset G 5 0)) (zIM.wg (v := 0) 5 i2 (by decide) (by decide) zr_any (by decide +kernel)) (fun σ3 e3 i3 => ?_)
  show zok (fX12_mixed_76_body (fX12_mixed_76 n) σ3 x2 3) _
  exact s_mixed_76_x i3
theorem s_X12_mixed_26 {G : Nat → Int} {σ : zSt} (hσ : zIM G σ) {s0 : Int32} (g5 : 1 ≤ G 5 ∧ G 5 ≤ 536870912) : zok (fX12_mixed_26 σ s0) (zIM (zset G 5 0)) := by
  unfold fX12_mixed_26
  refine zok_ck rfl (zok_ck rfl (zok_ck (zdv_ok (rM_g5 hσ g5) (by decide)) (zok_ck rfl (zok_ck rfl (zok_ck (zdv_ok (rM_g5 hσ g5) (by decide)) ?_)))))
  refine zok_bv (fun v6 _ => ?_)
  exact s_mixed_76 1999996 hσ
theorem s_X12_mixed {G : Nat → Int} {σ : zSt} (hσ : zIM G σ) (g5 : 1 ≤ G 5 ∧ G 5 ≤ 536870912) : zok (fX12_mixed σ ) (zIM (zset G 5 0)) := by
  unfold fX12_mixed
  refine zok_ck rfl ?_
  refine zok_if (fun q1 => ?_) (fun q1 => ?_)
  · have h2 := zc_eql (1) (1) q1 (zr_andr (lo := 0) (hi := 1) (zr_c (lo := 1) (hi := 1) (by decide)) (by decide)) (zr_c (lo := 1) (hi := 1) (by decide)) (by decide)
    refine zok_ck rfl ?_
    exact (s_X12_mixed_26 hσ g5)
  have h3 := zc_nel (0) (0) q1 (zr_andr (lo := 0) (hi := 1) (zr_c (lo := 1) (hi := 1) (by decide)) (by decide)) (zr_c (lo := 1) (hi := 1) (by decide)) (by decide)
  exact (s_X12_mixed_26 hσ g5)
theorem s_X12_asks_48 {σ : zSt} (hσ : zPM σ) {s0 : Int32} (h_s0 : zr (0) (1) s0) : zok (fX12_asks_48 σ s0) (zPi σ (fun v : Int32 => zr (0) (1) v)) := by
  unfold fX12_asks_48
  refine zok_ck (zbo_ok h_s0 (by decide)) ?_
  exact zok_spi h_s0
theorem s_X12_asks_47 {σ : zSt} (hσ : zPM σ) : zok (fX12_asks_47 σ ) (zPi σ (fun v : Int32 => zr (0) (1) v)) := by
  unfold fX12_asks_47
  exact (s_X12_asks_48 hσ (zr_w (zr_c (lo := 0) (hi := 0) (by decide)) (by decide)))
theorem s_X12_asks_43 {σ : zSt} (hσ : zPM σ) : zok (fX12_asks_43 σ ) (zPi σ (fun v : Int32 => zr (0) (1) v)) := by
  unfold fX12_asks_43
  exact (s_X12_asks_48 hσ (zr_w (zr_c (lo := 1) (hi := 1) (by decide)) (by decide)))
theorem s_X12_asks_22 {σ : zSt} (hσ : zPM σ) : zok (fX12_asks_22 σ ) (zPi σ (fun v : Int32 => zr (0) (1) v)) := by
  unfold fX12_asks_22
  refine zok_pi (s_X12_bit hσ (zr_w (zr_c (lo := 0) (hi := 0) (by decide)) (by decide)) (zr_w (zr_c (lo := 4) (hi := 4) (by decide)) (by decide))) (fun v2 h1 => ?_)
  refine zok_if (fun q2 => ?_) (fun q2 => ?_)
  · have h3 := zc_eql (1) (1) q2 h1 (zr_c (lo := 1) (hi := 1) (by decide)) (by decide)
    refine zok_ck rfl ?_
    refine zok_if (fun q4 => ?_) (fun q4 => ?_)
    · have h5 := zc_eql (1) (1) q4 (rM_27 hσ.sg _ (by decide)) (zr_c (lo := 1) (hi := 1) (by decide)) (by decide)
      exact (s_X12_asks_43 hσ)
    have h6 := zc_nel (0) (0) q4 (rM_27 hσ.sg _ (by decide)) (zr_c (lo := 1) (hi := 1) (by decide)) (by decide)
    exact (s_X12_asks_47 hσ)
  have h7 := zc_nel (0) (0) q2 h1 (zr_c (lo := 1) (hi := 1) (by decide)) (by decide)
  exact (s_X12_asks_47 hσ)
theorem s_X12_asks {σ : zSt} (hσ : zPM σ) : zok (fX12_asks σ ) (zPi σ (fun v : Int32 => zr (0) (1) v)) := by
  unfold fX12_asks
  refine zok_pi (s_X12_bit hσ (zr_w (zr_c (lo := 1) (hi := 1) (by decide)) (by decide)) (zr_w (zr_c (lo := 5) (hi := 5) (by decide)) (by decide))) (fun v4 h1 => ?_)
  refine zok_if (fun q2 => ?_) (fun q2 => ?_)
  · have h3 := zc_eql (1) (1) q2 h1 (zr_c (lo := 1) (hi := 1) (by decide)) (by decide)
    refine zok_ck rfl ?_
    refine zok_if (fun q4 => ?_) (fun q4 => ?_)
    · have h5 := zc_ltr (128) q4 (zr_c (lo := 127) (hi := 127) (by decide)) (rM_26 hσ.sg _ (by decide)) (by decide)
      exact (s_X12_asks_43 hσ)
    have h6 := zc_lel (127) (z_nlt q4) (rM_26 hσ.sg _ (by decide)) (zr_c (lo := 127) (hi := 127) (by decide)) (by decide)
    exact (s_X12_asks_22 hσ)
  have h7 := zc_nel (0) (0) q2 h1 (zr_c (lo := 1) (hi := 1) (by decide)) (by decide)
  exact (s_X12_asks_22 hσ)
theorem s_once_377 {G : Nat → Int} {σ : zSt} (n : Nat) (hσ : zIM G σ) {x5 : Int64} (hB : 0 ≤ G 100 ∧ G 100 ≤ 2251799813685248) (hx : x5.toInt = G 100 / 81 ∨ (x5.toInt + 1 = G 100 / 81 ∧ 1 ≤ G 5 ∧ G 5 ≤ 536870912)) : zok (fX12_once_377 (n + 2) σ x5) (zMix G x5) := by
  show zok (fX12_once_377_body (fX12_once_377 (n + 1)) σ x5) _
  unfold fX12_once_377_body
  have e := z_beat hσ hB 81 81 rfl (by decide)
  refine zok_ck rfl (zok_ck rfl (zok_if (fun q => ?_) (fun q => ?_)))
  · have q1 := z_cmp_ge.mp q
    rw [e] at q1
    exact zok_some (Or.inl ⟨by omega, hσ⟩)
  · have q1 : ¬ G 100 / 81 ≤ x5.toInt := fun r => q (z_cmp_ge.mpr (by rw [e]; exact r))
    have hx1 : x5.toInt + 1 = G 100 / 81 ∧ 1 ≤ G 5 ∧ G 5 ≤ 536870912 := by
      rcases hx with h | h
      · exact absurd (by omega) q1
      · exact h
    refine zok_bu (s_X12_mixed hσ hx1.2) (fun σ1 i1 => ?_)
    refine zok_bv (fun v2 e2 => ?_)
    have t : v2.toInt = x5.toInt + 1 := by
      rw [e2, Int64.toInt_add, show (1 : Int64).toInt = 1 from rfl]
      exact z_bml (by omega) (by omega)
    show zok (fX12_once_377_body (fX12_once_377 n) σ1 v2) _
    unfold fX12_once_377_body
    have z1 : (zset G 5 0) 100 = G 100 := zset_ne (by decide)
    have e1 := z_beat i1 (by rw [z1]; exact hB) 81 81 rfl (by decide)
    rw [z1] at e1
    refine zok_ck rfl (zok_ck rfl (zok_if (fun q2 => ?_) (fun q2 => ?_)))
    · exact zok_some (Or.inr ⟨hx1.1, i1⟩)
    · exact absurd (z_cmp_ge.mpr (by rw [e1]; omega)) q2
theorem s_once_341 {G : Nat → Int} {σ : zSt} (n : Nat) (hσ : zIM G σ) {x3 x5 : Int64} (hB : 0 ≤ G 100 ∧ G 100 ≤ 2251799813685248) (g4 : 0 ≤ G 104 ∧ G 104 ≤ 1125899906842624) (h3 : 0 ≤ x3.toInt ∧ x3.toInt ≤ G 100) (hx : x5.toInt = G 100 / 72 ∨ x5.toInt + 1 = G 100 / 72) (hm : x3.toInt / 81 = G 100 / 81 ∨ (x3.toInt / 81 + 1 = G 100 / 81 ∧ 1 ≤ G 5 ∧ G 5 ≤ 536870912)) : zok (fX12_once_341 (n + 2) σ x3 x5) (zWvs G x3) := by
  have t3 : (x3 / 81).toInt = x3.toInt / 81 := z_tldiv (a := 0) (b := 2251799813685248) 81 rfl ⟨by omega, by omega⟩ (by decide)
  have leaf : ∀ (σ1 : zSt) (w : Int), (w = G 104 ∨ w = G 104 + 1) → zIM (zset G 104 w) σ1 → zok (zck (decide (¬ (81 : Int64) = 0)) (zbv (x3 / 81) (fun v3 => fX12_once_377 zfuel σ1 v3))) (zWvs G x3) := fun σ1 w hw i1 => by
    refine zok_ck rfl (zok_bv (fun v3 e3 => ?_))
    subst e3
    have z1 : (zset G 104 w) 100 = G 100 := zset_ne (by decide)
    have z5 : (zset G 104 w) 5 = G 5 := zset_ne (by decide)
    refine zok_mono (s_once_377 1999998 i1 (by rw [z1]; exact hB) (by rw [z1, z5, t3]; exact hm)) (fun r hr => ?_)
    unfold zMix at hr
    rw [z1, t3] at hr
    exact ⟨w, hw, hr⟩
  show zok (fX12_once_341_body (fX12_once_341 (n + 1)) σ x3 x5) _
  unfold fX12_once_341_body
  have e := z_beat hσ hB 72 72 rfl (by decide)
  refine zok_ck rfl (zok_ck rfl (zok_if (fun q => leaf σ (G 104) (Or.inl rfl) (by rw [zset_id]; exact hσ)) (fun q => ?_)))
  have q1 : ¬ G 100 / 72 ≤ x5.toInt := fun r => q (z_cmp_ge.mpr (by rw [e]; exact r))
  have hx1 : x5.toInt + 1 = G 100 / 72 := by omega
  refine zok_bu (s_X12_waves hσ g4) (fun σ1 i1 => ?_)
  refine zok_bv (fun v2 e2 => ?_)
  have t : v2.toInt = x5.toInt + 1 := by
    rw [e2, Int64.toInt_add, show (1 : Int64).toInt = 1 from rfl]
    exact z_bml (by omega) (by omega)
  show zok (fX12_once_341_body (fX12_once_341 n) σ1 x3 v2) _
  unfold fX12_once_341_body
  have z1 : (zset G 104 (G 104 + 1)) 100 = G 100 := zset_ne (by decide)
  have e1 := z_beat i1 (by rw [z1]; exact hB) 72 72 rfl (by decide)
  rw [z1] at e1
  refine zok_ck rfl (zok_ck rfl (zok_if (fun q2 => leaf σ1 _ (Or.inr rfl) i1) (fun q2 => ?_)))
  exact absurd (z_cmp_ge.mpr (by rw [e1]; omega)) q2
theorem s_once_305 (n : Nat) : ∀ (d : Nat) {G : Nat → Int} {σ : zSt} (hσ : zIM G σ) {x3 x5 : Int64} (hB : 0 ≤ G 100 ∧ G 100 ≤ 2251799813685248) (g4 : 0 ≤ G 104 ∧ G 104 ≤ 1125899906842624) (h3 : 0 ≤ x3.toInt ∧ x3.toInt ≤ G 100) (h5 : 0 ≤ G 5 ∧ G 5 + d ≤ 536870912) (hd : x5.toInt + d = G 100 / 16) (h0 : 0 ≤ x5.toInt) (hw : x3.toInt / 72 = G 100 / 72 ∨ x3.toInt / 72 + 1 = G 100 / 72) (hm : x3.toInt / 81 = G 100 / 81 ∨ (x3.toInt / 81 + 1 = G 100 / 81 ∧ 1 ≤ G 5 + d)), zok (fX12_once_305 (n + d + 1) σ x3 x5) (zWvs (zset G 5 (G 5 + d)) x3) := by
  intro d
  induction d with
  | zero =>
    intro G σ hσ x3 x5 hB g4 h3 h5 hd h0 hw hm
    show zok (fX12_once_305_body (fX12_once_305 (n + 0)) σ x3 x5) _
    unfold fX12_once_305_body
    have e := z_beat hσ hB 16 16 rfl (by decide)
    have t3 : (x3 / 72).toInt = x3.toInt / 72 := z_tldiv (a := 0) (b := 2251799813685248) 72 rfl ⟨by omega, by omega⟩ (by decide)
    have eG : zset G 5 (G 5 + ((0 : Nat) : Int)) = G := by rw [show G 5 + ((0 : Nat) : Int) = G 5 by omega]; exact zset_id
    rw [eG]
    refine zok_ck rfl (zok_ck rfl (zok_if (fun q => ?_) (fun q => ?_)))
    · refine zok_ck rfl (zok_bv (fun v6 e6 => ?_))
      subst e6
      exact s_once_341 1999998 hσ hB g4 h3 (by rw [t3]; exact hw) (by omega)
    · exact absurd (z_cmp_ge.mpr (by rw [e]; omega)) q
  | succ d ih =>
    intro G σ hσ x3 x5 hB g4 h3 h5 hd h0 hw hm
    show zok (fX12_once_305_body (fX12_once_305 (n + (d + 1))) σ x3 x5) _
    unfold fX12_once_305_body
    have e := z_beat hσ hB 16 16 rfl (by decide)
    refine zok_ck rfl (zok_ck rfl (zok_if (fun q => ?_) (fun q => ?_)))
    · have q1 := z_cmp_ge.mp q
      rw [e] at q1
      exfalso; omega
    · refine zok_bu (s_X12_sample hσ (by omega)) (fun σ1 i1 => ?_)
      refine zok_bv (fun v2 e2 => ?_)
      have t : v2.toInt = x5.toInt + 1 := by
        rw [e2, Int64.toInt_add, show (1 : Int64).toInt = 1 from rfl]
        exact z_bml (by omega) (by omega)
      have z1 : (zset G 5 (G 5 + 1)) 100 = G 100 := zset_ne (by decide)
      have z4 : (zset G 5 (G 5 + 1)) 104 = G 104 := zset_ne (by decide)
      have z5 : (zset G 5 (G 5 + 1)) 5 = G 5 + 1 := zset_eq
      have k := ih i1 (x3 := x3) (x5 := v2) (by rw [z1]; exact hB) (by rw [z4]; exact g4) (by rw [z1]; exact h3) (by rw [z5]; omega) (by rw [z1]; omega) (by omega) (by rw [z1]; exact hw) (by rw [z1, z5]; omega)
      rw [zset_set, z5, show G 5 + 1 + (d : Int) = G 5 + ((d + 1 : Nat) : Int) by omega] at k
      exact k
theorem s_once_298 {G : Nat → Int} {σ : zSt} (hσ : zIM G σ) {x3 : Int64} {b : Int} (hb : 4 ≤ b ∧ b ≤ 35) (h3 : 0 ≤ x3.toInt ∧ x3.toInt + b = G 100) (hB : 0 ≤ G 100 ∧ G 100 ≤ 2251799813685248) (g4 : 0 ≤ G 104 ∧ G 104 ≤ 1125899906842624) (h5 : 0 ≤ G 5 ∧ G 5 ≤ 268435456) (hJ : zJ x3.toInt (G 5)) : zok (fX12_once_298 σ x3) (zEnT G) := by
  unfold fX12_once_298
  unfold zJ at hJ
  have t3 : (x3 / 16).toInt = x3.toInt / 16 := z_tldiv (a := 0) (b := 2251799813685248) 16 rfl ⟨by omega, by omega⟩ (by decide)
  refine zok_ck rfl (zok_bv (fun v9 e9 => ?_))
  subst e9
  obtain ⟨d, hd⟩ : ∃ d : Nat, (d : Int) = G 100 / 16 - x3.toInt / 16 := ⟨(G 100 / 16 - x3.toInt / 16).toNat, by omega⟩
  have hd3 : (d : Int) ≤ 3 := by omega
  have ef : zfuel = (1999990 - d + 9) + d + 1 := by unfold zfuel; omega
  rw [ef]
  have k := s_once_305 (1999990 - d + 9) d hσ (x3 := x3) (x5 := x3 / 16) hB g4 (by omega) (by omega) (by rw [t3]; omega) (by rw [t3]; omega) (by omega) (by omega)
  refine zok_mono k (fun r hr => ?_)
  obtain ⟨w, hw, hr⟩ := hr
  have z1 : (zset G 5 (G 5 + d)) 100 = G 100 := zset_ne (by decide)
  have z4 : (zset G 5 (G 5 + d)) 104 = G 104 := zset_ne (by decide)
  rw [z4] at hw
  rw [z1] at hr
  rcases hr with ⟨m, i⟩ | ⟨m, i⟩
  · rw [zset_com (by decide)] at i
    exact ⟨w, G 5 + d, hw, by omega, by unfold zJ; omega, i⟩
  · rw [zset_com (i := 5) (k := 104) (by decide), zset_set] at i
    exact ⟨w, 0, hw, by omega, by unfold zJ; omega, i⟩
theorem s_once_fin {G G2 : Nat → Int} {σ : zSt} {x3 : Int64} {b : Int} (hσ : zIM G2 σ) (gJ : zGJ G) (hb : 4 ≤ b ∧ b ≤ 35) (h3 : x3.toInt = G 100) (h100 : G2 100 = G 100 + b) (h104 : G2 104 = G 104) (h5 : G2 5 = G 5) (hl : 0 ≤ G2 3 ∧ G2 3 < zln G2) (h4 : 0 ≤ G2 4 ∧ G2 4 ≤ 227) (hp : zph G2 = zph G + b) (h101 : G 101 ≤ G2 101 ∧ G2 101 ≤ G 101 + 1) (hr : ∀ i, i ∈ [0, 1, 2, 6, 7, 8, 9, 102, 103, 105, 106] → G2 i = G i) : zok (fX12_once_298 σ x3) (zOnce G) := by
  obtain ⟨j1, j2, j3, j4, j5, j6, j7, j8⟩ := gJ
  refine zok_mono (s_once_298 hσ hb (by rw [h3, h100]; omega) (by rw [h100]; omega) (by rw [h104]; omega) (by rw [h5]; exact j7) (by rw [h3, h5]; exact j8)) (fun r q => ?_)
  obtain ⟨w, c, w1, c1, c2, i⟩ := q
  rw [h104] at w1
  rw [h5] at c1
  have v : ∀ k, ¬ k = 5 → ¬ k = 104 → (zset (zset G2 104 w) 5 c) k = G2 k := fun k k5 k4 => by rw [zset_ne k5, zset_ne k4]
  have v5 : (zset (zset G2 104 w) 5 c) 5 = c := zset_eq
  have v4 : (zset (zset G2 104 w) 5 c) 104 = w := by rw [zset_ne (by decide), zset_eq]
  refine ⟨_, b, i, hb, ?_, ?_, ?_, ?_, ?_, ?_, ?_, ?_, ?_⟩
  · rw [v 100 (by decide) (by decide)]; exact h100
  · rw [v4]; omega
  · rw [v5]; exact c1
  · rw [v 100 (by decide) (by decide), v5]; exact c2
  · rw [v 3 (by decide) (by decide), zln_c (v 1 (by decide) (by decide))]; exact hl
  · rw [v 4 (by decide) (by decide)]; exact h4
  · unfold zph at hp ⊢
    rw [v 1 (by decide) (by decide), v 101 (by decide) (by decide), v 3 (by decide) (by decide), v 4 (by decide) (by decide)]; exact hp
  · rw [v 101 (by decide) (by decide)]; exact h101
  · intro k hk
    rw [v k (fun r => by subst r; revert hk; decide) (fun r => by subst r; revert hk; decide)]; exact hr k hk
theorem s_X12_once_229 {G : Nat → Int} {σ : zSt} (hσ : zIM G σ) {x2 : Int32} (h_x2 : zr (4) (35) x2) (gJ : zGJ G) : zok (fX12_once_229 σ x2) (zOnce G) := by
  have gJ0 := gJ
  obtain ⟨j1, j2, j3, j4, j5, j6, j7, j8⟩ := gJ
  have b1 := h_x2.1
  have b2 := h_x2.2
  unfold fX12_once_229
  refine zok_ck rfl (zok_ck rfl ?_)
  refine zok_bs (I := zIM G) (hσ.wl 1 1 (by decide) (by decide)) (fun σ1 e1 i1 => ?_)
  refine zok_ck rfl (zok_bv (fun v11 e11 => ?_))
  have ev : v11.toInt = G 100 := by rw [e11]; exact i1.atl 0 (by decide)
  refine zok_ck rfl (zok_ck rfl ?_)
  have eb : (zgl σ1 4 (0 : Int32).toNatClampNeg).toInt = G 100 := i1.atl 0 (by decide)
  have tb : (zgl σ1 4 (0 : Int32).toNatClampNeg + x2.toInt64).toInt = G 100 + x2.toInt := by
    rw [z_tladd (a := 0) (b := 1125899906842624) (c := 4) (d := 35) (x := zgl σ1 4 (0 : Int32).toNatClampNeg) (y := x2.toInt64) ⟨by omega, by omega⟩ (zrl_i h_x2) (by decide), eb, Int32.toInt_toInt64]
  refine zok_bs (I := zIM (zset G 100 (G 100 + x2.toInt))) (by rw [← tb]; exact i1.wgl 0 (by decide)) (fun σ2 e2 i2 => ?_)
  refine zok_ck rfl (zok_ck rfl ?_)
  have e4 : (zgi σ2 3 (67 : Int32).toNatClampNeg).toInt = G 4 := by rw [i2.at 4 (by decide), zset_ne (by decide)]
  have h4 : zr 0 227 (zgi σ2 3 (67 : Int32).toNatClampNeg) := ⟨by omega, by omega⟩
  have t4 : (zgi σ2 3 (67 : Int32).toNatClampNeg + x2).toInt = G 4 + x2.toInt := by rw [z_tadd h4 h_x2 (by decide), e4]
  refine zok_bv (fun σ3 e3 => ?_)
  have e5 : (zgi σ3 3 (67 : Int32).toNatClampNeg).toInt = G 4 + x2.toInt := by
    rw [← t4, e3]; show ((zsi _ _ _ _).1 _ _).toInt = _; rw [zsi_ej]
  have c228 : (228 : Int32).toInt = 228 := rfl
  refine zok_ck rfl (zok_if (fun q => ?_) (fun q => ?_))
  · have q1 := Int32.lt_iff_toInt_lt.mp q
    have i3 : zIM (zset (zset G 100 (G 100 + x2.toInt)) 4 (G 4 + x2.toInt)) σ3 := by
      rw [e3, ← t4]
      exact i2.wg (lo := 0) (hi := 227) 4 (by decide) (by decide) ⟨by rw [t4]; omega, by rw [t4]; omega⟩ (by decide +kernel)
    have v : ∀ k, ¬ k = 100 → ¬ k = 4 → (zset (zset G 100 (G 100 + x2.toInt)) 4 (G 4 + x2.toInt)) k = G k := fun k k1 k2 => by rw [zset_ne k2, zset_ne k1]
    have v1 : (zset (zset G 100 (G 100 + x2.toInt)) 4 (G 4 + x2.toInt)) 100 = G 100 + x2.toInt := by rw [zset_ne (by decide), zset_eq]
    have v4 : (zset (zset G 100 (G 100 + x2.toInt)) 4 (G 4 + x2.toInt)) 4 = G 4 + x2.toInt := zset_eq
    refine s_once_fin (b := x2.toInt) i3 gJ0 ⟨b1, b2⟩ ev v1 (v 104 (by decide) (by decide)) (v 5 (by decide) (by decide)) ?_ ?_ ?_ ?_ ?_
    · rw [v 3 (by decide) (by decide), zln_c (v 1 (by decide) (by decide))]; exact j5
    · rw [v4]; omega
    · unfold zph
      rw [v 1 (by decide) (by decide), v 101 (by decide) (by decide), v 3 (by decide) (by decide), v4]; omega
    · rw [v 101 (by decide) (by decide)]; omega
    · intro k hk
      exact v k (fun r => by subst r; revert hk; decide) (fun r => by subst r; revert hk; decide)
  · have q1 := Int32.le_iff_toInt_le.mp (z_nlt q)
    refine zok_ck rfl (zok_ck rfl ?_)
    have h6 : zr 228 262 (zgi σ3 3 (67 : Int32).toNatClampNeg) := ⟨by omega, by omega⟩
    have k28 : zr 228 228 (228 : Int32) := zr_c (by decide)
    have t6 : (zgi σ3 3 (67 : Int32).toNatClampNeg - 228).toInt = G 4 + x2.toInt - 228 := by rw [z_tsub h6 k28 (by decide), e5, c228]
    refine zok_bs (I := zIM (zset (zset G 100 (G 100 + x2.toInt)) 4 (G 4 + x2.toInt - 228))) (by rw [← t6, zsi_two e3]; exact i2.wg 4 (by decide) (by decide) (zr_sub (lo := 0) (hi := 34) h6 k28 (by decide)) (by decide +kernel)) (fun σ4 e4 i4 => ?_)
    have v : ∀ k, ¬ k = 100 → ¬ k = 4 → (zset (zset G 100 (G 100 + x2.toInt)) 4 (G 4 + x2.toInt - 228)) k = G k := fun k k1 k2 => by rw [zset_ne k2, zset_ne k1]
    have v1 : (zset (zset G 100 (G 100 + x2.toInt)) 4 (G 4 + x2.toInt - 228)) 100 = G 100 + x2.toInt := by rw [zset_ne (by decide), zset_eq]
    have v4 : (zset (zset G 100 (G 100 + x2.toInt)) 4 (G 4 + x2.toInt - 228)) 4 = G 4 + x2.toInt - 228 := zset_eq
    have l1 : zln (zset (zset G 100 (G 100 + x2.toInt)) 4 (G 4 + x2.toInt - 228)) = zln G := zln_c (v 1 (by decide) (by decide))
    generalize zset (zset G 100 (G 100 + x2.toInt)) 4 (G 4 + x2.toInt - 228) = H at *
    have w3 := v 3 (by decide) (by decide)
    have w101 := v 101 (by decide) (by decide)
    refine zok_bu (s_X12_ends i4 (by unfold zEh; rw [w3, w101, l1]; exact ⟨j5, j4⟩)) (fun σ5 i5 => ?_)
    have lb := zln_b G
    by_cases qe : H 3 + 1 = zln H
    · have eE : zEnd H = zset (zset (zset H 3 (H 3 + 1)) 3 0) 101 (H 101 + 1) := if_pos qe
      rw [eE, zset_set] at i5
      have u : ∀ k, ¬ k = 3 → ¬ k = 101 → (zset (zset H 3 0) 101 (H 101 + 1)) k = H k := fun k k1 k2 => by rw [zset_ne k2, zset_ne k1]
      have u3 : (zset (zset H 3 0) 101 (H 101 + 1)) 3 = 0 := by rw [zset_ne (by decide), zset_eq]
      have u1 : (zset (zset H 3 0) 101 (H 101 + 1)) 101 = G 101 + 1 := by rw [zset_eq, w101]
      refine s_once_fin (b := x2.toInt) i5 gJ0 ⟨b1, b2⟩ ev ((u 100 (by decide) (by decide)).trans v1) ((u 104 (by decide) (by decide)).trans (v 104 (by decide) (by decide))) ((u 5 (by decide) (by decide)).trans (v 5 (by decide) (by decide))) ?_ ?_ ?_ ?_ ?_
      · rw [u3, zln_c (u 1 (by decide) (by decide)), l1]; omega
      · rw [u 4 (by decide) (by decide), v4]; omega
      · unfold zph
        rw [u 1 (by decide) (by decide), v 1 (by decide) (by decide), u1, u3, u 4 (by decide) (by decide), v4]
        rw [l1, w3] at qe
        unfold zln at qe
        split at qe
        · next h => rw [if_pos h, if_pos h]; omega
        · next h => rw [if_neg h, if_neg h]; omega
      · rw [u1]; omega
      · intro k hk
        exact (u k (fun r => by subst r; revert hk; decide) (fun r => by subst r; revert hk; decide)).trans (v k (fun r => by subst r; revert hk; decide) (fun r => by subst r; revert hk; decide))
    · have eE : zEnd H = zset H 3 (H 3 + 1) := if_neg qe
      rw [eE] at i5
      have u : ∀ k, ¬ k = 3 → (zset H 3 (H 3 + 1)) k = H k := fun k k1 => by rw [zset_ne k1]
      have u3 : (zset H 3 (H 3 + 1)) 3 = G 3 + 1 := by rw [zset_eq, w3]
      refine s_once_fin (b := x2.toInt) i5 gJ0 ⟨b1, b2⟩ ev ((u 100 (by decide)).trans v1) ((u 104 (by decide)).trans (v 104 (by decide) (by decide))) ((u 5 (by decide)).trans (v 5 (by decide) (by decide))) ?_ ?_ ?_ ?_ ?_
      · rw [u3, zln_c (u 1 (by decide)), l1]
        rw [l1, w3] at qe
        omega
      · rw [u 4 (by decide), v4]; omega
      · unfold zph
        rw [u 1 (by decide), v 1 (by decide) (by decide), u 101 (by decide), w101, u3, u 4 (by decide), v4]; omega
      · rw [u 101 (by decide), w101]; omega
      · intro k hk
        exact (u k (fun r => by subst r; revert hk; decide)).trans (v k (fun r => by subst r; revert hk; decide) (fun r => by subst r; revert hk; decide))
theorem s_X12_once_204 {G : Nat → Int} {σ : zSt} (hσ : zIM G σ) (gJ : zGJ G) : zok (fX12_once_204 σ ) (zOnce G) := by
  unfold fX12_once_204
  refine zok_ck rfl ?_
  refine zok_if (fun q1 => ?_) (fun q1 => ?_)
  · have h2 := zc_eql (1) (1) q1 (rM_17 hσ.sg _ (by decide)) (zr_c (lo := 1) (hi := 1) (by decide)) (by decide)
    refine zok_bu (s_X12_grows hσ) (fun σ18 i3 => ?_)
    exact (s_X12_once_229 i3 (zr_w (zr_c (lo := 4) (hi := 4) (by decide)) (by decide)) gJ)
  have h4 := zc_nel (0) (0) q1 (rM_17 hσ.sg _ (by decide)) (zr_c (lo := 1) (hi := 1) (by decide)) (by decide)
  refine zok_ai (s_X12_instruction hσ) (fun σ16 v17 i5 h6 => ?_)
  exact (s_X12_once_229 i5 h6 gJ)
theorem s_X12_once_200 {G : Nat → Int} {σ : zSt} (hσ : zIM G σ) {s0 : Int32} (h_s0 : zr (13) (19) s0) (gJ : zGJ G) : zok (fX12_once_200 σ s0) (zOnce G) := by
  unfold fX12_once_200
  exact (s_X12_once_229 hσ (zr_w h_s0 (by decide)) gJ)
theorem s_X12_once_179 {G : Nat → Int} {σ : zSt} (hσ : zIM G σ) {s0 : Int32} (h_s0 : zr (0) (65535) s0) (gJ : zGJ G) : zok (fX12_once_179 σ s0) (zOnce G) := by
  unfold fX12_once_179
  refine zok_bu (s_X12_call hσ h_s0) (fun σ19 i1 => ?_)
  refine zok_ck rfl ?_
  refine zok_if (fun q2 => ?_) (fun q2 => ?_)
  · have h3 := zc_ler (2) q2 (zr_c (lo := 2) (hi := 2) (by decide)) (rM_16 i1.sg _ (by decide)) (by decide)
    exact (s_X12_once_200 i1 (zr_w (zr_c (lo := 19) (hi := 19) (by decide)) (by decide)) gJ)
  have h4 := zc_ltl (1) (z_nle q2) (rM_16 i1.sg _ (by decide)) (zr_c (lo := 2) (hi := 2) (by decide)) (by decide)
  exact (s_X12_once_200 i1 (zr_w (zr_c (lo := 13) (hi := 13) (by decide)) (by decide)) gJ)
theorem s_X12_once_102 {G : Nat → Int} {σ : zSt} (hσ : zIM G σ) {x1 : Int32} (h_x1 : zr (0) (1) x1) (gJ : zGJ G) : zok (fX12_once_102 σ x1) (zOnce G) := by
  unfold fX12_once_102
  refine zok_ck rfl ?_
  refine zok_if (fun q1 => ?_) (fun q1 => ?_)
  · have h2 := zc_eql (1) (1) q1 (rM_15 hσ.sg _ (by decide)) (zr_c (lo := 1) (hi := 1) (by decide)) (by decide)
    refine zok_if (fun q3 => ?_) (fun q3 => ?_)
    · have h4 := zc_eql (0) (0) q3 h_x1 (zr_c (lo := 0) (hi := 0) (by decide)) (by decide)
      exact (s_X12_once_204 hσ gJ)
    have h5 := zc_nel (1) (1) q3 h_x1 (zr_c (lo := 0) (hi := 0) (by decide)) (by decide)
    refine zok_pi (s_X12_asks hσ.P) (fun v21 h6 => ?_)
    refine zok_if (fun q7 => ?_) (fun q7 => ?_)
    · have h8 := zc_eql (0) (0) q7 h6 (zr_c (lo := 0) (hi := 0) (by decide)) (by decide)
      exact (s_X12_once_204 hσ gJ)
    have h9 := zc_nel (1) (1) q7 h6 (zr_c (lo := 0) (hi := 0) (by decide)) (by decide)
    refine zok_ck rfl ?_
    refine zok_bs (hσ.wi 23 23 (by decide) (zr_c (lo := 0) (hi := 0) (by decide)) (by decide +kernel)) (fun σ22 e11 i10 => ?_)
    refine zok_ck rfl ?_
    refine zok_bs (i10.wi 24 24 (by decide) (zr_c (lo := 0) (hi := 0) (by decide)) (by decide +kernel)) (fun σ23 e13 i12 => ?_)
    refine zok_bu (s_X12_answers i12) (fun σ24 i14 => ?_)
    refine zok_ck rfl ?_
    refine zok_if (fun q15 => ?_) (fun q15 => ?_)
    · have h16 := zc_ler (2) q15 (zr_c (lo := 2) (hi := 2) (by decide)) (rM_16 i14.sg _ (by decide)) (by decide)
      refine zok_ck rfl ?_
      refine zok_pi (s_X12_word i14.P (zr_or (lo := 0) (hi := 65535) 16 (zr_shl (lo := 0) (hi := 65280) 8 (by decide) (rM_14 i14.sg _ (by decide)) (by decide)) (zr_c (lo := 255) (hi := 255) (by decide)) (by decide))) (fun v26 h17 => ?_)
      exact (s_X12_once_179 i14 h17 gJ)
    have h18 := zc_ltl (1) (z_nle q15) (rM_16 i14.sg _ (by decide)) (zr_c (lo := 2) (hi := 2) (by decide)) (by decide)
    exact (s_X12_once_179 i14 (zr_w (zr_c (lo := 56) (hi := 56) (by decide)) (by decide)) gJ)
  have h19 := zc_nel (0) (0) q1 (rM_15 hσ.sg _ (by decide)) (zr_c (lo := 1) (hi := 1) (by decide)) (by decide)
  exact (s_X12_once_204 hσ gJ)
theorem s_X12_once_46 {G : Nat → Int} {σ : zSt} (hσ : zIM G σ) {s0 : Int32} (h_s0 : zr (0) (1) s0) (gJ : zGJ G) : zok (fX12_once_46 σ s0) (zOnce G) := by
  unfold fX12_once_46
  refine zok_ck rfl ?_
  refine zok_bs (hσ.wi 27 27 (by decide) (zr_c (lo := 0) (hi := 0) (by decide)) (by decide +kernel)) (fun σ27 e2 i1 => ?_)
  refine zok_ck rfl ?_
  refine zok_if (fun q3 => ?_) (fun q3 => ?_)
  · have h4 := zc_eql (1) (1) q3 (rM_17 i1.sg _ (by decide)) (zr_c (lo := 1) (hi := 1) (by decide)) (by decide)
    refine zok_if (fun q5 => ?_) (fun q5 => ?_)
    · have h6 := zc_eql (0) (0) q5 h_s0 (zr_c (lo := 0) (hi := 0) (by decide)) (by decide)
      exact (s_X12_once_102 i1 (zr_w h6 (by decide)) gJ)
    have h7 := zc_nel (1) (1) q5 h_s0 (zr_c (lo := 0) (hi := 0) (by decide)) (by decide)
    refine zok_ck rfl ?_
    refine zok_bs (i1.wi 28 28 (by decide) (zr_c (lo := 0) (hi := 0) (by decide)) (by decide +kernel)) (fun σ28 e9 i8 => ?_)
    refine zok_ck rfl ?_
    refine zok_bs (i8.wi 23 23 (by decide) (zr_c (lo := 0) (hi := 0) (by decide)) (by decide +kernel)) (fun σ29 e11 i10 => ?_)
    refine zok_bu (s_X12_answers i10) (fun σ30 i12 => ?_)
    refine zok_bu (s_X12_call i12 (zr_w (zr_c (lo := 102) (hi := 102) (by decide)) (by decide))) (fun σ31 i13 => ?_)
    exact (s_X12_once_229 i13 (zr_w (zr_c (lo := 11) (hi := 11) (by decide)) (by decide)) gJ)
  have h14 := zc_nel (0) (0) q3 (rM_17 i1.sg _ (by decide)) (zr_c (lo := 1) (hi := 1) (by decide)) (by decide)
  exact (s_X12_once_102 i1 h_s0 gJ)
theorem s_X12_once {G : Nat → Int} {σ : zSt} (hσ : zIM G σ) (gJ : zGJ G) (gJh : ¬ G 103 = 1125899906842624) : zok (fX12_once σ ) (zOnce (zset G 103 (G 103 + 1))) := by
  have gJ0 := gJ
  obtain ⟨j1, j2, j3, j4, j5, j6, j7, j8⟩ := gJ
  unfold fX12_once
  have e : (zgl σ 0 30).toInt = G 103 := hσ.atl 3 (by decide)
  have hz : zrl 0 1125899906842624 (zgl σ 0 30) := ⟨by omega, by omega⟩
  have h3 := zr_l (lo := 0) (hi := 31) (zrl_rem (y := 32) (lo := 0) (hi := 31) 32 (by decide) hz (by decide)) (by decide)
  refine zok_ck rfl (zok_ck rfl (zok_ck (zin_ok h3 (by decide)) ?_))
  refine zok_bs (I := zIM G) (hσ.wk (by decide +kernel)) (fun σ1 e1 i1 => ?_)
  have ed : (zgl σ1 0 30).toInt = G 103 := i1.atl 3 (by decide)
  have t : (zgl σ1 0 30 + 1).toInt = G 103 + 1 := by
    rw [z_tladd (a := 0) (b := 1125899906842624) (x := zgl σ1 0 30) (y := 1) ⟨by omega, by omega⟩ (zrl_c (lo := 1) (hi := 1) (x := 1) (by decide)) (by decide), ed, show (1 : Int64).toInt = 1 from rfl]
  refine zok_bs (I := zIM (zset G 103 (G 103 + 1))) (by rw [← t]; exact i1.wgl 3 (by decide)) (fun σ2 e2 i2 => ?_)
  have v : ∀ k, ¬ k = 103 → (zset G 103 (G 103 + 1)) k = G k := fun k k1 => zset_ne k1
  have v3 : (zset G 103 (G 103 + 1)) 103 = G 103 + 1 := zset_eq
  have gX : zGJ (zset G 103 (G 103 + 1)) ∨ G 103 = 1125899906842624 := by
    by_cases q : G 103 = 1125899906842624
    · exact Or.inr q
    · refine Or.inl ?_
      unfold zGJ
      rw [v 100 (by decide), v3, v 104 (by decide), v 101 (by decide), v 3 (by decide), v 4 (by decide), v 5 (by decide), zln_c (v 1 (by decide))]
      exact ⟨j1, by omega, j3, j4, j5, j6, j7, j8⟩
  refine zok_ck rfl ?_
  exact zok_if (fun _ => s_X12_once_46 i2 (zr_w (zr_c (lo := 1) (hi := 1) (by decide)) (by decide)) (gX.resolve_right gJh)) (fun _ => s_X12_once_46 i2 (zr_w (zr_c (lo := 0) (hi := 0) (by decide)) (by decide)) (gX.resolve_right gJh))
theorem s_X12_isStop_2_body {σ : zSt} {k2 : zSt → Int32 → Int32 → Option (zSt × Int32)} {Mk2 : Int} (hk2 : ∀ (x1 : Int32) (x2 : Int32), zr (0) (8) x2 → (8) - x2.toInt < Mk2 → zok (k2 σ x1 x2) (zPi σ (fun v : Int32 => zr (0) (1) v))) (hσ : zPM σ) {x1 : Int32} {x2 : Int32} (h_x2 : zr (0) (8) x2) (hMk2 : (8) - x2.toInt ≤ Mk2) : zok (fX12_isStop_2_body k2 σ x1 x2) (zPi σ (fun v : Int32 => zr (0) (1) v)) := by
  unfold fX12_isStop_2_body
  refine zok_ck rfl ?_
  refine zok_if (fun q1 => ?_) (fun q1 => ?_)
  · refine zok_ck rfl ?_
    exact zok_spi (zr_w (zr_c (lo := 0) (hi := 0) (by decide)) (by decide))
  have h2 := zc_ltl (7) (z_nle q1) h_x2 (rM_39 hσ.sg _ (by decide)) (by decide)
  have h3 := zc_ltr (1) (z_nle q1) h_x2 (rM_39 hσ.sg _ (by decide)) (by decide)
  refine zok_ck (zin_ok (zr_add (lo := 90) (hi := 97) (zr_c (lo := 90) (hi := 90) (by decide)) h2 (by decide)) (by decide)) ?_
  refine zok_if (fun q4 => ?_) (fun q4 => ?_)
  · refine zok_ck rfl ?_
    exact zok_spi (zr_w (zr_c (lo := 1) (hi := 1) (by decide)) (by decide))
  refine zok_br (zr_add (lo := 1) (hi := 8) h2 (zr_c (lo := 1) (hi := 1) (by decide)) (by decide)) (fun v1 e6 h5 => ?_)
  exact hk2 _ _  (zr_w h5 (by decide)) (by rw [e6]; have := z_tadd (y := (1 : Int32)) h2 (zr_c (lo := 1) (hi := 1) (by decide)) (by decide); have e9 : (1 : Int32).toInt = 1 := rfl; omega) 
theorem s_X12_isStop_2 {σ : zSt} (hσ : zPM σ) : ∀ (n : Nat) {x1 : Int32} {x2 : Int32} (h_x2 : zr (0) (8) x2) (hm : (8) - x2.toInt < n), zok (fX12_isStop_2 n σ x1 x2) (zPi σ (fun v : Int32 => zr (0) (1) v)) := by
  intro n
  induction n with
  | zero => intro x1 x2 h_x2 hm ; have h9 := h_x2.1; have h8 := h_x2.2; exfalso; omega
  | succ n ih => intro x1 x2 h_x2 hm ; exact s_X12_isStop_2_body (fun x1 x2 h_x2 hm1 => ih h_x2 (by omega)) hσ h_x2 (Int.le_refl _)
theorem s_X12_isStop {σ : zSt} (hσ : zPM σ) {x1 : Int32} : zok (fX12_isStop σ x1) (zPi σ (fun v : Int32 => zr (0) (1) v)) := by
  unfold fX12_isStop
  exact (s_X12_isStop_2 hσ zfuel (zr_w (zr_c (lo := 0) (hi := 0) (by decide)) (by decide)) (by decide))
noncomputable def zK (K : Int) (G : Nat → Int) : Prop := zGJ G ∧ G 100 ≤ K ∧ G 103 ≤ K ∧ G 104 ≤ K ∧ G 101 ≤ K ∧ G 5 ≤ K
theorem zK.mono {K K1 : Int} {G : Nat → Int} (h : zK K G) (c : K ≤ K1) : zK K1 G := ⟨h.1, Int.le_trans h.2.1 c, Int.le_trans h.2.2.1 c, Int.le_trans h.2.2.2.1 c, Int.le_trans h.2.2.2.2.1 c, Int.le_trans h.2.2.2.2.2 c⟩
noncomputable def zStp (K : Int) (G : Nat → Int) (Q : Int32 → Prop) (r : zSt × Int32) : Prop := (∃ G1, zIM G1 r.1 ∧ zK K G1 ∧ ∀ i, i ∈ [0, 1, 2, 6, 7, 8, 9, 102, 105, 106] → G1 i = G i) ∧ Q r.2
theorem zK.once {K : Int} {G : Nat → Int} {r : zSt} (h : zK K G) (hK : K + 35 ≤ 268435456) (q : zOnce (zset G 103 (G 103 + 1)) r) : ∃ G1 b, zIM G1 r ∧ zK (K + 35) G1 ∧ (4 ≤ b ∧ b ≤ 35) ∧ zph G1 = zph G + b ∧ (∀ i, i ∈ [0, 1, 2, 6, 7, 8, 9, 102, 105, 106] → G1 i = G i) := by
  obtain ⟨G1, b, i, r1, r2, r3, r4, r5, r6, r7, r8, r9, r10⟩ := q
  obtain ⟨⟨j1, j2, j3, j4, j5, j6, j7, j8⟩, k1, k2, k3, k4, k5⟩ := h
  have v : ∀ k, ¬ k = 103 → (zset G 103 (G 103 + 1)) k = G k := fun k k1 => zset_ne k1
  have v3 : G1 103 = G 103 + 1 := by rw [r10 103 (by decide)]; exact zset_eq
  rw [v 100 (by decide)] at r2
  rw [v 104 (by decide)] at r3
  rw [v 5 (by decide)] at r4
  rw [v 101 (by decide)] at r9
  have p : zph (zset G 103 (G 103 + 1)) = zph G := by unfold zph; rw [v 1 (by decide), v 101 (by decide), v 3 (by decide), v 4 (by decide)]
  rw [p] at r8
  refine ⟨G1, b, i, ⟨⟨by omega, by omega, by omega, by omega, r6, r7, by omega, r5⟩, by omega, by omega, by omega, by omega, by omega⟩, r1, r8, fun k hk => ?_⟩
  have hk1 : k ∈ [0, 1, 2, 6, 7, 8, 9, 102, 103, 105, 106] := by
    revert hk
    simp only [List.mem_cons, List.not_mem_nil, or_false]
    omega
  rw [r10 k hk1]
  exact v k (fun r => by subst r; revert hk; decide)
theorem s_step_h {x1 : Int32} (h1 : zr 1 20000 x1) : ∀ (n : Nat) {G : Nat → Int} {σ : zSt} {K : Int} (hσ : zIM G σ) (hK : zK K G) {x2 : Int32} (h2 : zr 0 20000 x2) (hb : K + 35 * (20000 - x2.toInt) ≤ 268435456) (hm : 20000 - x2.toInt < n), zok (fX12_step_29 n σ x1 x2) (zStp (K + 35 * (20000 - x2.toInt)) G (fun v : Int32 => zr (0) (32767) v)) := by
  intro n
  induction n with
  | zero => intro G σ K hσ hK x2 h2 hb hm; have := h2.2; exfalso; omega
  | succ n ih =>
    intro G σ K hσ hK x2 h2 hb hm
    have b2 := h2.2
    have b1 := h2.1
    have b3 := h1.2
    show zok (fX12_step_29_body (fX12_step_29 n) σ x1 x2) _
    unfold fX12_step_29_body
    have out : zok (fX12_step_62 σ x2) (zStp (K + 35 * (20000 - x2.toInt)) G (fun v : Int32 => zr (0) (32767) v)) := zok_some ⟨⟨G, hσ, hK.mono (by omega), fun _ _ => rfl⟩, ⟨by show 0 ≤ x2.toInt; omega, by show x2.toInt ≤ 32767; omega⟩⟩
    refine zok_if (fun _ => out) (fun q => ?_)
    have q1 := Int32.lt_iff_toInt_lt.mp (z_nle q)
    have go : zok (fX12_step_52 (fX12_step_29 n) σ x1 x2) (zStp (K + 35 * (20000 - x2.toInt)) G (fun v : Int32 => zr (0) (32767) v)) := by
      unfold fX12_step_52
      have k2 := hK.2.2.1
      refine zok_bu (s_X12_once hσ hK.1 (by omega)) (fun σ1 q => ?_)
      obtain ⟨G1, b, i1, kk, _, _, hs⟩ := hK.once (by omega) q
      have c1 : (1 : Int32).toInt = 1 := rfl
      have t : (x2 + 1).toInt = x2.toInt + (1 : Int32).toInt := z_tadd h2 (zr_c (lo := 1) (hi := 1) (x := 1) (by decide)) (by decide)
      refine zok_bv (fun v2 e2 => ?_)
      subst e2
      refine zok_mono (ih i1 kk ⟨by omega, by omega⟩ (by omega) (by omega)) (fun r hr => ?_)
      obtain ⟨⟨G2, i2, k9, s2⟩, hq⟩ := hr
      exact ⟨⟨G2, i2, k9.mono (by omega), fun i hi => (s2 i hi).trans (hs i hi)⟩, hq⟩
    refine zok_if (fun _ => go) (fun _ => ?_)
    refine zok_ck rfl (zok_pi (s_X12_isStop hσ.P) (fun v4 _ => zok_if (fun _ => go) (fun _ => out)))
theorem s_X12_step {G : Nat → Int} {σ : zSt} {K : Int} (hσ : zIM G σ) (hK : zK K G) (hb : K + 700000 ≤ 268435456) {x1 : Int32} : zok (fX12_step σ x1) (zStp (K + 700000) G (fun v : Int32 => zr (0) (32767) v)) := by
  unfold fX12_step
  refine zok_within (fun w1 w2 => ?_) (fun w3 => ?_)
  · have h1 := z_wir w1 w2 (zrl_c (lo := 1) (hi := 1) (by decide)) (zrl_c (lo := 20000) (hi := 20000) (by decide))
    refine zok_if (fun q => absurd q (by decide)) (fun _ => ?_)
    unfold fX12_step_18
    refine zok_fails0 (I := zIM G) (hσ.wi 0 0 (by decide) zr_any (by decide +kernel)) (fun σ1 e1 i1 => ?_)
    refine zok_if (fun _ => ?_) (fun q => absurd rfl q)
    have c0 : (0 : Int32).toInt = 0 := rfl
    refine zok_mono (s_step_h h1 zfuel i1 hK (zr_c (by decide)) (by rw [c0]; omega) (by decide)) (fun r hr => ?_)
    obtain ⟨⟨G2, i2, k9, s2⟩, hq⟩ := hr
    exact ⟨⟨G2, i2, k9.mono (by rw [c0]; omega), s2⟩, hq⟩
  · refine zok_if (fun _ => ?_) (fun q => absurd rfl q)
    unfold fX12_step_18
    refine zok_fails1 (I := zIM G) (hσ.wi 0 0 (by decide) zr_any (by decide +kernel)) (fun σ1 e1 i1 => ?_)
    exact zok_if (fun q => absurd q (by decide)) (fun _ => zok_some ⟨⟨G, i1, hK.mono (by omega), fun _ _ => rfl⟩, (show zr 0 32767 (0 : Int32) from zr_c (by decide))⟩)
theorem s_pic_h (n : Nat) {x2 : Int64} : ∀ (m : Nat) {G : Nat → Int} {σ : zSt} {K : Int} (hσ : zIM G σ) (hK : zK K G) {x4 : Int32} (hm : 228 * (if G 1 = 1 then 313 * x2.toInt else 262 * x2.toInt) - zph G < 4 * (m : Int)) (hb : K + 35 * (m : Int) ≤ 268435456), zok (fX12_picture_40 (n + m + 1) σ x2 x4) (zStp (K + 35 * (m : Int)) G (fun v : Int32 => True)) := by
  intro m
  induction m with
  | zero =>
    intro G σ K hσ hK x4 hm hb
    show zok (fX12_picture_40_body (fX12_picture_40 (n + 0)) σ x2 x4) _
    unfold fX12_picture_40_body
    have e : (zgl σ 4 (2 : Int32).toNatClampNeg).toInt = G 101 := hσ.atl 1 (by decide)
    refine zok_ck rfl (zok_if (fun _ => zok_some ⟨⟨G, hσ, hK.mono (by omega), fun _ _ => rfl⟩, trivial⟩) (fun q => ?_))
    have q1 : ¬ x2.toInt ≤ G 101 := fun r => q (z_cmp_ge.mpr (by rw [e]; exact r))
    exfalso
    obtain ⟨⟨j1, j2, j3, j4, j5, j6, j7, j8⟩, _⟩ := hK
    unfold zph at hm
    unfold zln at j5
    split at j5
    · next h => rw [if_pos h, if_pos h] at hm; omega
    · next h => rw [if_neg h, if_neg h] at hm; omega
  | succ m ih =>
    intro G σ K hσ hK x4 hm hb
    show zok (fX12_picture_40_body (fX12_picture_40 (n + (m + 1))) σ x2 x4) _
    unfold fX12_picture_40_body
    have out : zok (fX12_picture_80 σ x4) (zStp (K + 35 * ((m + 1 : Nat) : Int)) G (fun v : Int32 => True)) := zok_some ⟨⟨G, hσ, hK.mono (by omega), fun _ _ => rfl⟩, trivial⟩
    have go : zok (fX12_picture_70 (fX12_picture_40 (n + (m + 1))) σ x2 x4) (zStp (K + 35 * ((m + 1 : Nat) : Int)) G (fun v : Int32 => True)) := by
      unfold fX12_picture_70
      have k2 := hK.2.2.1
      refine zok_bu (s_X12_once hσ hK.1 (by omega)) (fun σ1 q => ?_)
      obtain ⟨G1, b, i1, kk, hb4, hp, hs⟩ := hK.once (by omega) q
      have h1 : G1 1 = G 1 := hs 1 (by decide)
      refine zok_bv (fun v2 e2 => ?_)
      refine zok_mono (ih i1 kk (by rw [h1, hp]; omega) (by omega)) (fun r hr => ?_)
      obtain ⟨⟨G2, i2, k9, s2⟩, hq⟩ := hr
      exact ⟨⟨G2, i2, k9.mono (by omega), fun i hi => (s2 i hi).trans (hs i hi)⟩, hq⟩
    refine zok_ck rfl (zok_if (fun _ => out) (fun _ => zok_if (fun _ => go) (fun _ => ?_)))
    exact zok_ck rfl (zok_pi (s_X12_isStop hσ.P) (fun v4 _ => zok_if (fun _ => go) (fun _ => out)))
theorem s_X12_picture {G : Nat → Int} {σ : zSt} {K : Int} (hσ : zIM G σ) (hK : zK K G) (hb : K + 2100000 ≤ 268435456) {x1 : Int32} : zok (fX12_picture σ x1) (zStp (K + 2100000) G (fun v : Int32 => True)) := by
  unfold fX12_picture
  refine zok_within (fun w1 w2 => ?_) (fun w3 => ?_)
  · have h1 := z_wir w1 w2 (zrl_c (lo := 1) (hi := 1) (by decide)) (zrl_c (lo := 3) (hi := 3) (by decide))
    refine zok_if (fun q => absurd q (by decide)) (fun _ => ?_)
    unfold fX12_picture_18
    refine zok_fails0 (I := zIM G) (hσ.wi 0 0 (by decide) zr_any (by decide +kernel)) (fun σ1 e1 i1 => ?_)
    refine zok_if (fun _ => ?_) (fun q => absurd rfl q)
    refine zok_ck rfl (zok_bv (fun v7 e7 => ?_))
    have hK0 := hK
    obtain ⟨⟨j1, j2, j3, j4, j5, j6, j7, j8⟩, _⟩ := hK
    have b1 := h1.1
    have b2 := h1.2
    have e : (zgl σ1 4 (2 : Int32).toNatClampNeg).toInt = G 101 := i1.atl 1 (by decide)
    have t : v7.toInt = G 101 + x1.toInt := by
      rw [e7, z_tladd (a := 0) (b := 1125899906842624) (c := 1) (d := 3) (x := zgl σ1 4 (2 : Int32).toNatClampNeg) (y := x1.toInt64) ⟨by omega, by omega⟩ (zrl_i h1) (by decide), e, Int32.toInt_toInt64]
    show zok (fX12_picture_40 (1940000 + 59999 + 1) σ1 v7 0) _
    have hm : 228 * (if G 1 = 1 then 313 * v7.toInt else 262 * v7.toInt) - zph G < 4 * ((59999 : Nat) : Int) := by
      unfold zph
      rw [t]
      split <;> omega
    refine zok_mono (s_pic_h 1940000 59999 i1 hK0 (x4 := 0) hm (by omega)) (fun r hr => ?_)
    obtain ⟨⟨G2, i2, k9, s2⟩, hq⟩ := hr
    exact ⟨⟨G2, i2, k9.mono (by omega), s2⟩, hq⟩
  · refine zok_if (fun _ => ?_) (fun q => absurd rfl q)
    unfold fX12_picture_18
    refine zok_fails1 (I := zIM G) (hσ.wi 0 0 (by decide) zr_any (by decide +kernel)) (fun σ1 e1 i1 => ?_)
    exact zok_if (fun q => absurd q (by decide)) (fun _ => zok_some ⟨⟨G, i1, hK.mono (by omega), fun _ _ => rfl⟩, trivial⟩)
theorem s_X12_dot {G : Nat → Int} {σ : zSt} (hσ : zIM G σ) {x1 : Int32} {x2 : Int32} : zok (fX12_dot σ x1 x2) (zAi (zIM G) (fun v : Int32 => True)) := by
  unfold fX12_dot
  refine zok_if (fun q1 => ?_) (fun q1 => ?_)
  · have h2 := zc_eql (2) (2) q1 (rM_1 hσ.sg _ (by decide)) (zr_c (lo := 2) (hi := 2) (by decide)) (by decide)
    unfold fX12_dot_13
    refine zok_if (fun q3 => ?_) (fun q3 => ?_)
    · have h4 := zc_ltl (-1) q3 zr_any (zr_c (lo := 0) (hi := 0) (by decide)) (by decide)
      unfold fX12_dot_58
      unfold fX12_dot_63
      refine zok_fails1 (hσ.wi 0 0 (by decide) zr_any (by decide +kernel)) (fun σ1 e5 i6 => ?_)
      refine zok_if (fun q7 => ?_) (fun q7 => ?_)
      · exact zr_no (zc_eql (1) (0) q7 (zr_c (lo := 1) (hi := 1) (by decide)) (zr_c (lo := 0) (hi := 0) (by decide)) (by decide)) (by decide)
      exact zok_sai i6 trivial
    have h8 := zc_ler (0) (z_nlt q3) (zr_c (lo := 0) (hi := 0) (by decide)) zr_any (by decide)
    refine zok_if (fun q9 => ?_) (fun q9 => ?_)
    · have h10 := zc_ltl (-1) q9 zr_any (zr_c (lo := 0) (hi := 0) (by decide)) (by decide)
      unfold fX12_dot_58
      unfold fX12_dot_63
      refine zok_fails1 (hσ.wi 0 0 (by decide) zr_any (by decide +kernel)) (fun σ1 e11 i12 => ?_)
      refine zok_if (fun q13 => ?_) (fun q13 => ?_)
      · exact zr_no (zc_eql (1) (0) q13 (zr_c (lo := 1) (hi := 1) (by decide)) (zr_c (lo := 0) (hi := 0) (by decide)) (by decide)) (by decide)
      exact zok_sai i12 trivial
    have h14 := zc_ler (0) (z_nlt q9) (zr_c (lo := 0) (hi := 0) (by decide)) zr_any (by decide)
    refine zok_if (fun q15 => ?_) (fun q15 => ?_)
    · exact zr_no (zc_eql (1) (0) q15 (zr_c (lo := 1) (hi := 1) (by decide)) (zr_c (lo := 0) (hi := 0) (by decide)) (by decide)) (by decide)
    unfold fX12_dot_37
    refine zok_if (fun q16 => ?_) (fun q16 => ?_)
    · have h17 := zc_ler (160) q16 (zr_c (lo := 160) (hi := 160) (by decide)) h8 (by decide)
      unfold fX12_dot_58
      unfold fX12_dot_63
      refine zok_fails1 (hσ.wi 0 0 (by decide) zr_any (by decide +kernel)) (fun σ1 e18 i19 => ?_)
      refine zok_if (fun q20 => ?_) (fun q20 => ?_)
      · exact zr_no (zc_eql (1) (0) q20 (zr_c (lo := 1) (hi := 1) (by decide)) (zr_c (lo := 0) (hi := 0) (by decide)) (by decide)) (by decide)
      exact zok_sai i19 trivial
    have h21 := zc_ltl (159) (z_nle q16) h8 (zr_c (lo := 160) (hi := 160) (by decide)) (by decide)
    refine zok_if (fun q22 => ?_) (fun q22 => ?_)
    · exact zr_no (zc_eql (1) (0) q22 (zr_c (lo := 1) (hi := 1) (by decide)) (zr_c (lo := 0) (hi := 0) (by decide)) (by decide)) (by decide)
    unfold fX12_dot_55
    refine zok_if (fun q23 => ?_) (fun q23 => ?_)
    · have h24 := zc_ltl (143) q23 h14 (zr_c (lo := 144) (hi := 144) (by decide)) (by decide)
      unfold fX12_dot_63
      refine zok_fails0 (hσ.wi 0 0 (by decide) zr_any (by decide +kernel)) (fun σ1 e25 i26 => ?_)
      refine zok_if (fun q27 => ?_) (fun q27 => ?_)
      · refine zok_if (fun q28 => ?_) (fun q28 => ?_)
        · exact zr_no (zc_eql (1) (0) q28 (zr_c (lo := 1) (hi := 1) (by decide)) (zr_c (lo := 0) (hi := 0) (by decide)) (by decide)) (by decide)
        unfold fX12_dot_103
        refine zok_ck (zin_ok (zr_add (lo := 6192) (hi := 42959) (zr_add (lo := 6144) (hi := 42911) (zr_mul (lo := 6144) (hi := 42752) (zr_c (lo := 256) (hi := 256) (by decide)) (zr_add (lo := 24) (hi := 167) h24 (zr_c (lo := 24) (hi := 24) (by decide)) (by decide)) (by decide)) h21 (by decide)) (zr_c (lo := 48) (hi := 48) (by decide)) (by decide)) (by decide)) ?_
        exact zok_sai i26 trivial
      exact zr_no (zc_nel (1) (0) q27 (zr_c (lo := 0) (hi := 0) (by decide)) (zr_c (lo := 0) (hi := 0) (by decide)) (by decide)) (by decide)
    have h29 := zc_ler (144) (z_nlt q23) (zr_c (lo := 144) (hi := 144) (by decide)) h14 (by decide)
    unfold fX12_dot_58
    unfold fX12_dot_63
    refine zok_fails1 (hσ.wi 0 0 (by decide) zr_any (by decide +kernel)) (fun σ1 e30 i31 => ?_)
    refine zok_if (fun q32 => ?_) (fun q32 => ?_)
    · exact zr_no (zc_eql (1) (0) q32 (zr_c (lo := 1) (hi := 1) (by decide)) (zr_c (lo := 0) (hi := 0) (by decide)) (by decide)) (by decide)
    exact zok_sai i31 trivial
  have h33 := zc_nel (0) (1) q1 (rM_1 hσ.sg _ (by decide)) (zr_c (lo := 2) (hi := 2) (by decide)) (by decide)
  unfold fX12_dot_13
  refine zok_if (fun q34 => ?_) (fun q34 => ?_)
  · have h35 := zc_ltl (-1) q34 zr_any (zr_c (lo := 0) (hi := 0) (by decide)) (by decide)
    unfold fX12_dot_58
    unfold fX12_dot_63
    refine zok_fails1 (hσ.wi 0 0 (by decide) zr_any (by decide +kernel)) (fun σ1 e36 i37 => ?_)
    refine zok_if (fun q38 => ?_) (fun q38 => ?_)
    · exact zr_no (zc_eql (1) (0) q38 (zr_c (lo := 1) (hi := 1) (by decide)) (zr_c (lo := 0) (hi := 0) (by decide)) (by decide)) (by decide)
    exact zok_sai i37 trivial
  have h39 := zc_ler (0) (z_nlt q34) (zr_c (lo := 0) (hi := 0) (by decide)) zr_any (by decide)
  refine zok_if (fun q40 => ?_) (fun q40 => ?_)
  · have h41 := zc_ltl (-1) q40 zr_any (zr_c (lo := 0) (hi := 0) (by decide)) (by decide)
    unfold fX12_dot_58
    unfold fX12_dot_63
    refine zok_fails1 (hσ.wi 0 0 (by decide) zr_any (by decide +kernel)) (fun σ1 e42 i43 => ?_)
    refine zok_if (fun q44 => ?_) (fun q44 => ?_)
    · exact zr_no (zc_eql (1) (0) q44 (zr_c (lo := 1) (hi := 1) (by decide)) (zr_c (lo := 0) (hi := 0) (by decide)) (by decide)) (by decide)
    exact zok_sai i43 trivial
  have h45 := zc_ler (0) (z_nlt q40) (zr_c (lo := 0) (hi := 0) (by decide)) zr_any (by decide)
  refine zok_if (fun q46 => ?_) (fun q46 => ?_)
  · unfold fX12_dot_37
    refine zok_if (fun q47 => ?_) (fun q47 => ?_)
    · have h48 := zc_ler (256) q47 (zr_c (lo := 256) (hi := 256) (by decide)) h39 (by decide)
      unfold fX12_dot_58
      unfold fX12_dot_63
      refine zok_fails1 (hσ.wi 0 0 (by decide) zr_any (by decide +kernel)) (fun σ1 e49 i50 => ?_)
      refine zok_if (fun q51 => ?_) (fun q51 => ?_)
      · exact zr_no (zc_eql (1) (0) q51 (zr_c (lo := 1) (hi := 1) (by decide)) (zr_c (lo := 0) (hi := 0) (by decide)) (by decide)) (by decide)
      exact zok_sai i50 trivial
    have h52 := zc_ltl (255) (z_nle q47) h39 (zr_c (lo := 256) (hi := 256) (by decide)) (by decide)
    refine zok_if (fun q53 => ?_) (fun q53 => ?_)
    · refine zok_pi (s_X12_height hσ.P) (fun v4 h54 => ?_)
      unfold fX12_dot_55
      refine zok_if (fun q55 => ?_) (fun q55 => ?_)
      · have h56 := zc_ltl (239) q55 h45 h54 (by decide)
        unfold fX12_dot_63
        refine zok_fails0 (hσ.wi 0 0 (by decide) zr_any (by decide +kernel)) (fun σ1 e57 i58 => ?_)
        refine zok_if (fun q59 => ?_) (fun q59 => ?_)
        · refine zok_if (fun q60 => ?_) (fun q60 => ?_)
          · unfold fX12_dot_103
            refine zok_ck (zin_ok (zr_add (lo := 0) (hi := 61439) (zr_mul (lo := 0) (hi := 61184) (zr_c (lo := 256) (hi := 256) (by decide)) h56 (by decide)) h52 (by decide)) (by decide)) ?_
            exact zok_sai i58 trivial
          exact zr_no (zc_nel (1) (0) q60 (zr_c (lo := 0) (hi := 0) (by decide)) (zr_c (lo := 0) (hi := 0) (by decide)) (by decide)) (by decide)
        exact zr_no (zc_nel (1) (0) q59 (zr_c (lo := 0) (hi := 0) (by decide)) (zr_c (lo := 0) (hi := 0) (by decide)) (by decide)) (by decide)
      have h61 := zc_ler (192) (z_nlt q55) h54 h45 (by decide)
      unfold fX12_dot_58
      unfold fX12_dot_63
      refine zok_fails1 (hσ.wi 0 0 (by decide) zr_any (by decide +kernel)) (fun σ1 e62 i63 => ?_)
      refine zok_if (fun q64 => ?_) (fun q64 => ?_)
      · exact zr_no (zc_eql (1) (0) q64 (zr_c (lo := 1) (hi := 1) (by decide)) (zr_c (lo := 0) (hi := 0) (by decide)) (by decide)) (by decide)
      exact zok_sai i63 trivial
    exact zr_no (zc_nel (1) (0) q53 (zr_c (lo := 0) (hi := 0) (by decide)) (zr_c (lo := 0) (hi := 0) (by decide)) (by decide)) (by decide)
  exact zr_no (zc_nel (1) (0) q46 (zr_c (lo := 0) (hi := 0) (by decide)) (zr_c (lo := 0) (hi := 0) (by decide)) (by decide)) (by decide)
theorem s_row_h {σ : zSt} {x1 x2 : Int32} (h1 : zr 0 239 x1) (h2 : ¬ x2 = 0 → x1.toInt ≤ 143) : ∀ (n : Nat) {x3 x4 : Int32} (h4 : zr 0 256 x4) (hm : 256 - x4.toInt < n), zok (fX12_row_56 n σ x1 x2 x3 x4) (zPi σ (fun v : Int32 => True)) := by
  intro n
  induction n with
  | zero => intro x3 x4 h4 hm; have := h4.2; exfalso; omega
  | succ n ih =>
    intro x3 x4 h4 hm
    show zok (fX12_row_56_body (fX12_row_56 n) σ x1 x2 x3 x4) _
    unfold fX12_row_56_body
    have a1 : zr 1 1 (1 : Int32) := zr_c (by decide)
    have c1 : (1 : Int32).toInt = 1 := rfl
    have t : (x4 + 1).toInt = x4.toInt + (1 : Int32).toInt := z_tadd h4 a1 (by decide)
    have b := h4.1
    have nx : ∀ (s0 s2 : Int32), zr 0 61439 s0 → x4.toInt ≤ 255 → zok (fX12_row_111 (fX12_row_56 n) σ x1 x2 x4 s0 s2) (zPi σ (fun v : Int32 => True)) := fun s0 s2 hs hx => by
      unfold fX12_row_111
      refine zok_ck (zin_ok hs (by decide)) ?_
      refine zok_bv (fun v1 _ => zok_bv (fun v2 e2 => ?_))
      subst e2
      exact ih ⟨by omega, by omega⟩ (by omega)
    have k6 : zr 256 256 (256 : Int32) := zr_c (by decide)
    refine zok_if (fun q => ?_) (fun q => ?_)
    · unfold fX12_row_71
      refine zok_if (fun q1 => zok_spi trivial) (fun q1 => ?_)
      have q2 := Int32.lt_iff_toInt_lt.mp (z_nle q1)
      have c2 : (256 : Int32).toInt = 256 := rfl
      have h5 : zr 0 255 x4 := ⟨h4.1, by omega⟩
      refine zok_if (fun _ => ?_) (fun q9 => absurd q q9)
      exact nx _ _ (zr_add (lo := 0) (hi := 61439) (zr_mul (lo := 0) (hi := 61184) k6 h1 (by decide)) h5 (by decide)) h5.2
    · unfold fX12_row_71
      refine zok_if (fun q1 => zok_spi trivial) (fun q1 => ?_)
      have q2 := Int32.lt_iff_toInt_lt.mp (z_nle q1)
      have c2 : (160 : Int32).toInt = 160 := rfl
      have h5 : zr 0 159 x4 := ⟨h4.1, by omega⟩
      have h6 : zr 0 143 x1 := ⟨h1.1, h2 q⟩
      have k24 : zr 24 24 (24 : Int32) := zr_c (by decide)
      have k48 : zr 48 48 (48 : Int32) := zr_c (by decide)
      refine zok_if (fun q9 => absurd q9 q) (fun _ => ?_)
      exact nx _ _ (zr_add (lo := 0) (hi := 61439) (zr_add (lo := 0) (hi := 42911) (zr_mul (lo := 0) (hi := 42752) k6 (zr_add (lo := 24) (hi := 167) h6 k24 (by decide)) (by decide)) h5 (by decide)) k48 (by decide)) (by omega)
theorem s_X12_row {G : Nat → Int} {σ : zSt} (hσ : zIM G σ) {x1 : Int32} : zok (fX12_row σ x1) (zAi (zIM G) (fun v : Int32 => True)) := by
  have bad : ∀ x2, zok (fX12_row_37 σ x1 x2) (zAi (zIM G) (fun v : Int32 => True)) := fun x2 => by
    unfold fX12_row_37 fX12_row_42
    refine zok_fails1 (I := zIM G) (hσ.wi 0 0 (by decide) zr_any (by decide +kernel)) (fun σ1 e1 i1 => ?_)
    exact zok_if (fun q => absurd q (by decide)) (fun _ => zok_sai i1 trivial)
  have good : ∀ x2, zr 0 239 x1 → (¬ x2 = 0 → x1.toInt ≤ 143) → zok (fX12_row_42 σ x1 x2 0) (zAi (zIM G) (fun v : Int32 => True)) := fun x2 h1 h2 => by
    unfold fX12_row_42
    refine zok_fails0 (I := zIM G) (hσ.wi 0 0 (by decide) zr_any (by decide +kernel)) (fun σ1 e1 i1 => ?_)
    refine zok_if (fun _ => ?_) (fun q => absurd rfl q)
    exact zok_pai i1 (s_row_h h1 h2 zfuel (zr_c (by decide)) (by decide))
  have c0 : (0 : Int32).toInt = 0 := rfl
  unfold fX12_row
  refine zok_if (fun q => ?_) (fun q => ?_)
  · unfold fX12_row_13
    refine zok_if (fun q1 => bad _) (fun q1 => ?_)
    refine zok_if (fun q2 => absurd q2 (by decide)) (fun _ => ?_)
    unfold fX12_row_34
    have r1 := Int32.le_iff_toInt_le.mp (z_nlt q1)
    have c4 : (144 : Int32).toInt = 144 := rfl
    refine zok_if (fun q2 => ?_) (fun q2 => bad _)
    have r2 := Int32.lt_iff_toInt_lt.mp q2
    exact good _ ⟨by omega, by omega⟩ (fun _ => by omega)
  · unfold fX12_row_13
    refine zok_if (fun q1 => bad _) (fun q1 => ?_)
    refine zok_if (fun _ => ?_) (fun q2 => absurd rfl q2)
    have r1 := Int32.le_iff_toInt_le.mp (z_nlt q1)
    refine zok_pi (s_X12_height hσ.P) (fun v hv => ?_)
    have b := hv.2
    unfold fX12_row_34
    refine zok_if (fun q2 => ?_) (fun q2 => bad _)
    have r2 := Int32.lt_iff_toInt_lt.mp q2
    exact good _ ⟨by omega, by omega⟩ (fun h => absurd rfl h)
theorem s_X12_hear {G : Nat → Int} {σ : zSt} (hσ : zIM G σ) : zok (fX12_hear σ ) (zAL (zIM G) (fun v : Int64 => True)) := by
  unfold fX12_hear
  refine zok_ck rfl ?_
  refine zok_if (fun q1 => ?_) (fun q1 => ?_)
  · have h2 := zc_eql (0) (0) q1 (rM_37 hσ.sg _ (by decide)) (zr_c (lo := 0) (hi := 0) (by decide)) (by decide)
    unfold fX12_hear_16
    refine zok_fails1 (hσ.wi 0 0 (by decide) zr_any (by decide +kernel)) (fun σ1 e3 i4 => ?_)
    refine zok_if (fun q5 => ?_) (fun q5 => ?_)
    · exact zr_no (zc_eql (1) (0) q5 (zr_c (lo := 1) (hi := 1) (by decide)) (zr_c (lo := 0) (hi := 0) (by decide)) (by decide)) (by decide)
    exact zok_sal i4 trivial
  have h6 := zc_nel (1) (4096) q1 (rM_37 hσ.sg _ (by decide)) (zr_c (lo := 0) (hi := 0) (by decide)) (by decide)
  unfold fX12_hear_16
  refine zok_fails0 (hσ.wi 0 0 (by decide) zr_any (by decide +kernel)) (fun σ1 e7 i8 => ?_)
  refine zok_if (fun q9 => ?_) (fun q9 => ?_)
  · refine zok_ck rfl ?_
    refine zok_ck (zin_ok (rM_38 i8.sg _ (by decide)) (by decide)) ?_
    refine zok_bv (fun v3 e11 => ?_)
    refine zok_ck rfl ?_
    refine zok_ck (by decide) ?_
    refine zok_ck rfl ?_
    refine zok_bs (i8.wi 88 88 (by decide) (zr_rem (lo := 0) (hi := 4095) 4096 (by decide) (zr_add (lo := 1) (hi := 4096) (rM_38 i8.sg _ (by decide)) (zr_c (lo := 1) (hi := 1) (by decide)) (by decide)) (by decide)) (by decide +kernel)) (fun σ4 e13 i12 => ?_)
    refine zok_ck rfl ?_
    refine zok_ck rfl ?_
    refine zok_bs (i12.wi 87 87 (by decide) (zr_sub (lo := 0) (hi := 4095) (z_trj e13 (by decide) (z_tr e7 rfl h6)) (zr_c (lo := 1) (hi := 1) (by decide)) (by decide)) (by decide +kernel)) (fun σ5 e15 i14 => ?_)
    exact zok_sal i14 trivial
  exact zr_no (zc_nel (1) (0) q9 (zr_c (lo := 0) (hi := 0) (by decide)) (zr_c (lo := 0) (hi := 0) (by decide)) (by decide)) (by decide)
theorem s_X12_sound {G : Nat → Int} {σ : zSt} (hσ : zIM G σ) {x1 : Int32} : zok (fX12_sound σ x1) (zAi (zIM G) (fun v : Int32 => True)) := by
  unfold fX12_sound
  refine zok_within (fun w1 w2 => ?_) (fun w3 => ?_)
  · have h4 := z_wir w1 w2 (zrl_c (lo := 0) (hi := 0) (by decide)) (zrl_c (lo := 18) (hi := 18) (by decide))
    refine zok_if (fun q5 => ?_) (fun q5 => ?_)
    · exact zr_no (zc_eql (1) (0) q5 (zr_c (lo := 1) (hi := 1) (by decide)) (zr_c (lo := 0) (hi := 0) (by decide)) (by decide)) (by decide)
    unfold fX12_sound_18
    refine zok_fails0 (hσ.wi 0 0 (by decide) zr_any (by decide +kernel)) (fun σ1 e6 i7 => ?_)
    refine zok_if (fun q8 => ?_) (fun q8 => ?_)
    · refine zok_if (fun q9 => ?_) (fun q9 => ?_)
      · have h10 := zc_eql (18) (18) q9 h4 (zr_c (lo := 18) (hi := 18) (by decide)) (by decide)
        refine zok_ck rfl ?_
        unfold fX12_sound_52
        exact zok_sai i7 trivial
      have h11 := zc_nel (0) (17) q9 h4 (zr_c (lo := 18) (hi := 18) (by decide)) (by decide)
      refine zok_ck (zin_ok (zr_add (lo := 69) (hi := 86) (zr_c (lo := 69) (hi := 69) (by decide)) h11 (by decide)) (by decide)) ?_
      unfold fX12_sound_52
      exact zok_sai i7 trivial
    exact zr_no (zc_nel (1) (0) q8 (zr_c (lo := 0) (hi := 0) (by decide)) (zr_c (lo := 0) (hi := 0) (by decide)) (by decide)) (by decide)
  refine zok_if (fun q12 => ?_) (fun q12 => ?_)
  · unfold fX12_sound_18
    refine zok_fails1 (hσ.wi 0 0 (by decide) zr_any (by decide +kernel)) (fun σ1 e13 i14 => ?_)
    refine zok_if (fun q15 => ?_) (fun q15 => ?_)
    · exact zr_no (zc_eql (1) (0) q15 (zr_c (lo := 1) (hi := 1) (by decide)) (zr_c (lo := 0) (hi := 0) (by decide)) (by decide)) (by decide)
    exact zok_sai i14 trivial
  exact zr_no (zc_nel (1) (0) q12 (zr_c (lo := 0) (hi := 0) (by decide)) (zr_c (lo := 0) (hi := 0) (by decide)) (by decide)) (by decide)
theorem s_X12_pause {G : Nat → Int} {σ : zSt} (hσ : zIM G σ) : zok (fX12_pause σ ) (zAi (zIM G) (fun v : Int32 => zr (0) (1) v)) := by
  unfold fX12_pause
  refine zok_bs (hσ.wi 0 0 (by decide) (zr_c (lo := 0) (hi := 0) (by decide)) (by decide +kernel)) (fun σ1 e2 i1 => ?_)
  refine zok_if (fun q3 => ?_) (fun q3 => ?_)
  · have h4 := zc_eql (2) (2) q3 (rM_1 i1.sg _ (by decide)) (zr_c (lo := 2) (hi := 2) (by decide)) (by decide)
    refine zok_ck rfl ?_
    exact zok_sai i1 (zr_w (zr_c (lo := 0) (hi := 0) (by decide)) (by decide))
  have h5 := zc_nel (0) (1) q3 (rM_1 i1.sg _ (by decide)) (zr_c (lo := 2) (hi := 2) (by decide)) (by decide)
  refine zok_ck rfl ?_
  refine zok_bs (i1.wi 28 28 (by decide) (zr_c (lo := 1) (hi := 1) (by decide)) (by decide +kernel)) (fun σ2 e7 i6 => ?_)
  refine zok_ck rfl ?_
  exact zok_sai i6 (zr_w (zr_c (lo := 1) (hi := 1) (by decide)) (by decide))
theorem s_X12_press {G : Nat → Int} {σ : zSt} (hσ : zIM G σ) {x1 : Int32} {x2 : Int32} : zok (fX12_press σ x1 x2) (zIM G) := by
  unfold fX12_press
  refine zok_within (fun w1 w2 => ?_) (fun w3 => ?_)
  · have h4 := z_wir w1 w2 (zrl_c (lo := 0) (hi := 0) (by decide)) (zrl_c (lo := 1) (hi := 1) (by decide))
    refine zok_if (fun q5 => ?_) (fun q5 => ?_)
    · exact zr_no (zc_eql (1) (0) q5 (zr_c (lo := 1) (hi := 1) (by decide)) (zr_c (lo := 0) (hi := 0) (by decide)) (by decide)) (by decide)
    refine zok_within (fun w6 w7 => ?_) (fun w8 => ?_)
    · have h9 := z_wir w6 w7 (zrl_c (lo := 0) (hi := 0) (by decide)) (zrl_c (lo := 63) (hi := 63) (by decide))
      refine zok_if (fun q10 => ?_) (fun q10 => ?_)
      · exact zr_no (zc_eql (1) (0) q10 (zr_c (lo := 1) (hi := 1) (by decide)) (zr_c (lo := 0) (hi := 0) (by decide)) (by decide)) (by decide)
      unfold fX12_press_28
      refine zok_fails0 (hσ.wi 0 0 (by decide) zr_any (by decide +kernel)) (fun σ1 e11 i12 => ?_)
      refine zok_if (fun q13 => ?_) (fun q13 => ?_)
      · refine zok_ck (zin_ok (zr_add (lo := 42) (hi := 43) (zr_c (lo := 42) (hi := 42) (by decide)) h4 (by decide)) (by decide)) ?_
        refine zok_bs (i12.wi 42 43 (z_ix (zr_add (lo := 42) (hi := 43) (zr_c (lo := 42) (hi := 42) (by decide)) h4 (by decide)) (by decide)) h9 (by decide +kernel)) (fun σ3 e15 i14 => ?_)
        exact zok_some i14
      exact zr_no (zc_nel (1) (0) q13 (zr_c (lo := 0) (hi := 0) (by decide)) (zr_c (lo := 0) (hi := 0) (by decide)) (by decide)) (by decide)
    refine zok_if (fun q16 => ?_) (fun q16 => ?_)
    · unfold fX12_press_23
      unfold fX12_press_28
      refine zok_fails1 (hσ.wi 0 0 (by decide) zr_any (by decide +kernel)) (fun σ1 e17 i18 => ?_)
      refine zok_if (fun q19 => ?_) (fun q19 => ?_)
      · exact zr_no (zc_eql (1) (0) q19 (zr_c (lo := 1) (hi := 1) (by decide)) (zr_c (lo := 0) (hi := 0) (by decide)) (by decide)) (by decide)
      exact zok_some i18
    exact zr_no (zc_nel (1) (0) q16 (zr_c (lo := 0) (hi := 0) (by decide)) (zr_c (lo := 0) (hi := 0) (by decide)) (by decide)) (by decide)
  refine zok_if (fun q20 => ?_) (fun q20 => ?_)
  · unfold fX12_press_23
    unfold fX12_press_28
    refine zok_fails1 (hσ.wi 0 0 (by decide) zr_any (by decide +kernel)) (fun σ1 e21 i22 => ?_)
    refine zok_if (fun q23 => ?_) (fun q23 => ?_)
    · exact zr_no (zc_eql (1) (0) q23 (zr_c (lo := 1) (hi := 1) (by decide)) (zr_c (lo := 0) (hi := 0) (by decide)) (by decide)) (by decide)
    exact zok_some i22
  exact zr_no (zc_nel (1) (0) q20 (zr_c (lo := 0) (hi := 0) (by decide)) (zr_c (lo := 0) (hi := 0) (by decide)) (by decide)) (by decide)
theorem s_X12_start_20 {G : Nat → Int} {σ : zSt} (hσ : zIM G σ) {s0 : Int32} (h_s0 : zr (0) (1) s0) {s1 : Int32} (h_s1 : zr (44) (44) s1) : zok (fX12_start_20 σ s0 s1) (zIM G) := by
  unfold fX12_start_20
  refine zok_ck (zin_ok h_s1 (by decide)) ?_
  refine zok_bs (hσ.wi 44 44 (z_ix h_s1 (by decide)) h_s0 (by decide +kernel)) (fun σ1 e2 i1 => ?_)
  exact zok_some i1
theorem s_X12_start {G : Nat → Int} {σ : zSt} (hσ : zIM G σ) {x1 : Int32} (h_x1 : zr (0) (1) x1) : zok (fX12_start σ x1) (zIM G) := by
  unfold fX12_start
  refine zok_bs (hσ.wi 0 0 (by decide) (zr_c (lo := 0) (hi := 0) (by decide)) (by decide +kernel)) (fun σ2 e2 i1 => ?_)
  refine zok_if (fun q3 => ?_) (fun q3 => ?_)
  · have h4 := zc_eql (0) (0) q3 h_x1 (zr_c (lo := 0) (hi := 0) (by decide)) (by decide)
    exact (s_X12_start_20 i1 (zr_w (zr_c (lo := 0) (hi := 0) (by decide)) (by decide)) (zr_c (lo := 44) (hi := 44) (by decide)))
  have h5 := zc_nel (1) (1) q3 h_x1 (zr_c (lo := 0) (hi := 0) (by decide)) (by decide)
  exact (s_X12_start_20 i1 (zr_w (zr_c (lo := 1) (hi := 1) (by decide)) (by decide)) (zr_c (lo := 44) (hi := 44) (by decide)))
theorem s_X12_line {G : Nat → Int} {σ : zSt} (hσ : zIM G σ) {x1 : Int32} {x2 : Int32} (h_x2 : zr (0) (1) x2) : zok (fX12_line σ x1 x2) (zIM G) := by
  unfold fX12_line
  refine zok_within (fun w1 w2 => ?_) (fun w3 => ?_)
  · have h4 := z_wir w1 w2 (zrl_c (lo := 0) (hi := 0) (by decide)) (zrl_c (lo := 1) (hi := 1) (by decide))
    refine zok_if (fun q5 => ?_) (fun q5 => ?_)
    · exact zr_no (zc_eql (1) (0) q5 (zr_c (lo := 1) (hi := 1) (by decide)) (zr_c (lo := 0) (hi := 0) (by decide)) (by decide)) (by decide)
    unfold fX12_line_16
    refine zok_fails0 (hσ.wi 0 0 (by decide) zr_any (by decide +kernel)) (fun σ7 e6 i7 => ?_)
    refine zok_if (fun q8 => ?_) (fun q8 => ?_)
    · refine zok_pi (s_X12_lineAt i7.P h4) (fun v10 h9 => ?_)
      refine zok_if (fun q10 => ?_) (fun q10 => ?_)
      · have h11 := zc_eql (0) (0) q10 h_x2 (zr_c (lo := 0) (hi := 0) (by decide)) (by decide)
        unfold fX12_line_47
        refine zok_ck (zin_ok (zr_add (lo := 45) (hi := 46) (zr_c (lo := 45) (hi := 45) (by decide)) h4 (by decide)) (by decide)) ?_
        refine zok_bs (i7.wi 45 46 (z_ix (zr_add (lo := 45) (hi := 46) (zr_c (lo := 45) (hi := 45) (by decide)) h4 (by decide)) (by decide)) (zr_c (lo := 0) (hi := 0) (by decide)) (by decide +kernel)) (fun σ1 e13 i12 => ?_)
        refine zok_if (fun q14 => ?_) (fun q14 => ?_)
        · have h15 := zc_eql (0) (0) q14 h9 (zr_c (lo := 0) (hi := 0) (by decide)) (by decide)
          refine zok_pi (s_X12_lineAt i12.P h4) (fun v3 h16 => ?_)
          refine zok_if (fun q17 => ?_) (fun q17 => ?_)
          · have h18 := zc_eql (1) (1) q17 h16 (zr_c (lo := 1) (hi := 1) (by decide)) (by decide)
            refine zok_pi (s_X12_hCount i12.P) (fun v5 h19 => ?_)
            refine zok_ck rfl ?_
            refine zok_bs (i12.wi 35 35 (by decide) h19 (by decide +kernel)) (fun σ6 e21 i20 => ?_)
            unfold fX12_line_72
            exact zok_some i20
          have h22 := zc_nel (0) (0) q17 h16 (zr_c (lo := 1) (hi := 1) (by decide)) (by decide)
          unfold fX12_line_72
          exact zok_some i12
        have h23 := zc_nel (1) (1) q14 h9 (zr_c (lo := 0) (hi := 0) (by decide)) (by decide)
        unfold fX12_line_72
        exact zok_some i12
      have h24 := zc_nel (1) (1) q10 h_x2 (zr_c (lo := 0) (hi := 0) (by decide)) (by decide)
      unfold fX12_line_47
      refine zok_ck (zin_ok (zr_add (lo := 45) (hi := 46) (zr_c (lo := 45) (hi := 45) (by decide)) h4 (by decide)) (by decide)) ?_
      refine zok_bs (i7.wi 45 46 (z_ix (zr_add (lo := 45) (hi := 46) (zr_c (lo := 45) (hi := 45) (by decide)) h4 (by decide)) (by decide)) (zr_c (lo := 1) (hi := 1) (by decide)) (by decide +kernel)) (fun σ1 e26 i25 => ?_)
      refine zok_if (fun q27 => ?_) (fun q27 => ?_)
      · have h28 := zc_eql (0) (0) q27 h9 (zr_c (lo := 0) (hi := 0) (by decide)) (by decide)
        refine zok_pi (s_X12_lineAt i25.P h4) (fun v3 h29 => ?_)
        refine zok_if (fun q30 => ?_) (fun q30 => ?_)
        · have h31 := zc_eql (1) (1) q30 h29 (zr_c (lo := 1) (hi := 1) (by decide)) (by decide)
          refine zok_pi (s_X12_hCount i25.P) (fun v5 h32 => ?_)
          refine zok_ck rfl ?_
          refine zok_bs (i25.wi 35 35 (by decide) h32 (by decide +kernel)) (fun σ6 e34 i33 => ?_)
          unfold fX12_line_72
          exact zok_some i33
        have h35 := zc_nel (0) (0) q30 h29 (zr_c (lo := 1) (hi := 1) (by decide)) (by decide)
        unfold fX12_line_72
        exact zok_some i25
      have h36 := zc_nel (1) (1) q27 h9 (zr_c (lo := 0) (hi := 0) (by decide)) (by decide)
      unfold fX12_line_72
      exact zok_some i25
    exact zr_no (zc_nel (1) (0) q8 (zr_c (lo := 0) (hi := 0) (by decide)) (zr_c (lo := 0) (hi := 0) (by decide)) (by decide)) (by decide)
  refine zok_if (fun q37 => ?_) (fun q37 => ?_)
  · unfold fX12_line_16
    refine zok_fails1 (hσ.wi 0 0 (by decide) zr_any (by decide +kernel)) (fun σ7 e38 i39 => ?_)
    refine zok_if (fun q40 => ?_) (fun q40 => ?_)
    · exact zr_no (zc_eql (1) (0) q40 (zr_c (lo := 1) (hi := 1) (by decide)) (zr_c (lo := 0) (hi := 0) (by decide)) (by decide)) (by decide)
    exact zok_some i39
  exact zr_no (zc_nel (1) (0) q37 (zr_c (lo := 0) (hi := 0) (by decide)) (zr_c (lo := 0) (hi := 0) (by decide)) (by decide)) (by decide)
theorem s_X12_stop_168 {σ : zSt} (hσ : zPM σ) : zok (fX12_stop_168 σ ) (zPi σ (fun v : Int32 => zr (0) (8) v)) := by
  unfold fX12_stop_168
  refine zok_ck rfl ?_
  exact zok_spi (rM_39 hσ.sg _ (by decide))
noncomputable def zFnd (σ : zSt) (x : Int32) (a : Nat) : Prop := ∃ i : Nat, a ≤ i ∧ i ≤ 8 ∧ (i : Int) ≤ (zgi σ 3 89).toInt ∧ σ.1 3 (89 + i) = x
theorem zFnd.off {σ σ1 : zSt} {x v : Int32} {a j : Nat} (e : σ1 = zsi σ 0 j v) (h : zFnd σ x a) : zFnd σ1 x a := by
  obtain ⟨i, h1, h2, h3, h4⟩ := h
  subst e
  refine ⟨i, h1, h2, ?_, ?_⟩
  · unfold zgi; rw [zsi_off (by omega)]; exact h3
  · rw [zsi_off (by omega)]; exact h4
theorem s_isStop_h {σ : zSt} (hσ : zPM σ) {x1 : Int32} : ∀ (n : Nat) {x2 : Int32} (h2 : zr 0 8 x2) (hm : 8 - x2.toInt < n), zok (fX12_isStop_2 n σ x1 x2) (zPi σ (fun v : Int32 => v = 0 ∨ (v = 1 ∧ zFnd σ x1 1))) := by
  intro n
  induction n with
  | zero => intro x2 h2 hm; have := h2.2; exfalso; omega
  | succ n ih =>
    intro x2 h2 hm
    show zok (fX12_isStop_2_body (fX12_isStop_2 n) σ x1 x2) _
    unfold fX12_isStop_2_body
    have hN : zr 0 8 (zgi σ 3 (89 : Int32).toNatClampNeg) := rM_39 hσ.sg (89 : Int32).toNatClampNeg (by decide)
    have eN : (zgi σ 3 (89 : Int32).toNatClampNeg).toInt = (zgi σ 3 89).toInt := rfl
    refine zok_ck rfl (zok_if (fun q => zok_ck rfl (zok_spi (Or.inl rfl))) (fun q => ?_))
    have q1 := Int32.lt_iff_toInt_lt.mp (z_nle q)
    have b2 := hN.2
    have b0 := h2.1
    have hx : zr 0 7 x2 := ⟨b0, by omega⟩
    have k90 : zr 90 90 (90 : Int32) := zr_c (by decide)
    have c9 : (90 : Int32).toInt = 90 := rfl
    have t9 : (90 + x2).toInt = (90 : Int32).toInt + x2.toInt := z_tadd k90 hx (by decide)
    refine zok_ck (zin_ok (zr_add (lo := 90) (hi := 97) k90 hx (by decide)) (by decide)) (zok_if (fun r => zok_ck rfl (zok_spi (Or.inr ⟨rfl, ?_⟩))) (fun r => ?_))
    · refine ⟨x2.toInt.toNat + 1, by omega, by omega, by omega, ?_⟩
      have ex : (90 + x2).toNatClampNeg = 89 + (x2.toInt.toNat + 1) := by
        have : (90 + x2).toNatClampNeg = (90 + x2).toInt.toNat := rfl
        omega
      rw [← ex]; exact r
    · have a1 : zr 1 1 (1 : Int32) := zr_c (by decide)
      have c1 : (1 : Int32).toInt = 1 := rfl
      have t : (x2 + 1).toInt = x2.toInt + (1 : Int32).toInt := z_tadd hx a1 (by decide)
      refine zok_bv (fun v1 e1 => ?_)
      subst e1
      exact ih ⟨by omega, by omega⟩ (by omega)
theorem s_stop_h {G : Nat → Int} {σ : zSt} (hσ : zIM G σ) {x1 : Int32} : ∀ (n : Nat) {x4 : Int32} (h4 : zr 1 8 x4) (hf : zFnd σ x1 x4.toInt.toNat) (hm : 8 - x4.toInt < n), zok (fX12_stop_112 n σ x1 x4) (zAi (zIM G) (fun v : Int32 => zr (0) (8) v)) := by
  intro n
  induction n with
  | zero => intro x4 h4 hf hm; have := h4.2; exfalso; omega
  | succ n ih =>
    intro x4 h4 hf hm
    show zok (fX12_stop_112_body (fX12_stop_112 n) σ x1 x4) _
    unfold fX12_stop_112_body
    obtain ⟨i, f1, f2, f3, f4⟩ := hf
    have b4 := h4.1
    have b5 := h4.2
    have k89 : zr 89 89 (89 : Int32) := zr_c (by decide)
    have c9 : (89 : Int32).toInt = 89 := rfl
    have t9 : (89 + x4).toInt = (89 : Int32).toInt + x4.toInt := z_tadd k89 h4 (by decide)
    have hI := zr_add (lo := 90) (hi := 97) k89 h4 (by decide)
    have hN0 : zr 0 8 (zgi σ 3 (89 : Int32).toNatClampNeg) := rM_39 hσ.sg (89 : Int32).toNatClampNeg (by decide)
    have eN : (zgi σ 3 (89 : Int32).toNatClampNeg).toInt = (zgi σ 3 89).toInt := rfl
    have hN : zr 1 8 (zgi σ 3 (89 : Int32).toNatClampNeg) := ⟨by omega, hN0.2⟩
    refine zok_ck (zin_ok hI (by decide)) (zok_if (fun r => ?_) (fun r => ?_))
    · refine zok_ck rfl (zok_ck (zin_ok (zr_add (lo := 90) (hi := 97) k89 hN (by decide)) (by decide)) (zok_ck (zin_ok hI (by decide)) ?_))
      refine zok_bs (I := zIM G) (hσ.wi 90 97 (z_ix hI (by decide)) zr_any (by decide +kernel)) (fun σ1 e1 i1 => ?_)
      have hN1 := z_trr (j1 := (89 : Int32).toNatClampNeg) e1 (z_ix (c := 90) (d := 97) hI (by decide)) (by decide) hN
      refine zok_ck rfl (zok_ck rfl ?_)
      refine zok_bs (I := zIM G) (i1.wi 89 89 (by decide) (zr_sub (lo := 0) (hi := 7) hN1 (zr_c (lo := 1) (hi := 1) (x := 1) (by decide)) (by decide)) (by decide +kernel)) (fun σ2 e2 i2 => ?_)
      exact zok_pai i2 (s_X12_stop_168 i2.P)
    · have a1 : zr 1 1 (1 : Int32) := zr_c (by decide)
      have c1 : (1 : Int32).toInt = 1 := rfl
      have t : (x4 + 1).toInt = x4.toInt + (1 : Int32).toInt := z_tadd h4 a1 (by decide)
      have ne : ¬ i = x4.toInt.toNat := fun h => r (by
        have ex : (89 + x4).toNatClampNeg = 89 + i := by
          have : (89 + x4).toNatClampNeg = (89 + x4).toInt.toNat := rfl
          omega
        rw [ex]; exact f4)
      refine zok_bv (fun v3 e3 => ?_)
      subst e3
      exact ih ⟨by omega, by omega⟩ ⟨i, by omega, f2, f3, f4⟩ (by omega)
theorem s_stop_101 {G : Nat → Int} {σ : zSt} (hσ : zIM G σ) {x1 x2 x3 : Int32} (hf : x3 = 0 ∨ (x3 = 1 ∧ zFnd σ x1 1)) : zok (fX12_stop_101 σ x1 x2 x3) (zAi (zIM G) (fun v : Int32 => zr (0) (8) v)) := by
  unfold fX12_stop_101
  refine zok_if (fun _ => zok_if (fun _ => zok_pai hσ (s_X12_stop_168 hσ.P)) (fun q => ?_)) (fun _ => zok_pai hσ (s_X12_stop_168 hσ.P))
  rcases hf with h | h
  · exact absurd h q
  · exact s_stop_h hσ zfuel (zr_c (by decide)) h.2 (by decide)
theorem s_stop_57 {G : Nat → Int} {σ : zSt} (hσ : zIM G σ) {x1 x2 x3 : Int32} (hf : x3 = 0 ∨ (x3 = 1 ∧ zFnd σ x1 1)) (hn : ¬ x2 = 0 → x3 = 0 → (zgi σ 3 89).toInt ≤ 7) : zok (fX12_stop_57 σ x1 x2 x3 0) (zAi (zIM G) (fun v : Int32 => zr (0) (8) v)) := by
  unfold fX12_stop_57
  refine zok_fails0 (I := zIM G) (hσ.wi 0 0 (by decide) zr_any (by decide +kernel)) (fun σ1 e1 i1 => ?_)
  refine zok_if (fun _ => ?_) (fun q => absurd rfl q)
  have hf1 : x3 = 0 ∨ (x3 = 1 ∧ zFnd σ1 x1 1) := hf.imp id (fun h => ⟨h.1, h.2.off e1⟩)
  refine zok_if (fun _ => s_stop_101 i1 hf1) (fun q => zok_if (fun q3 => ?_) (fun _ => s_stop_101 i1 hf1))
  refine zok_ck rfl (zok_ck rfl ?_)
  have hN0 : zr 0 8 (zgi σ 3 (89 : Int32).toNatClampNeg) := rM_39 hσ.sg (89 : Int32).toNatClampNeg (by decide)
  have hN : zr 0 7 (zgi σ1 3 (89 : Int32).toNatClampNeg) := z_tr e1 rfl ⟨hN0.1, hn q q3⟩
  have h9 := zr_add (lo := 1) (hi := 8) hN (zr_c (lo := 1) (hi := 1) (x := 1) (by decide)) (by decide)
  refine zok_bs (I := zIM G) (i1.wi 89 89 (by decide) h9 (by decide +kernel)) (fun σ2 e2 i2 => ?_)
  have hN2 : zr 1 8 (zgi σ2 3 (89 : Int32).toNatClampNeg) := z_own e2 h9
  have hI := zr_add (lo := 90) (hi := 97) (zr_c (lo := 89) (hi := 89) (x := 89) (by decide)) hN2 (by decide)
  refine zok_ck rfl (zok_ck (zin_ok hI (by decide)) ?_)
  refine zok_bs (I := zIM G) (i2.wi 90 97 (z_ix hI (by decide)) zr_any (by decide +kernel)) (fun σ3 e3 i3 => ?_)
  exact s_stop_101 i3 (Or.inl q3)
theorem s_X12_stop {G : Nat → Int} {σ : zSt} (hσ : zIM G σ) {x1 : Int32} {x2 : Int32} (h_x2 : zr (0) (1) x2) : zok (fX12_stop σ x1 x2) (zAi (zIM G) (fun v : Int32 => zr (0) (8) v)) := by
  have z9 : ∀ σ1, zIM G σ1 → zok (fX12_stop_64 σ1) (zAi (zIM G) (fun v : Int32 => zr (0) (8) v)) := fun σ1 i1 => zok_sai i1 (zr_c (by decide))
  unfold fX12_stop
  refine zok_pi (s_isStop_h hσ.P zfuel (zr_c (by decide)) (by decide)) (fun v11 hv => ?_)
  refine zok_within (fun w1 w2 => ?_) (fun w3 => ?_)
  · refine zok_if (fun q => absurd q (by decide)) (fun _ => ?_)
    unfold fX12_stop_24
    refine zok_fails0 (I := zIM G) (hσ.wi 0 0 (by decide) zr_any (by decide +kernel)) (fun σ1 e1 i1 => ?_)
    refine zok_if (fun _ => ?_) (fun q => absurd rfl q)
    have hf1 : v11 = 0 ∨ (v11 = 1 ∧ zFnd σ1 x1 1) := hv.imp id (fun h => ⟨h.1, h.2.off e1⟩)
    refine zok_if (fun q => s_stop_57 i1 hf1 (fun h => absurd q h)) (fun q => zok_if (fun q3 => zok_ck rfl (zok_if (fun q8 => ?_) (fun q8 => ?_))) (fun q3 => s_stop_57 i1 hf1 (fun _ h => absurd h q3)))
    · unfold fX12_stop_57
      refine zok_fails1 (I := zIM G) (i1.wi 0 0 (by decide) zr_any (by decide +kernel)) (fun σ2 e2 i2 => ?_)
      exact zok_if (fun q => absurd q (by decide)) (fun _ => z9 _ i2)
    · have hN0 : zr 0 8 (zgi σ1 3 (89 : Int32).toNatClampNeg) := rM_39 i1.sg (89 : Int32).toNatClampNeg (by decide)
      have h7 := zc_nel (0) (7) q8 hN0 (zr_c (lo := 8) (hi := 8) (by decide)) (by decide)
      exact s_stop_57 i1 hf1 (fun _ _ => h7.2)
  · refine zok_if (fun _ => ?_) (fun q => absurd rfl q)
    unfold fX12_stop_24
    refine zok_fails1 (I := zIM G) (hσ.wi 0 0 (by decide) zr_any (by decide +kernel)) (fun σ1 e1 i1 => ?_)
    exact zok_if (fun q => absurd q (by decide)) (fun _ => z9 _ i1)
theorem s_X12_save_196_body {G : Nat → Int} {σ : zSt} {k196 : zSt → Int32 → Option (zSt)} {Mk196 : Int} (hk196 : ∀ (σ : zSt) (x1 : Int32), zIM G σ → zr (0) (4096) x1 → (4096) - x1.toInt < Mk196 → zok (k196 σ x1) (zIM G)) (hσ : zIM G σ) {x1 : Int32} (h_x1 : zr (0) (4096) x1) (hMk196 : (4096) - x1.toInt ≤ Mk196) : zok (fX12_save_196_body k196 σ x1) (zIM G) := by
  unfold fX12_save_196_body
  refine zok_if (fun q1 => ?_) (fun q1 => ?_)
  · have h2 := zc_ler (4096) q1 (zr_c (lo := 4096) (hi := 4096) (by decide)) h_x1 (by decide)
    exact zok_some hσ
  have h3 := zc_ltl (4095) (z_nle q1) h_x1 (zr_c (lo := 4096) (hi := 4096) (by decide)) (by decide)
  refine zok_ck (zin_ok h3 (by decide)) ?_
  refine zok_ck (zin_ok h3 (by decide)) ?_
  refine zok_bs (hσ.wl 0 4095 (z_ix h3 (by decide)) (by decide)) (fun σ1 e5 i4 => ?_)
  refine zok_ck (zin_ok h3 (by decide)) ?_
  refine zok_ck (zin_ok h3 (by decide)) ?_
  refine zok_bs (i4.wl 0 4095 (z_ix h3 (by decide)) (by decide)) (fun σ2 e7 i6 => ?_)
  refine zok_br (zr_add (lo := 1) (hi := 4096) h3 (zr_c (lo := 1) (hi := 1) (by decide)) (by decide)) (fun v3 e9 h8 => ?_)
  exact hk196 _ _ i6 (zr_w h8 (by decide)) (by rw [e9]; have := z_tadd (y := (1 : Int32)) h3 (zr_c (lo := 1) (hi := 1) (by decide)) (by decide); have e9 : (1 : Int32).toInt = 1 := rfl; omega) 
theorem s_X12_save_196 {G : Nat → Int} : ∀ (n : Nat) {σ : zSt} (hσ : zIM G σ) {x1 : Int32} (h_x1 : zr (0) (4096) x1) (hm : (4096) - x1.toInt < n), zok (fX12_save_196 n σ x1) (zIM G) := by
  intro n
  induction n with
  | zero => intro σ hσ x1 h_x1 hm ; have h9 := h_x1.1; have h8 := h_x1.2; exfalso; omega
  | succ n ih => intro σ hσ x1 h_x1 hm ; exact s_X12_save_196_body (fun σ x1 hσ h_x1 hm1 => ih hσ h_x1 (by omega)) hσ h_x1 (Int.le_refl _)
theorem s_X12_save_170_body {G : Nat → Int} {σ : zSt} {k170 : zSt → Int32 → Option (zSt)} {Mk170 : Int} (hk170 : ∀ (σ : zSt) (x1 : Int32), zIM G σ → zr (0) (61440) x1 → (61440) - x1.toInt < Mk170 → zok (k170 σ x1) (zIM G)) (hσ : zIM G σ) {x1 : Int32} (h_x1 : zr (0) (61440) x1) (hMk170 : (61440) - x1.toInt ≤ Mk170) : zok (fX12_save_170_body k170 σ x1) (zIM G) := by
  unfold fX12_save_170_body
  refine zok_if (fun q1 => ?_) (fun q1 => ?_)
  · have h2 := zc_ler (61440) q1 (zr_c (lo := 61440) (hi := 61440) (by decide)) h_x1 (by decide)
    exact (s_X12_save_196 zfuel hσ (zr_w (zr_c (lo := 0) (hi := 0) (by decide)) (by decide)) (by decide))
  have h3 := zc_ltl (61439) (z_nle q1) h_x1 (zr_c (lo := 61440) (hi := 61440) (by decide)) (by decide)
  refine zok_ck (zin_ok h3 (by decide)) ?_
  refine zok_ck (zin_ok h3 (by decide)) ?_
  refine zok_bs (hσ.wk (by decide)) (fun σ4 e5 i4 => ?_)
  refine zok_br (zr_add (lo := 1) (hi := 61440) h3 (zr_c (lo := 1) (hi := 1) (by decide)) (by decide)) (fun v5 e7 h6 => ?_)
  exact hk170 _ _ i4 (zr_w h6 (by decide)) (by rw [e7]; have := z_tadd (y := (1 : Int32)) h3 (zr_c (lo := 1) (hi := 1) (by decide)) (by decide); have e9 : (1 : Int32).toInt = 1 := rfl; omega) 
theorem s_X12_save_170 {G : Nat → Int} : ∀ (n : Nat) {σ : zSt} (hσ : zIM G σ) {x1 : Int32} (h_x1 : zr (0) (61440) x1) (hm : (61440) - x1.toInt < n), zok (fX12_save_170 n σ x1) (zIM G) := by
  intro n
  induction n with
  | zero => intro σ hσ x1 h_x1 hm ; have h9 := h_x1.1; have h8 := h_x1.2; exfalso; omega
  | succ n ih => intro σ hσ x1 h_x1 hm ; exact s_X12_save_170_body (fun σ x1 hσ h_x1 hm1 => ih hσ h_x1 (by omega)) hσ h_x1 (Int.le_refl _)
theorem s_X12_save_144_body {G : Nat → Int} {σ : zSt} {k144 : zSt → Int32 → Option (zSt)} {Mk144 : Int} (hk144 : ∀ (σ : zSt) (x1 : Int32), zIM G σ → zr (0) (64) x1 → (64) - x1.toInt < Mk144 → zok (k144 σ x1) (zIM G)) (hσ : zIM G σ) {x1 : Int32} (h_x1 : zr (0) (64) x1) (hMk144 : (64) - x1.toInt ≤ Mk144) : zok (fX12_save_144_body k144 σ x1) (zIM G) := by
  unfold fX12_save_144_body
  refine zok_if (fun q1 => ?_) (fun q1 => ?_)
  · have h2 := zc_ler (64) q1 (zr_c (lo := 64) (hi := 64) (by decide)) h_x1 (by decide)
    exact (s_X12_save_170 zfuel hσ (zr_w (zr_c (lo := 0) (hi := 0) (by decide)) (by decide)) (by decide))
  have h3 := zc_ltl (63) (z_nle q1) h_x1 (zr_c (lo := 64) (hi := 64) (by decide)) (by decide)
  refine zok_ck (zin_ok h3 (by decide)) ?_
  refine zok_ck (zin_ok h3 (by decide)) ?_
  refine zok_bs (hσ.wk (by decide)) (fun σ6 e5 i4 => ?_)
  refine zok_br (zr_add (lo := 1) (hi := 64) h3 (zr_c (lo := 1) (hi := 1) (by decide)) (by decide)) (fun v7 e7 h6 => ?_)
  exact hk144 _ _ i4 (zr_w h6 (by decide)) (by rw [e7]; have := z_tadd (y := (1 : Int32)) h3 (zr_c (lo := 1) (hi := 1) (by decide)) (by decide); have e9 : (1 : Int32).toInt = 1 := rfl; omega) 
theorem s_X12_save_144 {G : Nat → Int} : ∀ (n : Nat) {σ : zSt} (hσ : zIM G σ) {x1 : Int32} (h_x1 : zr (0) (64) x1) (hm : (64) - x1.toInt < n), zok (fX12_save_144 n σ x1) (zIM G) := by
  intro n
  induction n with
  | zero => intro σ hσ x1 h_x1 hm ; have h9 := h_x1.1; have h8 := h_x1.2; exfalso; omega
  | succ n ih => intro σ hσ x1 h_x1 hm ; exact s_X12_save_144_body (fun σ x1 hσ h_x1 hm1 => ih hσ h_x1 (by omega)) hσ h_x1 (Int.le_refl _)
theorem s_X12_save_117_body {G : Nat → Int} {σ : zSt} {k117 : zSt → Int32 → Option (zSt)} {Mk117 : Int} (hk117 : ∀ (σ : zSt) (x1 : Int32), zIM G σ → zr (0) (16384) x1 → (16384) - x1.toInt < Mk117 → zok (k117 σ x1) (zIM G)) (hσ : zIM G σ) {x1 : Int32} (h_x1 : zr (0) (16384) x1) (hMk117 : (16384) - x1.toInt ≤ Mk117) : zok (fX12_save_117_body k117 σ x1) (zIM G) := by
  unfold fX12_save_117_body
  refine zok_if (fun q1 => ?_) (fun q1 => ?_)
  · have h2 := zc_ler (16384) q1 (zr_c (lo := 16384) (hi := 16384) (by decide)) h_x1 (by decide)
    exact (s_X12_save_144 zfuel hσ (zr_w (zr_c (lo := 0) (hi := 0) (by decide)) (by decide)) (by decide))
  have h3 := zc_ltl (16383) (z_nle q1) h_x1 (zr_c (lo := 16384) (hi := 16384) (by decide)) (by decide)
  refine zok_ck (zin_ok h3 (by decide)) ?_
  refine zok_ck (zin_ok h3 (by decide)) ?_
  refine zok_bs (hσ.wk (by decide)) (fun σ8 e5 i4 => ?_)
  refine zok_br (zr_add (lo := 1) (hi := 16384) h3 (zr_c (lo := 1) (hi := 1) (by decide)) (by decide)) (fun v9 e7 h6 => ?_)
  exact hk117 _ _ i4 (zr_w h6 (by decide)) (by rw [e7]; have := z_tadd (y := (1 : Int32)) h3 (zr_c (lo := 1) (hi := 1) (by decide)) (by decide); have e9 : (1 : Int32).toInt = 1 := rfl; omega) 
theorem s_X12_save_117 {G : Nat → Int} : ∀ (n : Nat) {σ : zSt} (hσ : zIM G σ) {x1 : Int32} (h_x1 : zr (0) (16384) x1) (hm : (16384) - x1.toInt < n), zok (fX12_save_117 n σ x1) (zIM G) := by
  intro n
  induction n with
  | zero => intro σ hσ x1 h_x1 hm ; have h9 := h_x1.1; have h8 := h_x1.2; exfalso; omega
  | succ n ih => intro σ hσ x1 h_x1 hm ; exact s_X12_save_117_body (fun σ x1 hσ h_x1 hm1 => ih hσ h_x1 (by omega)) hσ h_x1 (Int.le_refl _)
theorem s_X12_save_91_body {G : Nat → Int} {σ : zSt} {k91 : zSt → Int32 → Option (zSt)} {Mk91 : Int} (hk91 : ∀ (σ : zSt) (x1 : Int32), zIM G σ → zr (0) (32768) x1 → (32768) - x1.toInt < Mk91 → zok (k91 σ x1) (zIM G)) (hσ : zIM G σ) {x1 : Int32} (h_x1 : zr (0) (32768) x1) (hMk91 : (32768) - x1.toInt ≤ Mk91) : zok (fX12_save_91_body k91 σ x1) (zIM G) := by
  unfold fX12_save_91_body
  refine zok_if (fun q1 => ?_) (fun q1 => ?_)
  · have h2 := zc_ler (32768) q1 (zr_c (lo := 32768) (hi := 32768) (by decide)) h_x1 (by decide)
    exact (s_X12_save_117 zfuel hσ (zr_w (zr_c (lo := 0) (hi := 0) (by decide)) (by decide)) (by decide))
  have h3 := zc_ltl (32767) (z_nle q1) h_x1 (zr_c (lo := 32768) (hi := 32768) (by decide)) (by decide)
  refine zok_ck (zin_ok h3 (by decide)) ?_
  refine zok_ck (zin_ok h3 (by decide)) ?_
  refine zok_bs (hσ.wk (by decide)) (fun σ10 e5 i4 => ?_)
  refine zok_br (zr_add (lo := 1) (hi := 32768) h3 (zr_c (lo := 1) (hi := 1) (by decide)) (by decide)) (fun v11 e7 h6 => ?_)
  exact hk91 _ _ i4 (zr_w h6 (by decide)) (by rw [e7]; have := z_tadd (y := (1 : Int32)) h3 (zr_c (lo := 1) (hi := 1) (by decide)) (by decide); have e9 : (1 : Int32).toInt = 1 := rfl; omega) 
theorem s_X12_save_91 {G : Nat → Int} : ∀ (n : Nat) {σ : zSt} (hσ : zIM G σ) {x1 : Int32} (h_x1 : zr (0) (32768) x1) (hm : (32768) - x1.toInt < n), zok (fX12_save_91 n σ x1) (zIM G) := by
  intro n
  induction n with
  | zero => intro σ hσ x1 h_x1 hm ; have h9 := h_x1.1; have h8 := h_x1.2; exfalso; omega
  | succ n ih => intro σ hσ x1 h_x1 hm ; exact s_X12_save_91_body (fun σ x1 hσ h_x1 hm1 => ih hσ h_x1 (by omega)) hσ h_x1 (Int.le_refl _)
theorem s_X12_save_64_body {G : Nat → Int} {σ : zSt} {k64 : zSt → Int32 → Option (zSt)} {Mk64 : Int} (hk64 : ∀ (σ : zSt) (x1 : Int32), zIM G σ → zr (0) (8192) x1 → (8192) - x1.toInt < Mk64 → zok (k64 σ x1) (zIM G)) (hσ : zIM G σ) {x1 : Int32} (h_x1 : zr (0) (8192) x1) (hMk64 : (8192) - x1.toInt ≤ Mk64) : zok (fX12_save_64_body k64 σ x1) (zIM G) := by
  unfold fX12_save_64_body
  refine zok_if (fun q1 => ?_) (fun q1 => ?_)
  · have h2 := zc_ler (8192) q1 (zr_c (lo := 8192) (hi := 8192) (by decide)) h_x1 (by decide)
    exact (s_X12_save_91 zfuel hσ (zr_w (zr_c (lo := 0) (hi := 0) (by decide)) (by decide)) (by decide))
  have h3 := zc_ltl (8191) (z_nle q1) h_x1 (zr_c (lo := 8192) (hi := 8192) (by decide)) (by decide)
  refine zok_ck (zin_ok h3 (by decide)) ?_
  refine zok_ck (zin_ok h3 (by decide)) ?_
  refine zok_bs (hσ.wk (by decide)) (fun σ12 e5 i4 => ?_)
  refine zok_br (zr_add (lo := 1) (hi := 8192) h3 (zr_c (lo := 1) (hi := 1) (by decide)) (by decide)) (fun v13 e7 h6 => ?_)
  exact hk64 _ _ i4 (zr_w h6 (by decide)) (by rw [e7]; have := z_tadd (y := (1 : Int32)) h3 (zr_c (lo := 1) (hi := 1) (by decide)) (by decide); have e9 : (1 : Int32).toInt = 1 := rfl; omega) 
theorem s_X12_save_64 {G : Nat → Int} : ∀ (n : Nat) {σ : zSt} (hσ : zIM G σ) {x1 : Int32} (h_x1 : zr (0) (8192) x1) (hm : (8192) - x1.toInt < n), zok (fX12_save_64 n σ x1) (zIM G) := by
  intro n
  induction n with
  | zero => intro σ hσ x1 h_x1 hm ; have h9 := h_x1.1; have h8 := h_x1.2; exfalso; omega
  | succ n ih => intro σ hσ x1 h_x1 hm ; exact s_X12_save_64_body (fun σ x1 hσ h_x1 hm1 => ih hσ h_x1 (by omega)) hσ h_x1 (Int.le_refl _)
end ZJN4
section ZJN5
theorem s_X12_restore_207_body {G : Nat → Int} {σ : zSt} {k207 : zSt → Int32 → Option (zSt)} {Mk207 : Int} (hk207 : ∀ (σ : zSt) (x1 : Int32), zIM G σ → zr (0) (4096) x1 → (4096) - x1.toInt < Mk207 → zok (k207 σ x1) (zIM G)) (hσ : zIM G σ) {x1 : Int32} (h_x1 : zr (0) (4096) x1) (hMk207 : (4096) - x1.toInt ≤ Mk207) : zok (fX12_restore_207_body k207 σ x1) (zIM G) := by
  unfold fX12_restore_207_body
  refine zok_if (fun q1 => ?_) (fun q1 => ?_)
  · have h2 := zc_ler (4096) q1 (zr_c (lo := 4096) (hi := 4096) (by decide)) h_x1 (by decide)
    exact zok_some hσ
  have h3 := zc_ltl (4095) (z_nle q1) h_x1 (zr_c (lo := 4096) (hi := 4096) (by decide)) (by decide)
  refine zok_ck (zin_ok h3 (by decide)) ?_
  refine zok_ck (zin_ok h3 (by decide)) ?_
  refine zok_bs (hσ.wl 0 4095 (z_ix h3 (by decide)) (by decide)) (fun σ1 e5 i4 => ?_)
  refine zok_ck (zin_ok h3 (by decide)) ?_
  refine zok_ck (zin_ok h3 (by decide)) ?_
  refine zok_bs (i4.wl 0 4095 (z_ix h3 (by decide)) (by decide)) (fun σ2 e7 i6 => ?_)
  refine zok_br (zr_add (lo := 1) (hi := 4096) h3 (zr_c (lo := 1) (hi := 1) (by decide)) (by decide)) (fun v3 e9 h8 => ?_)
  exact hk207 _ _ i6 (zr_w h8 (by decide)) (by rw [e9]; have := z_tadd (y := (1 : Int32)) h3 (zr_c (lo := 1) (hi := 1) (by decide)) (by decide); have e9 : (1 : Int32).toInt = 1 := rfl; omega) 
theorem s_X12_restore_207 {G : Nat → Int} : ∀ (n : Nat) {σ : zSt} (hσ : zIM G σ) {x1 : Int32} (h_x1 : zr (0) (4096) x1) (hm : (4096) - x1.toInt < n), zok (fX12_restore_207 n σ x1) (zIM G) := by
  intro n
  induction n with
  | zero => intro σ hσ x1 h_x1 hm ; have h9 := h_x1.1; have h8 := h_x1.2; exfalso; omega
  | succ n ih => intro σ hσ x1 h_x1 hm ; exact s_X12_restore_207_body (fun σ x1 hσ h_x1 hm1 => ih hσ h_x1 (by omega)) hσ h_x1 (Int.le_refl _)
theorem s_X12_restore_181_body {G : Nat → Int} {σ : zSt} {k181 : zSt → Int32 → Option (zSt)} {Mk181 : Int} (hk181 : ∀ (σ : zSt) (x1 : Int32), zIM G σ → zr (0) (61440) x1 → (61440) - x1.toInt < Mk181 → zok (k181 σ x1) (zIM G)) (hσ : zIM G σ) {x1 : Int32} (h_x1 : zr (0) (61440) x1) (hMk181 : (61440) - x1.toInt ≤ Mk181) : zok (fX12_restore_181_body k181 σ x1) (zIM G) := by
  unfold fX12_restore_181_body
  refine zok_if (fun q1 => ?_) (fun q1 => ?_)
  · have h2 := zc_ler (61440) q1 (zr_c (lo := 61440) (hi := 61440) (by decide)) h_x1 (by decide)
    exact (s_X12_restore_207 zfuel hσ (zr_w (zr_c (lo := 0) (hi := 0) (by decide)) (by decide)) (by decide))
  have h3 := zc_ltl (61439) (z_nle q1) h_x1 (zr_c (lo := 61440) (hi := 61440) (by decide)) (by decide)
  refine zok_ck (zin_ok h3 (by decide)) ?_
  refine zok_ck (zin_ok h3 (by decide)) ?_
  refine zok_bs (hσ.wk (by decide)) (fun σ4 e5 i4 => ?_)
  refine zok_br (zr_add (lo := 1) (hi := 61440) h3 (zr_c (lo := 1) (hi := 1) (by decide)) (by decide)) (fun v5 e7 h6 => ?_)
  exact hk181 _ _ i4 (zr_w h6 (by decide)) (by rw [e7]; have := z_tadd (y := (1 : Int32)) h3 (zr_c (lo := 1) (hi := 1) (by decide)) (by decide); have e9 : (1 : Int32).toInt = 1 := rfl; omega) 
theorem s_X12_restore_181 {G : Nat → Int} : ∀ (n : Nat) {σ : zSt} (hσ : zIM G σ) {x1 : Int32} (h_x1 : zr (0) (61440) x1) (hm : (61440) - x1.toInt < n), zok (fX12_restore_181 n σ x1) (zIM G) := by
  intro n
  induction n with
  | zero => intro σ hσ x1 h_x1 hm ; have h9 := h_x1.1; have h8 := h_x1.2; exfalso; omega
  | succ n ih => intro σ hσ x1 h_x1 hm ; exact s_X12_restore_181_body (fun σ x1 hσ h_x1 hm1 => ih hσ h_x1 (by omega)) hσ h_x1 (Int.le_refl _)
theorem s_X12_restore_155_body {G : Nat → Int} {σ : zSt} {k155 : zSt → Int32 → Option (zSt)} {Mk155 : Int} (hk155 : ∀ (σ : zSt) (x1 : Int32), zIM G σ → zr (0) (64) x1 → (64) - x1.toInt < Mk155 → zok (k155 σ x1) (zIM G)) (hσ : zIM G σ) {x1 : Int32} (h_x1 : zr (0) (64) x1) (hMk155 : (64) - x1.toInt ≤ Mk155) : zok (fX12_restore_155_body k155 σ x1) (zIM G) := by
  unfold fX12_restore_155_body
  refine zok_if (fun q1 => ?_) (fun q1 => ?_)
  · have h2 := zc_ler (64) q1 (zr_c (lo := 64) (hi := 64) (by decide)) h_x1 (by decide)
    exact (s_X12_restore_181 zfuel hσ (zr_w (zr_c (lo := 0) (hi := 0) (by decide)) (by decide)) (by decide))
  have h3 := zc_ltl (63) (z_nle q1) h_x1 (zr_c (lo := 64) (hi := 64) (by decide)) (by decide)
  refine zok_ck (zin_ok h3 (by decide)) ?_
  refine zok_ck (zin_ok h3 (by decide)) ?_
  refine zok_bs (hσ.wk (by decide)) (fun σ6 e5 i4 => ?_)
  refine zok_br (zr_add (lo := 1) (hi := 64) h3 (zr_c (lo := 1) (hi := 1) (by decide)) (by decide)) (fun v7 e7 h6 => ?_)
  exact hk155 _ _ i4 (zr_w h6 (by decide)) (by rw [e7]; have := z_tadd (y := (1 : Int32)) h3 (zr_c (lo := 1) (hi := 1) (by decide)) (by decide); have e9 : (1 : Int32).toInt = 1 := rfl; omega) 
theorem s_X12_restore_155 {G : Nat → Int} : ∀ (n : Nat) {σ : zSt} (hσ : zIM G σ) {x1 : Int32} (h_x1 : zr (0) (64) x1) (hm : (64) - x1.toInt < n), zok (fX12_restore_155 n σ x1) (zIM G) := by
  intro n
  induction n with
  | zero => intro σ hσ x1 h_x1 hm ; have h9 := h_x1.1; have h8 := h_x1.2; exfalso; omega
  | succ n ih => intro σ hσ x1 h_x1 hm ; exact s_X12_restore_155_body (fun σ x1 hσ h_x1 hm1 => ih hσ h_x1 (by omega)) hσ h_x1 (Int.le_refl _)
theorem s_X12_restore_128_body {G : Nat → Int} {σ : zSt} {k128 : zSt → Int32 → Option (zSt)} {Mk128 : Int} (hk128 : ∀ (σ : zSt) (x1 : Int32), zIM G σ → zr (0) (16384) x1 → (16384) - x1.toInt < Mk128 → zok (k128 σ x1) (zIM G)) (hσ : zIM G σ) {x1 : Int32} (h_x1 : zr (0) (16384) x1) (hMk128 : (16384) - x1.toInt ≤ Mk128) : zok (fX12_restore_128_body k128 σ x1) (zIM G) := by
  unfold fX12_restore_128_body
  refine zok_if (fun q1 => ?_) (fun q1 => ?_)
  · have h2 := zc_ler (16384) q1 (zr_c (lo := 16384) (hi := 16384) (by decide)) h_x1 (by decide)
    exact (s_X12_restore_155 zfuel hσ (zr_w (zr_c (lo := 0) (hi := 0) (by decide)) (by decide)) (by decide))
  have h3 := zc_ltl (16383) (z_nle q1) h_x1 (zr_c (lo := 16384) (hi := 16384) (by decide)) (by decide)
  refine zok_ck (zin_ok h3 (by decide)) ?_
  refine zok_ck (zin_ok h3 (by decide)) ?_
  refine zok_bs (hσ.wk (by decide)) (fun σ8 e5 i4 => ?_)
  refine zok_br (zr_add (lo := 1) (hi := 16384) h3 (zr_c (lo := 1) (hi := 1) (by decide)) (by decide)) (fun v9 e7 h6 => ?_)
  exact hk128 _ _ i4 (zr_w h6 (by decide)) (by rw [e7]; have := z_tadd (y := (1 : Int32)) h3 (zr_c (lo := 1) (hi := 1) (by decide)) (by decide); have e9 : (1 : Int32).toInt = 1 := rfl; omega) 
theorem s_X12_restore_128 {G : Nat → Int} : ∀ (n : Nat) {σ : zSt} (hσ : zIM G σ) {x1 : Int32} (h_x1 : zr (0) (16384) x1) (hm : (16384) - x1.toInt < n), zok (fX12_restore_128 n σ x1) (zIM G) := by
  intro n
  induction n with
  | zero => intro σ hσ x1 h_x1 hm ; have h9 := h_x1.1; have h8 := h_x1.2; exfalso; omega
  | succ n ih => intro σ hσ x1 h_x1 hm ; exact s_X12_restore_128_body (fun σ x1 hσ h_x1 hm1 => ih hσ h_x1 (by omega)) hσ h_x1 (Int.le_refl _)
theorem s_X12_restore_102_body {G : Nat → Int} {σ : zSt} {k102 : zSt → Int32 → Option (zSt)} {Mk102 : Int} (hk102 : ∀ (σ : zSt) (x1 : Int32), zIM G σ → zr (0) (32768) x1 → (32768) - x1.toInt < Mk102 → zok (k102 σ x1) (zIM G)) (hσ : zIM G σ) {x1 : Int32} (h_x1 : zr (0) (32768) x1) (hMk102 : (32768) - x1.toInt ≤ Mk102) : zok (fX12_restore_102_body k102 σ x1) (zIM G) := by
  unfold fX12_restore_102_body
  refine zok_if (fun q1 => ?_) (fun q1 => ?_)
  · have h2 := zc_ler (32768) q1 (zr_c (lo := 32768) (hi := 32768) (by decide)) h_x1 (by decide)
    exact (s_X12_restore_128 zfuel hσ (zr_w (zr_c (lo := 0) (hi := 0) (by decide)) (by decide)) (by decide))
  have h3 := zc_ltl (32767) (z_nle q1) h_x1 (zr_c (lo := 32768) (hi := 32768) (by decide)) (by decide)
  refine zok_ck (zin_ok h3 (by decide)) ?_
  refine zok_ck (zin_ok h3 (by decide)) ?_
  refine zok_bs (hσ.wk (by decide)) (fun σ10 e5 i4 => ?_)
  refine zok_br (zr_add (lo := 1) (hi := 32768) h3 (zr_c (lo := 1) (hi := 1) (by decide)) (by decide)) (fun v11 e7 h6 => ?_)
  exact hk102 _ _ i4 (zr_w h6 (by decide)) (by rw [e7]; have := z_tadd (y := (1 : Int32)) h3 (zr_c (lo := 1) (hi := 1) (by decide)) (by decide); have e9 : (1 : Int32).toInt = 1 := rfl; omega) 
theorem s_X12_restore_102 {G : Nat → Int} : ∀ (n : Nat) {σ : zSt} (hσ : zIM G σ) {x1 : Int32} (h_x1 : zr (0) (32768) x1) (hm : (32768) - x1.toInt < n), zok (fX12_restore_102 n σ x1) (zIM G) := by
  intro n
  induction n with
  | zero => intro σ hσ x1 h_x1 hm ; have h9 := h_x1.1; have h8 := h_x1.2; exfalso; omega
  | succ n ih => intro σ hσ x1 h_x1 hm ; exact s_X12_restore_102_body (fun σ x1 hσ h_x1 hm1 => ih hσ h_x1 (by omega)) hσ h_x1 (Int.le_refl _)
theorem s_X12_restore_75_body {G : Nat → Int} {σ : zSt} {k75 : zSt → Int32 → Option (zSt)} {Mk75 : Int} (hk75 : ∀ (σ : zSt) (x1 : Int32), zIM G σ → zr (0) (8192) x1 → (8192) - x1.toInt < Mk75 → zok (k75 σ x1) (zIM G)) (hσ : zIM G σ) {x1 : Int32} (h_x1 : zr (0) (8192) x1) (hMk75 : (8192) - x1.toInt ≤ Mk75) : zok (fX12_restore_75_body k75 σ x1) (zIM G) := by
  unfold fX12_restore_75_body
  refine zok_if (fun q1 => ?_) (fun q1 => ?_)
  · have h2 := zc_ler (8192) q1 (zr_c (lo := 8192) (hi := 8192) (by decide)) h_x1 (by decide)
    exact (s_X12_restore_102 zfuel hσ (zr_w (zr_c (lo := 0) (hi := 0) (by decide)) (by decide)) (by decide))
  have h3 := zc_ltl (8191) (z_nle q1) h_x1 (zr_c (lo := 8192) (hi := 8192) (by decide)) (by decide)
  refine zok_ck (zin_ok h3 (by decide)) ?_
  refine zok_ck (zin_ok h3 (by decide)) ?_
  refine zok_bs (hσ.wk (by decide)) (fun σ12 e5 i4 => ?_)
  refine zok_br (zr_add (lo := 1) (hi := 8192) h3 (zr_c (lo := 1) (hi := 1) (by decide)) (by decide)) (fun v13 e7 h6 => ?_)
  exact hk75 _ _ i4 (zr_w h6 (by decide)) (by rw [e7]; have := z_tadd (y := (1 : Int32)) h3 (zr_c (lo := 1) (hi := 1) (by decide)) (by decide); have e9 : (1 : Int32).toInt = 1 := rfl; omega) 
theorem s_X12_restore_75 {G : Nat → Int} : ∀ (n : Nat) {σ : zSt} (hσ : zIM G σ) {x1 : Int32} (h_x1 : zr (0) (8192) x1) (hm : (8192) - x1.toInt < n), zok (fX12_restore_75 n σ x1) (zIM G) := by
  intro n
  induction n with
  | zero => intro σ hσ x1 h_x1 hm ; have h9 := h_x1.1; have h8 := h_x1.2; exfalso; omega
  | succ n ih => intro σ hσ x1 h_x1 hm ; exact s_X12_restore_75_body (fun σ x1 hσ h_x1 hm1 => ih hσ h_x1 (by omega)) hσ h_x1 (Int.le_refl _)
theorem s_X12_register {G : Nat → Int} {σ : zSt} (hσ : zIM G σ) {x1 : Int32} : zok (fX12_register σ x1) (zAi (zIM G) (fun v : Int32 => True)) := by
  unfold fX12_register
  refine zok_within (fun w1 w2 => ?_) (fun w3 => ?_)
  · have h4 := z_wir w1 w2 (zrl_c (lo := 0) (hi := 0) (by decide)) (zrl_c (lo := 26) (hi := 26) (by decide))
    refine zok_if (fun q5 => ?_) (fun q5 => ?_)
    · exact zr_no (zc_eql (1) (0) q5 (zr_c (lo := 1) (hi := 1) (by decide)) (zr_c (lo := 0) (hi := 0) (by decide)) (by decide)) (by decide)
    unfold fX12_register_18
    refine zok_fails0 (hσ.wi 0 0 (by decide) zr_any (by decide +kernel)) (fun σ1 e6 i7 => ?_)
    refine zok_if (fun q8 => ?_) (fun q8 => ?_)
    · refine zok_ck (zin_ok h4 (by decide)) ?_
      unfold fX12_register_35
      exact zok_sai i7 trivial
    exact zr_no (zc_nel (1) (0) q8 (zr_c (lo := 0) (hi := 0) (by decide)) (zr_c (lo := 0) (hi := 0) (by decide)) (by decide)) (by decide)
  refine zok_if (fun q9 => ?_) (fun q9 => ?_)
  · unfold fX12_register_18
    refine zok_fails1 (hσ.wi 0 0 (by decide) zr_any (by decide +kernel)) (fun σ1 e10 i11 => ?_)
    refine zok_if (fun q12 => ?_) (fun q12 => ?_)
    · exact zr_no (zc_eql (1) (0) q12 (zr_c (lo := 1) (hi := 1) (by decide)) (zr_c (lo := 0) (hi := 0) (by decide)) (by decide)) (by decide)
    unfold fX12_register_35
    exact zok_sai i11 trivial
  exact zr_no (zc_nel (1) (0) q9 (zr_c (lo := 0) (hi := 0) (by decide)) (zr_c (lo := 0) (hi := 0) (by decide)) (by decide)) (by decide)
theorem s_X12_set {G : Nat → Int} {σ : zSt} (hσ : zIM G σ) {x1 : Int32} {x2 : Int32} : zok (fX12_set σ x1 x2) (zIM G) := by
  unfold fX12_set
  refine zok_within (fun w1 w2 => ?_) (fun w3 => ?_)
  · have h4 := z_wir w1 w2 (zrl_c (lo := 0) (hi := 0) (by decide)) (zrl_c (lo := 25) (hi := 25) (by decide))
    refine zok_if (fun q5 => ?_) (fun q5 => ?_)
    · exact zr_no (zc_eql (1) (0) q5 (zr_c (lo := 1) (hi := 1) (by decide)) (zr_c (lo := 0) (hi := 0) (by decide)) (by decide)) (by decide)
    unfold fX12_set_18
    refine zok_fails0 (hσ.wi 0 0 (by decide) zr_any (by decide +kernel)) (fun σ3 e6 i7 => ?_)
    refine zok_if (fun q8 => ?_) (fun q8 => ?_)
    · refine zok_if (fun q9 => ?_) (fun q9 => ?_)
      · have h10 := zc_eql (25) (25) q9 h4 (zr_c (lo := 25) (hi := 25) (by decide)) (by decide)
        refine zok_if (fun q11 => ?_) (fun q11 => ?_)
        · have h12 := zc_eql (3) (3) q11 (zr_andr (lo := 0) (hi := 3) (zr_c (lo := 3) (hi := 3) (by decide)) (by decide)) (zr_c (lo := 3) (hi := 3) (by decide)) (by decide)
          unfold fX12_set_51
          refine zok_ck (zin_ok h10 (by decide)) ?_
          refine zok_bs (i7.wi 25 25 (z_ix h10 (by decide)) (zr_c (lo := 2) (hi := 2) (by decide)) (by decide +kernel)) (fun σ1 e14 i13 => ?_)
          unfold fX12_set_105
          exact zok_some i13
        have h15 := zc_nel (0) (2) q11 (zr_andr (lo := 0) (hi := 3) (zr_c (lo := 3) (hi := 3) (by decide)) (by decide)) (zr_c (lo := 3) (hi := 3) (by decide)) (by decide)
        unfold fX12_set_51
        refine zok_ck (zin_ok h10 (by decide)) ?_
        refine zok_bs (i7.wi 25 25 (z_ix h10 (by decide)) h15 (by decide +kernel)) (fun σ1 e17 i16 => ?_)
        unfold fX12_set_105
        exact zok_some i16
      have h18 := zc_nel (0) (24) q9 h4 (zr_c (lo := 25) (hi := 25) (by decide)) (by decide)
      refine zok_if (fun q19 => ?_) (fun q19 => ?_)
      · have h20 := zc_ler (16) q19 (zr_c (lo := 16) (hi := 16) (by decide)) h18 (by decide)
        refine zok_if (fun q21 => ?_) (fun q21 => ?_)
        · have h22 := zc_ltr (21) q21 (zr_c (lo := 20) (hi := 20) (by decide)) h20 (by decide)
          refine zok_if (fun q23 => ?_) (fun q23 => ?_)
          · have h24 := zc_ltr (23) q23 (zr_c (lo := 22) (hi := 22) (by decide)) h22 (by decide)
            unfold fX12_set_104
            refine zok_ck (zin_ok h24 (by decide)) ?_
            refine zok_bs (i7.wi 23 24 (z_ix h24 (by decide)) (zr_andr (lo := 0) (hi := 1) (zr_c (lo := 1) (hi := 1) (by decide)) (by decide)) (by decide +kernel)) (fun σ2 e26 i25 => ?_)
            unfold fX12_set_105
            exact zok_some i25
          have h27 := zc_lel (22) (z_nlt q23) h22 (zr_c (lo := 22) (hi := 22) (by decide)) (by decide)
          unfold fX12_set_104
          refine zok_ck (zin_ok h27 (by decide)) ?_
          refine zok_bs (i7.wi 21 22 (z_ix h27 (by decide)) (zr_andr (lo := 0) (hi := 255) (zr_c (lo := 255) (hi := 255) (by decide)) (by decide)) (by decide +kernel)) (fun σ2 e29 i28 => ?_)
          unfold fX12_set_105
          exact zok_some i28
        have h30 := zc_lel (20) (z_nlt q21) h20 (zr_c (lo := 20) (hi := 20) (by decide)) (by decide)
        unfold fX12_set_104
        refine zok_ck (zin_ok h30 (by decide)) ?_
        refine zok_bs (i7.wi 16 20 (z_ix h30 (by decide)) (zr_andr (lo := 0) (hi := 65535) (zr_c (lo := 65535) (hi := 65535) (by decide)) (by decide)) (by decide +kernel)) (fun σ2 e32 i31 => ?_)
        unfold fX12_set_105
        exact zok_some i31
      have h33 := zc_ltl (15) (z_nle q19) h18 (zr_c (lo := 16) (hi := 16) (by decide)) (by decide)
      unfold fX12_set_104
      refine zok_ck (zin_ok h33 (by decide)) ?_
      refine zok_bs (i7.wi 0 15 (z_ix h33 (by decide)) (zr_andr (lo := 0) (hi := 255) (zr_c (lo := 255) (hi := 255) (by decide)) (by decide)) (by decide +kernel)) (fun σ2 e35 i34 => ?_)
      unfold fX12_set_105
      exact zok_some i34
    exact zr_no (zc_nel (1) (0) q8 (zr_c (lo := 0) (hi := 0) (by decide)) (zr_c (lo := 0) (hi := 0) (by decide)) (by decide)) (by decide)
  refine zok_if (fun q36 => ?_) (fun q36 => ?_)
  · unfold fX12_set_18
    refine zok_fails1 (hσ.wi 0 0 (by decide) zr_any (by decide +kernel)) (fun σ3 e37 i38 => ?_)
    refine zok_if (fun q39 => ?_) (fun q39 => ?_)
    · exact zr_no (zc_eql (1) (0) q39 (zr_c (lo := 1) (hi := 1) (by decide)) (zr_c (lo := 0) (hi := 0) (by decide)) (by decide)) (by decide)
    exact zok_some i38
  exact zr_no (zc_nel (1) (0) q36 (zr_c (lo := 0) (hi := 0) (by decide)) (zr_c (lo := 0) (hi := 0) (by decide)) (by decide)) (by decide)
theorem s_X12_peek {G : Nat → Int} {σ : zSt} (hσ : zIM G σ) {x1 : Int32} : zok (fX12_peek σ x1) (zAi (zIM G) (fun v : Int32 => zr (0) (255) v)) := by
  unfold fX12_peek
  refine zok_bs (hσ.wi 0 0 (by decide) (zr_c (lo := 0) (hi := 0) (by decide)) (by decide +kernel)) (fun σ1 e2 i1 => ?_)
  refine zok_pi (s_X12_read i1.P) (fun v3 h3 => ?_)
  exact zok_sai i1 h3
theorem s_X12_poke {G : Nat → Int} {σ : zSt} (hσ : zIM G σ) {x1 : Int32} {x2 : Int32} : zok (fX12_poke σ x1 x2) (zIM G) := by
  unfold fX12_poke
  refine zok_bs (hσ.wi 0 0 (by decide) (zr_c (lo := 0) (hi := 0) (by decide)) (by decide +kernel)) (fun σ1 e2 i1 => ?_)
  refine zok_bu (s_X12_write i1) (fun σ2 i3 => ?_)
  exact zok_some i3
theorem s_X12_in {G : Nat → Int} {σ : zSt} (hσ : zIM G σ) {x1 : Int32} : zok (fX12_in σ x1) (zAi (zIM G) (fun v : Int32 => zr (0) (255) v)) := by
  unfold fX12_in
  refine zok_bs (hσ.wi 0 0 (by decide) (zr_c (lo := 0) (hi := 0) (by decide)) (by decide +kernel)) (fun σ1 e2 i1 => ?_)
  refine zok_ai (s_X12_port i1 (zr_andr (lo := 0) (hi := 255) (zr_c (lo := 255) (hi := 255) (by decide)) (by decide))) (fun σ2 v3 i3 h4 => ?_)
  exact zok_sai i3 h4
theorem s_X12_out {G : Nat → Int} {σ : zSt} (hσ : zIM G σ) {x1 : Int32} {x2 : Int32} : zok (fX12_out σ x1 x2) (zIM G) := by
  unfold fX12_out
  refine zok_bs (hσ.wi 0 0 (by decide) (zr_c (lo := 0) (hi := 0) (by decide)) (by decide +kernel)) (fun σ1 e2 i1 => ?_)
  refine zok_bu (s_X12_portTo i1 (zr_andr (lo := 0) (hi := 255) (zr_c (lo := 255) (hi := 255) (by decide)) (by decide)) (zr_andr (lo := 0) (hi := 255) (zr_c (lo := 255) (hi := 255) (by decide)) (by decide))) (fun σ2 i3 => ?_)
  exact zok_some i3
theorem s_X12_battery {G : Nat → Int} {σ : zSt} (hσ : zIM G σ) {x1 : Int32} : zok (fX12_battery σ x1) (zAi (zIM G) (fun v : Int32 => zr (0) (255) v)) := by
  unfold fX12_battery
  refine zok_within (fun w1 w2 => ?_) (fun w3 => ?_)
  · have h4 := z_wir w1 w2 (zrl_c (lo := 0) (hi := 0) (by decide)) (zrl_c (lo := 32767) (hi := 32767) (by decide))
    refine zok_if (fun q5 => ?_) (fun q5 => ?_)
    · exact zr_no (zc_eql (1) (0) q5 (zr_c (lo := 1) (hi := 1) (by decide)) (zr_c (lo := 0) (hi := 0) (by decide)) (by decide)) (by decide)
    unfold fX12_battery_18
    refine zok_fails0 (hσ.wi 0 0 (by decide) zr_any (by decide +kernel)) (fun σ1 e6 i7 => ?_)
    refine zok_if (fun q8 => ?_) (fun q8 => ?_)
    · refine zok_ck (zin_ok h4 (by decide)) ?_
      unfold fX12_battery_39
      exact zok_sai i7 (zr_andr (lo := 0) (hi := 255) (zr_c (lo := 255) (hi := 255) (by decide)) (by decide))
    exact zr_no (zc_nel (1) (0) q8 (zr_c (lo := 0) (hi := 0) (by decide)) (zr_c (lo := 0) (hi := 0) (by decide)) (by decide)) (by decide)
  refine zok_if (fun q9 => ?_) (fun q9 => ?_)
  · unfold fX12_battery_18
    refine zok_fails1 (hσ.wi 0 0 (by decide) zr_any (by decide +kernel)) (fun σ1 e10 i11 => ?_)
    refine zok_if (fun q12 => ?_) (fun q12 => ?_)
    · exact zr_no (zc_eql (1) (0) q12 (zr_c (lo := 1) (hi := 1) (by decide)) (zr_c (lo := 0) (hi := 0) (by decide)) (by decide)) (by decide)
    unfold fX12_battery_39
    exact zok_sai i11 (zr_w (zr_c (lo := 0) (hi := 0) (by decide)) (by decide))
  exact zr_no (zc_nel (1) (0) q9 (zr_c (lo := 0) (hi := 0) (by decide)) (zr_c (lo := 0) (hi := 0) (by decide)) (by decide)) (by decide)
theorem s_X12_wipe_7_body {G : Nat → Int} {σ : zSt} {k7 : zSt → Int32 → Option (zSt)} {Mk7 : Int} (hk7 : ∀ (σ : zSt) (x1 : Int32), zIM G σ → zr (0) (32768) x1 → (32768) - x1.toInt < Mk7 → zok (k7 σ x1) (zIM G)) (hσ : zIM G σ) {x1 : Int32} (h_x1 : zr (0) (32768) x1) (hMk7 : (32768) - x1.toInt ≤ Mk7) : zok (fX12_wipe_7_body k7 σ x1) (zIM G) := by
  unfold fX12_wipe_7_body
  refine zok_if (fun q1 => ?_) (fun q1 => ?_)
  · have h2 := zc_ler (32768) q1 (zr_c (lo := 32768) (hi := 32768) (by decide)) h_x1 (by decide)
    exact zok_some hσ
  have h3 := zc_ltl (32767) (z_nle q1) h_x1 (zr_c (lo := 32768) (hi := 32768) (by decide)) (by decide)
  refine zok_ck (zin_ok h3 (by decide)) ?_
  refine zok_bs (hσ.wk (by decide)) (fun σ1 e5 i4 => ?_)
  refine zok_br (zr_add (lo := 1) (hi := 32768) h3 (zr_c (lo := 1) (hi := 1) (by decide)) (by decide)) (fun v2 e7 h6 => ?_)
  exact hk7 _ _ i4 (zr_w h6 (by decide)) (by rw [e7]; have := z_tadd (y := (1 : Int32)) h3 (zr_c (lo := 1) (hi := 1) (by decide)) (by decide); have e9 : (1 : Int32).toInt = 1 := rfl; omega) 
theorem s_X12_wipe_7 {G : Nat → Int} : ∀ (n : Nat) {σ : zSt} (hσ : zIM G σ) {x1 : Int32} (h_x1 : zr (0) (32768) x1) (hm : (32768) - x1.toInt < n), zok (fX12_wipe_7 n σ x1) (zIM G) := by
  intro n
  induction n with
  | zero => intro σ hσ x1 h_x1 hm ; have h9 := h_x1.1; have h8 := h_x1.2; exfalso; omega
  | succ n ih => intro σ hσ x1 h_x1 hm ; exact s_X12_wipe_7_body (fun σ x1 hσ h_x1 hm1 => ih hσ h_x1 (by omega)) hσ h_x1 (Int.le_refl _)
theorem s_X12_wipe {G : Nat → Int} {σ : zSt} (hσ : zIM G σ) : zok (fX12_wipe σ ) (zIM G) := by
  unfold fX12_wipe
  refine zok_bs (hσ.wi 0 0 (by decide) (zr_c (lo := 0) (hi := 0) (by decide)) (by decide +kernel)) (fun σ3 e2 i1 => ?_)
  exact (s_X12_wipe_7 zfuel i1 (zr_w (zr_c (lo := 0) (hi := 0) (by decide)) (by decide)) (by decide))
theorem s_X12_video_11_body {σ : zSt} {k11 : zSt → Int32 → Int64 → Int32 → Option (zSt × Int64)} {Mk11 : Int} (hk11 : ∀ (x1 : Int32) (x2 : Int64) (x4 : Int32), zr (-1) (7) x4 → x4.toInt - (-1) < Mk11 → zok (k11 σ x1 x2 x4) (zPl σ (fun v : Int64 => True))) (hσ : zPM σ) {x1 : Int32} {x2 : Int64} {x4 : Int32} (h_x4 : zr (-1) (7) x4) (hMk11 : x4.toInt - (-1) ≤ Mk11) : zok (fX12_video_11_body k11 σ x1 x2 x4) (zPl σ (fun v : Int64 => True)) := by
  unfold fX12_video_11_body
  refine zok_if (fun q1 => ?_) (fun q1 => ?_)
  · have h2 := zc_ltl (-1) q1 h_x4 (zr_c (lo := 0) (hi := 0) (by decide)) (by decide)
    exact zok_spl trivial
  have h3 := zc_ler (0) (z_nlt q1) (zr_c (lo := 0) (hi := 0) (by decide)) h_x4 (by decide)
  refine zok_pi (s_X12_video8 hσ) (fun v2 h4 => ?_)
  refine zok_bv (fun v3 e6 => ?_)
  refine zok_br (zr_add (lo := -1) (hi := 6) h3 (zr_c (lo := -1) (hi := -1) (by decide)) (by decide)) (fun v4 e8 h7 => ?_)
  exact hk11 _ _ _  (zr_w h7 (by decide)) (by rw [e8]; have := z_tadd (y := (-1 : Int32)) h3 (zr_c (lo := -1) (hi := -1) (by decide)) (by decide); have e9 : (-1 : Int32).toInt = -1 := rfl; omega) 
theorem s_X12_video_11 {σ : zSt} (hσ : zPM σ) : ∀ (n : Nat) {x1 : Int32} {x2 : Int64} {x4 : Int32} (h_x4 : zr (-1) (7) x4) (hm : x4.toInt - (-1) < n), zok (fX12_video_11 n σ x1 x2 x4) (zPl σ (fun v : Int64 => True)) := by
  intro n
  induction n with
  | zero => intro x1 x2 x4 h_x4 hm ; have h9 := h_x4.1; have h8 := h_x4.2; exfalso; omega
  | succ n ih => intro x1 x2 x4 h_x4 hm ; exact s_X12_video_11_body (fun x1 x2 x4 h_x4 hm1 => ih h_x4 (by omega)) hσ h_x4 (Int.le_refl _)
theorem s_X12_video {G : Nat → Int} {σ : zSt} (hσ : zIM G σ) {x1 : Int32} : zok (fX12_video σ x1) (zAL (zIM G) (fun v : Int64 => True)) := by
  unfold fX12_video
  refine zok_bs (hσ.wi 0 0 (by decide) (zr_c (lo := 0) (hi := 0) (by decide)) (by decide +kernel)) (fun σ5 e2 i1 => ?_)
  exact zok_pal i1 (s_X12_video_11 i1.P zfuel (zr_w (zr_c (lo := 7) (hi := 7) (by decide)) (by decide)) (by decide))
theorem s_X12_chip {G : Nat → Int} {σ : zSt} (hσ : zIM G σ) {x1 : Int32} : zok (fX12_chip σ x1) (zAi (zIM G) (fun v : Int32 => True)) := by
  unfold fX12_chip
  refine zok_within (fun w1 w2 => ?_) (fun w3 => ?_)
  · have h4 := z_wir w1 w2 (zrl_c (lo := 0) (hi := 0) (by decide)) (zrl_c (lo := 25) (hi := 25) (by decide))
    refine zok_if (fun q5 => ?_) (fun q5 => ?_)
    · exact zr_no (zc_eql (1) (0) q5 (zr_c (lo := 1) (hi := 1) (by decide)) (zr_c (lo := 0) (hi := 0) (by decide)) (by decide)) (by decide)
    unfold fX12_chip_31
    unfold fX12_chip_32
    refine zok_fails0 (hσ.wi 0 0 (by decide) zr_any (by decide +kernel)) (fun σ1 e6 i7 => ?_)
    refine zok_if (fun q8 => ?_) (fun q8 => ?_)
    · refine zok_if (fun q9 => ?_) (fun q9 => ?_)
      · refine zok_if (fun q10 => ?_) (fun q10 => ?_)
        · have h11 := zc_ler (17) q10 (zr_c (lo := 17) (hi := 17) (by decide)) h4 (by decide)
          refine zok_if (fun q12 => ?_) (fun q12 => ?_)
          · have h13 := zc_eql (17) (17) q12 h11 (zr_c (lo := 17) (hi := 17) (by decide)) (by decide)
            refine zok_pi (s_X12_asks i7.P) (fun v4 h14 => ?_)
            refine zok_if (fun q15 => ?_) (fun q15 => ?_)
            · have h16 := zc_eql (0) (0) q15 h14 (zr_c (lo := 0) (hi := 0) (by decide)) (by decide)
              unfold fX12_chip_136
              exact zok_sai i7 trivial
            have h17 := zc_nel (1) (1) q15 h14 (zr_c (lo := 0) (hi := 0) (by decide)) (by decide)
            unfold fX12_chip_136
            exact zok_sai i7 trivial
          have h18 := zc_nel (18) (25) q12 h11 (zr_c (lo := 17) (hi := 17) (by decide)) (by decide)
          refine zok_if (fun q19 => ?_) (fun q19 => ?_)
          · have h20 := zc_eql (18) (18) q19 h18 (zr_c (lo := 18) (hi := 18) (by decide)) (by decide)
            refine zok_ck rfl ?_
            exact zok_sai i7 trivial
          have h21 := zc_nel (19) (25) q19 h18 (zr_c (lo := 18) (hi := 18) (by decide)) (by decide)
          refine zok_if (fun q22 => ?_) (fun q22 => ?_)
          · have h23 := zc_eql (19) (19) q22 h21 (zr_c (lo := 19) (hi := 19) (by decide)) (by decide)
            refine zok_ck rfl ?_
            exact zok_sai i7 trivial
          have h24 := zc_nel (20) (25) q22 h21 (zr_c (lo := 19) (hi := 19) (by decide)) (by decide)
          refine zok_if (fun q25 => ?_) (fun q25 => ?_)
          · have h26 := zc_eql (20) (20) q25 h24 (zr_c (lo := 20) (hi := 20) (by decide)) (by decide)
            refine zok_ck rfl ?_
            exact zok_sai i7 trivial
          have h27 := zc_nel (21) (25) q25 h24 (zr_c (lo := 20) (hi := 20) (by decide)) (by decide)
          refine zok_if (fun q28 => ?_) (fun q28 => ?_)
          · have h29 := zc_eql (21) (21) q28 h27 (zr_c (lo := 21) (hi := 21) (by decide)) (by decide)
            refine zok_ck rfl ?_
            exact zok_sai i7 trivial
          have h30 := zc_nel (22) (25) q28 h27 (zr_c (lo := 21) (hi := 21) (by decide)) (by decide)
          refine zok_if (fun q31 => ?_) (fun q31 => ?_)
          · have h32 := zc_eql (22) (22) q31 h30 (zr_c (lo := 22) (hi := 22) (by decide)) (by decide)
            refine zok_pi (s_X12_mode i7.P) (fun v6 h33 => ?_)
            exact zok_sai i7 trivial
          have h34 := zc_nel (23) (25) q31 h30 (zr_c (lo := 22) (hi := 22) (by decide)) (by decide)
          refine zok_if (fun q35 => ?_) (fun q35 => ?_)
          · have h36 := zc_eql (23) (23) q35 h34 (zr_c (lo := 23) (hi := 23) (by decide)) (by decide)
            refine zok_pi (s_X12_height i7.P) (fun v8 h37 => ?_)
            exact zok_sai i7 trivial
          have h38 := zc_nel (24) (25) q35 h34 (zr_c (lo := 23) (hi := 23) (by decide)) (by decide)
          refine zok_if (fun q39 => ?_) (fun q39 => ?_)
          · have h40 := zc_eql (24) (24) q39 h38 (zr_c (lo := 24) (hi := 24) (by decide)) (by decide)
            refine zok_pi (s_X12_hCount i7.P) (fun v10 h41 => ?_)
            exact zok_sai i7 trivial
          have h42 := zc_nel (25) (25) q39 h38 (zr_c (lo := 24) (hi := 24) (by decide)) (by decide)
          refine zok_pi (s_X12_vCount i7.P) (fun v12 h43 => ?_)
          exact zok_sai i7 trivial
        have h44 := zc_ltl (16) (z_nle q10) h4 (zr_c (lo := 17) (hi := 17) (by decide)) (by decide)
        refine zok_ck (zin_ok (zr_add (lo := 47) (hi := 63) (zr_c (lo := 47) (hi := 47) (by decide)) h44 (by decide)) (by decide)) ?_
        exact zok_sai i7 trivial
      exact zr_no (zc_ltl (24) (z_nle q9) (zr_c (lo := 31) (hi := 31) (by decide)) h4 (by decide)) (by decide)
    exact zr_no (zc_nel (1) (0) q8 (zr_c (lo := 0) (hi := 0) (by decide)) (zr_c (lo := 0) (hi := 0) (by decide)) (by decide)) (by decide)
  refine zok_if (fun q45 => ?_) (fun q45 => ?_)
  · refine zok_within (fun w46 w47 => ?_) (fun w48 => ?_)
    · have h49 := z_wir w46 w47 (zrl_c (lo := 32) (hi := 32) (by decide)) (zrl_c (lo := 95) (hi := 95) (by decide))
      refine zok_if (fun q50 => ?_) (fun q50 => ?_)
      · exact zr_no (zc_eql (1) (0) q50 (zr_c (lo := 1) (hi := 1) (by decide)) (zr_c (lo := 0) (hi := 0) (by decide)) (by decide)) (by decide)
      unfold fX12_chip_31
      unfold fX12_chip_32
      refine zok_fails0 (hσ.wi 0 0 (by decide) zr_any (by decide +kernel)) (fun σ1 e51 i52 => ?_)
      refine zok_if (fun q53 => ?_) (fun q53 => ?_)
      · refine zok_if (fun q54 => ?_) (fun q54 => ?_)
        · exact zr_no (zc_lel (31) q54 h49 (zr_c (lo := 31) (hi := 31) (by decide)) (by decide)) (by decide)
        refine zok_ck (zin_ok (zr_sub (lo := 0) (hi := 63) h49 (zr_c (lo := 32) (hi := 32) (by decide)) (by decide)) (by decide)) ?_
        exact zok_sai i52 trivial
      exact zr_no (zc_nel (1) (0) q53 (zr_c (lo := 0) (hi := 0) (by decide)) (zr_c (lo := 0) (hi := 0) (by decide)) (by decide)) (by decide)
    refine zok_if (fun q55 => ?_) (fun q55 => ?_)
    · unfold fX12_chip_32
      refine zok_fails1 (hσ.wi 0 0 (by decide) zr_any (by decide +kernel)) (fun σ1 e56 i57 => ?_)
      refine zok_if (fun q58 => ?_) (fun q58 => ?_)
      · exact zr_no (zc_eql (1) (0) q58 (zr_c (lo := 1) (hi := 1) (by decide)) (zr_c (lo := 0) (hi := 0) (by decide)) (by decide)) (by decide)
      exact zok_sai i57 trivial
    exact zr_no (zc_nel (1) (0) q55 (zr_c (lo := 0) (hi := 0) (by decide)) (zr_c (lo := 0) (hi := 0) (by decide)) (by decide)) (by decide)
  exact zr_no (zc_nel (1) (0) q45 (zr_c (lo := 0) (hi := 0) (by decide)) (zr_c (lo := 0) (hi := 0) (by decide)) (by decide)) (by decide)
theorem s_X12_trace {G : Nat → Int} {σ : zSt} (hσ : zIM G σ) {x1 : Int32} : zok (fX12_trace σ x1) (zAi (zIM G) (fun v : Int32 => True)) := by
  unfold fX12_trace
  refine zok_bs (I := zIM G) (hσ.wi 0 0 (by decide) zr_any (by decide +kernel)) (fun σ1 e1 i1 => ?_)
  have z9 : zok (fX12_trace_27 σ1) (zAi (zIM G) (fun v : Int32 => True)) := zok_sai i1 trivial
  refine zok_within (fun w1 w2 => ?_) (fun w3 => ?_)
  · refine zok_if (fun q => absurd q (by decide)) (fun _ => ?_)
    have h1 := z_wir w1 w2 (zrl_c (lo := 0) (hi := 0) (by decide)) (zrl_c (lo := 31) (hi := 31) (by decide))
    refine zok_if (fun q => ?_) (fun _ => z9)
    have q1 := z_cmp_lt.mp q
    rw [Int32.toInt_toInt64] at q1
    have b1 := h1.1
    have b2 := h1.2
    have hA : zrl 1 9223372036854775807 (zgl σ1 0 30) := ⟨by omega, zrl_any.2⟩
    have hA1 : ((zgl σ1 0 30) - 1).toInt = (zgl σ1 0 30).toInt - 1 := by
      have b3 := hA.1
      have b4 := hA.2
      rw [Int64.toInt_sub, show (1 : Int64).toInt = 1 from rfl]; exact z_bml (by omega) (by omega)
    have hA2 : (((zgl σ1 0 30) - 1) - x1.toInt64).toInt = (zgl σ1 0 30).toInt - 1 - x1.toInt := by
      have b3 := hA.1
      have b4 := hA.2
      rw [Int64.toInt_sub, hA1, Int32.toInt_toInt64]; exact z_bml (by omega) (by omega)
    have h2 : zrl 0 9223372036854775807 (((zgl σ1 0 30) - 1) - x1.toInt64) := ⟨by omega, zrl_any.2⟩
    have h3 := zr_l (lo := 0) (hi := 31) (zrl_rem (y := 32) (lo := 0) (hi := 31) 32 (by decide) h2 (by decide)) (by decide)
    refine zok_ck rfl (zok_ck (zin_ok h3 (by decide)) ?_)
    exact zok_sai i1 trivial
  · exact zok_if (fun _ => z9) (fun q => absurd rfl q)
theorem s_X12_look_116 {σ : zSt} (hσ : zPM σ) {x1 : Int32} (h_x1 : zr (0) (2) x1) : zok (fX12_look_116 σ x1) (zPl σ (fun v : Int64 => True)) := by
  unfold fX12_look_116
  refine zok_ck (zin_ok h_x1 (by decide)) ?_
  exact zok_spl trivial
theorem s_X12_look_169 {σ : zSt} (hσ : zPM σ) {x1 : Int32} (h_x1 : zr (9) (11) x1) : zok (fX12_look_169 σ x1) (zPl σ (fun v : Int64 => True)) := by
  unfold fX12_look_169
  refine zok_ck (zin_ok (zr_sub (lo := 29) (hi := 31) (zr_add (lo := 38) (hi := 40) (zr_c (lo := 29) (hi := 29) (by decide)) h_x1 (by decide)) (zr_c (lo := 9) (hi := 9) (by decide)) (by decide)) (by decide)) ?_
  exact zok_spl trivial
theorem s_X12_look_222 {σ : zSt} (hσ : zPM σ) {s0 : Int64} (h_s0 : zrl (0) (1) s0) : zok (fX12_look_222 σ s0) (zPl σ (fun v : Int64 => True)) := by
  unfold fX12_look_222
  exact zok_spl trivial
theorem s_X12_look {G : Nat → Int} {σ : zSt} (hσ : zIM G σ) {x1 : Int32} : zok (fX12_look σ x1) (zAL (zIM G) (fun v : Int64 => True)) := by
  unfold fX12_look
  refine zok_within (fun w1 w2 => ?_) (fun w3 => ?_)
  · have h4 := z_wir w1 w2 (zrl_c (lo := 0) (hi := 0) (by decide)) (zrl_c (lo := 18) (hi := 18) (by decide))
    refine zok_if (fun q5 => ?_) (fun q5 => ?_)
    · exact zr_no (zc_eql (1) (0) q5 (zr_c (lo := 1) (hi := 1) (by decide)) (zr_c (lo := 0) (hi := 0) (by decide)) (by decide)) (by decide)
    unfold fX12_look_18
    refine zok_fails0 (hσ.wi 0 0 (by decide) zr_any (by decide +kernel)) (fun σ1 e6 i7 => ?_)
    refine zok_if (fun q8 => ?_) (fun q8 => ?_)
    · refine zok_if (fun q9 => ?_) (fun q9 => ?_)
      · have h10 := zc_eql (0) (0) q9 h4 (zr_c (lo := 0) (hi := 0) (by decide)) (by decide)
        exact zok_pal i7 (s_X12_look_116 i7.P (zr_w h10 (by decide)))
      have h11 := zc_nel (1) (18) q9 h4 (zr_c (lo := 0) (hi := 0) (by decide)) (by decide)
      refine zok_if (fun q12 => ?_) (fun q12 => ?_)
      · have h13 := zc_eql (1) (1) q12 h11 (zr_c (lo := 1) (hi := 1) (by decide)) (by decide)
        exact zok_pal i7 (s_X12_look_116 i7.P (zr_w h13 (by decide)))
      have h14 := zc_nel (2) (18) q12 h11 (zr_c (lo := 1) (hi := 1) (by decide)) (by decide)
      refine zok_if (fun q15 => ?_) (fun q15 => ?_)
      · have h16 := zc_eql (2) (2) q15 h14 (zr_c (lo := 2) (hi := 2) (by decide)) (by decide)
        exact zok_pal i7 (s_X12_look_116 i7.P (zr_w h16 (by decide)))
      have h17 := zc_nel (3) (18) q15 h14 (zr_c (lo := 2) (hi := 2) (by decide)) (by decide)
      refine zok_if (fun q18 => ?_) (fun q18 => ?_)
      · have h19 := zc_eql (3) (3) q18 h17 (zr_c (lo := 3) (hi := 3) (by decide)) (by decide)
        refine zok_ck rfl ?_
        exact zok_sal i7 trivial
      have h20 := zc_nel (4) (18) q18 h17 (zr_c (lo := 3) (hi := 3) (by decide)) (by decide)
      refine zok_if (fun q21 => ?_) (fun q21 => ?_)
      · have h22 := zc_eql (4) (4) q21 h20 (zr_c (lo := 4) (hi := 4) (by decide)) (by decide)
        refine zok_ck rfl ?_
        exact zok_sal i7 trivial
      have h23 := zc_nel (5) (18) q21 h20 (zr_c (lo := 4) (hi := 4) (by decide)) (by decide)
      refine zok_if (fun q24 => ?_) (fun q24 => ?_)
      · have h25 := zc_eql (5) (5) q24 h23 (zr_c (lo := 5) (hi := 5) (by decide)) (by decide)
        exact zok_sal i7 trivial
      have h26 := zc_nel (6) (18) q24 h23 (zr_c (lo := 5) (hi := 5) (by decide)) (by decide)
      refine zok_if (fun q27 => ?_) (fun q27 => ?_)
      · have h28 := zc_eql (6) (6) q27 h26 (zr_c (lo := 6) (hi := 6) (by decide)) (by decide)
        refine zok_ck rfl ?_
        exact zok_sal i7 trivial
      have h29 := zc_nel (7) (18) q27 h26 (zr_c (lo := 6) (hi := 6) (by decide)) (by decide)
      refine zok_if (fun q30 => ?_) (fun q30 => ?_)
      · have h31 := zc_eql (7) (7) q30 h29 (zr_c (lo := 7) (hi := 7) (by decide)) (by decide)
        exact zok_sal i7 trivial
      have h32 := zc_nel (8) (18) q30 h29 (zr_c (lo := 7) (hi := 7) (by decide)) (by decide)
      refine zok_if (fun q33 => ?_) (fun q33 => ?_)
      · have h34 := zc_eql (8) (8) q33 h32 (zr_c (lo := 8) (hi := 8) (by decide)) (by decide)
        refine zok_ck rfl ?_
        exact zok_sal i7 trivial
      have h35 := zc_nel (9) (18) q33 h32 (zr_c (lo := 8) (hi := 8) (by decide)) (by decide)
      refine zok_if (fun q36 => ?_) (fun q36 => ?_)
      · have h37 := zc_eql (9) (9) q36 h35 (zr_c (lo := 9) (hi := 9) (by decide)) (by decide)
        exact zok_pal i7 (s_X12_look_169 i7.P (zr_w h37 (by decide)))
      have h38 := zc_nel (10) (18) q36 h35 (zr_c (lo := 9) (hi := 9) (by decide)) (by decide)
      refine zok_if (fun q39 => ?_) (fun q39 => ?_)
      · have h40 := zc_eql (10) (10) q39 h38 (zr_c (lo := 10) (hi := 10) (by decide)) (by decide)
        exact zok_pal i7 (s_X12_look_169 i7.P (zr_w h40 (by decide)))
      have h41 := zc_nel (11) (18) q39 h38 (zr_c (lo := 10) (hi := 10) (by decide)) (by decide)
      refine zok_if (fun q42 => ?_) (fun q42 => ?_)
      · have h43 := zc_eql (11) (11) q42 h41 (zr_c (lo := 11) (hi := 11) (by decide)) (by decide)
        exact zok_pal i7 (s_X12_look_169 i7.P (zr_w h43 (by decide)))
      have h44 := zc_nel (12) (18) q42 h41 (zr_c (lo := 11) (hi := 11) (by decide)) (by decide)
      refine zok_if (fun q45 => ?_) (fun q45 => ?_)
      · have h46 := zc_eql (12) (12) q45 h44 (zr_c (lo := 12) (hi := 12) (by decide)) (by decide)
        refine zok_ck rfl ?_
        exact zok_sal i7 trivial
      have h47 := zc_nel (13) (18) q45 h44 (zr_c (lo := 12) (hi := 12) (by decide)) (by decide)
      refine zok_if (fun q48 => ?_) (fun q48 => ?_)
      · have h49 := zc_eql (13) (13) q48 h47 (zr_c (lo := 13) (hi := 13) (by decide)) (by decide)
        refine zok_ck rfl ?_
        exact zok_sal i7 trivial
      have h50 := zc_nel (14) (18) q48 h47 (zr_c (lo := 13) (hi := 13) (by decide)) (by decide)
      refine zok_if (fun q51 => ?_) (fun q51 => ?_)
      · have h52 := zc_eql (14) (14) q51 h50 (zr_c (lo := 14) (hi := 14) (by decide)) (by decide)
        refine zok_ck rfl ?_
        exact zok_sal i7 trivial
      have h53 := zc_nel (15) (18) q51 h50 (zr_c (lo := 14) (hi := 14) (by decide)) (by decide)
      refine zok_if (fun q54 => ?_) (fun q54 => ?_)
      · have h55 := zc_eql (15) (15) q54 h53 (zr_c (lo := 15) (hi := 15) (by decide)) (by decide)
        refine zok_if (fun q56 => ?_) (fun q56 => ?_)
        · have h57 := zc_eql (0) (0) q56 zr_any (zr_c (lo := 0) (hi := 0) (by decide)) (by decide)
          exact zok_pal i7 (s_X12_look_222 i7.P (zrl_w (zrl_c (lo := 0) (hi := 0) (by decide)) (by decide)))
        exact zok_pal i7 (s_X12_look_222 i7.P (zrl_w (zrl_c (lo := 1) (hi := 1) (by decide)) (by decide)))
      have h58 := zc_nel (16) (18) q54 h53 (zr_c (lo := 15) (hi := 15) (by decide)) (by decide)
      refine zok_if (fun q59 => ?_) (fun q59 => ?_)
      · have h60 := zc_eql (16) (16) q59 h58 (zr_c (lo := 16) (hi := 16) (by decide)) (by decide)
        refine zok_ck rfl ?_
        exact zok_sal i7 trivial
      have h61 := zc_nel (17) (18) q59 h58 (zr_c (lo := 16) (hi := 16) (by decide)) (by decide)
      refine zok_if (fun q62 => ?_) (fun q62 => ?_)
      · have h63 := zc_eql (17) (17) q62 h61 (zr_c (lo := 17) (hi := 17) (by decide)) (by decide)
        refine zok_ck rfl ?_
        exact zok_sal i7 trivial
      have h64 := zc_nel (18) (18) q62 h61 (zr_c (lo := 17) (hi := 17) (by decide)) (by decide)
      exact zok_sal i7 trivial
    exact zr_no (zc_nel (1) (0) q8 (zr_c (lo := 0) (hi := 0) (by decide)) (zr_c (lo := 0) (hi := 0) (by decide)) (by decide)) (by decide)
  refine zok_if (fun q65 => ?_) (fun q65 => ?_)
  · unfold fX12_look_18
    refine zok_fails1 (hσ.wi 0 0 (by decide) zr_any (by decide +kernel)) (fun σ1 e66 i67 => ?_)
    refine zok_if (fun q68 => ?_) (fun q68 => ?_)
    · exact zr_no (zc_eql (1) (0) q68 (zr_c (lo := 1) (hi := 1) (by decide)) (zr_c (lo := 0) (hi := 0) (by decide)) (by decide)) (by decide)
    exact zok_sal i67 trivial
  exact zr_no (zc_nel (1) (0) q65 (zr_c (lo := 0) (hi := 0) (by decide)) (zr_c (lo := 0) (hi := 0) (by decide)) (by decide)) (by decide)
theorem s_X12_mix {G : Nat → Int} {σ : zSt} (hσ : zIM G σ) : zok (fX12_mix σ ) (zAL (zIM G) (fun v : Int64 => True)) := by
  unfold fX12_mix
  refine zok_ck rfl ?_
  refine zok_if (fun q1 => ?_) (fun q1 => ?_)
  · have h2 := zc_eql (0) (0) q1 (rM_43 hσ.sg _ (by decide)) (zr_c (lo := 0) (hi := 0) (by decide)) (by decide)
    unfold fX12_mix_17
    refine zok_fails1 (hσ.wi 0 0 (by decide) zr_any (by decide +kernel)) (fun σ1 e3 i4 => ?_)
    refine zok_if (fun q5 => ?_) (fun q5 => ?_)
    · exact zr_no (zc_eql (1) (0) q5 (zr_c (lo := 1) (hi := 1) (by decide)) (zr_c (lo := 0) (hi := 0) (by decide)) (by decide)) (by decide)
    exact zok_sal i4 trivial
  have h6 := zc_nel (1) (4096) q1 (rM_43 hσ.sg _ (by decide)) (zr_c (lo := 0) (hi := 0) (by decide)) (by decide)
  unfold fX12_mix_17
  refine zok_fails0 (hσ.wi 0 0 (by decide) zr_any (by decide +kernel)) (fun σ1 e7 i8 => ?_)
  refine zok_if (fun q9 => ?_) (fun q9 => ?_)
  · refine zok_ck rfl ?_
    refine zok_ck (zin_ok (rM_44 i8.sg _ (by decide)) (by decide)) ?_
    refine zok_bv (fun v3 e11 => ?_)
    refine zok_ck rfl ?_
    refine zok_ck (by decide) ?_
    refine zok_ck rfl ?_
    refine zok_bs (i8.wi 170 170 (by decide) (zr_rem (lo := 0) (hi := 4095) 4096 (by decide) (zr_add (lo := 1) (hi := 4096) (rM_44 i8.sg _ (by decide)) (zr_c (lo := 1) (hi := 1) (by decide)) (by decide)) (by decide)) (by decide +kernel)) (fun σ4 e13 i12 => ?_)
    refine zok_ck rfl ?_
    refine zok_ck rfl ?_
    refine zok_bs (i12.wi 169 169 (by decide) (zr_sub (lo := 0) (hi := 4095) (z_trj e13 (by decide) (z_tr e7 rfl h6)) (zr_c (lo := 1) (hi := 1) (by decide)) (by decide)) (by decide +kernel)) (fun σ5 e15 i14 => ?_)
    exact zok_sal i14 trivial
  exact zr_no (zc_nel (1) (0) q9 (zr_c (lo := 0) (hi := 0) (by decide)) (zr_c (lo := 0) (hi := 0) (by decide)) (by decide)) (by decide)
theorem s_X12_wave {G : Nat → Int} {σ : zSt} (hσ : zIM G σ) {x1 : Int32} : zok (fX12_wave σ x1) (zAi (zIM G) (fun v : Int32 => True)) := by
  unfold fX12_wave
  refine zok_within (fun w1 w2 => ?_) (fun w3 => ?_)
  · have h4 := z_wir w1 w2 (zrl_c (lo := 0) (hi := 0) (by decide)) (zrl_c (lo := 67) (hi := 67) (by decide))
    refine zok_if (fun q5 => ?_) (fun q5 => ?_)
    · exact zr_no (zc_eql (1) (0) q5 (zr_c (lo := 1) (hi := 1) (by decide)) (zr_c (lo := 0) (hi := 0) (by decide)) (by decide)) (by decide)
    unfold fX12_wave_40
    unfold fX12_wave_41
    refine zok_fails0 (hσ.wi 0 0 (by decide) zr_any (by decide +kernel)) (fun σ1 e6 i7 => ?_)
    refine zok_if (fun q8 => ?_) (fun q8 => ?_)
    · refine zok_if (fun q9 => ?_) (fun q9 => ?_)
      · have h10 := zc_ler (64) q9 (zr_c (lo := 64) (hi := 64) (by decide)) h4 (by decide)
        refine zok_if (fun q11 => ?_) (fun q11 => ?_)
        · have h12 := zc_eql (64) (64) q11 h10 (zr_c (lo := 64) (hi := 64) (by decide)) (by decide)
          refine zok_ck rfl ?_
          exact zok_sai i7 trivial
        have h13 := zc_nel (65) (67) q11 h10 (zr_c (lo := 64) (hi := 64) (by decide)) (by decide)
        refine zok_if (fun q14 => ?_) (fun q14 => ?_)
        · have h15 := zc_eql (65) (65) q14 h13 (zr_c (lo := 65) (hi := 65) (by decide)) (by decide)
          refine zok_ck rfl ?_
          exact zok_sai i7 trivial
        have h16 := zc_nel (66) (67) q14 h13 (zr_c (lo := 65) (hi := 65) (by decide)) (by decide)
        refine zok_if (fun q17 => ?_) (fun q17 => ?_)
        · have h18 := zc_eql (66) (66) q17 h16 (zr_c (lo := 66) (hi := 66) (by decide)) (by decide)
          refine zok_ck rfl ?_
          refine zok_ck (by decide) ?_
          exact zok_sai i7 trivial
        have h19 := zc_nel (67) (67) q17 h16 (zr_c (lo := 66) (hi := 66) (by decide)) (by decide)
        refine zok_if (fun q20 => ?_) (fun q20 => ?_)
        · refine zok_ck rfl ?_
          exact zok_sai i7 trivial
        exact zr_no (zc_nel (68) (67) q20 h19 (zr_c (lo := 67) (hi := 67) (by decide)) (by decide)) (by decide)
      have h21 := zc_ltl (63) (z_nle q9) h4 (zr_c (lo := 64) (hi := 64) (by decide)) (by decide)
      refine zok_pi (s_X12_wreg i7.P h21) (fun v4 h22 => ?_)
      exact zok_sai i7 trivial
    exact zr_no (zc_nel (1) (0) q8 (zr_c (lo := 0) (hi := 0) (by decide)) (zr_c (lo := 0) (hi := 0) (by decide)) (by decide)) (by decide)
  refine zok_if (fun q23 => ?_) (fun q23 => ?_)
  · refine zok_within (fun w24 w25 => ?_) (fun w26 => ?_)
    · have h27 := z_wir w24 w25 (zrl_c (lo := 128) (hi := 128) (by decide)) (zrl_c (lo := 271) (hi := 271) (by decide))
      refine zok_if (fun q28 => ?_) (fun q28 => ?_)
      · exact zr_no (zc_eql (1) (0) q28 (zr_c (lo := 1) (hi := 1) (by decide)) (zr_c (lo := 0) (hi := 0) (by decide)) (by decide)) (by decide)
      refine zok_ck (by decide) ?_
      refine zok_if (fun q29 => ?_) (fun q29 => ?_)
      · have h30 := zc_ltl (5) q29 (zr_rem (lo := 0) (hi := 7) 8 (by decide) h27 (by decide)) (zr_c (lo := 6) (hi := 6) (by decide)) (by decide)
        unfold fX12_wave_40
        unfold fX12_wave_41
        refine zok_fails0 (hσ.wi 0 0 (by decide) zr_any (by decide +kernel)) (fun σ1 e31 i32 => ?_)
        refine zok_if (fun q33 => ?_) (fun q33 => ?_)
        · refine zok_if (fun q34 => ?_) (fun q34 => ?_)
          · refine zok_if (fun q35 => ?_) (fun q35 => ?_)
            · have h36 := zc_eql (128) (64) q35 h27 (zr_c (lo := 64) (hi := 64) (by decide)) (by decide)
              exact zr_no h36 (by decide)
            refine zok_if (fun q37 => ?_) (fun q37 => ?_)
            · have h38 := zc_eql (128) (65) q37 h27 (zr_c (lo := 65) (hi := 65) (by decide)) (by decide)
              exact zr_no h38 (by decide)
            refine zok_if (fun q39 => ?_) (fun q39 => ?_)
            · have h40 := zc_eql (128) (66) q39 h27 (zr_c (lo := 66) (hi := 66) (by decide)) (by decide)
              exact zr_no h40 (by decide)
            refine zok_if (fun q41 => ?_) (fun q41 => ?_)
            · have h42 := zc_eql (128) (67) q41 h27 (zr_c (lo := 67) (hi := 67) (by decide)) (by decide)
              exact zr_no h42 (by decide)
            refine zok_ck (by decide) ?_
            refine zok_ck (by decide) ?_
            refine zok_ck (zin_ok (zr_add (lo := 172) (hi := 279) (zr_add (lo := 172) (hi := 274) (zr_c (lo := 172) (hi := 172) (by decide)) (zr_mul (lo := 0) (hi := 102) (zr_c (lo := 6) (hi := 6) (by decide)) (zr_div (lo := 0) (hi := 17) 8 (by decide) (zr_sub (lo := 0) (hi := 143) h27 (zr_c (lo := 128) (hi := 128) (by decide)) (by decide)) (by decide)) (by decide)) (by decide)) h30 (by decide)) (by decide)) ?_
            exact zok_sai i32 trivial
          exact zr_no (zc_ltl (63) (z_nle q34) h27 (zr_c (lo := 64) (hi := 64) (by decide)) (by decide)) (by decide)
        exact zr_no (zc_nel (1) (0) q33 (zr_c (lo := 0) (hi := 0) (by decide)) (zr_c (lo := 0) (hi := 0) (by decide)) (by decide)) (by decide)
      have h43 := zc_ler (6) (z_nlt q29) (zr_c (lo := 6) (hi := 6) (by decide)) (zr_rem (lo := 0) (hi := 7) 8 (by decide) h27 (by decide)) (by decide)
      unfold fX12_wave_36
      unfold fX12_wave_41
      refine zok_fails1 (hσ.wi 0 0 (by decide) zr_any (by decide +kernel)) (fun σ1 e44 i45 => ?_)
      refine zok_if (fun q46 => ?_) (fun q46 => ?_)
      · exact zr_no (zc_eql (1) (0) q46 (zr_c (lo := 1) (hi := 1) (by decide)) (zr_c (lo := 0) (hi := 0) (by decide)) (by decide)) (by decide)
      exact zok_sai i45 trivial
    refine zok_if (fun q47 => ?_) (fun q47 => ?_)
    · unfold fX12_wave_36
      unfold fX12_wave_41
      refine zok_fails1 (hσ.wi 0 0 (by decide) zr_any (by decide +kernel)) (fun σ1 e48 i49 => ?_)
      refine zok_if (fun q50 => ?_) (fun q50 => ?_)
      · exact zr_no (zc_eql (1) (0) q50 (zr_c (lo := 1) (hi := 1) (by decide)) (zr_c (lo := 0) (hi := 0) (by decide)) (by decide)) (by decide)
      exact zok_sai i49 trivial
    exact zr_no (zc_nel (1) (0) q47 (zr_c (lo := 0) (hi := 0) (by decide)) (zr_c (lo := 0) (hi := 0) (by decide)) (by decide)) (by decide)
  exact zr_no (zc_nel (1) (0) q23 (zr_c (lo := 0) (hi := 0) (by decide)) (zr_c (lo := 0) (hi := 0) (by decide)) (by decide)) (by decide)
theorem s_X12_plan {G : Nat → Int} {σ : zSt} (hσ : zIM G σ) {x1 : Int32} {x2 : Int32} {x3 : Int32} : zok (fX12_plan σ x1 x2 x3) (zAi (zIM G) (fun v : Int32 => zr (0) (256) v)) := by
  unfold fX12_plan
  refine zok_ck rfl ?_
  refine zok_if (fun q1 => ?_) (fun q1 => ?_)
  · have h2 := zc_eql (0) (0) q1 (rM_45 hσ.sg _ (by decide)) (zr_c (lo := 0) (hi := 0) (by decide)) (by decide)
    unfold fX12_plan_36
    refine zok_if (fun q3 => ?_) (fun q3 => ?_)
    · have h4 := zc_ltl (-1) q3 zr_any (zr_c (lo := 0) (hi := 0) (by decide)) (by decide)
      unfold fX12_plan_71
      unfold fX12_plan_76
      refine zok_fails1 (hσ.wi 0 0 (by decide) zr_any (by decide +kernel)) (fun σ8 e5 i6 => ?_)
      refine zok_if (fun q7 => ?_) (fun q7 => ?_)
      · exact zr_no (zc_eql (1) (0) q7 (zr_c (lo := 1) (hi := 1) (by decide)) (zr_c (lo := 0) (hi := 0) (by decide)) (by decide)) (by decide)
      unfold fX12_plan_110
      exact zok_sai i6 (zr_w (zr_c (lo := 0) (hi := 0) (by decide)) (by decide))
    have h8 := zc_ler (0) (z_nlt q3) (zr_c (lo := 0) (hi := 0) (by decide)) zr_any (by decide)
    refine zok_if (fun q9 => ?_) (fun q9 => ?_)
    · exact zr_no (zc_ltl (-1) q9 h8 (zr_c (lo := 0) (hi := 0) (by decide)) (by decide)) (by decide)
    refine zok_within (fun w10 w11 => ?_) (fun w12 => ?_)
    · have h13 := z_wir w10 w11 (zrl_c (lo := 0) (hi := 0) (by decide)) (zrl_c (lo := 1) (hi := 1) (by decide))
      refine zok_if (fun q14 => ?_) (fun q14 => ?_)
      · exact zr_no (zc_eql (1) (0) q14 (zr_c (lo := 1) (hi := 1) (by decide)) (zr_c (lo := 0) (hi := 0) (by decide)) (by decide)) (by decide)
      refine zok_within (fun w15 w16 => ?_) (fun w17 => ?_)
      · have h18 := z_wir w15 w16 (zrl_c (lo := 0) (hi := 0) (by decide)) (zrl_c (lo := 63) (hi := 63) (by decide))
        refine zok_if (fun q19 => ?_) (fun q19 => ?_)
        · exact zr_no (zc_eql (1) (0) q19 (zr_c (lo := 1) (hi := 1) (by decide)) (zr_c (lo := 0) (hi := 0) (by decide)) (by decide)) (by decide)
        unfold fX12_plan_76
        refine zok_fails0 (hσ.wi 0 0 (by decide) zr_any (by decide +kernel)) (fun σ8 e20 i21 => ?_)
        refine zok_if (fun q22 => ?_) (fun q22 => ?_)
        · refine zok_ck rfl ?_
          refine zok_if (fun q23 => ?_) (fun q23 => ?_)
          · have h24 := zc_eql (256) (0) q23 (z_tr e20 rfl h2) (zr_c (lo := 256) (hi := 256) (by decide)) (by decide)
            exact zr_no h24 (by decide)
          unfold fX12_plan_103
          refine zok_fails0 (i21.wi 0 0 (by decide) zr_any (by decide +kernel)) (fun σ1 e25 i26 => ?_)
          refine zok_if (fun q27 => ?_) (fun q27 => ?_)
          · refine zok_ck rfl ?_
            refine zok_br (zr_add (lo := 280) (hi := 280) (zr_c (lo := 280) (hi := 280) (by decide)) (zr_mul (lo := 0) (hi := 0) (zr_c (lo := 3) (hi := 3) (by decide)) (z_tr e25 rfl (z_tr e20 rfl h2)) (by decide)) (by decide)) (fun v3 e29 h28 => ?_)
            have h30 := z_pt0 e29 (z_tr e25 rfl (z_tr e20 rfl h2)) (by decide)
            refine zok_ck (zin_ok h28 (by decide)) ?_
            refine zok_bs (i26.pl h30 (by decide)) (fun σ4 e32 i31 => ?_)
            refine zok_ck (zin_ok (zr_add (lo := 281) (hi := 281) h28 (zr_c (lo := 1) (hi := 1) (by decide)) (by decide)) (by decide)) ?_
            refine zok_bs (i31.pl1 (zpt_add h30 (c1 := 1) 1 (by decide) (by decide)) h13 (by decide)) (fun σ5 e34 i33 => ?_)
            refine zok_ck (zin_ok (zr_add (lo := 282) (hi := 282) h28 (zr_c (lo := 2) (hi := 2) (by decide)) (by decide)) (by decide)) ?_
            refine zok_bs (i33.pl (zpt_add h30 (c1 := 2) 2 (by decide) (by decide)) (by decide)) (fun σ6 e36 i35 => ?_)
            refine zok_ck rfl ?_
            refine zok_ck rfl ?_
            refine zok_bs (i35.wi 171 171 (by decide) (zr_add (lo := 1) (hi := 1) (z_trr e36 (z_ix (c := 282) (d := 282) (zr_add (lo := 282) (hi := 282) h28 (zr_c (lo := 2) (hi := 2) (by decide)) (by decide)) (by decide)) (by decide) (z_trr e34 (z_ix (c := 281) (d := 281) (zr_add (lo := 281) (hi := 281) h28 (zr_c (lo := 1) (hi := 1) (by decide)) (by decide)) (by decide)) (by decide) (z_trr e32 (z_ix (c := 280) (d := 280) h28 (by decide)) (by decide) (z_tr e25 rfl (z_tr e20 rfl h2))))) (zr_c (lo := 1) (hi := 1) (by decide)) (by decide)) (by decide +kernel)) (fun σ7 e38 i37 => ?_)
            refine zok_ck rfl ?_
            exact zok_sai i37 (zr_w (z_own e38 (zr_add (lo := 1) (hi := 1) (z_trr e36 (z_ix (c := 282) (d := 282) (zr_add (lo := 282) (hi := 282) h28 (zr_c (lo := 2) (hi := 2) (by decide)) (by decide)) (by decide)) (by decide) (z_trr e34 (z_ix (c := 281) (d := 281) (zr_add (lo := 281) (hi := 281) h28 (zr_c (lo := 1) (hi := 1) (by decide)) (by decide)) (by decide)) (by decide) (z_trr e32 (z_ix (c := 280) (d := 280) h28 (by decide)) (by decide) (z_tr e25 rfl (z_tr e20 rfl h2))))) (zr_c (lo := 1) (hi := 1) (by decide)) (by decide))) (by decide))
          exact zr_no (zc_nel (1) (0) q27 (zr_c (lo := 0) (hi := 0) (by decide)) (zr_c (lo := 0) (hi := 0) (by decide)) (by decide)) (by decide)
        exact zr_no (zc_nel (1) (0) q22 (zr_c (lo := 0) (hi := 0) (by decide)) (zr_c (lo := 0) (hi := 0) (by decide)) (by decide)) (by decide)
      refine zok_if (fun q39 => ?_) (fun q39 => ?_)
      · unfold fX12_plan_71
        unfold fX12_plan_76
        refine zok_fails1 (hσ.wi 0 0 (by decide) zr_any (by decide +kernel)) (fun σ8 e40 i41 => ?_)
        refine zok_if (fun q42 => ?_) (fun q42 => ?_)
        · exact zr_no (zc_eql (1) (0) q42 (zr_c (lo := 1) (hi := 1) (by decide)) (zr_c (lo := 0) (hi := 0) (by decide)) (by decide)) (by decide)
        unfold fX12_plan_110
        exact zok_sai i41 (zr_w (zr_c (lo := 0) (hi := 0) (by decide)) (by decide))
      exact zr_no (zc_nel (1) (0) q39 (zr_c (lo := 0) (hi := 0) (by decide)) (zr_c (lo := 0) (hi := 0) (by decide)) (by decide)) (by decide)
    refine zok_if (fun q43 => ?_) (fun q43 => ?_)
    · unfold fX12_plan_71
      unfold fX12_plan_76
      refine zok_fails1 (hσ.wi 0 0 (by decide) zr_any (by decide +kernel)) (fun σ8 e44 i45 => ?_)
      refine zok_if (fun q46 => ?_) (fun q46 => ?_)
      · exact zr_no (zc_eql (1) (0) q46 (zr_c (lo := 1) (hi := 1) (by decide)) (zr_c (lo := 0) (hi := 0) (by decide)) (by decide)) (by decide)
      unfold fX12_plan_110
      exact zok_sai i45 (zr_w (zr_c (lo := 0) (hi := 0) (by decide)) (by decide))
    exact zr_no (zc_nel (1) (0) q43 (zr_c (lo := 0) (hi := 0) (by decide)) (zr_c (lo := 0) (hi := 0) (by decide)) (by decide)) (by decide)
  have h47 := zc_nel (1) (256) q1 (rM_45 hσ.sg _ (by decide)) (zr_c (lo := 0) (hi := 0) (by decide)) (by decide)
  refine zok_ck rfl ?_
  refine zok_ck (zin_ok (zr_add (lo := 280) (hi := 1045) (zr_c (lo := 280) (hi := 280) (by decide)) (zr_mul (lo := 0) (hi := 765) (zr_c (lo := 3) (hi := 3) (by decide)) (zr_sub (lo := 0) (hi := 255) h47 (zr_c (lo := 1) (hi := 1) (by decide)) (by decide)) (by decide)) (by decide)) (by decide)) ?_
  unfold fX12_plan_36
  refine zok_if (fun q48 => ?_) (fun q48 => ?_)
  · have h49 := zc_ltl (2147483646) q48 zr_any zr_any (by decide)
    have h50 := zc_ltr (-2147483647) q48 zr_any zr_any (by decide)
    unfold fX12_plan_71
    unfold fX12_plan_76
    refine zok_fails1 (hσ.wi 0 0 (by decide) zr_any (by decide +kernel)) (fun σ8 e51 i52 => ?_)
    refine zok_if (fun q53 => ?_) (fun q53 => ?_)
    · exact zr_no (zc_eql (1) (0) q53 (zr_c (lo := 1) (hi := 1) (by decide)) (zr_c (lo := 0) (hi := 0) (by decide)) (by decide)) (by decide)
    unfold fX12_plan_110
    exact zok_sai i52 (zr_w (zr_c (lo := 0) (hi := 0) (by decide)) (by decide))
  refine zok_if (fun q54 => ?_) (fun q54 => ?_)
  · have h55 := zc_ltl (-1) q54 zr_any (zr_c (lo := 0) (hi := 0) (by decide)) (by decide)
    unfold fX12_plan_71
    unfold fX12_plan_76
    refine zok_fails1 (hσ.wi 0 0 (by decide) zr_any (by decide +kernel)) (fun σ8 e56 i57 => ?_)
    refine zok_if (fun q58 => ?_) (fun q58 => ?_)
    · exact zr_no (zc_eql (1) (0) q58 (zr_c (lo := 1) (hi := 1) (by decide)) (zr_c (lo := 0) (hi := 0) (by decide)) (by decide)) (by decide)
    unfold fX12_plan_110
    exact zok_sai i57 (zr_w (zr_c (lo := 0) (hi := 0) (by decide)) (by decide))
  have h59 := zc_ler (0) (z_nlt q54) (zr_c (lo := 0) (hi := 0) (by decide)) zr_any (by decide)
  refine zok_within (fun w60 w61 => ?_) (fun w62 => ?_)
  · have h63 := z_wir w60 w61 (zrl_c (lo := 0) (hi := 0) (by decide)) (zrl_c (lo := 1) (hi := 1) (by decide))
    refine zok_if (fun q64 => ?_) (fun q64 => ?_)
    · exact zr_no (zc_eql (1) (0) q64 (zr_c (lo := 1) (hi := 1) (by decide)) (zr_c (lo := 0) (hi := 0) (by decide)) (by decide)) (by decide)
    refine zok_within (fun w65 w66 => ?_) (fun w67 => ?_)
    · have h68 := z_wir w65 w66 (zrl_c (lo := 0) (hi := 0) (by decide)) (zrl_c (lo := 63) (hi := 63) (by decide))
      refine zok_if (fun q69 => ?_) (fun q69 => ?_)
      · exact zr_no (zc_eql (1) (0) q69 (zr_c (lo := 1) (hi := 1) (by decide)) (zr_c (lo := 0) (hi := 0) (by decide)) (by decide)) (by decide)
      unfold fX12_plan_76
      refine zok_fails0 (hσ.wi 0 0 (by decide) zr_any (by decide +kernel)) (fun σ8 e70 i71 => ?_)
      refine zok_if (fun q72 => ?_) (fun q72 => ?_)
      · refine zok_ck rfl ?_
        refine zok_if (fun q73 => ?_) (fun q73 => ?_)
        · have h74 := zc_eql (256) (256) q73 (z_tr e70 rfl h47) (zr_c (lo := 256) (hi := 256) (by decide)) (by decide)
          unfold fX12_plan_103
          refine zok_fails1 (i71.wi 0 0 (by decide) zr_any (by decide +kernel)) (fun σ1 e75 i76 => ?_)
          refine zok_if (fun q77 => ?_) (fun q77 => ?_)
          · exact zr_no (zc_eql (1) (0) q77 (zr_c (lo := 1) (hi := 1) (by decide)) (zr_c (lo := 0) (hi := 0) (by decide)) (by decide)) (by decide)
          unfold fX12_plan_110
          exact zok_sai i76 (zr_w (zr_c (lo := 0) (hi := 0) (by decide)) (by decide))
        have h78 := zc_nel (1) (255) q73 (z_tr e70 rfl h47) (zr_c (lo := 256) (hi := 256) (by decide)) (by decide)
        unfold fX12_plan_103
        refine zok_fails0 (i71.wi 0 0 (by decide) zr_any (by decide +kernel)) (fun σ1 e79 i80 => ?_)
        refine zok_if (fun q81 => ?_) (fun q81 => ?_)
        · refine zok_ck rfl ?_
          refine zok_br (zr_add (lo := 283) (hi := 1045) (zr_c (lo := 280) (hi := 280) (by decide)) (zr_mul (lo := 3) (hi := 765) (zr_c (lo := 3) (hi := 3) (by decide)) (z_tr e79 rfl h78) (by decide)) (by decide)) (fun v3 e83 h82 => ?_)
          have h84 := z_pt0 e83 (z_tr e79 rfl h78) (by decide)
          refine zok_ck (zin_ok h82 (by decide)) ?_
          refine zok_bs (i80.pl h84 (by decide)) (fun σ4 e86 i85 => ?_)
          refine zok_ck (zin_ok (zr_add (lo := 284) (hi := 1046) h82 (zr_c (lo := 1) (hi := 1) (by decide)) (by decide)) (by decide)) ?_
          refine zok_bs (i85.pl1 (zpt_add h84 (c1 := 1) 1 (by decide) (by decide)) h63 (by decide)) (fun σ5 e88 i87 => ?_)
          refine zok_ck (zin_ok (zr_add (lo := 285) (hi := 1047) h82 (zr_c (lo := 2) (hi := 2) (by decide)) (by decide)) (by decide)) ?_
          refine zok_bs (i87.pl (zpt_add h84 (c1 := 2) 2 (by decide) (by decide)) (by decide)) (fun σ6 e90 i89 => ?_)
          refine zok_ck rfl ?_
          refine zok_ck rfl ?_
          refine zok_bs (i89.wi 171 171 (by decide) (zr_add (lo := 2) (hi := 256) (z_trr e90 (z_ix (c := 285) (d := 1047) (zr_add (lo := 285) (hi := 1047) h82 (zr_c (lo := 2) (hi := 2) (by decide)) (by decide)) (by decide)) (by decide) (z_trr e88 (z_ix (c := 284) (d := 1046) (zr_add (lo := 284) (hi := 1046) h82 (zr_c (lo := 1) (hi := 1) (by decide)) (by decide)) (by decide)) (by decide) (z_trr e86 (z_ix (c := 283) (d := 1045) h82 (by decide)) (by decide) (z_tr e79 rfl h78)))) (zr_c (lo := 1) (hi := 1) (by decide)) (by decide)) (by decide +kernel)) (fun σ7 e92 i91 => ?_)
          refine zok_ck rfl ?_
          exact zok_sai i91 (zr_w (z_own e92 (zr_add (lo := 2) (hi := 256) (z_trr e90 (z_ix (c := 285) (d := 1047) (zr_add (lo := 285) (hi := 1047) h82 (zr_c (lo := 2) (hi := 2) (by decide)) (by decide)) (by decide)) (by decide) (z_trr e88 (z_ix (c := 284) (d := 1046) (zr_add (lo := 284) (hi := 1046) h82 (zr_c (lo := 1) (hi := 1) (by decide)) (by decide)) (by decide)) (by decide) (z_trr e86 (z_ix (c := 283) (d := 1045) h82 (by decide)) (by decide) (z_tr e79 rfl h78)))) (zr_c (lo := 1) (hi := 1) (by decide)) (by decide))) (by decide))
        exact zr_no (zc_nel (1) (0) q81 (zr_c (lo := 0) (hi := 0) (by decide)) (zr_c (lo := 0) (hi := 0) (by decide)) (by decide)) (by decide)
      exact zr_no (zc_nel (1) (0) q72 (zr_c (lo := 0) (hi := 0) (by decide)) (zr_c (lo := 0) (hi := 0) (by decide)) (by decide)) (by decide)
    refine zok_if (fun q93 => ?_) (fun q93 => ?_)
    · unfold fX12_plan_71
      unfold fX12_plan_76
      refine zok_fails1 (hσ.wi 0 0 (by decide) zr_any (by decide +kernel)) (fun σ8 e94 i95 => ?_)
      refine zok_if (fun q96 => ?_) (fun q96 => ?_)
      · exact zr_no (zc_eql (1) (0) q96 (zr_c (lo := 1) (hi := 1) (by decide)) (zr_c (lo := 0) (hi := 0) (by decide)) (by decide)) (by decide)
      unfold fX12_plan_110
      exact zok_sai i95 (zr_w (zr_c (lo := 0) (hi := 0) (by decide)) (by decide))
    exact zr_no (zc_nel (1) (0) q93 (zr_c (lo := 0) (hi := 0) (by decide)) (zr_c (lo := 0) (hi := 0) (by decide)) (by decide)) (by decide)
  refine zok_if (fun q97 => ?_) (fun q97 => ?_)
  · unfold fX12_plan_71
    unfold fX12_plan_76
    refine zok_fails1 (hσ.wi 0 0 (by decide) zr_any (by decide +kernel)) (fun σ8 e98 i99 => ?_)
    refine zok_if (fun q100 => ?_) (fun q100 => ?_)
    · exact zr_no (zc_eql (1) (0) q100 (zr_c (lo := 1) (hi := 1) (by decide)) (zr_c (lo := 0) (hi := 0) (by decide)) (by decide)) (by decide)
    unfold fX12_plan_110
    exact zok_sai i99 (zr_w (zr_c (lo := 0) (hi := 0) (by decide)) (by decide))
  exact zr_no (zc_nel (1) (0) q97 (zr_c (lo := 0) (hi := 0) (by decide)) (zr_c (lo := 0) (hi := 0) (by decide)) (by decide)) (by decide)
theorem s_say_h {G : Nat → Int} {n1 : Nat} (hn : n1 < zNK) : ∀ (n : Nat) {σ : zSt} (hσ : zEM [9] G σ) {x2 : Int32} (h0 : 0 ≤ x2.toInt) (hL : x2.toInt ≤ ((zkL n1 : Nat) : Int)) (hs : (zgi σ 0 39).toInt + (((zkL n1 : Nat) : Int) - x2.toInt) ≤ 40) (hm : ((zkL n1 : Nat) : Int) - x2.toInt < n), zok (fX12_say_2 n σ n1 x2) (zMtu (zEM [9] G) ((zgi σ 0 39).toInt + (((zkL n1 : Nat) : Int) - x2.toInt))) := by
  intro n
  induction n with
  | zero => intro σ hσ x2 h0 hL hs hm; exfalso; omega
  | succ n ih =>
    intro σ hσ x2 h0 hL hs hm
    show zok (fX12_say_2_body (fX12_say_2 n) σ n1 x2) _
    unfold fX12_say_2_body
    have kl := z_kL n1
    have eN : (zkN n1).toInt = zkL n1 := Int32.toInt_ofNat_of_lt (by omega)
    refine zok_ck (decide_eq_true hn) ?_
    refine zok_if (fun q => zok_smu hσ (by omega)) (fun q => ?_)
    have q1 := Int32.lt_iff_toInt_lt.mp (z_nle q)
    refine zok_ck (decide_eq_true hn) ?_
    refine zok_ck (zin_ok (lo := x2.toInt) (hi := x2.toInt) ⟨Int.le_refl _, Int.le_refl _⟩ ⟨h0, by omega⟩) ?_
    have hsg := rM_8 hσ.sg 39 (by decide)
    have hs1 := hsg.1
    have hs9 : zr 0 39 (zgi σ 0 39) := ⟨hs1, by omega⟩
    refine zok_ck (zin_ok hs9 (by decide)) ?_
    refine zok_bs (hσ.wk (by decide +kernel)) (fun σ1 e1 i1 => ?_)
    have k1 := z_k39 e1 (fun h => absurd h.1 (by decide))
    have hsA : zr 0 39 (zgi σ1 0 39) := ⟨by omega, by omega⟩
    have c1 : (1 : Int32).toInt = 1 := rfl
    have t1 := z_tadd hsA (zr_c (lo := 1) (hi := 1) (x := 1) (by decide)) (by decide)
    refine zok_bs (i1.wi 39 39 (by decide) (zr_add (lo := 1) (hi := 40) hsA (zr_c (lo := 1) (hi := 1) (x := 1) (by decide)) (by decide)) (by decide +kernel)) (fun σ2 e2 i2 => ?_)
    have k2 : (zgi σ2 0 39).toInt = (zgi σ 0 39).toInt + 1 := by
      rw [e2]; unfold zgi; rw [zsi_ej]
      show (zgi σ1 0 39 + 1).toInt = _
      unfold zgi at t1 k1 ⊢
      omega
    have t2 : (x2 + 1).toInt = x2.toInt + 1 := by rw [Int32.toInt_add, c1]; exact z_bm (by omega) (by omega)
    refine zok_bv (fun v3 e3 => ?_)
    subst e3
    exact zok_wmu (ih i2 (by omega) (by omega) (by omega) (by omega)) (by omega)
theorem s_X12_say {G : Nat → Int} {σ : zSt} (hσ : zEM [9] G σ) {n1 : Nat} (h_n1 : n1 ∈ ([71, 72, 73, 74, 75, 76, 77, 78, 79, 80, 81, 82, 83, 84, 85, 86, 87, 88, 89, 90, 91, 92, 93, 94, 95, 96, 97, 98, 99, 100, 101, 102, 103, 104, 105, 106, 107, 108, 109, 110, 111, 112, 113, 114, 115, 116, 117, 118, 119, 120, 121, 122, 123, 124, 125, 126, 127, 128, 129, 130, 131, 132, 133, 134, 135, 136, 137, 138, 139, 140, 141, 142, 143, 144, 145, 146, 147, 148, 149, 150, 151, 152, 153, 154, 155, 156, 157, 158, 159, 160, 161, 162, 163, 164, 165, 166, 167, 168, 169, 170, 171, 172, 173, 174, 175, 176, 177, 178] : List Nat)) {d : Nat} (hd : ((zkL n1 : Nat) : Int) ≤ (d : Int)) (hs : (zgi σ 0 39).toInt + (d : Int) ≤ 40) : zok (fX12_say σ n1) (zMtu (zEM [9] G) ((zgi σ 0 39).toInt + (d : Int))) := by
  unfold fX12_say
  have kl : ((zkL n1 : Nat) : Int) < (zfuel : Nat) := by
    have := rM_8 hσ.sg 39 (by decide)
    have := this.1
    unfold zfuel; omega
  have c0 : (0 : Int32).toInt = 0 := rfl
  exact zok_wmu (s_say_h (z_memlt h_n1 (by decide)) zfuel hσ (by decide) (by omega) (by omega) (by omega)) (by omega)
theorem s_hex_h {G : Nat → Int} {x1 : Int32} : ∀ (n : Nat) {σ : zSt} (hσ : zEM [9] G σ) {x3 : Int32} (h3 : zr (-1) 3 x3) (hs : (zgi σ 0 39).toInt + (x3.toInt + 1) ≤ 40) (hm : x3.toInt + 1 < n), zok (fX12_hex_4 n σ x1 x3) (zMtu (zEM [9] G) ((zgi σ 0 39).toInt + (x3.toInt + 1))) := by
  intro n
  induction n with
  | zero => intro σ hσ x3 h3 hs hm; have := h3.1; exfalso; omega
  | succ n ih =>
    intro σ hσ x3 h3 hs hm
    show zok (fX12_hex_4_body (fX12_hex_4 n) σ x1 x3) _
    unfold fX12_hex_4_body
    have b1 := h3.1
    have c0 : (0 : Int32).toInt = 0 := rfl
    refine zok_if (fun q => zok_smu hσ (by omega)) (fun q => ?_)
    have q1 := Int32.le_iff_toInt_le.mp (z_nlt q)
    have hsg := rM_8 hσ.sg 39 (by decide)
    have hs1 := hsg.1
    have hs9 : zr 0 39 (zgi σ 0 39) := ⟨hs1, by omega⟩
    have k : ∀ s0 : Int32, zok (fX12_hex_49 (fX12_hex_4 n) σ x1 x3 s0 (zgi σ 0 39)) (zMtu (zEM [9] G) ((zgi σ 0 39).toInt + (x3.toInt + 1))) := fun s0 => by
      unfold fX12_hex_49
      refine zok_ck (zin_ok hs9 (by decide)) ?_
      refine zok_bs (hσ.wk (by decide +kernel)) (fun σ1 e1 i1 => ?_)
      have k1 := z_k39 e1 (fun h => absurd h.1 (by decide))
      have hsA : zr 0 39 (zgi σ1 0 39) := ⟨by omega, by omega⟩
      have c1 : (1 : Int32).toInt = 1 := rfl
      have t1 := z_tadd hsA (zr_c (lo := 1) (hi := 1) (x := 1) (by decide)) (by decide)
      refine zok_bs (i1.wi 39 39 (by decide) (zr_add (lo := 1) (hi := 40) hsA (zr_c (lo := 1) (hi := 1) (x := 1) (by decide)) (by decide)) (by decide +kernel)) (fun σ2 e2 i2 => ?_)
      have k2 : (zgi σ2 0 39).toInt = (zgi σ 0 39).toInt + 1 := by
        rw [e2]; unfold zgi; rw [zsi_ej]
        show (zgi σ1 0 39 + 1).toInt = _
        unfold zgi at t1 k1 ⊢
        omega
      have t2 := z_tadd h3 (zr_c (lo := -1) (hi := -1) (x := -1) (by decide)) (by decide)
      have cm : (-1 : Int32).toInt = -1 := rfl
      have b2 := h3.2
      refine zok_bv (fun v3 e3 => ?_)
      subst e3
      exact zok_wmu (ih i2 ⟨by omega, by omega⟩ (by omega) (by omega)) (by omega)
    refine zok_bv (fun v4 _ => zok_if (fun _ => k _) (fun _ => k _))
theorem s_X12_hex {G : Nat → Int} {σ : zSt} (hσ : zEM [9] G σ) {x1 : Int32} {x2 : Int32} (h_x2 : zr (1) (4) x2) {d : Nat} (hd : x2.toInt ≤ (d : Int)) (hs : (zgi σ 0 39).toInt + (d : Int) ≤ 40) : zok (fX12_hex σ x1 x2) (zMtu (zEM [9] G) ((zgi σ 0 39).toInt + (d : Int))) := by
  unfold fX12_hex
  have t := z_tsub h_x2 (zr_c (lo := 1) (hi := 1) (x := 1) (by decide)) (by decide)
  have c1 : (1 : Int32).toInt = 1 := rfl
  have b1 := h_x2.1
  have b2 := h_x2.2
  refine zok_bv (fun v5 e5 => ?_)
  subst e5
  exact zok_wmu (s_hex_h zfuel hσ ⟨by omega, by omega⟩ (by omega) (by unfold zfuel; omega)) (by omega)
theorem s_X12_taken {G : Nat → Int} {σ : zSt} (hσ : zEM [9] G σ) (hs : (zgi σ 0 39).toInt + 0 ≤ 40) : zok (fX12_taken σ ) (zMti (zEM [9] G) ((zgi σ 0 39).toInt + 0) (fun v : Int32 => zr (0) (255) v)) := by
  unfold fX12_taken
  refine zok_pi (s_X12_read hσ.P) (fun v2 h1 => ?_)
  refine zok_bs (hσ.wi 40 40 (by decide) zr_any (by decide +kernel)) (fun σ3 e3 i2 => ?_)
  have m4 := z_k39 e3 (by decide)
  exact zok_smi i2 (by omega) h1
theorem s_X12_takenWord {G : Nat → Int} {σ : zSt} (hσ : zEM [9] G σ) (hs : (zgi σ 0 39).toInt + 0 ≤ 40) : zok (fX12_takenWord σ ) (zMti (zEM [9] G) ((zgi σ 0 39).toInt + 0) (fun v : Int32 => zr (0) (65535) v)) := by
  unfold fX12_takenWord
  refine zok_mi (s_X12_taken hσ (by omega)) (fun σ1 v2 i1 m2 h3 => ?_)
  refine zok_mi (s_X12_taken i1 (by omega)) (fun σ3 v4 i4 m5 h6 => ?_)
  exact zok_smi i4 (by omega) (zr_or (lo := 0) (hi := 65535) 16 h3 (zr_shl (lo := 0) (hi := 65280) 8 (by decide) h6 (by decide)) (by decide))
theorem s_X12_sayHl_31 {G : Nat → Int} {σ : zSt} (hσ : zEM [9] G σ) {s0 : Nat} (h_s0 : s0 ∈ ([90, 91, 92] : List Nat)) (hs : (zgi σ 0 39).toInt + 2 ≤ 40) : zok (fX12_sayHl_31 σ s0) (zMtu (zEM [9] G) ((zgi σ 0 39).toInt + 2)) := by
  unfold fX12_sayHl_31
  refine zok_mu (s_X12_say hσ (z_memsub h_s0 (by decide)) (d := 2) (z_kd h_s0 (by decide +kernel)) (by omega)) (fun σ1 i1 m2 => ?_)
  exact zok_smu i1 (by omega)
theorem s_X12_sayHl {G : Nat → Int} {σ : zSt} (hσ : zEM [9] G σ) (hs : (zgi σ 0 39).toInt + 2 ≤ 40) : zok (fX12_sayHl σ ) (zMtu (zEM [9] G) ((zgi σ 0 39).toInt + 2)) := by
  unfold fX12_sayHl
  refine zok_if (fun q1 => ?_) (fun q1 => ?_)
  · have h2 := zc_eql (0) (0) q1 zr_any (zr_c (lo := 0) (hi := 0) (by decide)) (by decide)
    exact zok_wmu (s_X12_sayHl_31 hσ (by decide) (by omega)) (by omega)
  refine zok_if (fun q3 => ?_) (fun q3 => ?_)
  · have h4 := zc_eql (1) (1) q3 zr_any (zr_c (lo := 1) (hi := 1) (by decide)) (by decide)
    exact zok_wmu (s_X12_sayHl_31 hσ (by decide) (by omega)) (by omega)
  exact zok_wmu (s_X12_sayHl_31 hσ (by decide) (by omega)) (by omega)
theorem s_X12_sayPlace_76 {G : Nat → Int} {σ : zSt} (hσ : zEM [9] G σ) {s0 : Int32} (hs : (zgi σ 0 39).toInt + 3 ≤ 40) : zok (fX12_sayPlace_76 σ s0) (zMtu (zEM [9] G) ((zgi σ 0 39).toInt + 3)) := by
  unfold fX12_sayPlace_76
  refine zok_mu (s_X12_hex hσ (zr_w (zr_c (lo := 2) (hi := 2) (by decide)) (by decide)) (d := 2) (by decide) (by omega)) (fun σ1 i1 m2 => ?_)
  refine zok_mu (s_X12_say i1 (by decide) (d := 1) (by decide +kernel) (by omega)) (fun σ2 i4 m5 => ?_)
  exact zok_smu i4 (by omega)
theorem s_X12_sayPlace_53 {G : Nat → Int} {σ : zSt} (hσ : zEM [9] G σ) {s0 : Nat} (h_s0 : s0 ∈ ([87, 88] : List Nat)) (hs : (zgi σ 0 39).toInt + 4 ≤ 40) : zok (fX12_sayPlace_53 σ s0) (zMtu (zEM [9] G) ((zgi σ 0 39).toInt + 4)) := by
  unfold fX12_sayPlace_53
  refine zok_mu (s_X12_say hσ (z_memsub h_s0 (by decide)) (d := 1) (z_kd h_s0 (by decide +kernel)) (by omega)) (fun σ3 i1 m2 => ?_)
  refine zok_if (fun q4 => ?_) (fun q4 => ?_)
  · have h5 := zc_ler (0) q4 (zr_c (lo := 0) (hi := 0) (by decide)) zr_any (by decide)
    exact zok_wmu (s_X12_sayPlace_76 i1 (by omega)) (by omega)
  have h6 := zc_ltl (-1) (z_nle q4) zr_any (zr_c (lo := 0) (hi := 0) (by decide)) (by decide)
  exact zok_wmu (s_X12_sayPlace_76 i1 (by omega)) (by omega)
theorem s_X12_sayPlace_33 {G : Nat → Int} {σ : zSt} (hσ : zEM [9] G σ) {s0 : Nat} (h_s0 : s0 ∈ ([85, 86] : List Nat)) (hs : (zgi σ 0 39).toInt + 7 ≤ 40) : zok (fX12_sayPlace_33 σ s0) (zMtu (zEM [9] G) ((zgi σ 0 39).toInt + 7)) := by
  unfold fX12_sayPlace_33
  refine zok_mu (s_X12_say hσ (z_memsub h_s0 (by decide)) (d := 3) (z_kd h_s0 (by decide +kernel)) (by omega)) (fun σ4 i1 m2 => ?_)
  refine zok_if (fun q4 => ?_) (fun q4 => ?_)
  · have h5 := zc_ler (0) q4 (zr_c (lo := 0) (hi := 0) (by decide)) zr_any (by decide)
    exact zok_wmu (s_X12_sayPlace_53 i1 (by decide) (by omega)) (by omega)
  have h6 := zc_ltl (-1) (z_nle q4) zr_any (zr_c (lo := 0) (hi := 0) (by decide)) (by decide)
  exact zok_wmu (s_X12_sayPlace_53 i1 (by decide) (by omega)) (by omega)
theorem s_X12_sayPlace {G : Nat → Int} {σ : zSt} (hσ : zEM [9] G σ) (hs : (zgi σ 0 39).toInt + 7 ≤ 40) : zok (fX12_sayPlace σ ) (zMtu (zEM [9] G) ((zgi σ 0 39).toInt + 7)) := by
  unfold fX12_sayPlace
  refine zok_if (fun q1 => ?_) (fun q1 => ?_)
  · have h2 := zc_eql (0) (0) q1 zr_any (zr_c (lo := 0) (hi := 0) (by decide)) (by decide)
    refine zok_mu (s_X12_say hσ (by decide) (d := 4) (by decide +kernel) (by omega)) (fun σ5 i3 m4 => ?_)
    exact zok_smu i3 (by omega)
  refine zok_if (fun q6 => ?_) (fun q6 => ?_)
  · have h7 := zc_eql (1) (1) q6 zr_any (zr_c (lo := 1) (hi := 1) (by decide)) (by decide)
    exact zok_wmu (s_X12_sayPlace_33 hσ (by decide) (by omega)) (by omega)
  exact zok_wmu (s_X12_sayPlace_33 hσ (by decide) (by omega)) (by omega)
theorem s_X12_sayR_108 {G : Nat → Int} {σ : zSt} (hσ : zEM [9] G σ) {s0 : Nat} (h_s0 : s0 ∈ ([93, 94, 95, 96, 97, 98, 99] : List Nat)) (hs : (zgi σ 0 39).toInt + 1 ≤ 40) : zok (fX12_sayR_108 σ s0) (zMtu (zEM [9] G) ((zgi σ 0 39).toInt + 1)) := by
  unfold fX12_sayR_108
  refine zok_mu (s_X12_say hσ (z_memsub h_s0 (by decide)) (d := 1) (z_kd h_s0 (by decide +kernel)) (by omega)) (fun σ1 i1 m2 => ?_)
  exact zok_smu i1 (by omega)
theorem s_X12_sayR_39 {G : Nat → Int} {σ : zSt} (hσ : zEM [9] G σ) {x1 : Int32} (h_x1 : zr (0) (7) x1) (hs : (zgi σ 0 39).toInt + 1 ≤ 40) : zok (fX12_sayR_39 σ x1) (zMtu (zEM [9] G) ((zgi σ 0 39).toInt + 1)) := by
  unfold fX12_sayR_39
  refine zok_if (fun q1 => ?_) (fun q1 => ?_)
  · have h2 := zc_eql (0) (0) q1 h_x1 (zr_c (lo := 0) (hi := 0) (by decide)) (by decide)
    exact zok_wmu (s_X12_sayR_108 hσ (by decide) (by omega)) (by omega)
  have h3 := zc_nel (1) (7) q1 h_x1 (zr_c (lo := 0) (hi := 0) (by decide)) (by decide)
  refine zok_if (fun q4 => ?_) (fun q4 => ?_)
  · have h5 := zc_eql (1) (1) q4 h3 (zr_c (lo := 1) (hi := 1) (by decide)) (by decide)
    exact zok_wmu (s_X12_sayR_108 hσ (by decide) (by omega)) (by omega)
  have h6 := zc_nel (2) (7) q4 h3 (zr_c (lo := 1) (hi := 1) (by decide)) (by decide)
  refine zok_if (fun q7 => ?_) (fun q7 => ?_)
  · have h8 := zc_eql (2) (2) q7 h6 (zr_c (lo := 2) (hi := 2) (by decide)) (by decide)
    exact zok_wmu (s_X12_sayR_108 hσ (by decide) (by omega)) (by omega)
  have h9 := zc_nel (3) (7) q7 h6 (zr_c (lo := 2) (hi := 2) (by decide)) (by decide)
  refine zok_if (fun q10 => ?_) (fun q10 => ?_)
  · have h11 := zc_eql (3) (3) q10 h9 (zr_c (lo := 3) (hi := 3) (by decide)) (by decide)
    exact zok_wmu (s_X12_sayR_108 hσ (by decide) (by omega)) (by omega)
  have h12 := zc_nel (4) (7) q10 h9 (zr_c (lo := 3) (hi := 3) (by decide)) (by decide)
  refine zok_if (fun q13 => ?_) (fun q13 => ?_)
  · have h14 := zc_eql (4) (4) q13 h12 (zr_c (lo := 4) (hi := 4) (by decide)) (by decide)
    exact zok_wmu (s_X12_sayR_108 hσ (by decide) (by omega)) (by omega)
  have h15 := zc_nel (5) (7) q13 h12 (zr_c (lo := 4) (hi := 4) (by decide)) (by decide)
  refine zok_if (fun q16 => ?_) (fun q16 => ?_)
  · have h17 := zc_eql (5) (5) q16 h15 (zr_c (lo := 5) (hi := 5) (by decide)) (by decide)
    exact zok_wmu (s_X12_sayR_108 hσ (by decide) (by omega)) (by omega)
  have h18 := zc_nel (6) (7) q16 h15 (zr_c (lo := 5) (hi := 5) (by decide)) (by decide)
  exact zok_wmu (s_X12_sayR_108 hσ (by decide) (by omega)) (by omega)
theorem s_X12_sayR_35 {G : Nat → Int} {σ : zSt} (hσ : zEM [9] G σ) {x1 : Int32} (h_x1 : zr (4) (5) x1) (hs : (zgi σ 0 39).toInt + 3 ≤ 40) : zok (fX12_sayR_35 σ x1) (zMtu (zEM [9] G) ((zgi σ 0 39).toInt + 3)) := by
  unfold fX12_sayR_35
  refine zok_mu (s_X12_sayHl hσ (by omega)) (fun σ2 i1 m2 => ?_)
  exact zok_wmu (s_X12_sayR_39 i1 (zr_w h_x1 (by decide)) (by omega)) (by omega)
theorem s_X12_sayR {G : Nat → Int} {σ : zSt} (hσ : zEM [9] G σ) {x1 : Int32} (h_x1 : zr (0) (7) x1) (hs : (zgi σ 0 39).toInt + 7 ≤ 40) : zok (fX12_sayR σ x1) (zMtu (zEM [9] G) ((zgi σ 0 39).toInt + 7)) := by
  unfold fX12_sayR
  refine zok_if (fun q1 => ?_) (fun q1 => ?_)
  · have h2 := zc_eql (6) (6) q1 h_x1 (zr_c (lo := 6) (hi := 6) (by decide)) (by decide)
    refine zok_mu (s_X12_sayPlace hσ (by omega)) (fun σ3 i3 m4 => ?_)
    exact zok_smu i3 (by omega)
  refine zok_if (fun q6 => ?_) (fun q6 => ?_)
  · have h7 := zc_lel (0) q6 zr_any (zr_c (lo := 0) (hi := 0) (by decide)) (by decide)
    exact zok_wmu (s_X12_sayR_39 hσ h_x1 (by omega)) (by omega)
  have h8 := zc_ltr (1) (z_nle q6) (zr_c (lo := 0) (hi := 0) (by decide)) zr_any (by decide)
  refine zok_if (fun q9 => ?_) (fun q9 => ?_)
  · have h10 := zc_eql (0) (0) q9 zr_any (zr_c (lo := 0) (hi := 0) (by decide)) (by decide)
    refine zok_if (fun q11 => ?_) (fun q11 => ?_)
    · have h12 := zc_eql (4) (4) q11 h_x1 (zr_c (lo := 4) (hi := 4) (by decide)) (by decide)
      exact zok_wmu (s_X12_sayR_35 hσ (zr_w h12 (by decide)) (by omega)) (by omega)
    refine zok_if (fun q13 => ?_) (fun q13 => ?_)
    · have h14 := zc_eql (5) (5) q13 h_x1 (zr_c (lo := 5) (hi := 5) (by decide)) (by decide)
      exact zok_wmu (s_X12_sayR_35 hσ (zr_w h14 (by decide)) (by omega)) (by omega)
    exact zok_wmu (s_X12_sayR_39 hσ h_x1 (by omega)) (by omega)
  exact zok_wmu (s_X12_sayR_39 hσ h_x1 (by omega)) (by omega)
theorem s_X12_sayRp_50 {σ : zSt} (hσ : zPM σ) : zok (fX12_sayRp_50 σ ) (zPu σ) := by
  unfold fX12_sayRp_50
  exact zok_spu
theorem s_X12_sayRp_47 {G : Nat → Int} {σ : zSt} (hσ : zEM [9] G σ) {s0 : Nat} (h_s0 : s0 ∈ ([112, 113, 114, 115] : List Nat)) (hs : (zgi σ 0 39).toInt + 2 ≤ 40) : zok (fX12_sayRp_47 σ s0) (zMtu (zEM [9] G) ((zgi σ 0 39).toInt + 2)) := by
  unfold fX12_sayRp_47
  refine zok_mu (s_X12_say hσ (z_memsub h_s0 (by decide)) (d := 2) (z_kd h_s0 (by decide +kernel)) (by omega)) (fun σ1 i1 m2 => ?_)
  exact zok_pmu i1 (by omega) (s_X12_sayRp_50 i1.P)
theorem s_X12_sayRp {G : Nat → Int} {σ : zSt} (hσ : zEM [9] G σ) {x1 : Int32} (h_x1 : zr (0) (3) x1) {x2 : Int32} (h_x2 : zr (0) (1) x2) (hs : (zgi σ 0 39).toInt + 2 ≤ 40) : zok (fX12_sayRp σ x1 x2) (zMtu (zEM [9] G) ((zgi σ 0 39).toInt + 2)) := by
  unfold fX12_sayRp
  refine zok_if (fun q1 => ?_) (fun q1 => ?_)
  · have h2 := zc_eql (2) (2) q1 h_x1 (zr_c (lo := 2) (hi := 2) (by decide)) (by decide)
    refine zok_mu (s_X12_sayHl hσ (by omega)) (fun σ2 i3 m4 => ?_)
    exact zok_pmu i3 (by omega) (s_X12_sayRp_50 i3.P)
  refine zok_if (fun q6 => ?_) (fun q6 => ?_)
  · have h7 := zc_eql (0) (0) q6 h_x1 (zr_c (lo := 0) (hi := 0) (by decide)) (by decide)
    exact zok_wmu (s_X12_sayRp_47 hσ (by decide) (by omega)) (by omega)
  have h8 := zc_nel (1) (3) q6 h_x1 (zr_c (lo := 0) (hi := 0) (by decide)) (by decide)
  refine zok_if (fun q9 => ?_) (fun q9 => ?_)
  · have h10 := zc_eql (1) (1) q9 h8 (zr_c (lo := 1) (hi := 1) (by decide)) (by decide)
    exact zok_wmu (s_X12_sayRp_47 hσ (by decide) (by omega)) (by omega)
  have h11 := zc_nel (2) (3) q9 h8 (zr_c (lo := 1) (hi := 1) (by decide)) (by decide)
  refine zok_if (fun q12 => ?_) (fun q12 => ?_)
  · have h13 := zc_eql (0) (0) q12 h_x2 (zr_c (lo := 0) (hi := 0) (by decide)) (by decide)
    exact zok_wmu (s_X12_sayRp_47 hσ (by decide) (by omega)) (by omega)
  have h14 := zc_nel (1) (1) q12 h_x2 (zr_c (lo := 0) (hi := 0) (by decide)) (by decide)
  exact zok_wmu (s_X12_sayRp_47 hσ (by decide) (by omega)) (by omega)
theorem s_X12_sayCc_81 {G : Nat → Int} {σ : zSt} (hσ : zEM [9] G σ) {s0 : Nat} (h_s0 : s0 ∈ ([94, 103, 104, 105, 106, 107, 108, 109] : List Nat)) (hs : (zgi σ 0 39).toInt + 2 ≤ 40) : zok (fX12_sayCc_81 σ s0) (zMtu (zEM [9] G) ((zgi σ 0 39).toInt + 2)) := by
  unfold fX12_sayCc_81
  refine zok_mu (s_X12_say hσ (z_memsub h_s0 (by decide)) (d := 2) (z_kd h_s0 (by decide +kernel)) (by omega)) (fun σ1 i1 m2 => ?_)
  exact zok_smu i1 (by omega)
theorem s_X12_sayCc {G : Nat → Int} {σ : zSt} (hσ : zEM [9] G σ) {x1 : Int32} (h_x1 : zr (0) (7) x1) (hs : (zgi σ 0 39).toInt + 2 ≤ 40) : zok (fX12_sayCc σ x1) (zMtu (zEM [9] G) ((zgi σ 0 39).toInt + 2)) := by
  unfold fX12_sayCc
  refine zok_if (fun q1 => ?_) (fun q1 => ?_)
  · have h2 := zc_eql (0) (0) q1 h_x1 (zr_c (lo := 0) (hi := 0) (by decide)) (by decide)
    exact zok_wmu (s_X12_sayCc_81 hσ (by decide) (by omega)) (by omega)
  have h3 := zc_nel (1) (7) q1 h_x1 (zr_c (lo := 0) (hi := 0) (by decide)) (by decide)
  refine zok_if (fun q4 => ?_) (fun q4 => ?_)
  · have h5 := zc_eql (1) (1) q4 h3 (zr_c (lo := 1) (hi := 1) (by decide)) (by decide)
    exact zok_wmu (s_X12_sayCc_81 hσ (by decide) (by omega)) (by omega)
  have h6 := zc_nel (2) (7) q4 h3 (zr_c (lo := 1) (hi := 1) (by decide)) (by decide)
  refine zok_if (fun q7 => ?_) (fun q7 => ?_)
  · have h8 := zc_eql (2) (2) q7 h6 (zr_c (lo := 2) (hi := 2) (by decide)) (by decide)
    exact zok_wmu (s_X12_sayCc_81 hσ (by decide) (by omega)) (by omega)
  have h9 := zc_nel (3) (7) q7 h6 (zr_c (lo := 2) (hi := 2) (by decide)) (by decide)
  refine zok_if (fun q10 => ?_) (fun q10 => ?_)
  · have h11 := zc_eql (3) (3) q10 h9 (zr_c (lo := 3) (hi := 3) (by decide)) (by decide)
    exact zok_wmu (s_X12_sayCc_81 hσ (by decide) (by omega)) (by omega)
  have h12 := zc_nel (4) (7) q10 h9 (zr_c (lo := 3) (hi := 3) (by decide)) (by decide)
  refine zok_if (fun q13 => ?_) (fun q13 => ?_)
  · have h14 := zc_eql (4) (4) q13 h12 (zr_c (lo := 4) (hi := 4) (by decide)) (by decide)
    exact zok_wmu (s_X12_sayCc_81 hσ (by decide) (by omega)) (by omega)
  have h15 := zc_nel (5) (7) q13 h12 (zr_c (lo := 4) (hi := 4) (by decide)) (by decide)
  refine zok_if (fun q16 => ?_) (fun q16 => ?_)
  · have h17 := zc_eql (5) (5) q16 h15 (zr_c (lo := 5) (hi := 5) (by decide)) (by decide)
    exact zok_wmu (s_X12_sayCc_81 hσ (by decide) (by omega)) (by omega)
  have h18 := zc_nel (6) (7) q16 h15 (zr_c (lo := 5) (hi := 5) (by decide)) (by decide)
  refine zok_if (fun q19 => ?_) (fun q19 => ?_)
  · have h20 := zc_eql (6) (6) q19 h18 (zr_c (lo := 6) (hi := 6) (by decide)) (by decide)
    exact zok_wmu (s_X12_sayCc_81 hσ (by decide) (by omega)) (by omega)
  have h21 := zc_nel (7) (7) q19 h18 (zr_c (lo := 6) (hi := 6) (by decide)) (by decide)
  exact zok_wmu (s_X12_sayCc_81 hσ (by decide) (by omega)) (by omega)
theorem s_X12_sayPlaced {G : Nat → Int} {σ : zSt} (hσ : zEM [9] G σ) {x1 : Int32} (h_x1 : zr (0) (65535) x1) (hs : (zgi σ 0 39).toInt + 6 ≤ 40) : zok (fX12_sayPlaced σ x1) (zMtu (zEM [9] G) ((zgi σ 0 39).toInt + 6)) := by
  unfold fX12_sayPlaced
  refine zok_mu (s_X12_say hσ (by decide) (d := 1) (by decide +kernel) (by omega)) (fun σ1 i1 m2 => ?_)
  refine zok_mu (s_X12_hex i1 (zr_w (zr_c (lo := 4) (hi := 4) (by decide)) (by decide)) (d := 4) (by decide) (by omega)) (fun σ2 i4 m5 => ?_)
  refine zok_mu (s_X12_say i4 (by decide) (d := 1) (by decide +kernel) (by omega)) (fun σ3 i7 m8 => ?_)
  exact zok_smu i7 (by omega)
theorem s_X12_sayJump {G : Nat → Int} {σ : zSt} (hσ : zEM [9] G σ) (hs : (zgi σ 0 39).toInt + 4 ≤ 40) : zok (fX12_sayJump σ ) (zMtu (zEM [9] G) ((zgi σ 0 39).toInt + 4)) := by
  unfold fX12_sayJump
  refine zok_mi (s_X12_taken hσ (by omega)) (fun σ1 v2 i1 m2 h3 => ?_)
  refine zok_pi (s_X12_signed i1.P h3) (fun v4 h4 => ?_)
  refine zok_mu (s_X12_hex i1 (zr_w (zr_c (lo := 4) (hi := 4) (by decide)) (by decide)) (d := 4) (by decide) (by omega)) (fun σ5 i5 m6 => ?_)
  exact zok_smu i5 (by omega)
theorem s_X12_sayDo_81 {G : Nat → Int} {σ : zSt} (hσ : zEM [9] G σ) {s0 : Nat} (h_s0 : s0 ∈ ([110, 130, 131, 132, 133, 134, 135, 136] : List Nat)) (hs : (zgi σ 0 39).toInt + 4 ≤ 40) : zok (fX12_sayDo_81 σ s0) (zMtu (zEM [9] G) ((zgi σ 0 39).toInt + 4)) := by
  unfold fX12_sayDo_81
  refine zok_mu (s_X12_say hσ (z_memsub h_s0 (by decide)) (d := 4) (z_kd h_s0 (by decide +kernel)) (by omega)) (fun σ1 i1 m2 => ?_)
  exact zok_smu i1 (by omega)
end ZJN5
section ZJN6
theorem s_X12_sayDo {G : Nat → Int} {σ : zSt} (hσ : zEM [9] G σ) {x1 : Int32} (h_x1 : zr (0) (7) x1) (hs : (zgi σ 0 39).toInt + 4 ≤ 40) : zok (fX12_sayDo σ x1) (zMtu (zEM [9] G) ((zgi σ 0 39).toInt + 4)) := by
  unfold fX12_sayDo
  refine zok_if (fun q1 => ?_) (fun q1 => ?_)
  · have h2 := zc_eql (0) (0) q1 h_x1 (zr_c (lo := 0) (hi := 0) (by decide)) (by decide)
    exact zok_wmu (s_X12_sayDo_81 hσ (by decide) (by omega)) (by omega)
  have h3 := zc_nel (1) (7) q1 h_x1 (zr_c (lo := 0) (hi := 0) (by decide)) (by decide)
  refine zok_if (fun q4 => ?_) (fun q4 => ?_)
  · have h5 := zc_eql (1) (1) q4 h3 (zr_c (lo := 1) (hi := 1) (by decide)) (by decide)
    exact zok_wmu (s_X12_sayDo_81 hσ (by decide) (by omega)) (by omega)
  have h6 := zc_nel (2) (7) q4 h3 (zr_c (lo := 1) (hi := 1) (by decide)) (by decide)
  refine zok_if (fun q7 => ?_) (fun q7 => ?_)
  · have h8 := zc_eql (2) (2) q7 h6 (zr_c (lo := 2) (hi := 2) (by decide)) (by decide)
    exact zok_wmu (s_X12_sayDo_81 hσ (by decide) (by omega)) (by omega)
  have h9 := zc_nel (3) (7) q7 h6 (zr_c (lo := 2) (hi := 2) (by decide)) (by decide)
  refine zok_if (fun q10 => ?_) (fun q10 => ?_)
  · have h11 := zc_eql (3) (3) q10 h9 (zr_c (lo := 3) (hi := 3) (by decide)) (by decide)
    exact zok_wmu (s_X12_sayDo_81 hσ (by decide) (by omega)) (by omega)
  have h12 := zc_nel (4) (7) q10 h9 (zr_c (lo := 3) (hi := 3) (by decide)) (by decide)
  refine zok_if (fun q13 => ?_) (fun q13 => ?_)
  · have h14 := zc_eql (4) (4) q13 h12 (zr_c (lo := 4) (hi := 4) (by decide)) (by decide)
    exact zok_wmu (s_X12_sayDo_81 hσ (by decide) (by omega)) (by omega)
  have h15 := zc_nel (5) (7) q13 h12 (zr_c (lo := 4) (hi := 4) (by decide)) (by decide)
  refine zok_if (fun q16 => ?_) (fun q16 => ?_)
  · have h17 := zc_eql (5) (5) q16 h15 (zr_c (lo := 5) (hi := 5) (by decide)) (by decide)
    exact zok_wmu (s_X12_sayDo_81 hσ (by decide) (by omega)) (by omega)
  have h18 := zc_nel (6) (7) q16 h15 (zr_c (lo := 5) (hi := 5) (by decide)) (by decide)
  refine zok_if (fun q19 => ?_) (fun q19 => ?_)
  · have h20 := zc_eql (6) (6) q19 h18 (zr_c (lo := 6) (hi := 6) (by decide)) (by decide)
    exact zok_wmu (s_X12_sayDo_81 hσ (by decide) (by omega)) (by omega)
  have h21 := zc_nel (7) (7) q19 h18 (zr_c (lo := 6) (hi := 6) (by decide)) (by decide)
  exact zok_wmu (s_X12_sayDo_81 hσ (by decide) (by omega)) (by omega)
theorem s_X12_sayTurn_146 {G : Nat → Int} {σ : zSt} (hσ : zEM [9] G σ) {x1 : Int32} (h_x1 : zr (0) (255) x1) (hs : (zgi σ 0 39).toInt + 7 ≤ 40) : zok (fX12_sayTurn_146 σ x1) (zMtu (zEM [9] G) ((zgi σ 0 39).toInt + 7)) := by
  unfold fX12_sayTurn_146
  refine zok_mu (s_X12_sayR hσ (zr_andr (lo := 0) (hi := 7) (zr_c (lo := 7) (hi := 7) (by decide)) (by decide)) (by omega)) (fun σ1 i1 m2 => ?_)
  exact zok_smu i1 (by omega)
theorem s_X12_sayTurn_94 {G : Nat → Int} {σ : zSt} (hσ : zEM [9] G σ) {x1 : Int32} (h_x1 : zr (0) (63) x1) {s0 : Nat} (h_s0 : s0 ∈ ([72, 73, 74, 75, 76, 77, 78, 79] : List Nat)) (hs : (zgi σ 0 39).toInt + 11 ≤ 40) : zok (fX12_sayTurn_94 σ x1 s0) (zMtu (zEM [9] G) ((zgi σ 0 39).toInt + 11)) := by
  unfold fX12_sayTurn_94
  refine zok_mu (s_X12_say hσ (z_memsub h_s0 (by decide)) (d := 4) (z_kd h_s0 (by decide +kernel)) (by omega)) (fun σ2 i1 m2 => ?_)
  exact zok_wmu (s_X12_sayTurn_146 i1 (zr_w h_x1 (by decide)) (by omega)) (by omega)
theorem s_X12_sayTurn_130 {G : Nat → Int} {σ : zSt} (hσ : zEM [9] G σ) {x1 : Int32} (h_x1 : zr (64) (255) x1) {x2 : Int32} (h_x2 : zr (0) (7) x2) {s0 : Nat} (h_s0 : s0 ∈ ([80, 81, 82] : List Nat)) (hs : (zgi σ 0 39).toInt + 13 ≤ 40) : zok (fX12_sayTurn_130 σ x1 x2 s0) (zMtu (zEM [9] G) ((zgi σ 0 39).toInt + 13)) := by
  unfold fX12_sayTurn_130
  refine zok_mu (s_X12_say hσ (z_memsub h_s0 (by decide)) (d := 4) (z_kd h_s0 (by decide +kernel)) (by omega)) (fun σ3 i1 m2 => ?_)
  refine zok_mu (s_X12_hex i1 (zr_w (zr_c (lo := 1) (hi := 1) (by decide)) (by decide)) (d := 1) (by decide) (by omega)) (fun σ4 i4 m5 => ?_)
  refine zok_mu (s_X12_say i4 (by decide) (d := 1) (by decide +kernel) (by omega)) (fun σ5 i7 m8 => ?_)
  exact zok_wmu (s_X12_sayTurn_146 i7 (zr_w h_x1 (by decide)) (by omega)) (by omega)
theorem s_X12_sayTurn {G : Nat → Int} {σ : zSt} (hσ : zEM [9] G σ) {x1 : Int32} (h_x1 : zr (0) (255) x1) (hs : (zgi σ 0 39).toInt + 13 ≤ 40) : zok (fX12_sayTurn σ x1) (zMtu (zEM [9] G) ((zgi σ 0 39).toInt + 13)) := by
  unfold fX12_sayTurn
  refine zok_br (zr_andr (lo := 0) (hi := 7) (zr_c (lo := 7) (hi := 7) (by decide)) (by decide)) (fun v6 e2 h1 => ?_)
  refine zok_if (fun q3 => ?_) (fun q3 => ?_)
  · have h4 := zc_ler (64) q3 (zr_c (lo := 64) (hi := 64) (by decide)) h_x1 (by decide)
    refine zok_if (fun q5 => ?_) (fun q5 => ?_)
    · have h6 := zc_ler (128) q5 (zr_c (lo := 128) (hi := 128) (by decide)) h4 (by decide)
      refine zok_if (fun q7 => ?_) (fun q7 => ?_)
      · have h8 := zc_ler (192) q7 (zr_c (lo := 192) (hi := 192) (by decide)) h6 (by decide)
        exact zok_wmu (s_X12_sayTurn_130 hσ (zr_w h8 (by decide)) h1 (by decide) (by omega)) (by omega)
      have h9 := zc_ltl (191) (z_nle q7) h6 (zr_c (lo := 192) (hi := 192) (by decide)) (by decide)
      exact zok_wmu (s_X12_sayTurn_130 hσ (zr_w h9 (by decide)) h1 (by decide) (by omega)) (by omega)
    have h10 := zc_ltl (127) (z_nle q5) h4 (zr_c (lo := 128) (hi := 128) (by decide)) (by decide)
    exact zok_wmu (s_X12_sayTurn_130 hσ (zr_w h10 (by decide)) h1 (by decide) (by omega)) (by omega)
  have h11 := zc_ltl (63) (z_nle q3) h_x1 (zr_c (lo := 64) (hi := 64) (by decide)) (by decide)
  refine zok_if (fun q12 => ?_) (fun q12 => ?_)
  · have h13 := zc_eql (0) (0) q12 h1 (zr_c (lo := 0) (hi := 0) (by decide)) (by decide)
    exact zok_wmu (s_X12_sayTurn_94 hσ h11 (by decide) (by omega)) (by omega)
  have h14 := zc_nel (1) (7) q12 h1 (zr_c (lo := 0) (hi := 0) (by decide)) (by decide)
  refine zok_if (fun q15 => ?_) (fun q15 => ?_)
  · have h16 := zc_eql (1) (1) q15 h14 (zr_c (lo := 1) (hi := 1) (by decide)) (by decide)
    exact zok_wmu (s_X12_sayTurn_94 hσ h11 (by decide) (by omega)) (by omega)
  have h17 := zc_nel (2) (7) q15 h14 (zr_c (lo := 1) (hi := 1) (by decide)) (by decide)
  refine zok_if (fun q18 => ?_) (fun q18 => ?_)
  · have h19 := zc_eql (2) (2) q18 h17 (zr_c (lo := 2) (hi := 2) (by decide)) (by decide)
    exact zok_wmu (s_X12_sayTurn_94 hσ h11 (by decide) (by omega)) (by omega)
  have h20 := zc_nel (3) (7) q18 h17 (zr_c (lo := 2) (hi := 2) (by decide)) (by decide)
  refine zok_if (fun q21 => ?_) (fun q21 => ?_)
  · have h22 := zc_eql (3) (3) q21 h20 (zr_c (lo := 3) (hi := 3) (by decide)) (by decide)
    exact zok_wmu (s_X12_sayTurn_94 hσ h11 (by decide) (by omega)) (by omega)
  have h23 := zc_nel (4) (7) q21 h20 (zr_c (lo := 3) (hi := 3) (by decide)) (by decide)
  refine zok_if (fun q24 => ?_) (fun q24 => ?_)
  · have h25 := zc_eql (4) (4) q24 h23 (zr_c (lo := 4) (hi := 4) (by decide)) (by decide)
    exact zok_wmu (s_X12_sayTurn_94 hσ h11 (by decide) (by omega)) (by omega)
  have h26 := zc_nel (5) (7) q24 h23 (zr_c (lo := 4) (hi := 4) (by decide)) (by decide)
  refine zok_if (fun q27 => ?_) (fun q27 => ?_)
  · have h28 := zc_eql (5) (5) q27 h26 (zr_c (lo := 5) (hi := 5) (by decide)) (by decide)
    exact zok_wmu (s_X12_sayTurn_94 hσ h11 (by decide) (by omega)) (by omega)
  have h29 := zc_nel (6) (7) q27 h26 (zr_c (lo := 5) (hi := 5) (by decide)) (by decide)
  refine zok_if (fun q30 => ?_) (fun q30 => ?_)
  · have h31 := zc_eql (6) (6) q30 h29 (zr_c (lo := 6) (hi := 6) (by decide)) (by decide)
    exact zok_wmu (s_X12_sayTurn_94 hσ h11 (by decide) (by omega)) (by omega)
  have h32 := zc_nel (7) (7) q30 h29 (zr_c (lo := 6) (hi := 6) (by decide)) (by decide)
  exact zok_wmu (s_X12_sayTurn_94 hσ h11 (by decide) (by omega)) (by omega)
theorem s_X12_sayZero_301 {σ : zSt} (hσ : zPM σ) : zok (fX12_sayZero_301 σ ) (zPu σ) := by
  unfold fX12_sayZero_301
  exact zok_spu
theorem s_X12_sayZero_80 {G : Nat → Int} {σ : zSt} (hσ : zEM [9] G σ) {x1 : Int32} (h_x1 : zr (0) (7) x1) (hs : (zgi σ 0 39).toInt + 4 ≤ 40) : zok (fX12_sayZero_80 σ x1) (zMtu (zEM [9] G) ((zgi σ 0 39).toInt + 4)) := by
  unfold fX12_sayZero_80
  refine zok_if (fun q1 => ?_) (fun q1 => ?_)
  · have h2 := zc_lel (1) q1 h_x1 (zr_c (lo := 1) (hi := 1) (by decide)) (by decide)
    exact zok_pmu hσ (by omega) (s_X12_sayZero_301 hσ.P)
  have h3 := zc_ltr (2) (z_nle q1) (zr_c (lo := 1) (hi := 1) (by decide)) h_x1 (by decide)
  refine zok_mu (s_X12_sayJump hσ (by omega)) (fun σ1 i4 m5 => ?_)
  exact zok_pmu i4 (by omega) (s_X12_sayZero_301 i4.P)
theorem s_X12_sayZero_58 {G : Nat → Int} {σ : zSt} (hσ : zEM [9] G σ) {x1 : Int32} (h_x1 : zr (0) (7) x1) {s0 : Nat} (h_s0 : s0 ∈ ([71, 100, 101, 102] : List Nat)) (hs : (zgi σ 0 39).toInt + 16 ≤ 40) : zok (fX12_sayZero_58 σ x1 s0) (zMtu (zEM [9] G) ((zgi σ 0 39).toInt + 16)) := by
  unfold fX12_sayZero_58
  refine zok_mu (s_X12_say hσ (z_memsub h_s0 (by decide)) (d := 9) (z_kd h_s0 (by decide +kernel)) (by omega)) (fun σ2 i1 m2 => ?_)
  refine zok_if (fun q4 => ?_) (fun q4 => ?_)
  · have h5 := zc_lel (3) q4 h_x1 (zr_c (lo := 3) (hi := 3) (by decide)) (by decide)
    exact zok_wmu (s_X12_sayZero_80 i1 (zr_w h5 (by decide)) (by omega)) (by omega)
  have h6 := zc_ltr (4) (z_nle q4) (zr_c (lo := 3) (hi := 3) (by decide)) h_x1 (by decide)
  refine zok_mu (s_X12_sayCc i1 (zr_w (zr_sub (lo := 0) (hi := 3) h6 (zr_c (lo := 4) (hi := 4) (by decide)) (by decide)) (by decide)) (by omega)) (fun σ3 i7 m8 => ?_)
  refine zok_mu (s_X12_say i7 (by decide) (d := 1) (by decide +kernel) (by omega)) (fun σ4 i10 m11 => ?_)
  exact zok_wmu (s_X12_sayZero_80 i10 (zr_w h6 (by decide)) (by omega)) (by omega)
theorem s_X12_sayZero_133 {G : Nat → Int} {σ : zSt} (hσ : zEM [9] G σ) {x3 : Int32} (h_x3 : zr (0) (3) x3) {x4 : Int32} (h_x4 : zr (0) (1) x4) (hs : (zgi σ 0 39).toInt + 5 ≤ 40) : zok (fX12_sayZero_133 σ x3 x4) (zMtu (zEM [9] G) ((zgi σ 0 39).toInt + 5)) := by
  unfold fX12_sayZero_133
  refine zok_mu (s_X12_say hσ (by decide) (d := 1) (by decide +kernel) (by omega)) (fun σ5 i1 m2 => ?_)
  refine zok_if (fun q4 => ?_) (fun q4 => ?_)
  · have h5 := zc_eql (0) (0) q4 h_x4 (zr_c (lo := 0) (hi := 0) (by decide)) (by decide)
    refine zok_mi (s_X12_takenWord i1 (by omega)) (fun σ6 v7 i6 m7 h8 => ?_)
    refine zok_mu (s_X12_hex i6 (zr_w (zr_c (lo := 4) (hi := 4) (by decide)) (by decide)) (d := 4) (by decide) (by omega)) (fun σ8 i9 m10 => ?_)
    exact zok_pmu i9 (by omega) (s_X12_sayZero_301 i9.P)
  have h12 := zc_nel (1) (1) q4 h_x4 (zr_c (lo := 0) (hi := 0) (by decide)) (by decide)
  refine zok_mu (s_X12_sayRp i1 h_x3 (zr_w (zr_c (lo := 0) (hi := 0) (by decide)) (by decide)) (by omega)) (fun σ9 i13 m14 => ?_)
  exact zok_pmu i13 (by omega) (s_X12_sayZero_301 i13.P)
theorem s_X12_sayZero_112 {G : Nat → Int} {σ : zSt} (hσ : zEM [9] G σ) {x3 : Int32} (h_x3 : zr (0) (3) x3) {x4 : Int32} (h_x4 : zr (0) (1) x4) {s0 : Nat} (h_s0 : s0 ∈ ([110, 111] : List Nat)) (hs : (zgi σ 0 39).toInt + 11 ≤ 40) : zok (fX12_sayZero_112 σ x3 x4 s0) (zMtu (zEM [9] G) ((zgi σ 0 39).toInt + 11)) := by
  unfold fX12_sayZero_112
  refine zok_mu (s_X12_say hσ (z_memsub h_s0 (by decide)) (d := 4) (z_kd h_s0 (by decide +kernel)) (by omega)) (fun σ10 i1 m2 => ?_)
  refine zok_if (fun q4 => ?_) (fun q4 => ?_)
  · have h5 := zc_eql (0) (0) q4 h_x4 (zr_c (lo := 0) (hi := 0) (by decide)) (by decide)
    refine zok_mu (s_X12_sayRp i1 h_x3 (zr_w (zr_c (lo := 0) (hi := 0) (by decide)) (by decide)) (by omega)) (fun σ11 i6 m7 => ?_)
    exact zok_wmu (s_X12_sayZero_133 i6 h_x3 (zr_w h5 (by decide)) (by omega)) (by omega)
  have h9 := zc_nel (1) (1) q4 h_x4 (zr_c (lo := 0) (hi := 0) (by decide)) (by decide)
  refine zok_mu (s_X12_sayHl i1 (by omega)) (fun σ12 i10 m11 => ?_)
  exact zok_wmu (s_X12_sayZero_133 i10 h_x3 (zr_w h9 (by decide)) (by omega)) (by omega)
theorem s_X12_sayZero_186 {G : Nat → Int} {σ : zSt} (hσ : zEM [9] G σ) {x3 : Int32} (h_x3 : zr (0) (3) x3) {s0 : Nat} (h_s0 : s0 ∈ ([116, 117] : List Nat)) (hs : (zgi σ 0 39).toInt + 6 ≤ 40) : zok (fX12_sayZero_186 σ x3 s0) (zMtu (zEM [9] G) ((zgi σ 0 39).toInt + 6)) := by
  unfold fX12_sayZero_186
  refine zok_mu (s_X12_say hσ (z_memsub h_s0 (by decide)) (d := 4) (z_kd h_s0 (by decide +kernel)) (by omega)) (fun σ13 i1 m2 => ?_)
  refine zok_mu (s_X12_sayRp i1 h_x3 (zr_w (zr_c (lo := 0) (hi := 0) (by decide)) (by decide)) (by omega)) (fun σ14 i4 m5 => ?_)
  exact zok_pmu i4 (by omega) (s_X12_sayZero_301 i4.P)
theorem s_X12_sayZero_269 {G : Nat → Int} {σ : zSt} (hσ : zEM [9] G σ) {x3 : Int32} (h_x3 : zr (0) (3) x3) {x4 : Int32} (h_x4 : zr (0) (1) x4) (hs : (zgi σ 0 39).toInt + 3 ≤ 40) : zok (fX12_sayZero_269 σ x3 x4) (zMtu (zEM [9] G) ((zgi σ 0 39).toInt + 3)) := by
  unfold fX12_sayZero_269
  refine zok_if (fun q1 => ?_) (fun q1 => ?_)
  · have h2 := zc_eql (0) (0) q1 h_x4 (zr_c (lo := 0) (hi := 0) (by decide)) (by decide)
    refine zok_mu (s_X12_say hσ (by decide) (d := 1) (by decide +kernel) (by omega)) (fun σ15 i3 m4 => ?_)
    refine zok_if (fun q6 => ?_) (fun q6 => ?_)
    · have h7 := zc_eql (2) (2) q6 h_x3 (zr_c (lo := 2) (hi := 2) (by decide)) (by decide)
      refine zok_mu (s_X12_sayHl i3 (by omega)) (fun σ17 i8 m9 => ?_)
      exact zok_pmu i8 (by omega) (s_X12_sayZero_301 i8.P)
    refine zok_mu (s_X12_say i3 (by decide) (d := 1) (by decide +kernel) (by omega)) (fun σ16 i11 m12 => ?_)
    exact zok_pmu i11 (by omega) (s_X12_sayZero_301 i11.P)
  have h14 := zc_nel (1) (1) q1 h_x4 (zr_c (lo := 0) (hi := 0) (by decide)) (by decide)
  exact zok_smu hσ (by omega)
theorem s_X12_sayZero_255 {G : Nat → Int} {σ : zSt} (hσ : zEM [9] G σ) {x3 : Int32} (h_x3 : zr (0) (1) x3) {x4 : Int32} (h_x4 : zr (0) (1) x4) {s0 : Nat} (h_s0 : s0 ∈ ([118, 119] : List Nat)) (hs : (zgi σ 0 39).toInt + 7 ≤ 40) : zok (fX12_sayZero_255 σ x3 x4 s0) (zMtu (zEM [9] G) ((zgi σ 0 39).toInt + 7)) := by
  unfold fX12_sayZero_255
  refine zok_mu (s_X12_say hσ (z_memsub h_s0 (by decide)) (d := 4) (z_kd h_s0 (by decide +kernel)) (by omega)) (fun σ18 i1 m2 => ?_)
  exact zok_wmu (s_X12_sayZero_269 i1 (zr_w h_x3 (by decide)) h_x4 (by omega)) (by omega)
theorem s_X12_sayZero_236 {G : Nat → Int} {σ : zSt} (hσ : zEM [9] G σ) {x3 : Int32} (h_x3 : zr (0) (3) x3) {x4 : Int32} (h_x4 : zr (0) (1) x4) (hs : (zgi σ 0 39).toInt + 9 ≤ 40) : zok (fX12_sayZero_236 σ x3 x4) (zMtu (zEM [9] G) ((zgi σ 0 39).toInt + 9)) := by
  unfold fX12_sayZero_236
  refine zok_if (fun q1 => ?_) (fun q1 => ?_)
  · have h2 := zc_ler (2) q1 (zr_c (lo := 2) (hi := 2) (by decide)) h_x3 (by decide)
    refine zok_mi (s_X12_takenWord hσ (by omega)) (fun σ19 v20 i3 m4 h5 => ?_)
    refine zok_mu (s_X12_sayPlaced i3 h5 (by omega)) (fun σ21 i6 m7 => ?_)
    exact zok_wmu (s_X12_sayZero_269 i6 (zr_w h2 (by decide)) h_x4 (by omega)) (by omega)
  have h9 := zc_ltl (1) (z_nle q1) h_x3 (zr_c (lo := 2) (hi := 2) (by decide)) (by decide)
  refine zok_if (fun q10 => ?_) (fun q10 => ?_)
  · have h11 := zc_eql (0) (0) q10 h9 (zr_c (lo := 0) (hi := 0) (by decide)) (by decide)
    exact zok_wmu (s_X12_sayZero_255 hσ (zr_w h11 (by decide)) h_x4 (by decide) (by omega)) (by omega)
  have h12 := zc_nel (1) (1) q10 h9 (zr_c (lo := 0) (hi := 0) (by decide)) (by decide)
  exact zok_wmu (s_X12_sayZero_255 hσ (zr_w h12 (by decide)) h_x4 (by decide) (by omega)) (by omega)
theorem s_X12_sayZero_229 {G : Nat → Int} {σ : zSt} (hσ : zEM [9] G σ) {x3 : Int32} (h_x3 : zr (0) (3) x3) {x4 : Int32} (h_x4 : zr (1) (1) x4) (hs : (zgi σ 0 39).toInt + 10 ≤ 40) : zok (fX12_sayZero_229 σ x3 x4) (zMtu (zEM [9] G) ((zgi σ 0 39).toInt + 10)) := by
  unfold fX12_sayZero_229
  refine zok_mu (s_X12_say hσ (by decide) (d := 1) (by decide +kernel) (by omega)) (fun σ22 i1 m2 => ?_)
  exact zok_wmu (s_X12_sayZero_236 i1 h_x3 (zr_w h_x4 (by decide)) (by omega)) (by omega)
theorem s_X12_sayZero_16 {G : Nat → Int} {σ : zSt} (hσ : zEM [9] G σ) {x1 : Int32} (h_x1 : zr (0) (7) x1) {x2 : Int32} (h_x2 : zr (0) (3) x2) {x3 : Int32} (h_x3 : zr (0) (3) x3) {s0 : Int32} (h_s0 : zr (0) (1) s0) (hs : (zgi σ 0 39).toInt + 16 ≤ 40) : zok (fX12_sayZero_16 σ x1 x2 x3 s0) (zMtu (zEM [9] G) ((zgi σ 0 39).toInt + 16)) := by
  unfold fX12_sayZero_16
  refine zok_if (fun q1 => ?_) (fun q1 => ?_)
  · have h2 := zc_eql (0) (0) q1 h_x2 (zr_c (lo := 0) (hi := 0) (by decide)) (by decide)
    refine zok_if (fun q3 => ?_) (fun q3 => ?_)
    · have h4 := zc_eql (0) (0) q3 h_x1 (zr_c (lo := 0) (hi := 0) (by decide)) (by decide)
      exact zok_wmu (s_X12_sayZero_58 hσ (zr_w h4 (by decide)) (by decide) (by omega)) (by omega)
    have h5 := zc_nel (1) (7) q3 h_x1 (zr_c (lo := 0) (hi := 0) (by decide)) (by decide)
    refine zok_if (fun q6 => ?_) (fun q6 => ?_)
    · have h7 := zc_eql (1) (1) q6 h5 (zr_c (lo := 1) (hi := 1) (by decide)) (by decide)
      exact zok_wmu (s_X12_sayZero_58 hσ (zr_w h7 (by decide)) (by decide) (by omega)) (by omega)
    have h8 := zc_nel (2) (7) q6 h5 (zr_c (lo := 1) (hi := 1) (by decide)) (by decide)
    refine zok_if (fun q9 => ?_) (fun q9 => ?_)
    · have h10 := zc_eql (2) (2) q9 h8 (zr_c (lo := 2) (hi := 2) (by decide)) (by decide)
      exact zok_wmu (s_X12_sayZero_58 hσ (zr_w h10 (by decide)) (by decide) (by omega)) (by omega)
    have h11 := zc_nel (3) (7) q9 h8 (zr_c (lo := 2) (hi := 2) (by decide)) (by decide)
    exact zok_wmu (s_X12_sayZero_58 hσ (zr_w h11 (by decide)) (by decide) (by omega)) (by omega)
  have h12 := zc_nel (1) (3) q1 h_x2 (zr_c (lo := 0) (hi := 0) (by decide)) (by decide)
  refine zok_if (fun q13 => ?_) (fun q13 => ?_)
  · have h14 := zc_eql (1) (1) q13 h12 (zr_c (lo := 1) (hi := 1) (by decide)) (by decide)
    refine zok_if (fun q15 => ?_) (fun q15 => ?_)
    · have h16 := zc_eql (0) (0) q15 h_s0 (zr_c (lo := 0) (hi := 0) (by decide)) (by decide)
      exact zok_wmu (s_X12_sayZero_112 hσ h_x3 (zr_w h16 (by decide)) (by decide) (by omega)) (by omega)
    have h17 := zc_nel (1) (1) q15 h_s0 (zr_c (lo := 0) (hi := 0) (by decide)) (by decide)
    exact zok_wmu (s_X12_sayZero_112 hσ h_x3 (zr_w h17 (by decide)) (by decide) (by omega)) (by omega)
  have h18 := zc_nel (2) (3) q13 h12 (zr_c (lo := 1) (hi := 1) (by decide)) (by decide)
  refine zok_if (fun q19 => ?_) (fun q19 => ?_)
  · have h20 := zc_eql (3) (3) q19 h18 (zr_c (lo := 3) (hi := 3) (by decide)) (by decide)
    refine zok_if (fun q21 => ?_) (fun q21 => ?_)
    · have h22 := zc_eql (0) (0) q21 h_s0 (zr_c (lo := 0) (hi := 0) (by decide)) (by decide)
      exact zok_wmu (s_X12_sayZero_186 hσ h_x3 (by decide) (by omega)) (by omega)
    have h23 := zc_nel (1) (1) q21 h_s0 (zr_c (lo := 0) (hi := 0) (by decide)) (by decide)
    exact zok_wmu (s_X12_sayZero_186 hσ h_x3 (by decide) (by omega)) (by omega)
  have h24 := zc_nel (2) (2) q19 h18 (zr_c (lo := 3) (hi := 3) (by decide)) (by decide)
  refine zok_mu (s_X12_say hσ (by decide) (d := 3) (by decide +kernel) (by omega)) (fun σ23 i25 m26 => ?_)
  refine zok_if (fun q28 => ?_) (fun q28 => ?_)
  · have h29 := zc_eql (0) (0) q28 h_s0 (zr_c (lo := 0) (hi := 0) (by decide)) (by decide)
    exact zok_wmu (s_X12_sayZero_236 i25 h_x3 (zr_w h29 (by decide)) (by omega)) (by omega)
  have h30 := zc_nel (1) (1) q28 h_s0 (zr_c (lo := 0) (hi := 0) (by decide)) (by decide)
  refine zok_if (fun q31 => ?_) (fun q31 => ?_)
  · have h32 := zc_eql (2) (2) q31 h_x3 (zr_c (lo := 2) (hi := 2) (by decide)) (by decide)
    refine zok_mu (s_X12_sayHl i25 (by omega)) (fun σ25 i33 m34 => ?_)
    exact zok_wmu (s_X12_sayZero_229 i33 (zr_w h32 (by decide)) h30 (by omega)) (by omega)
  refine zok_mu (s_X12_say i25 (by decide) (d := 1) (by decide +kernel) (by omega)) (fun σ24 i36 m37 => ?_)
  exact zok_wmu (s_X12_sayZero_229 i36 h_x3 h30 (by omega)) (by omega)
theorem s_X12_sayZero {G : Nat → Int} {σ : zSt} (hσ : zEM [9] G σ) {x1 : Int32} (h_x1 : zr (0) (7) x1) {x2 : Int32} (h_x2 : zr (0) (3) x2) (hs : (zgi σ 0 39).toInt + 16 ≤ 40) : zok (fX12_sayZero σ x1 x2) (zMtu (zEM [9] G) ((zgi σ 0 39).toInt + 16)) := by
  unfold fX12_sayZero
  refine zok_br (zr_shr (lo := 0) (hi := 3) 1 (by decide) h_x1 (by decide)) (fun v26 e2 h1 => ?_)
  refine zok_ck (by decide) ?_
  refine zok_if (fun q3 => ?_) (fun q3 => ?_)
  · have h4 := zc_eql (1) (1) q3 (zr_rem (lo := 0) (hi := 1) 2 (by decide) h_x1 (by decide)) (zr_c (lo := 1) (hi := 1) (by decide)) (by decide)
    have h5 := z_odd64 h_x1 h4 (by decide)
    exact zok_wmu (s_X12_sayZero_16 hσ h_x1 h_x2 h1 (zr_w (zr_c (lo := 1) (hi := 1) (by decide)) (by decide)) (by omega)) (by omega)
  have h6 := zc_nel (0) (0) q3 (zr_rem (lo := 0) (hi := 1) 2 (by decide) h_x1 (by decide)) (zr_c (lo := 1) (hi := 1) (by decide)) (by decide)
  exact zok_wmu (s_X12_sayZero_16 hσ h_x1 h_x2 h1 (zr_w (zr_c (lo := 0) (hi := 0) (by decide)) (by decide)) (by omega)) (by omega)
theorem s_X12_saySingle_87 {G : Nat → Int} {σ : zSt} (hσ : zEM [9] G σ) {s0 : Nat} (h_s0 : s0 ∈ ([121, 122, 123, 124, 125, 126, 127, 128] : List Nat)) (hs : (zgi σ 0 39).toInt + 4 ≤ 40) : zok (fX12_saySingle_87 σ s0) (zMtu (zEM [9] G) ((zgi σ 0 39).toInt + 4)) := by
  unfold fX12_saySingle_87
  refine zok_mu (s_X12_say hσ (z_memsub h_s0 (by decide)) (d := 4) (z_kd h_s0 (by decide +kernel)) (by omega)) (fun σ1 i1 m2 => ?_)
  exact zok_smu i1 (by omega)
theorem s_X12_saySingle_117 {G : Nat → Int} {σ : zSt} (hσ : zEM [9] G σ) {x1 : Int32} (h_x1 : zr (0) (7) x1) {x2 : Int32} (h_x2 : zr (0) (6) x2) {s0 : Nat} (h_s0 : s0 ∈ ([111, 116, 117] : List Nat)) (hs : (zgi σ 0 39).toInt + 14 ≤ 40) : zok (fX12_saySingle_117 σ x1 x2 s0) (zMtu (zEM [9] G) ((zgi σ 0 39).toInt + 14)) := by
  unfold fX12_saySingle_117
  refine zok_mu (s_X12_say hσ (z_memsub h_s0 (by decide)) (d := 4) (z_kd h_s0 (by decide +kernel)) (by omega)) (fun σ2 i1 m2 => ?_)
  refine zok_mu (s_X12_sayR i1 h_x1 (by omega)) (fun σ3 i4 m5 => ?_)
  refine zok_if (fun q7 => ?_) (fun q7 => ?_)
  · have h8 := zc_ler (6) q7 (zr_c (lo := 6) (hi := 6) (by decide)) h_x2 (by decide)
    refine zok_mu (s_X12_say i4 (by decide) (d := 1) (by decide +kernel) (by omega)) (fun σ4 i9 m10 => ?_)
    refine zok_mi (s_X12_taken i9 (by omega)) (fun σ5 v6 i12 m13 h14 => ?_)
    refine zok_mu (s_X12_hex i12 (zr_w (zr_c (lo := 2) (hi := 2) (by decide)) (by decide)) (d := 2) (by decide) (by omega)) (fun σ7 i15 m16 => ?_)
    exact zok_smu i15 (by omega)
  have h18 := zc_ltl (5) (z_nle q7) h_x2 (zr_c (lo := 6) (hi := 6) (by decide)) (by decide)
  exact zok_smu i4 (by omega)
theorem s_X12_saySingle {G : Nat → Int} {σ : zSt} (hσ : zEM [9] G σ) {x1 : Int32} (h_x1 : zr (0) (7) x1) {x2 : Int32} (h_x2 : zr (0) (7) x2) (hs : (zgi σ 0 39).toInt + 14 ≤ 40) : zok (fX12_saySingle σ x1 x2) (zMtu (zEM [9] G) ((zgi σ 0 39).toInt + 14)) := by
  unfold fX12_saySingle
  refine zok_if (fun q1 => ?_) (fun q1 => ?_)
  · have h2 := zc_eql (7) (7) q1 h_x2 (zr_c (lo := 7) (hi := 7) (by decide)) (by decide)
    refine zok_if (fun q3 => ?_) (fun q3 => ?_)
    · have h4 := zc_eql (0) (0) q3 h_x1 (zr_c (lo := 0) (hi := 0) (by decide)) (by decide)
      exact zok_wmu (s_X12_saySingle_87 hσ (by decide) (by omega)) (by omega)
    have h5 := zc_nel (1) (7) q3 h_x1 (zr_c (lo := 0) (hi := 0) (by decide)) (by decide)
    refine zok_if (fun q6 => ?_) (fun q6 => ?_)
    · have h7 := zc_eql (1) (1) q6 h5 (zr_c (lo := 1) (hi := 1) (by decide)) (by decide)
      exact zok_wmu (s_X12_saySingle_87 hσ (by decide) (by omega)) (by omega)
    have h8 := zc_nel (2) (7) q6 h5 (zr_c (lo := 1) (hi := 1) (by decide)) (by decide)
    refine zok_if (fun q9 => ?_) (fun q9 => ?_)
    · have h10 := zc_eql (2) (2) q9 h8 (zr_c (lo := 2) (hi := 2) (by decide)) (by decide)
      exact zok_wmu (s_X12_saySingle_87 hσ (by decide) (by omega)) (by omega)
    have h11 := zc_nel (3) (7) q9 h8 (zr_c (lo := 2) (hi := 2) (by decide)) (by decide)
    refine zok_if (fun q12 => ?_) (fun q12 => ?_)
    · have h13 := zc_eql (3) (3) q12 h11 (zr_c (lo := 3) (hi := 3) (by decide)) (by decide)
      exact zok_wmu (s_X12_saySingle_87 hσ (by decide) (by omega)) (by omega)
    have h14 := zc_nel (4) (7) q12 h11 (zr_c (lo := 3) (hi := 3) (by decide)) (by decide)
    refine zok_if (fun q15 => ?_) (fun q15 => ?_)
    · have h16 := zc_eql (4) (4) q15 h14 (zr_c (lo := 4) (hi := 4) (by decide)) (by decide)
      exact zok_wmu (s_X12_saySingle_87 hσ (by decide) (by omega)) (by omega)
    have h17 := zc_nel (5) (7) q15 h14 (zr_c (lo := 4) (hi := 4) (by decide)) (by decide)
    refine zok_if (fun q18 => ?_) (fun q18 => ?_)
    · have h19 := zc_eql (5) (5) q18 h17 (zr_c (lo := 5) (hi := 5) (by decide)) (by decide)
      exact zok_wmu (s_X12_saySingle_87 hσ (by decide) (by omega)) (by omega)
    have h20 := zc_nel (6) (7) q18 h17 (zr_c (lo := 5) (hi := 5) (by decide)) (by decide)
    refine zok_if (fun q21 => ?_) (fun q21 => ?_)
    · have h22 := zc_eql (6) (6) q21 h20 (zr_c (lo := 6) (hi := 6) (by decide)) (by decide)
      exact zok_wmu (s_X12_saySingle_87 hσ (by decide) (by omega)) (by omega)
    have h23 := zc_nel (7) (7) q21 h20 (zr_c (lo := 6) (hi := 6) (by decide)) (by decide)
    exact zok_wmu (s_X12_saySingle_87 hσ (by decide) (by omega)) (by omega)
  have h24 := zc_nel (0) (6) q1 h_x2 (zr_c (lo := 7) (hi := 7) (by decide)) (by decide)
  refine zok_if (fun q25 => ?_) (fun q25 => ?_)
  · have h26 := zc_eql (4) (4) q25 h24 (zr_c (lo := 4) (hi := 4) (by decide)) (by decide)
    exact zok_wmu (s_X12_saySingle_117 hσ h_x1 (zr_w h26 (by decide)) (by decide) (by omega)) (by omega)
  refine zok_if (fun q27 => ?_) (fun q27 => ?_)
  · have h28 := zc_eql (5) (5) q27 h24 (zr_c (lo := 5) (hi := 5) (by decide)) (by decide)
    exact zok_wmu (s_X12_saySingle_117 hσ h_x1 (zr_w h28 (by decide)) (by decide) (by omega)) (by omega)
  exact zok_wmu (s_X12_saySingle_117 hσ h_x1 h24 (by decide) (by omega)) (by omega)
theorem s_X12_sayThree_266 {σ : zSt} (hσ : zPM σ) : zok (fX12_sayThree_266 σ ) (zPu σ) := by
  unfold fX12_sayThree_266
  exact zok_spu
theorem s_X12_sayThree_103 {G : Nat → Int} {σ : zSt} (hσ : zEM [9] G σ) {x3 : Int32} (h_x3 : zr (0) (3) x3) (hs : (zgi σ 0 39).toInt + 1 ≤ 40) : zok (fX12_sayThree_103 σ x3) (zMtu (zEM [9] G) ((zgi σ 0 39).toInt + 1)) := by
  unfold fX12_sayThree_103
  refine zok_if (fun q1 => ?_) (fun q1 => ?_)
  · have h2 := zc_eql (2) (2) q1 h_x3 (zr_c (lo := 2) (hi := 2) (by decide)) (by decide)
    refine zok_mu (s_X12_say hσ (by decide) (d := 1) (by decide +kernel) (by omega)) (fun σ1 i3 m4 => ?_)
    exact zok_pmu i3 (by omega) (s_X12_sayThree_266 i3.P)
  exact zok_pmu hσ (by omega) (s_X12_sayThree_266 hσ.P)
theorem s_X12_sayThree_91 {G : Nat → Int} {σ : zSt} (hσ : zEM [9] G σ) {x3 : Int32} (h_x3 : zr (0) (3) x3) {s0 : Nat} (h_s0 : s0 ∈ ([139, 140, 141, 142] : List Nat)) (hs : (zgi σ 0 39).toInt + 9 ≤ 40) : zok (fX12_sayThree_91 σ x3 s0) (zMtu (zEM [9] G) ((zgi σ 0 39).toInt + 9)) := by
  unfold fX12_sayThree_91
  refine zok_mu (s_X12_say hσ (z_memsub h_s0 (by decide)) (d := 6) (z_kd h_s0 (by decide +kernel)) (by omega)) (fun σ2 i1 m2 => ?_)
  refine zok_if (fun q4 => ?_) (fun q4 => ?_)
  · have h5 := zc_lel (1) q4 h_x3 (zr_c (lo := 1) (hi := 1) (by decide)) (by decide)
    exact zok_wmu (s_X12_sayThree_103 i1 (zr_w h5 (by decide)) (by omega)) (by omega)
  have h6 := zc_ltr (2) (z_nle q4) (zr_c (lo := 1) (hi := 1) (by decide)) h_x3 (by decide)
  refine zok_mu (s_X12_sayHl i1 (by omega)) (fun σ3 i7 m8 => ?_)
  exact zok_wmu (s_X12_sayThree_103 i7 (zr_w h6 (by decide)) (by omega)) (by omega)
theorem s_X12_sayThree_151 {G : Nat → Int} {σ : zSt} (hσ : zEM [9] G σ) (hs : (zgi σ 0 39).toInt + 4 ≤ 40) : zok (fX12_sayThree_151 σ ) (zMtu (zEM [9] G) ((zgi σ 0 39).toInt + 4)) := by
  unfold fX12_sayThree_151
  refine zok_mi (s_X12_takenWord hσ (by omega)) (fun σ4 v5 i1 m2 h3 => ?_)
  refine zok_mu (s_X12_hex i1 (zr_w (zr_c (lo := 4) (hi := 4) (by decide)) (by decide)) (d := 4) (by decide) (by omega)) (fun σ6 i4 m5 => ?_)
  exact zok_pmu i4 (by omega) (s_X12_sayThree_266 i4.P)
theorem s_X12_sayThree_127 {G : Nat → Int} {σ : zSt} (hσ : zEM [9] G σ) {x1 : Int32} (h_x1 : zr (0) (7) x1) {x2 : Int32} (h_x2 : zr (2) (3) x2) (hs : (zgi σ 0 39).toInt + 10 ≤ 40) : zok (fX12_sayThree_127 σ x1 x2) (zMtu (zEM [9] G) ((zgi σ 0 39).toInt + 10)) := by
  unfold fX12_sayThree_127
  refine zok_mu (s_X12_say hσ (by decide) (d := 3) (by decide +kernel) (by omega)) (fun σ7 i1 m2 => ?_)
  refine zok_if (fun q4 => ?_) (fun q4 => ?_)
  · have h5 := zc_eql (2) (2) q4 h_x2 (zr_c (lo := 2) (hi := 2) (by decide)) (by decide)
    refine zok_mu (s_X12_sayCc i1 h_x1 (by omega)) (fun σ8 i6 m7 => ?_)
    refine zok_mu (s_X12_say i6 (by decide) (d := 1) (by decide +kernel) (by omega)) (fun σ9 i9 m10 => ?_)
    exact zok_wmu (s_X12_sayThree_151 i9 (by omega)) (by omega)
  have h12 := zc_nel (3) (3) q4 h_x2 (zr_c (lo := 2) (hi := 2) (by decide)) (by decide)
  exact zok_wmu (s_X12_sayThree_151 i1 (by omega)) (by omega)
theorem s_X12_sayThree_210 {G : Nat → Int} {σ : zSt} (hσ : zEM [9] G σ) {s0 : Nat} (h_s0 : s0 ∈ ([89, 146] : List Nat)) (hs : (zgi σ 0 39).toInt + 3 ≤ 40) : zok (fX12_sayThree_210 σ s0) (zMtu (zEM [9] G) ((zgi σ 0 39).toInt + 3)) := by
  unfold fX12_sayThree_210
  refine zok_mu (s_X12_say hσ (z_memsub h_s0 (by decide)) (d := 3) (z_kd h_s0 (by decide +kernel)) (by omega)) (fun σ10 i1 m2 => ?_)
  exact zok_pmu i1 (by omega) (s_X12_sayThree_266 i1.P)
theorem s_X12_sayThree_183 {G : Nat → Int} {σ : zSt} (hσ : zEM [9] G σ) {x1 : Int32} (h_x1 : zr (1) (3) x1) {s0 : Nat} (h_s0 : s0 ∈ ([144, 145] : List Nat)) (hs : (zgi σ 0 39).toInt + 11 ≤ 40) : zok (fX12_sayThree_183 σ x1 s0) (zMtu (zEM [9] G) ((zgi σ 0 39).toInt + 11)) := by
  unfold fX12_sayThree_183
  refine zok_mu (s_X12_say hσ (z_memsub h_s0 (by decide)) (d := 6) (z_kd h_s0 (by decide +kernel)) (by omega)) (fun σ11 i1 m2 => ?_)
  refine zok_mi (s_X12_taken i1 (by omega)) (fun σ12 v13 i4 m5 h6 => ?_)
  refine zok_mu (s_X12_hex i4 (zr_w (zr_c (lo := 2) (hi := 2) (by decide)) (by decide)) (d := 2) (by decide) (by omega)) (fun σ14 i7 m8 => ?_)
  refine zok_if (fun q10 => ?_) (fun q10 => ?_)
  · have h11 := zc_eql (2) (2) q10 h_x1 (zr_c (lo := 2) (hi := 2) (by decide)) (by decide)
    exact zok_wmu (s_X12_sayThree_210 i7 (by decide) (by omega)) (by omega)
  exact zok_wmu (s_X12_sayThree_210 i7 (by decide) (by omega)) (by omega)
theorem s_X12_sayThree_254 {G : Nat → Int} {σ : zSt} (hσ : zEM [9] G σ) {x1 : Int32} (h_x1 : zr (4) (7) x1) {s0 : Nat} (h_s0 : s0 ∈ ([147, 148, 149, 150] : List Nat)) (hs : (zgi σ 0 39).toInt + 10 ≤ 40) : zok (fX12_sayThree_254 σ x1 s0) (zMtu (zEM [9] G) ((zgi σ 0 39).toInt + 10)) := by
  unfold fX12_sayThree_254
  refine zok_mu (s_X12_say hσ (z_memsub h_s0 (by decide)) (d := 8) (z_kd h_s0 (by decide +kernel)) (by omega)) (fun σ15 i1 m2 => ?_)
  refine zok_if (fun q4 => ?_) (fun q4 => ?_)
  · have h5 := zc_eql (4) (4) q4 h_x1 (zr_c (lo := 4) (hi := 4) (by decide)) (by decide)
    refine zok_mu (s_X12_sayHl i1 (by omega)) (fun σ16 i6 m7 => ?_)
    exact zok_pmu i6 (by omega) (s_X12_sayThree_266 i6.P)
  have h9 := zc_nel (5) (7) q4 h_x1 (zr_c (lo := 4) (hi := 4) (by decide)) (by decide)
  exact zok_pmu i1 (by omega) (s_X12_sayThree_266 i1.P)
theorem s_X12_sayThree_50 {G : Nat → Int} {σ : zSt} (hσ : zEM [9] G σ) {x1 : Int32} (h_x1 : zr (0) (7) x1) {x2 : Int32} (h_x2 : zr (1) (3) x2) {x3 : Int32} (h_x3 : zr (0) (3) x3) (hs : (zgi σ 0 39).toInt + 11 ≤ 40) : zok (fX12_sayThree_50 σ x1 x2 x3) (zMtu (zEM [9] G) ((zgi σ 0 39).toInt + 11)) := by
  unfold fX12_sayThree_50
  refine zok_if (fun q1 => ?_) (fun q1 => ?_)
  · have h2 := zc_eql (1) (1) q1 h_x2 (zr_c (lo := 1) (hi := 1) (by decide)) (by decide)
    refine zok_if (fun q3 => ?_) (fun q3 => ?_)
    · have h4 := zc_eql (0) (0) q3 h_x3 (zr_c (lo := 0) (hi := 0) (by decide)) (by decide)
      exact zok_wmu (s_X12_sayThree_91 hσ (zr_w h4 (by decide)) (by decide) (by omega)) (by omega)
    have h5 := zc_nel (1) (3) q3 h_x3 (zr_c (lo := 0) (hi := 0) (by decide)) (by decide)
    refine zok_if (fun q6 => ?_) (fun q6 => ?_)
    · have h7 := zc_eql (1) (1) q6 h5 (zr_c (lo := 1) (hi := 1) (by decide)) (by decide)
      exact zok_wmu (s_X12_sayThree_91 hσ (zr_w h7 (by decide)) (by decide) (by omega)) (by omega)
    have h8 := zc_nel (2) (3) q6 h5 (zr_c (lo := 1) (hi := 1) (by decide)) (by decide)
    refine zok_if (fun q9 => ?_) (fun q9 => ?_)
    · have h10 := zc_eql (2) (2) q9 h8 (zr_c (lo := 2) (hi := 2) (by decide)) (by decide)
      exact zok_wmu (s_X12_sayThree_91 hσ (zr_w h10 (by decide)) (by decide) (by omega)) (by omega)
    have h11 := zc_nel (3) (3) q9 h8 (zr_c (lo := 2) (hi := 2) (by decide)) (by decide)
    exact zok_wmu (s_X12_sayThree_91 hσ (zr_w h11 (by decide)) (by decide) (by omega)) (by omega)
  have h12 := zc_nel (2) (3) q1 h_x2 (zr_c (lo := 1) (hi := 1) (by decide)) (by decide)
  refine zok_if (fun q13 => ?_) (fun q13 => ?_)
  · have h14 := zc_eql (2) (2) q13 h12 (zr_c (lo := 2) (hi := 2) (by decide)) (by decide)
    exact zok_wmu (s_X12_sayThree_127 hσ h_x1 (zr_w h14 (by decide)) (by omega)) (by omega)
  have h15 := zc_nel (3) (3) q13 h12 (zr_c (lo := 2) (hi := 2) (by decide)) (by decide)
  refine zok_if (fun q16 => ?_) (fun q16 => ?_)
  · have h17 := zc_eql (0) (0) q16 h_x1 (zr_c (lo := 0) (hi := 0) (by decide)) (by decide)
    exact zok_wmu (s_X12_sayThree_127 hσ (zr_w h17 (by decide)) (zr_w h15 (by decide)) (by omega)) (by omega)
  have h18 := zc_nel (1) (7) q16 h_x1 (zr_c (lo := 0) (hi := 0) (by decide)) (by decide)
  refine zok_if (fun q19 => ?_) (fun q19 => ?_)
  · have h20 := zc_ler (4) q19 (zr_c (lo := 4) (hi := 4) (by decide)) h18 (by decide)
    refine zok_if (fun q21 => ?_) (fun q21 => ?_)
    · have h22 := zc_eql (4) (4) q21 h20 (zr_c (lo := 4) (hi := 4) (by decide)) (by decide)
      exact zok_wmu (s_X12_sayThree_254 hσ (zr_w h22 (by decide)) (by decide) (by omega)) (by omega)
    have h23 := zc_nel (5) (7) q21 h20 (zr_c (lo := 4) (hi := 4) (by decide)) (by decide)
    refine zok_if (fun q24 => ?_) (fun q24 => ?_)
    · have h25 := zc_eql (5) (5) q24 h23 (zr_c (lo := 5) (hi := 5) (by decide)) (by decide)
      exact zok_wmu (s_X12_sayThree_254 hσ (zr_w h25 (by decide)) (by decide) (by omega)) (by omega)
    have h26 := zc_nel (6) (7) q24 h23 (zr_c (lo := 5) (hi := 5) (by decide)) (by decide)
    refine zok_if (fun q27 => ?_) (fun q27 => ?_)
    · have h28 := zc_eql (6) (6) q27 h26 (zr_c (lo := 6) (hi := 6) (by decide)) (by decide)
      exact zok_wmu (s_X12_sayThree_254 hσ (zr_w h28 (by decide)) (by decide) (by omega)) (by omega)
    have h29 := zc_nel (7) (7) q27 h26 (zr_c (lo := 6) (hi := 6) (by decide)) (by decide)
    exact zok_wmu (s_X12_sayThree_254 hσ (zr_w h29 (by decide)) (by decide) (by omega)) (by omega)
  have h30 := zc_ltl (3) (z_nle q19) h18 (zr_c (lo := 4) (hi := 4) (by decide)) (by decide)
  refine zok_if (fun q31 => ?_) (fun q31 => ?_)
  · have h32 := zc_eql (2) (2) q31 h30 (zr_c (lo := 2) (hi := 2) (by decide)) (by decide)
    exact zok_wmu (s_X12_sayThree_183 hσ (zr_w h32 (by decide)) (by decide) (by omega)) (by omega)
  exact zok_wmu (s_X12_sayThree_183 hσ h30 (by decide) (by omega)) (by omega)
theorem s_X12_sayThree {G : Nat → Int} {σ : zSt} (hσ : zEM [9] G σ) {x1 : Int32} (h_x1 : zr (0) (7) x1) {x2 : Int32} (h_x2 : zr (0) (3) x2) (hs : (zgi σ 0 39).toInt + 11 ≤ 40) : zok (fX12_sayThree σ x1 x2) (zMtu (zEM [9] G) ((zgi σ 0 39).toInt + 11)) := by
  unfold fX12_sayThree
  refine zok_br (zr_shr (lo := 0) (hi := 3) 1 (by decide) h_x1 (by decide)) (fun v17 e2 h1 => ?_)
  refine zok_if (fun q3 => ?_) (fun q3 => ?_)
  · have h4 := zc_eql (0) (0) q3 h_x2 (zr_c (lo := 0) (hi := 0) (by decide)) (by decide)
    refine zok_mu (s_X12_say hσ (by decide) (d := 4) (by decide +kernel) (by omega)) (fun σ20 i5 m6 => ?_)
    refine zok_mu (s_X12_sayCc i5 h_x1 (by omega)) (fun σ21 i8 m9 => ?_)
    exact zok_pmu i8 (by omega) (s_X12_sayThree_266 i8.P)
  have h11 := zc_nel (1) (3) q3 h_x2 (zr_c (lo := 0) (hi := 0) (by decide)) (by decide)
  refine zok_if (fun q12 => ?_) (fun q12 => ?_)
  · have h13 := zc_eql (1) (1) q12 h11 (zr_c (lo := 1) (hi := 1) (by decide)) (by decide)
    refine zok_ck (by decide) ?_
    refine zok_if (fun q14 => ?_) (fun q14 => ?_)
    · have h15 := zc_eql (0) (0) q14 (zr_rem (lo := 0) (hi := 1) 2 (by decide) h_x1 (by decide)) (zr_c (lo := 0) (hi := 0) (by decide)) (by decide)
      refine zok_mu (s_X12_say hσ (by decide) (d := 4) (by decide +kernel) (by omega)) (fun σ18 i16 m17 => ?_)
      refine zok_mu (s_X12_sayRp i16 h1 (zr_w (zr_c (lo := 1) (hi := 1) (by decide)) (by decide)) (by omega)) (fun σ19 i19 m20 => ?_)
      exact zok_pmu i19 (by omega) (s_X12_sayThree_266 i19.P)
    have h22 := zc_nel (1) (1) q14 (zr_rem (lo := 0) (hi := 1) 2 (by decide) h_x1 (by decide)) (zr_c (lo := 0) (hi := 0) (by decide)) (by decide)
    have h23 := z_odd64 h_x1 h22 (by decide)
    exact zok_wmu (s_X12_sayThree_50 hσ h_x1 (zr_w h13 (by decide)) h1 (by omega)) (by omega)
  have h24 := zc_nel (2) (3) q12 h11 (zr_c (lo := 1) (hi := 1) (by decide)) (by decide)
  exact zok_wmu (s_X12_sayThree_50 hσ h_x1 (zr_w h24 (by decide)) h1 (by omega)) (by omega)
theorem s_X12_sayLast_115 {σ : zSt} (hσ : zPM σ) : zok (fX12_sayLast_115 σ ) (zPu σ) := by
  unfold fX12_sayLast_115
  exact zok_spu
theorem s_X12_sayLast_43 {G : Nat → Int} {σ : zSt} (hσ : zEM [9] G σ) (hs : (zgi σ 0 39).toInt + 4 ≤ 40) : zok (fX12_sayLast_43 σ ) (zMtu (zEM [9] G) ((zgi σ 0 39).toInt + 4)) := by
  unfold fX12_sayLast_43
  refine zok_mi (s_X12_takenWord hσ (by omega)) (fun σ1 v2 i1 m2 h3 => ?_)
  refine zok_mu (s_X12_hex i1 (zr_w (zr_c (lo := 4) (hi := 4) (by decide)) (by decide)) (d := 4) (by decide) (by omega)) (fun σ3 i4 m5 => ?_)
  exact zok_pmu i4 (by omega) (s_X12_sayLast_115 i4.P)
theorem s_X12_sayLast_19 {G : Nat → Int} {σ : zSt} (hσ : zEM [9] G σ) {x1 : Int32} (h_x1 : zr (0) (7) x1) {x2 : Int32} (h_x2 : zr (4) (5) x2) (hs : (zgi σ 0 39).toInt + 12 ≤ 40) : zok (fX12_sayLast_19 σ x1 x2) (zMtu (zEM [9] G) ((zgi σ 0 39).toInt + 12)) := by
  unfold fX12_sayLast_19
  refine zok_mu (s_X12_say hσ (by decide) (d := 5) (by decide +kernel) (by omega)) (fun σ4 i1 m2 => ?_)
  refine zok_if (fun q4 => ?_) (fun q4 => ?_)
  · have h5 := zc_eql (4) (4) q4 h_x2 (zr_c (lo := 4) (hi := 4) (by decide)) (by decide)
    refine zok_mu (s_X12_sayCc i1 h_x1 (by omega)) (fun σ5 i6 m7 => ?_)
    refine zok_mu (s_X12_say i6 (by decide) (d := 1) (by decide +kernel) (by omega)) (fun σ6 i9 m10 => ?_)
    exact zok_wmu (s_X12_sayLast_43 i9 (by omega)) (by omega)
  have h12 := zc_nel (5) (5) q4 h_x2 (zr_c (lo := 4) (hi := 4) (by decide)) (by decide)
  exact zok_wmu (s_X12_sayLast_43 i1 (by omega)) (by omega)
theorem s_X12_sayLast_55 {G : Nat → Int} {σ : zSt} (hσ : zEM [9] G σ) {x1 : Int32} (h_x1 : zr (0) (7) x1) {x2 : Int32} (h_x2 : zr (5) (7) x2) {x3 : Int32} (h_x3 : zr (0) (3) x3) (hs : (zgi σ 0 39).toInt + 7 ≤ 40) : zok (fX12_sayLast_55 σ x1 x2 x3) (zMtu (zEM [9] G) ((zgi σ 0 39).toInt + 7)) := by
  unfold fX12_sayLast_55
  refine zok_if (fun q1 => ?_) (fun q1 => ?_)
  · have h2 := zc_eql (5) (5) q1 h_x2 (zr_c (lo := 5) (hi := 5) (by decide)) (by decide)
    refine zok_mu (s_X12_say hσ (by decide) (d := 5) (by decide +kernel) (by omega)) (fun σ13 i3 m4 => ?_)
    refine zok_mu (s_X12_sayRp i3 h_x3 (zr_w (zr_c (lo := 1) (hi := 1) (by decide)) (by decide)) (by omega)) (fun σ14 i6 m7 => ?_)
    exact zok_pmu i6 (by omega) (s_X12_sayLast_115 i6.P)
  have h9 := zc_nel (6) (7) q1 h_x2 (zr_c (lo := 5) (hi := 5) (by decide)) (by decide)
  refine zok_if (fun q10 => ?_) (fun q10 => ?_)
  · have h11 := zc_eql (6) (6) q10 h9 (zr_c (lo := 6) (hi := 6) (by decide)) (by decide)
    refine zok_mu (s_X12_sayDo hσ h_x1 (by omega)) (fun σ9 i12 m13 => ?_)
    refine zok_mi (s_X12_taken i12 (by omega)) (fun σ10 v11 i15 m16 h17 => ?_)
    refine zok_mu (s_X12_hex i15 (zr_w (zr_c (lo := 2) (hi := 2) (by decide)) (by decide)) (d := 2) (by decide) (by omega)) (fun σ12 i18 m19 => ?_)
    exact zok_pmu i18 (by omega) (s_X12_sayLast_115 i18.P)
  have h21 := zc_nel (7) (7) q10 h9 (zr_c (lo := 6) (hi := 6) (by decide)) (by decide)
  refine zok_mu (s_X12_say hσ (by decide) (d := 4) (by decide +kernel) (by omega)) (fun σ7 i22 m23 => ?_)
  refine zok_mu (s_X12_hex i22 (zr_w (zr_c (lo := 2) (hi := 2) (by decide)) (by decide)) (d := 2) (by decide) (by omega)) (fun σ8 i25 m26 => ?_)
  exact zok_pmu i25 (by omega) (s_X12_sayLast_115 i25.P)
theorem s_X12_sayLast {G : Nat → Int} {σ : zSt} (hσ : zEM [9] G σ) {x1 : Int32} (h_x1 : zr (0) (7) x1) {x2 : Int32} (h_x2 : zr (4) (7) x2) (hs : (zgi σ 0 39).toInt + 12 ≤ 40) : zok (fX12_sayLast σ x1 x2) (zMtu (zEM [9] G) ((zgi σ 0 39).toInt + 12)) := by
  unfold fX12_sayLast
  refine zok_br (zr_shr (lo := 0) (hi := 3) 1 (by decide) h_x1 (by decide)) (fun v15 e2 h1 => ?_)
  refine zok_if (fun q3 => ?_) (fun q3 => ?_)
  · have h4 := zc_eql (4) (4) q3 h_x2 (zr_c (lo := 4) (hi := 4) (by decide)) (by decide)
    exact zok_wmu (s_X12_sayLast_19 hσ h_x1 (zr_w h4 (by decide)) (by omega)) (by omega)
  have h5 := zc_nel (5) (7) q3 h_x2 (zr_c (lo := 4) (hi := 4) (by decide)) (by decide)
  refine zok_if (fun q6 => ?_) (fun q6 => ?_)
  · have h7 := zc_eql (5) (5) q6 h5 (zr_c (lo := 5) (hi := 5) (by decide)) (by decide)
    refine zok_if (fun q8 => ?_) (fun q8 => ?_)
    · have h9 := zc_eql (1) (1) q8 h_x1 (zr_c (lo := 1) (hi := 1) (by decide)) (by decide)
      exact zok_wmu (s_X12_sayLast_19 hσ (zr_w h9 (by decide)) (zr_w h7 (by decide)) (by omega)) (by omega)
    exact zok_wmu (s_X12_sayLast_55 hσ h_x1 (zr_w h7 (by decide)) h1 (by omega)) (by omega)
  have h10 := zc_nel (6) (7) q6 h5 (zr_c (lo := 5) (hi := 5) (by decide)) (by decide)
  exact zok_wmu (s_X12_sayLast_55 hσ h_x1 (zr_w h10 (by decide)) h1 (by omega)) (by omega)
theorem s_X12_sayPlain_137 {σ : zSt} (hσ : zPM σ) : zok (fX12_sayPlain_137 σ ) (zPu σ) := by
  unfold fX12_sayPlain_137
  exact zok_spu
theorem s_X12_sayPlain_32 {G : Nat → Int} {σ : zSt} (hσ : zEM [9] G σ) {x1 : Int32} (h_x1 : zr (0) (255) x1) {x2 : Int32} (h_x2 : zr (0) (7) x2) {x3 : Int32} (h_x3 : zr (0) (7) x3) (hs : (zgi σ 0 39).toInt + 18 ≤ 40) : zok (fX12_sayPlain_32 σ x1 x2 x3) (zMtu (zEM [9] G) ((zgi σ 0 39).toInt + 18)) := by
  unfold fX12_sayPlain_32
  refine zok_if (fun q1 => ?_) (fun q1 => ?_)
  · have h2 := zc_ler (64) q1 (zr_c (lo := 64) (hi := 64) (by decide)) h_x1 (by decide)
    refine zok_if (fun q3 => ?_) (fun q3 => ?_)
    · have h4 := zc_eql (118) (118) q3 h2 (zr_c (lo := 118) (hi := 118) (by decide)) (by decide)
      refine zok_mu (s_X12_say hσ (by decide) (d := 4) (by decide +kernel) (by omega)) (fun σ9 i5 m6 => ?_)
      exact zok_pmu i5 (by omega) (s_X12_sayPlain_137 i5.P)
    refine zok_if (fun q8 => ?_) (fun q8 => ?_)
    · have h9 := zc_ler (128) q8 (zr_c (lo := 128) (hi := 128) (by decide)) h2 (by decide)
      refine zok_if (fun q10 => ?_) (fun q10 => ?_)
      · have h11 := zc_ler (192) q10 (zr_c (lo := 192) (hi := 192) (by decide)) h9 (by decide)
        refine zok_if (fun q12 => ?_) (fun q12 => ?_)
        · have h13 := zc_ler (4) q12 (zr_c (lo := 4) (hi := 4) (by decide)) h_x3 (by decide)
          refine zok_mu (s_X12_sayLast hσ h_x2 h13 (by omega)) (fun σ1 i14 m15 => ?_)
          exact zok_pmu i14 (by omega) (s_X12_sayPlain_137 i14.P)
        have h17 := zc_ltl (3) (z_nle q12) h_x3 (zr_c (lo := 4) (hi := 4) (by decide)) (by decide)
        refine zok_mu (s_X12_sayThree hσ h_x2 h17 (by omega)) (fun σ2 i18 m19 => ?_)
        exact zok_pmu i18 (by omega) (s_X12_sayPlain_137 i18.P)
      have h21 := zc_ltl (191) (z_nle q10) h9 (zr_c (lo := 192) (hi := 192) (by decide)) (by decide)
      refine zok_mu (s_X12_sayDo hσ h_x2 (by omega)) (fun σ3 i22 m23 => ?_)
      refine zok_mu (s_X12_sayR i22 h_x3 (by omega)) (fun σ4 i25 m26 => ?_)
      exact zok_pmu i25 (by omega) (s_X12_sayPlain_137 i25.P)
    have h28 := zc_ltl (127) (z_nle q8) h2 (zr_c (lo := 128) (hi := 128) (by decide)) (by decide)
    refine zok_mu (s_X12_say hσ (by decide) (d := 3) (by decide +kernel) (by omega)) (fun σ5 i29 m30 => ?_)
    refine zok_mu (s_X12_sayR i29 h_x2 (by omega)) (fun σ6 i32 m33 => ?_)
    refine zok_mu (s_X12_say i32 (by decide) (d := 1) (by decide +kernel) (by omega)) (fun σ7 i35 m36 => ?_)
    refine zok_mu (s_X12_sayR i35 h_x3 (by omega)) (fun σ8 i38 m39 => ?_)
    exact zok_pmu i38 (by omega) (s_X12_sayPlain_137 i38.P)
  have h41 := zc_ltl (63) (z_nle q1) h_x1 (zr_c (lo := 64) (hi := 64) (by decide)) (by decide)
  refine zok_mu (s_X12_saySingle hσ h_x2 h_x3 (by omega)) (fun σ10 i42 m43 => ?_)
  exact zok_pmu i42 (by omega) (s_X12_sayPlain_137 i42.P)
theorem s_X12_sayPlain {G : Nat → Int} {σ : zSt} (hσ : zEM [9] G σ) {x1 : Int32} (h_x1 : zr (0) (255) x1) (hs : (zgi σ 0 39).toInt + 18 ≤ 40) : zok (fX12_sayPlain σ x1) (zMtu (zEM [9] G) ((zgi σ 0 39).toInt + 18)) := by
  unfold fX12_sayPlain
  refine zok_br (zr_andr (lo := 0) (hi := 7) (zr_c (lo := 7) (hi := 7) (by decide)) (by decide)) (fun v11 e2 h1 => ?_)
  refine zok_br (zr_andr (lo := 0) (hi := 7) (zr_c (lo := 7) (hi := 7) (by decide)) (by decide)) (fun v12 e4 h3 => ?_)
  refine zok_if (fun q5 => ?_) (fun q5 => ?_)
  · have h6 := zc_ler (64) q5 (zr_c (lo := 64) (hi := 64) (by decide)) h_x1 (by decide)
    exact zok_wmu (s_X12_sayPlain_32 hσ (zr_w h6 (by decide)) h1 h3 (by omega)) (by omega)
  have h7 := zc_ltl (63) (z_nle q5) h_x1 (zr_c (lo := 64) (hi := 64) (by decide)) (by decide)
  refine zok_if (fun q8 => ?_) (fun q8 => ?_)
  · have h9 := zc_ler (4) q8 (zr_c (lo := 4) (hi := 4) (by decide)) h3 (by decide)
    exact zok_wmu (s_X12_sayPlain_32 hσ (zr_w h7 (by decide)) h1 (zr_w h9 (by decide)) (by omega)) (by omega)
  have h10 := zc_ltl (3) (z_nle q8) h3 (zr_c (lo := 4) (hi := 4) (by decide)) (by decide)
  refine zok_mu (s_X12_sayZero hσ h1 h10 (by omega)) (fun σ13 i11 m12 => ?_)
  exact zok_pmu i11 (by omega) (s_X12_sayPlain_137 i11.P)
theorem s_X12_sayPrefixed_30 {G : Nat → Int} {σ : zSt} (hσ : zEM [9] G σ) (hs : (zgi σ 0 39).toInt + 3 ≤ 40) : zok (fX12_sayPrefixed_30 σ ) (zMtu (zEM [9] G) ((zgi σ 0 39).toInt + 3)) := by
  unfold fX12_sayPrefixed_30
  refine zok_mu (s_X12_say hσ (by decide) (d := 3) (by decide +kernel) (by omega)) (fun σ1 i1 m2 => ?_)
  exact zok_smu i1 (by omega)
theorem s_X12_sayPrefixed_133 {σ : zSt} (hσ : zPM σ) : zok (fX12_sayPrefixed_133 σ ) (zPu σ) := by
  unfold fX12_sayPrefixed_133
  exact zok_spu
theorem s_X12_sayPrefixed_240 {G : Nat → Int} {σ : zSt} (hσ : zEM [9] G σ) {x2 : Int32} (h_x2 : zr (0) (255) x2) (hs : (zgi σ 0 39).toInt + 18 ≤ 40) : zok (fX12_sayPrefixed_240 σ x2) (zMtu (zEM [9] G) ((zgi σ 0 39).toInt + 18)) := by
  unfold fX12_sayPrefixed_240
  refine zok_mu (s_X12_sayPlain hσ h_x2 (by omega)) (fun σ2 i1 m2 => ?_)
  exact zok_smu i1 (by omega)
theorem s_X12_sayPrefixed_219 {G : Nat → Int} {σ : zSt} (hσ : zEM [9] G σ) {x2 : Int32} (h_x2 : zr (0) (255) x2) {s0 : Int32} (h_s0 : zr (0) (1) s0) (hs : (zgi σ 0 39).toInt + 18 ≤ 40) : zok (fX12_sayPrefixed_219 σ x2 s0) (zMtu (zEM [9] G) ((zgi σ 0 39).toInt + 18)) := by
  unfold fX12_sayPrefixed_219
  refine zok_ck (zbo_ok h_s0 (by decide)) ?_
  refine zok_bs (hσ.wi 42 42 (by decide) h_s0 (by decide +kernel)) (fun σ3 e2 i1 => ?_)
  have m3 := z_k39 e2 (by decide)
  refine zok_if (fun q4 => ?_) (fun q4 => ?_)
  · have h5 := zc_eql (0) (0) q4 (z_own e2 h_s0) (zr_c (lo := 0) (hi := 0) (by decide)) (by decide)
    exact zok_wmu (s_X12_sayPrefixed_240 i1 h_x2 (by omega)) (by omega)
  have h6 := zc_nel (1) (1) q4 (z_own e2 h_s0) (zr_c (lo := 0) (hi := 0) (by decide)) (by decide)
  refine zok_mi (s_X12_taken i1 (by omega)) (fun σ4 v5 i7 m8 h9 => ?_)
  refine zok_pi (s_X12_signed i7.P h9) (fun v7 h10 => ?_)
  refine zok_bs (i7.wi 43 43 (by decide) h10 (by decide +kernel)) (fun σ8 e12 i11 => ?_)
  have m13 := z_k39 e12 (by decide)
  exact zok_wmu (s_X12_sayPrefixed_240 i11 h_x2 (by omega)) (by omega)
theorem s_X12_sayPrefixed_218 {G : Nat → Int} {σ : zSt} (hσ : zEM [9] G σ) {x2 : Int32} (h_x2 : zr (0) (255) x2) (hs : (zgi σ 0 39).toInt + 18 ≤ 40) : zok (fX12_sayPrefixed_218 σ x2) (zMtu (zEM [9] G) ((zgi σ 0 39).toInt + 18)) := by
  unfold fX12_sayPrefixed_218
  exact zok_wmu (s_X12_sayPrefixed_219 hσ h_x2 (zr_w (zr_c (lo := 0) (hi := 0) (by decide)) (by decide)) (by omega)) (by omega)
theorem s_X12_sayPrefixed_214 {G : Nat → Int} {σ : zSt} (hσ : zEM [9] G σ) {x2 : Int32} (h_x2 : zr (0) (255) x2) (hs : (zgi σ 0 39).toInt + 18 ≤ 40) : zok (fX12_sayPrefixed_214 σ x2) (zMtu (zEM [9] G) ((zgi σ 0 39).toInt + 18)) := by
  unfold fX12_sayPrefixed_214
  exact zok_wmu (s_X12_sayPrefixed_219 hσ h_x2 (zr_w (zr_c (lo := 1) (hi := 1) (by decide)) (by decide)) (by omega)) (by omega)
theorem s_X12_sayPrefixed_201 {G : Nat → Int} {σ : zSt} (hσ : zEM [9] G σ) {x2 : Int32} (h_x2 : zr (0) (255) x2) {x4 : Int32} (h_x4 : zr (0) (7) x4) {x5 : Int32} (h_x5 : zr (0) (3) x5) (hs : (zgi σ 0 39).toInt + 18 ≤ 40) : zok (fX12_sayPrefixed_201 σ x2 x4 x5) (zMtu (zEM [9] G) ((zgi σ 0 39).toInt + 18)) := by
  unfold fX12_sayPrefixed_201
  refine zok_if (fun q1 => ?_) (fun q1 => ?_)
  · have h2 := zc_eql (2) (2) q1 h_x5 (zr_c (lo := 2) (hi := 2) (by decide)) (by decide)
    refine zok_if (fun q3 => ?_) (fun q3 => ?_)
    · have h4 := zc_eql (6) (6) q3 h_x4 (zr_c (lo := 6) (hi := 6) (by decide)) (by decide)
      exact zok_wmu (s_X12_sayPrefixed_214 hσ h_x2 (by omega)) (by omega)
    exact zok_wmu (s_X12_sayPrefixed_218 hσ h_x2 (by omega)) (by omega)
  exact zok_wmu (s_X12_sayPrefixed_218 hσ h_x2 (by omega)) (by omega)
theorem s_X12_sayPrefixed_195 {G : Nat → Int} {σ : zSt} (hσ : zEM [9] G σ) {x2 : Int32} (h_x2 : zr (0) (255) x2) {x4 : Int32} (h_x4 : zr (0) (7) x4) {x5 : Int32} (h_x5 : zr (1) (1) x5) (hs : (zgi σ 0 39).toInt + 18 ≤ 40) : zok (fX12_sayPrefixed_195 σ x2 x4 x5) (zMtu (zEM [9] G) ((zgi σ 0 39).toInt + 18)) := by
  unfold fX12_sayPrefixed_195
  refine zok_if (fun q1 => ?_) (fun q1 => ?_)
  · have h2 := zc_eql (118) (118) q1 h_x2 (zr_c (lo := 118) (hi := 118) (by decide)) (by decide)
    exact zok_wmu (s_X12_sayPrefixed_201 hσ (zr_w h2 (by decide)) h_x4 (zr_w h_x5 (by decide)) (by omega)) (by omega)
  exact zok_wmu (s_X12_sayPrefixed_214 hσ h_x2 (by omega)) (by omega)
theorem s_X12_sayPrefixed_176 {G : Nat → Int} {σ : zSt} (hσ : zEM [9] G σ) {x2 : Int32} (h_x2 : zr (0) (255) x2) {x3 : Int32} (h_x3 : zr (0) (7) x3) {x4 : Int32} (h_x4 : zr (0) (7) x4) {x5 : Int32} (h_x5 : zr (0) (3) x5) (hs : (zgi σ 0 39).toInt + 18 ≤ 40) : zok (fX12_sayPrefixed_176 σ x2 x3 x4 x5) (zMtu (zEM [9] G) ((zgi σ 0 39).toInt + 18)) := by
  unfold fX12_sayPrefixed_176
  refine zok_if (fun q1 => ?_) (fun q1 => ?_)
  · have h2 := zc_eql (1) (1) q1 h_x5 (zr_c (lo := 1) (hi := 1) (by decide)) (by decide)
    refine zok_if (fun q3 => ?_) (fun q3 => ?_)
    · have h4 := zc_eql (6) (6) q3 h_x3 (zr_c (lo := 6) (hi := 6) (by decide)) (by decide)
      exact zok_wmu (s_X12_sayPrefixed_195 hσ h_x2 h_x4 h2 (by omega)) (by omega)
    refine zok_if (fun q5 => ?_) (fun q5 => ?_)
    · have h6 := zc_eql (6) (6) q5 h_x4 (zr_c (lo := 6) (hi := 6) (by decide)) (by decide)
      exact zok_wmu (s_X12_sayPrefixed_195 hσ h_x2 (zr_w h6 (by decide)) h2 (by omega)) (by omega)
    exact zok_wmu (s_X12_sayPrefixed_201 hσ h_x2 h_x4 (zr_w h2 (by decide)) (by omega)) (by omega)
  exact zok_wmu (s_X12_sayPrefixed_201 hσ h_x2 h_x4 h_x5 (by omega)) (by omega)
theorem s_X12_sayPrefixed {G : Nat → Int} {σ : zSt} (hσ : zEM [9] G σ) {x1 : Int32} (h_x1 : zr (1) (2) x1) (hs : (zgi σ 0 39).toInt + 21 ≤ 40) : zok (fX12_sayPrefixed σ x1) (zMtu (zEM [9] G) ((zgi σ 0 39).toInt + 21)) := by
  unfold fX12_sayPrefixed
  refine zok_pi (s_X12_read hσ.P) (fun v10 h1 => ?_)
  refine zok_if (fun q2 => ?_) (fun q2 => ?_)
  · have h3 := zc_eql (221) (221) q2 h1 (zr_c (lo := 221) (hi := 221) (by decide)) (by decide)
    exact zok_wmu (s_X12_sayPrefixed_30 hσ (by omega)) (by omega)
  refine zok_if (fun q4 => ?_) (fun q4 => ?_)
  · have h5 := zc_eql (237) (237) q4 h1 (zr_c (lo := 237) (hi := 237) (by decide)) (by decide)
    exact zok_wmu (s_X12_sayPrefixed_30 hσ (by omega)) (by omega)
  refine zok_if (fun q6 => ?_) (fun q6 => ?_)
  · have h7 := zc_eql (253) (253) q6 h1 (zr_c (lo := 253) (hi := 253) (by decide)) (by decide)
    exact zok_wmu (s_X12_sayPrefixed_30 hσ (by omega)) (by omega)
  refine zok_bs (hσ.wi 40 40 (by decide) zr_any (by decide +kernel)) (fun σ11 e9 i8 => ?_)
  have m10 := z_k39 e9 (by decide)
  refine zok_bs (i8.wi 41 41 (by decide) h_x1 (by decide +kernel)) (fun σ12 e12 i11 => ?_)
  have m13 := z_k39 e12 (by decide)
  refine zok_br (zr_andr (lo := 0) (hi := 7) (zr_c (lo := 7) (hi := 7) (by decide)) (by decide)) (fun v13 e15 h14 => ?_)
  refine zok_br (zr_andr (lo := 0) (hi := 7) (zr_c (lo := 7) (hi := 7) (by decide)) (by decide)) (fun v14 e17 h16 => ?_)
  refine zok_br (zr_shr (lo := 0) (hi := 3) 6 (by decide) h1 (by decide)) (fun v15 e19 h18 => ?_)
  refine zok_if (fun q20 => ?_) (fun q20 => ?_)
  · have h21 := zc_eql (203) (203) q20 h1 (zr_c (lo := 203) (hi := 203) (by decide)) (by decide)
    refine zok_mi (s_X12_taken i11 (by omega)) (fun σ16 v17 i22 m23 h24 => ?_)
    refine zok_pi (s_X12_signed i22.P h24) (fun v19 h25 => ?_)
    refine zok_bs (i22.wi 43 43 (by decide) h25 (by decide +kernel)) (fun σ20 e27 i26 => ?_)
    have m28 := z_k39 e27 (by decide)
    refine zok_ck rfl ?_
    refine zok_bs (i26.wi 42 42 (by decide) (zr_c (lo := 1) (hi := 1) (by decide)) (by decide +kernel)) (fun σ21 e30 i29 => ?_)
    have m31 := z_k39 e30 (by decide)
    refine zok_mi (s_X12_taken i29 (by omega)) (fun σ22 v23 i32 m33 h34 => ?_)
    refine zok_mu (s_X12_sayTurn i32 (zr_or (lo := 0) (hi := 255) 8 (zr_andr (lo := 0) (hi := 248) (zr_c (lo := 248) (hi := 248) (by decide)) (by decide)) (zr_c (lo := 6) (hi := 6) (by decide)) (by decide)) (by omega)) (fun σ24 i35 m36 => ?_)
    refine zok_if (fun q38 => ?_) (fun q38 => ?_)
    · have h39 := zc_eql (1) (1) q38 (zr_shr (lo := 0) (hi := 3) 6 (by decide) h34 (by decide)) (zr_c (lo := 1) (hi := 1) (by decide)) (by decide)
      exact zok_pmu i35 (by omega) (s_X12_sayPrefixed_133 i35.P)
    refine zok_ck (by decide) ?_
    refine zok_if (fun q40 => ?_) (fun q40 => ?_)
    · have h41 := zc_eql (6) (6) q40 (zr_rem (lo := 0) (hi := 7) 8 (by decide) h34 (by decide)) (zr_c (lo := 6) (hi := 6) (by decide)) (by decide)
      exact zok_pmu i35 (by omega) (s_X12_sayPrefixed_133 i35.P)
    refine zok_mu (s_X12_say i35 (by decide) (d := 1) (by decide +kernel) (by omega)) (fun σ25 i42 m43 => ?_)
    refine zok_ck (by decide) ?_
    refine zok_mu (s_X12_sayR i42 (zr_rem (lo := 0) (hi := 7) 8 (by decide) h34 (by decide)) (by omega)) (fun σ26 i45 m46 => ?_)
    exact zok_smu i45 (by omega)
  refine zok_if (fun q48 => ?_) (fun q48 => ?_)
  · have h49 := zc_eql (0) (0) q48 h18 (zr_c (lo := 0) (hi := 0) (by decide)) (by decide)
    refine zok_if (fun q50 => ?_) (fun q50 => ?_)
    · have h51 := zc_lel (3) q50 h16 (zr_c (lo := 3) (hi := 3) (by decide)) (by decide)
      exact zok_wmu (s_X12_sayPrefixed_176 i11 h1 h14 (zr_w h51 (by decide)) (zr_w h49 (by decide)) (by omega)) (by omega)
    have h52 := zc_ltr (4) (z_nle q50) (zr_c (lo := 3) (hi := 3) (by decide)) h16 (by decide)
    refine zok_if (fun q53 => ?_) (fun q53 => ?_)
    · have h54 := zc_ler (7) q53 (zr_c (lo := 7) (hi := 7) (by decide)) h52 (by decide)
      exact zok_wmu (s_X12_sayPrefixed_176 i11 h1 h14 (zr_w h54 (by decide)) (zr_w h49 (by decide)) (by omega)) (by omega)
    have h55 := zc_ltl (6) (z_nle q53) h52 (zr_c (lo := 7) (hi := 7) (by decide)) (by decide)
    refine zok_if (fun q56 => ?_) (fun q56 => ?_)
    · have h57 := zc_eql (6) (6) q56 h14 (zr_c (lo := 6) (hi := 6) (by decide)) (by decide)
      exact zok_wmu (s_X12_sayPrefixed_214 i11 h1 (by omega)) (by omega)
    exact zok_wmu (s_X12_sayPrefixed_176 i11 h1 h14 (zr_w h55 (by decide)) (zr_w h49 (by decide)) (by omega)) (by omega)
  have h58 := zc_nel (1) (3) q48 h18 (zr_c (lo := 0) (hi := 0) (by decide)) (by decide)
  exact zok_wmu (s_X12_sayPrefixed_176 i11 h1 h14 h16 (zr_w h58 (by decide)) (by omega)) (by omega)
theorem s_X12_sayOdd_155 {σ : zSt} (hσ : zPM σ) : zok (fX12_sayOdd_155 σ ) (zPu σ) := by
  unfold fX12_sayOdd_155
  exact zok_spu
theorem s_X12_sayOdd_35 {G : Nat → Int} {σ : zSt} (hσ : zEM [9] G σ) {s0 : Nat} (h_s0 : s0 ∈ ([168, 169] : List Nat)) (hs : (zgi σ 0 39).toInt + 4 ≤ 40) : zok (fX12_sayOdd_35 σ s0) (zMtu (zEM [9] G) ((zgi σ 0 39).toInt + 4)) := by
  unfold fX12_sayOdd_35
  refine zok_mu (s_X12_say hσ (z_memsub h_s0 (by decide)) (d := 4) (z_kd h_s0 (by decide +kernel)) (by omega)) (fun σ1 i1 m2 => ?_)
  exact zok_pmu i1 (by omega) (s_X12_sayOdd_155 i1.P)
theorem s_X12_sayOdd_77 {G : Nat → Int} {σ : zSt} (hσ : zEM [9] G σ) {s0 : Nat} (h_s0 : s0 ∈ ([170, 171, 172] : List Nat)) (hs : (zgi σ 0 39).toInt + 4 ≤ 40) : zok (fX12_sayOdd_77 σ s0) (zMtu (zEM [9] G) ((zgi σ 0 39).toInt + 4)) := by
  unfold fX12_sayOdd_77
  refine zok_mu (s_X12_say hσ (z_memsub h_s0 (by decide)) (d := 4) (z_kd h_s0 (by decide +kernel)) (by omega)) (fun σ2 i1 m2 => ?_)
  exact zok_pmu i1 (by omega) (s_X12_sayOdd_155 i1.P)
theorem s_X12_sayOdd_152 {G : Nat → Int} {σ : zSt} (hσ : zEM [9] G σ) {s0 : Nat} (h_s0 : s0 ∈ ([71, 173, 174, 175, 176, 177, 178] : List Nat)) (hs : (zgi σ 0 39).toInt + 6 ≤ 40) : zok (fX12_sayOdd_152 σ s0) (zMtu (zEM [9] G) ((zgi σ 0 39).toInt + 6)) := by
  unfold fX12_sayOdd_152
  refine zok_mu (s_X12_say hσ (z_memsub h_s0 (by decide)) (d := 6) (z_kd h_s0 (by decide +kernel)) (by omega)) (fun σ3 i1 m2 => ?_)
  exact zok_pmu i1 (by omega) (s_X12_sayOdd_155 i1.P)
theorem s_X12_sayOdd {G : Nat → Int} {σ : zSt} (hσ : zEM [9] G σ) {x1 : Int32} (h_x1 : zr (0) (7) x1) {x2 : Int32} (h_x2 : zr (4) (7) x2) (hs : (zgi σ 0 39).toInt + 6 ≤ 40) : zok (fX12_sayOdd σ x1 x2) (zMtu (zEM [9] G) ((zgi σ 0 39).toInt + 6)) := by
  unfold fX12_sayOdd
  refine zok_if (fun q1 => ?_) (fun q1 => ?_)
  · have h2 := zc_eql (4) (4) q1 h_x2 (zr_c (lo := 4) (hi := 4) (by decide)) (by decide)
    refine zok_mu (s_X12_say hσ (by decide) (d := 3) (by decide +kernel) (by omega)) (fun σ4 i3 m4 => ?_)
    exact zok_pmu i3 (by omega) (s_X12_sayOdd_155 i3.P)
  have h6 := zc_nel (5) (7) q1 h_x2 (zr_c (lo := 4) (hi := 4) (by decide)) (by decide)
  refine zok_if (fun q7 => ?_) (fun q7 => ?_)
  · have h8 := zc_eql (5) (5) q7 h6 (zr_c (lo := 5) (hi := 5) (by decide)) (by decide)
    refine zok_if (fun q9 => ?_) (fun q9 => ?_)
    · have h10 := zc_eql (1) (1) q9 h_x1 (zr_c (lo := 1) (hi := 1) (by decide)) (by decide)
      exact zok_wmu (s_X12_sayOdd_35 hσ (by decide) (by omega)) (by omega)
    exact zok_wmu (s_X12_sayOdd_35 hσ (by decide) (by omega)) (by omega)
  have h11 := zc_nel (6) (7) q7 h6 (zr_c (lo := 5) (hi := 5) (by decide)) (by decide)
  refine zok_if (fun q12 => ?_) (fun q12 => ?_)
  · have h13 := zc_eql (6) (6) q12 h11 (zr_c (lo := 6) (hi := 6) (by decide)) (by decide)
    refine zok_ck (by decide) ?_
    refine zok_if (fun q14 => ?_) (fun q14 => ?_)
    · have h15 := zc_ler (2) q14 (zr_c (lo := 2) (hi := 2) (by decide)) (zr_rem (lo := 0) (hi := 3) 4 (by decide) h_x1 (by decide)) (by decide)
      refine zok_ck (by decide) ?_
      refine zok_if (fun q16 => ?_) (fun q16 => ?_)
      · have h17 := zc_eql (2) (2) q16 h15 (zr_c (lo := 2) (hi := 2) (by decide)) (by decide)
        exact zok_wmu (s_X12_sayOdd_77 hσ (by decide) (by omega)) (by omega)
      have h18 := zc_nel (3) (3) q16 h15 (zr_c (lo := 2) (hi := 2) (by decide)) (by decide)
      exact zok_wmu (s_X12_sayOdd_77 hσ (by decide) (by omega)) (by omega)
    have h19 := zc_ltl (1) (z_nle q14) (zr_rem (lo := 0) (hi := 3) 4 (by decide) h_x1 (by decide)) (zr_c (lo := 2) (hi := 2) (by decide)) (by decide)
    exact zok_wmu (s_X12_sayOdd_77 hσ (by decide) (by omega)) (by omega)
  have h20 := zc_nel (7) (7) q12 h11 (zr_c (lo := 6) (hi := 6) (by decide)) (by decide)
  refine zok_if (fun q21 => ?_) (fun q21 => ?_)
  · have h22 := zc_eql (0) (0) q21 h_x1 (zr_c (lo := 0) (hi := 0) (by decide)) (by decide)
    exact zok_wmu (s_X12_sayOdd_152 hσ (by decide) (by omega)) (by omega)
  have h23 := zc_nel (1) (7) q21 h_x1 (zr_c (lo := 0) (hi := 0) (by decide)) (by decide)
  refine zok_if (fun q24 => ?_) (fun q24 => ?_)
  · have h25 := zc_eql (1) (1) q24 h23 (zr_c (lo := 1) (hi := 1) (by decide)) (by decide)
    exact zok_wmu (s_X12_sayOdd_152 hσ (by decide) (by omega)) (by omega)
  have h26 := zc_nel (2) (7) q24 h23 (zr_c (lo := 1) (hi := 1) (by decide)) (by decide)
  refine zok_if (fun q27 => ?_) (fun q27 => ?_)
  · have h28 := zc_eql (2) (2) q27 h26 (zr_c (lo := 2) (hi := 2) (by decide)) (by decide)
    exact zok_wmu (s_X12_sayOdd_152 hσ (by decide) (by omega)) (by omega)
  have h29 := zc_nel (3) (7) q27 h26 (zr_c (lo := 2) (hi := 2) (by decide)) (by decide)
  refine zok_if (fun q30 => ?_) (fun q30 => ?_)
  · have h31 := zc_eql (3) (3) q30 h29 (zr_c (lo := 3) (hi := 3) (by decide)) (by decide)
    exact zok_wmu (s_X12_sayOdd_152 hσ (by decide) (by omega)) (by omega)
  have h32 := zc_nel (4) (7) q30 h29 (zr_c (lo := 3) (hi := 3) (by decide)) (by decide)
  refine zok_if (fun q33 => ?_) (fun q33 => ?_)
  · have h34 := zc_eql (4) (4) q33 h32 (zr_c (lo := 4) (hi := 4) (by decide)) (by decide)
    exact zok_wmu (s_X12_sayOdd_152 hσ (by decide) (by omega)) (by omega)
  have h35 := zc_nel (5) (7) q33 h32 (zr_c (lo := 4) (hi := 4) (by decide)) (by decide)
  refine zok_if (fun q36 => ?_) (fun q36 => ?_)
  · have h37 := zc_eql (5) (5) q36 h35 (zr_c (lo := 5) (hi := 5) (by decide)) (by decide)
    exact zok_wmu (s_X12_sayOdd_152 hσ (by decide) (by omega)) (by omega)
  have h38 := zc_nel (6) (7) q36 h35 (zr_c (lo := 5) (hi := 5) (by decide)) (by decide)
  exact zok_wmu (s_X12_sayOdd_152 hσ (by decide) (by omega)) (by omega)
theorem s_X12_sayMore_325 {σ : zSt} (hσ : zPM σ) : zok (fX12_sayMore_325 σ ) (zPu σ) := by
  unfold fX12_sayMore_325
  exact zok_spu
theorem s_X12_sayMore_164 {G : Nat → Int} {σ : zSt} (hσ : zEM [9] G σ) (hs : (zgi σ 0 39).toInt + 3 ≤ 40) : zok (fX12_sayMore_164 σ ) (zMtu (zEM [9] G) ((zgi σ 0 39).toInt + 3)) := by
  unfold fX12_sayMore_164
  refine zok_mu (s_X12_say hσ (by decide) (d := 3) (by decide +kernel) (by omega)) (fun σ1 i1 m2 => ?_)
  exact zok_pmu i1 (by omega) (s_X12_sayMore_325 i1.P)
theorem s_X12_sayMore_231 {G : Nat → Int} {σ : zSt} (hσ : zEM [9] G σ) {x2 : Int32} (h_x2 : zr (0) (7) x2) {s0 : Nat} (h_s0 : s0 ∈ ([165, 166] : List Nat)) (hs : (zgi σ 0 39).toInt + 9 ≤ 40) : zok (fX12_sayMore_231 σ x2 s0) (zMtu (zEM [9] G) ((zgi σ 0 39).toInt + 9)) := by
  unfold fX12_sayMore_231
  refine zok_mu (s_X12_say hσ (z_memsub h_s0 (by decide)) (d := 7) (z_kd h_s0 (by decide +kernel)) (by omega)) (fun σ2 i1 m2 => ?_)
  refine zok_mu (s_X12_sayRp i1 (zr_shr (lo := 0) (hi := 3) 1 (by decide) h_x2 (by decide)) (zr_w (zr_c (lo := 0) (hi := 0) (by decide)) (by decide)) (by omega)) (fun σ3 i4 m5 => ?_)
  exact zok_pmu i4 (by omega) (s_X12_sayMore_325 i4.P)
theorem s_X12_sayMore_316 {σ : zSt} (hσ : zPM σ) : zok (fX12_sayMore_316 σ ) (zPu σ) := by
  unfold fX12_sayMore_316
  exact (s_X12_sayMore_325 hσ)
theorem s_X12_sayMore_286 {G : Nat → Int} {σ : zSt} (hσ : zEM [9] G σ) {x2 : Int32} (h_x2 : zr (0) (7) x2) {x5 : Int32} (h_x5 : zr (0) (65535) x5) (hs : (zgi σ 0 39).toInt + 7 ≤ 40) : zok (fX12_sayMore_286 σ x2 x5) (zMtu (zEM [9] G) ((zgi σ 0 39).toInt + 7)) := by
  unfold fX12_sayMore_286
  refine zok_mu (s_X12_say hσ (by decide) (d := 1) (by decide +kernel) (by omega)) (fun σ4 i1 m2 => ?_)
  refine zok_ck (by decide) ?_
  refine zok_if (fun q4 => ?_) (fun q4 => ?_)
  · have h5 := zc_eql (0) (0) q4 (zr_rem (lo := 0) (hi := 1) 2 (by decide) h_x2 (by decide)) (zr_c (lo := 0) (hi := 0) (by decide)) (by decide)
    refine zok_mu (s_X12_sayRp i1 (zr_shr (lo := 0) (hi := 3) 1 (by decide) h_x2 (by decide)) (zr_w (zr_c (lo := 0) (hi := 0) (by decide)) (by decide)) (by omega)) (fun σ6 i6 m7 => ?_)
    exact zok_pmu i6 (by omega) (s_X12_sayMore_316 i6.P)
  have h9 := zc_nel (1) (1) q4 (zr_rem (lo := 0) (hi := 1) 2 (by decide) h_x2 (by decide)) (zr_c (lo := 0) (hi := 0) (by decide)) (by decide)
  have h10 := z_odd64 h_x2 h9 (by decide)
  refine zok_mu (s_X12_sayPlaced i1 h_x5 (by omega)) (fun σ5 i11 m12 => ?_)
  exact zok_pmu i11 (by omega) (s_X12_sayMore_316 i11.P)
theorem s_X12_sayMore_119 {G : Nat → Int} {σ : zSt} (hσ : zEM [9] G σ) {x2 : Int32} (h_x2 : zr (0) (7) x2) {x3 : Int32} (h_x3 : zr (0) (7) x3) {x4 : Int32} (h_x4 : zr (0) (3) x4) (hs : (zgi σ 0 39).toInt + 16 ≤ 40) : zok (fX12_sayMore_119 σ x2 x3 x4) (zMtu (zEM [9] G) ((zgi σ 0 39).toInt + 16)) := by
  unfold fX12_sayMore_119
  refine zok_if (fun q1 => ?_) (fun q1 => ?_)
  · have h2 := zc_eql (1) (1) q1 h_x4 (zr_c (lo := 1) (hi := 1) (by decide)) (by decide)
    refine zok_if (fun q3 => ?_) (fun q3 => ?_)
    · have h4 := zc_eql (0) (0) q3 h_x3 (zr_c (lo := 0) (hi := 0) (by decide)) (by decide)
      refine zok_mu (s_X12_say hσ (by decide) (d := 3) (by decide +kernel) (by omega)) (fun σ16 i5 m6 => ?_)
      refine zok_if (fun q8 => ?_) (fun q8 => ?_)
      · have h9 := zc_eql (6) (6) q8 h_x2 (zr_c (lo := 6) (hi := 6) (by decide)) (by decide)
        exact zok_wmu (s_X12_sayMore_164 i5 (by omega)) (by omega)
      refine zok_mu (s_X12_sayR i5 h_x2 (by omega)) (fun σ17 i10 m11 => ?_)
      refine zok_mu (s_X12_say i10 (by decide) (d := 1) (by decide +kernel) (by omega)) (fun σ18 i13 m14 => ?_)
      exact zok_wmu (s_X12_sayMore_164 i13 (by omega)) (by omega)
    have h16 := zc_nel (1) (7) q3 h_x3 (zr_c (lo := 0) (hi := 0) (by decide)) (by decide)
    refine zok_if (fun q17 => ?_) (fun q17 => ?_)
    · have h18 := zc_eql (1) (1) q17 h16 (zr_c (lo := 1) (hi := 1) (by decide)) (by decide)
      refine zok_mu (s_X12_say hσ (by decide) (d := 8) (by decide +kernel) (by omega)) (fun σ13 i19 m20 => ?_)
      refine zok_if (fun q22 => ?_) (fun q22 => ?_)
      · have h23 := zc_eql (6) (6) q22 h_x2 (zr_c (lo := 6) (hi := 6) (by decide)) (by decide)
        refine zok_mu (s_X12_say i19 (by decide) (d := 1) (by decide +kernel) (by omega)) (fun σ15 i24 m25 => ?_)
        exact zok_pmu i24 (by omega) (s_X12_sayMore_325 i24.P)
      refine zok_mu (s_X12_sayR i19 h_x2 (by omega)) (fun σ14 i27 m28 => ?_)
      exact zok_pmu i27 (by omega) (s_X12_sayMore_325 i27.P)
    have h30 := zc_nel (2) (7) q17 h16 (zr_c (lo := 1) (hi := 1) (by decide)) (by decide)
    refine zok_if (fun q31 => ?_) (fun q31 => ?_)
    · have h32 := zc_eql (2) (2) q31 h30 (zr_c (lo := 2) (hi := 2) (by decide)) (by decide)
      refine zok_ck (by decide) ?_
      refine zok_if (fun q33 => ?_) (fun q33 => ?_)
      · have h34 := zc_eql (0) (0) q33 (zr_rem (lo := 0) (hi := 1) 2 (by decide) h_x2 (by decide)) (zr_c (lo := 0) (hi := 0) (by decide)) (by decide)
        exact zok_wmu (s_X12_sayMore_231 hσ h_x2 (by decide) (by omega)) (by omega)
      have h35 := zc_nel (1) (1) q33 (zr_rem (lo := 0) (hi := 1) 2 (by decide) h_x2 (by decide)) (zr_c (lo := 0) (hi := 0) (by decide)) (by decide)
      have h36 := z_odd64 h_x2 h35 (by decide)
      exact zok_wmu (s_X12_sayMore_231 hσ h_x2 (by decide) (by omega)) (by omega)
    have h37 := zc_nel (3) (7) q31 h30 (zr_c (lo := 2) (hi := 2) (by decide)) (by decide)
    refine zok_if (fun q38 => ?_) (fun q38 => ?_)
    · have h39 := zc_eql (3) (3) q38 h37 (zr_c (lo := 3) (hi := 3) (by decide)) (by decide)
      refine zok_mu (s_X12_say hσ (by decide) (d := 3) (by decide +kernel) (by omega)) (fun σ8 i40 m41 => ?_)
      refine zok_mi (s_X12_takenWord i40 (by omega)) (fun σ9 v10 i43 m44 h45 => ?_)
      refine zok_ck (by decide) ?_
      refine zok_if (fun q46 => ?_) (fun q46 => ?_)
      · have h47 := zc_eql (0) (0) q46 (zr_rem (lo := 0) (hi := 1) 2 (by decide) h_x2 (by decide)) (zr_c (lo := 0) (hi := 0) (by decide)) (by decide)
        refine zok_mu (s_X12_sayPlaced i43 h45 (by omega)) (fun σ12 i48 m49 => ?_)
        exact zok_wmu (s_X12_sayMore_286 i48 h_x2 h45 (by omega)) (by omega)
      have h51 := zc_nel (1) (1) q46 (zr_rem (lo := 0) (hi := 1) 2 (by decide) h_x2 (by decide)) (zr_c (lo := 0) (hi := 0) (by decide)) (by decide)
      have h52 := z_odd64 h_x2 h51 (by decide)
      refine zok_mu (s_X12_sayRp i43 (zr_shr (lo := 0) (hi := 3) 1 (by decide) h_x2 (by decide)) (zr_w (zr_c (lo := 0) (hi := 0) (by decide)) (by decide)) (by omega)) (fun σ11 i53 m54 => ?_)
      exact zok_wmu (s_X12_sayMore_286 i53 h_x2 h45 (by omega)) (by omega)
    have h56 := zc_nel (4) (7) q38 h37 (zr_c (lo := 3) (hi := 3) (by decide)) (by decide)
    refine zok_mu (s_X12_sayOdd hσ h_x2 h56 (by omega)) (fun σ7 i57 m58 => ?_)
    exact zok_pmu i57 (by omega) (s_X12_sayMore_325 i57.P)
  refine zok_mu (s_X12_say hσ (by decide) (d := 3) (by decide +kernel) (by omega)) (fun σ19 i60 m61 => ?_)
  exact zok_pmu i60 (by omega) (s_X12_sayMore_325 i60.P)
theorem s_X12_sayMore_101 {G : Nat → Int} {σ : zSt} (hσ : zEM [9] G σ) {x2 : Int32} (h_x2 : zr (4) (7) x2) {s0 : Nat} (h_s0 : s0 ∈ ([95, 159] : List Nat)) (hs : (zgi σ 0 39).toInt + 2 ≤ 40) : zok (fX12_sayMore_101 σ x2 s0) (zMtu (zEM [9] G) ((zgi σ 0 39).toInt + 2)) := by
  unfold fX12_sayMore_101
  refine zok_mu (s_X12_say hσ (z_memsub h_s0 (by decide)) (d := 1) (z_kd h_s0 (by decide +kernel)) (by omega)) (fun σ20 i1 m2 => ?_)
  refine zok_if (fun q4 => ?_) (fun q4 => ?_)
  · have h5 := zc_lel (5) q4 h_x2 (zr_c (lo := 5) (hi := 5) (by decide)) (by decide)
    exact zok_pmu i1 (by omega) (s_X12_sayMore_325 i1.P)
  have h6 := zc_ltr (6) (z_nle q4) (zr_c (lo := 5) (hi := 5) (by decide)) h_x2 (by decide)
  refine zok_mu (s_X12_say i1 (by decide) (d := 1) (by decide +kernel) (by omega)) (fun σ21 i7 m8 => ?_)
  exact zok_pmu i7 (by omega) (s_X12_sayMore_325 i7.P)
theorem s_X12_sayMore_82 {G : Nat → Int} {σ : zSt} (hσ : zEM [9] G σ) {x2 : Int32} (h_x2 : zr (4) (7) x2) {s0 : Nat} (h_s0 : s0 ∈ ([154, 155, 156, 157, 158] : List Nat)) (hs : (zgi σ 0 39).toInt + 5 ≤ 40) : zok (fX12_sayMore_82 σ x2 s0) (zMtu (zEM [9] G) ((zgi σ 0 39).toInt + 5)) := by
  unfold fX12_sayMore_82
  refine zok_mu (s_X12_say hσ (z_memsub h_s0 (by decide)) (d := 3) (z_kd h_s0 (by decide +kernel)) (by omega)) (fun σ22 i1 m2 => ?_)
  refine zok_ck (by decide) ?_
  refine zok_if (fun q4 => ?_) (fun q4 => ?_)
  · have h5 := zc_eql (0) (0) q4 (zr_rem (lo := 0) (hi := 1) 2 (by decide) h_x2 (by decide)) (zr_c (lo := 0) (hi := 0) (by decide)) (by decide)
    exact zok_wmu (s_X12_sayMore_101 i1 h_x2 (by decide) (by omega)) (by omega)
  have h6 := zc_nel (1) (1) q4 (zr_rem (lo := 0) (hi := 1) 2 (by decide) h_x2 (by decide)) (zr_c (lo := 0) (hi := 0) (by decide)) (by decide)
  have h7 := z_odd64 h_x2 h6 (by decide)
  exact zok_wmu (s_X12_sayMore_101 i1 h_x2 (by decide) (by omega)) (by omega)
theorem s_X12_sayMore {G : Nat → Int} {σ : zSt} (hσ : zEM [9] G σ) {x1 : Int32} (h_x1 : zr (0) (255) x1) (hs : (zgi σ 0 39).toInt + 16 ≤ 40) : zok (fX12_sayMore σ x1) (zMtu (zEM [9] G) ((zgi σ 0 39).toInt + 16)) := by
  unfold fX12_sayMore
  refine zok_br (zr_andr (lo := 0) (hi := 7) (zr_c (lo := 7) (hi := 7) (by decide)) (by decide)) (fun v23 e2 h1 => ?_)
  refine zok_br (zr_andr (lo := 0) (hi := 7) (zr_c (lo := 7) (hi := 7) (by decide)) (by decide)) (fun v24 e4 h3 => ?_)
  refine zok_br (zr_shr (lo := 0) (hi := 3) 6 (by decide) h_x1 (by decide)) (fun v25 e6 h5 => ?_)
  refine zok_if (fun q7 => ?_) (fun q7 => ?_)
  · have h8 := zc_eql (2) (2) q7 h5 (zr_c (lo := 2) (hi := 2) (by decide)) (by decide)
    refine zok_if (fun q9 => ?_) (fun q9 => ?_)
    · have h10 := zc_lel (3) q9 h1 (zr_c (lo := 3) (hi := 3) (by decide)) (by decide)
      exact zok_wmu (s_X12_sayMore_119 hσ (zr_w h10 (by decide)) h3 (zr_w h8 (by decide)) (by omega)) (by omega)
    have h11 := zc_ltr (4) (z_nle q9) (zr_c (lo := 3) (hi := 3) (by decide)) h1 (by decide)
    refine zok_if (fun q12 => ?_) (fun q12 => ?_)
    · have h13 := zc_ler (4) q12 (zr_c (lo := 4) (hi := 4) (by decide)) h3 (by decide)
      exact zok_wmu (s_X12_sayMore_119 hσ (zr_w h11 (by decide)) (zr_w h13 (by decide)) (zr_w h8 (by decide)) (by omega)) (by omega)
    have h14 := zc_ltl (3) (z_nle q12) h3 (zr_c (lo := 4) (hi := 4) (by decide)) (by decide)
    refine zok_if (fun q15 => ?_) (fun q15 => ?_)
    · have h16 := zc_eql (0) (0) q15 h14 (zr_c (lo := 0) (hi := 0) (by decide)) (by decide)
      exact zok_wmu (s_X12_sayMore_82 hσ h11 (by decide) (by omega)) (by omega)
    have h17 := zc_nel (1) (3) q15 h14 (zr_c (lo := 0) (hi := 0) (by decide)) (by decide)
    refine zok_if (fun q18 => ?_) (fun q18 => ?_)
    · have h19 := zc_eql (1) (1) q18 h17 (zr_c (lo := 1) (hi := 1) (by decide)) (by decide)
      exact zok_wmu (s_X12_sayMore_82 hσ h11 (by decide) (by omega)) (by omega)
    have h20 := zc_nel (2) (3) q18 h17 (zr_c (lo := 1) (hi := 1) (by decide)) (by decide)
    refine zok_if (fun q21 => ?_) (fun q21 => ?_)
    · have h22 := zc_eql (2) (2) q21 h20 (zr_c (lo := 2) (hi := 2) (by decide)) (by decide)
      exact zok_wmu (s_X12_sayMore_82 hσ h11 (by decide) (by omega)) (by omega)
    have h23 := zc_nel (3) (3) q21 h20 (zr_c (lo := 2) (hi := 2) (by decide)) (by decide)
    refine zok_if (fun q24 => ?_) (fun q24 => ?_)
    · have h25 := zc_ler (6) q24 (zr_c (lo := 6) (hi := 6) (by decide)) h11 (by decide)
      exact zok_wmu (s_X12_sayMore_82 hσ (zr_w h25 (by decide)) (by decide) (by omega)) (by omega)
    have h26 := zc_ltl (5) (z_nle q24) h11 (zr_c (lo := 6) (hi := 6) (by decide)) (by decide)
    exact zok_wmu (s_X12_sayMore_82 hσ (zr_w h26 (by decide)) (by decide) (by omega)) (by omega)
  exact zok_wmu (s_X12_sayMore_119 hσ h1 h3 h5 (by omega)) (by omega)
theorem s_X12_tell_112 {σ : zSt} (hσ : zPM σ) {x2 : Int32} (h_x2 : zr (0) (65535) x2) : zok (fX12_tell_112 σ x2) (zPi σ (fun v : Int32 => True)) := by
  unfold fX12_tell_112
  exact zok_spi trivial
theorem s_X12_tell_65 {G : Nat → Int} {σ : zSt} (hσ : zEM [9] G σ) {x2 : Int32} (h_x2 : zr (0) (65535) x2) {s0 : Int32} (h_s0 : zr (1) (2) s0) (hs : (zgi σ 0 39).toInt ≤ 0) : zok (fX12_tell_65 σ x2 s0) (zAi (zEM [9] G) (fun v : Int32 => True)) := by
  unfold fX12_tell_65
  refine zok_mu (s_X12_sayPrefixed hσ h_s0 (by omega)) (fun σ1 i1 m2 => ?_)
  exact zok_pai i1 (s_X12_tell_112 i1.P h_x2)
theorem s_X12_tell_52 {G : Nat → Int} {σ : zSt} (hσ : zEM [9] G σ) {x2 : Int32} (h_x2 : zr (0) (65535) x2) {x3 : Int32} (h_x3 : zr (221) (253) x3) (hs : (zgi σ 0 39).toInt ≤ 0) : zok (fX12_tell_52 σ x2 x3) (zAi (zEM [9] G) (fun v : Int32 => True)) := by
  unfold fX12_tell_52
  refine zok_if (fun q1 => ?_) (fun q1 => ?_)
  · have h2 := zc_eql (221) (221) q1 h_x3 (zr_c (lo := 221) (hi := 221) (by decide)) (by decide)
    exact (s_X12_tell_65 hσ h_x2 (zr_w (zr_c (lo := 1) (hi := 1) (by decide)) (by decide)) hs)
  have h3 := zc_nel (222) (253) q1 h_x3 (zr_c (lo := 221) (hi := 221) (by decide)) (by decide)
  exact (s_X12_tell_65 hσ h_x2 (zr_w (zr_c (lo := 2) (hi := 2) (by decide)) (by decide)) hs)
theorem s_X12_tell {G : Nat → Int} {σ : zSt} (hσ : zEM [9] G σ) {x1 : Int32} : zok (fX12_tell σ x1) (zAi (zEM [9] G) (fun v : Int32 => True)) := by
  unfold fX12_tell
  refine zok_bs (hσ.wi 0 0 (by decide) (zr_c (lo := 0) (hi := 0) (by decide)) (by decide +kernel)) (fun σ2 e2 i1 => ?_)
  refine zok_bs (i1.wi 39 39 (by decide) (zr_c (lo := 0) (hi := 0) (by decide)) (by decide +kernel)) (fun σ3 e4 i3 => ?_)
  refine zok_bs (i3.wi 40 40 (by decide) (zr_andr (lo := 0) (hi := 65535) (zr_c (lo := 65535) (hi := 65535) (by decide)) (by decide)) (by decide +kernel)) (fun σ4 e6 i5 => ?_)
  refine zok_bs (i5.wi 41 41 (by decide) (zr_c (lo := 0) (hi := 0) (by decide)) (by decide +kernel)) (fun σ5 e8 i7 => ?_)
  refine zok_ck rfl ?_
  refine zok_bs (i7.wi 42 42 (by decide) (zr_c (lo := 0) (hi := 0) (by decide)) (by decide +kernel)) (fun σ6 e10 i9 => ?_)
  refine zok_br (z_trj e10 (by decide) (z_trj e8 (by decide) (z_own e6 (zr_andr (lo := 0) (hi := 65535) (zr_c (lo := 65535) (hi := 65535) (by decide)) (by decide))))) (fun v7 e12 h11 => ?_)
  have s9 := (z_trj (j1 := 39) e10 (by decide) (z_trj (j1 := 39) e8 (by decide) (z_trj (j1 := 39) e6 (by decide) (z_own e4 (zr_c (lo := 0) (hi := 0) (x := 0) (by decide)))))).2
  refine zok_mi (s_X12_taken i9 (by omega)) (fun σ8 v9 i13 m14 h15 => ?_)
  refine zok_if (fun q16 => ?_) (fun q16 => ?_)
  · have h17 := zc_eql (221) (221) q16 h15 (zr_c (lo := 221) (hi := 221) (by decide)) (by decide)
    exact (s_X12_tell_52 i13 h11 (zr_w h17 (by decide)) (by omega))
  refine zok_if (fun q18 => ?_) (fun q18 => ?_)
  · have h19 := zc_eql (253) (253) q18 h15 (zr_c (lo := 253) (hi := 253) (by decide)) (by decide)
    exact (s_X12_tell_52 i13 h11 (zr_w h19 (by decide)) (by omega))
  refine zok_if (fun q20 => ?_) (fun q20 => ?_)
  · have h21 := zc_eql (203) (203) q20 h15 (zr_c (lo := 203) (hi := 203) (by decide)) (by decide)
    refine zok_mi (s_X12_taken i13 (by omega)) (fun σ14 v15 i22 m23 h24 => ?_)
    refine zok_mu (s_X12_sayTurn i22 h24 (by omega)) (fun σ16 i25 m26 => ?_)
    exact zok_pai i25 (s_X12_tell_112 i25.P h11)
  refine zok_if (fun q28 => ?_) (fun q28 => ?_)
  · have h29 := zc_eql (237) (237) q28 h15 (zr_c (lo := 237) (hi := 237) (by decide)) (by decide)
    refine zok_mi (s_X12_taken i13 (by omega)) (fun σ11 v12 i30 m31 h32 => ?_)
    refine zok_mu (s_X12_sayMore i30 h32 (by omega)) (fun σ13 i33 m34 => ?_)
    exact zok_pai i33 (s_X12_tell_112 i33.P h11)
  refine zok_mu (s_X12_sayPlain i13 h15 (by omega)) (fun σ10 i36 m37 => ?_)
  exact zok_pai i36 (s_X12_tell_112 i36.P h11)
theorem s_X12_text_70 {σ : zSt} {k37 : zSt → Int32 → Int64 → Int32 → Option (zSt × Int64)} {Mk37 : Int} (hk37 : ∀ (x1 : Int32) (x2 : Int64) (x4 : Int32), zr (0) (39) x1 → zr (-1) (7) x4 → x4.toInt - (-1) < Mk37 → zok (k37 σ x1 x2 x4) (zPl σ (fun v : Int64 => True))) (hσ : zPM σ) {x1 : Int32} (h_x1 : zr (0) (39) x1) {x4 : Int32} (h_x4 : zr (0) (7) x4) {s0 : Int32} {s1 : Int64} (hMk37 : x4.toInt - (-1) ≤ Mk37) : zok (fX12_text_70 k37 σ x1 x4 s0 s1) (zPl σ (fun v : Int64 => True)) := by
  unfold fX12_text_70
  refine zok_bv (fun v1 e2 => ?_)
  refine zok_br (zr_add (lo := -1) (hi := 6) h_x4 (zr_c (lo := -1) (hi := -1) (by decide)) (by decide)) (fun v2 e4 h3 => ?_)
  exact hk37 _ _ _  h_x1 (zr_w h3 (by decide)) (by rw [e4]; have := z_tadd (y := (-1 : Int32)) h_x4 (zr_c (lo := -1) (hi := -1) (by decide)) (by decide); have e9 : (-1 : Int32).toInt = -1 := rfl; omega) 
theorem s_X12_text_37_body {σ : zSt} {k37 : zSt → Int32 → Int64 → Int32 → Option (zSt × Int64)} {Mk37 : Int} (hk37 : ∀ (x1 : Int32) (x2 : Int64) (x4 : Int32), zr (0) (39) x1 → zr (-1) (7) x4 → x4.toInt - (-1) < Mk37 → zok (k37 σ x1 x2 x4) (zPl σ (fun v : Int64 => True))) (hσ : zPM σ) {x1 : Int32} (h_x1 : zr (0) (39) x1) {x2 : Int64} {x4 : Int32} (h_x4 : zr (-1) (7) x4) (hMk37 : x4.toInt - (-1) ≤ Mk37) : zok (fX12_text_37_body k37 σ x1 x2 x4) (zPl σ (fun v : Int64 => True)) := by
  unfold fX12_text_37_body
  refine zok_if (fun q1 => ?_) (fun q1 => ?_)
  · have h2 := zc_ltl (-1) q1 h_x4 (zr_c (lo := 0) (hi := 0) (by decide)) (by decide)
    exact zok_spl trivial
  have h3 := zc_ler (0) (z_nlt q1) (zr_c (lo := 0) (hi := 0) (by decide)) h_x4 (by decide)
  refine zok_if (fun q4 => ?_) (fun q4 => ?_)
  · exact (s_X12_text_70 hk37 hσ h_x1 h3 hMk37)
  have h5 := zc_ltl (39) (z_nle q4) (zr_add (lo := 0) (hi := 46) h_x1 h3 (by decide)) (rM_8 hσ.sg _ (by decide)) (by decide)
  have h6 := zc_ltr (1) (z_nle q4) (zr_add (lo := 0) (hi := 46) h_x1 h3 (by decide)) (rM_8 hσ.sg _ (by decide)) (by decide)
  refine zok_ck (zin_ok h5 (by decide)) ?_
  exact (s_X12_text_70 hk37 hσ h_x1 h3 hMk37)
theorem s_X12_text_37 {σ : zSt} (hσ : zPM σ) : ∀ (n : Nat) {x1 : Int32} (h_x1 : zr (0) (39) x1) {x2 : Int64} {x4 : Int32} (h_x4 : zr (-1) (7) x4) (hm : x4.toInt - (-1) < n), zok (fX12_text_37 n σ x1 x2 x4) (zPl σ (fun v : Int64 => True)) := by
  intro n
  induction n with
  | zero => intro x1 h_x1 x2 x4 h_x4 hm ; have h9 := h_x4.1; have h8 := h_x4.2; exfalso; omega
  | succ n ih => intro x1 h_x1 x2 x4 h_x4 hm ; exact s_X12_text_37_body (fun x1 x2 x4 h_x1 h_x4 hm1 => ih h_x1 h_x4 (by omega)) hσ h_x1 h_x4 (Int.le_refl _)
theorem s_X12_text {G : Nat → Int} {σ : zSt} (hσ : zIM G σ) {x1 : Int32} : zok (fX12_text σ x1) (zAL (zIM G) (fun v : Int64 => True)) := by
  unfold fX12_text
  refine zok_within (fun w1 w2 => ?_) (fun w3 => ?_)
  · have h4 := z_wir w1 w2 (zrl_c (lo := 0) (hi := 0) (by decide)) (zrl_i (zr_sub (lo := -1) (hi := 39) (rM_8 hσ.sg _ (by decide)) (zr_c (lo := 1) (hi := 1) (by decide)) (by decide)))
    refine zok_if (fun q5 => ?_) (fun q5 => ?_)
    · exact zr_no (zc_eql (1) (0) q5 (zr_c (lo := 1) (hi := 1) (by decide)) (zr_c (lo := 0) (hi := 0) (by decide)) (by decide)) (by decide)
    unfold fX12_text_22
    refine zok_fails0 (hσ.wi 0 0 (by decide) zr_any (by decide +kernel)) (fun σ3 e6 i7 => ?_)
    refine zok_if (fun q8 => ?_) (fun q8 => ?_)
    · exact zok_pal i7 (s_X12_text_37 i7.P zfuel h4 (zr_w (zr_c (lo := 7) (hi := 7) (by decide)) (by decide)) (by decide))
    exact zr_no (zc_nel (1) (0) q8 (zr_c (lo := 0) (hi := 0) (by decide)) (zr_c (lo := 0) (hi := 0) (by decide)) (by decide)) (by decide)
  refine zok_if (fun q9 => ?_) (fun q9 => ?_)
  · unfold fX12_text_22
    refine zok_fails1 (hσ.wi 0 0 (by decide) zr_any (by decide +kernel)) (fun σ3 e10 i11 => ?_)
    refine zok_if (fun q12 => ?_) (fun q12 => ?_)
    · exact zr_no (zc_eql (1) (0) q12 (zr_c (lo := 1) (hi := 1) (by decide)) (zr_c (lo := 0) (hi := 0) (by decide)) (by decide)) (by decide)
    exact zok_sal i11 trivial
  exact zr_no (zc_nel (1) (0) q9 (zr_c (lo := 0) (hi := 0) (by decide)) (zr_c (lo := 0) (hi := 0) (by decide)) (by decide)) (by decide)
end ZJN6
section ZJN7
/-! FRESH, the reference: zS0 has the invariant; anew leaves line and beat 0 -/
theorem zM0_sg : ∀ s ∈ sM, s.2.2.2.1 ≤ 0 ∧ 0 ≤ s.2.2.2.2 := by decide +kernel
theorem zM0 : zIM (fun _ => 0) zS0 := by
  refine ⟨⟨fun s hs j _ _ => ?_, fun i z _ => rfl, fun i z _ => rfl, Or.inl rfl⟩, Or.inl rfl, ⟨fun i _ => ?_, fun i _ => ?_⟩, fun i _ => ?_, fun i _ => ?_⟩
  · exact zM0_sg s hs
  · exact zr_c (x := 0) (by decide)
  · exact zr_c (x := 0) (by decide)
  · exact zr_c (x := 0) (by decide)
  · exact zr_c (x := 0) (by decide)
theorem s_anew_24x : ∀ (n : Nat) {G : Nat → Int} {σ : zSt} (hσ : zIM G σ) {x1 : Int32} (h1 : zr 47 87 x1) (h3 : 66 < x1.toInt → G 3 = 0) (h4 : 67 < x1.toInt → G 4 = 0) (hm : 87 - x1.toInt < n), zok (fX12_anew_24 n σ x1) (zIM (zset (zset G 3 0) 4 0)) := by
  intro n
  induction n with
  | zero => intro G σ hσ x1 h1 h3 h4 hm; have := h1.2; exfalso; omega
  | succ n ih =>
    intro G σ hσ x1 h1 h3 h4 hm
    show zok (fX12_anew_24_body (fX12_anew_24 n) σ x1) _
    unfold fX12_anew_24_body
    have c87 : (87 : Int32).toInt = 87 := rfl
    refine zok_if (fun q => ?_) (fun q => ?_)
    · have q1 := Int32.le_iff_toInt_le.mp q
      have e : zset (zset G 3 0) 4 0 = G := by
        have t : zset (zset G 3 (G 3)) 4 (G 4) = G := by rw [zset_id, zset_id]
        rw [h3 (by omega), h4 (by omega)] at t
        exact t
      rw [e]
      refine zok_ck rfl ?_
      refine zok_bs (I := zIM G) (hσ.wi 18 18 (by decide) (zr_c (lo := 57328) (hi := 57328) (by decide)) (by decide +kernel)) (fun σ19 e4 i3 => ?_)
      refine zok_ck rfl ?_
      refine zok_bs (I := zIM G) (i3.wi 30 30 (by decide) (zr_c (lo := 1) (hi := 1) (by decide)) (by decide +kernel)) (fun σ20 e6 i5 => ?_)
      exact zok_if (fun _ => s_X12_anew_79 i5 (zr_w (zr_c (lo := 0) (hi := 0) (by decide)) (by decide)) (zr_c (lo := 31) (hi := 31) (by decide))) (fun _ => s_X12_anew_79 i5 (zr_w (zr_c (lo := 2) (hi := 2) (by decide)) (by decide)) (zr_c (lo := 31) (hi := 31) (by decide)))
    · have q1 := Int32.lt_iff_toInt_lt.mp (z_nle q)
      have h5 : zr 47 86 x1 := ⟨h1.1, by omega⟩
      have b1 := h1.1
      have c1 : (1 : Int32).toInt = 1 := rfl
      have t : (x1 + 1).toInt = x1.toInt + (1 : Int32).toInt := z_tadd h5 (zr_c (lo := 1) (hi := 1) (x := 1) (by decide)) (by decide)
      have nx : ∀ (G1 : Nat → Int) (σ1 : zSt), zIM G1 σ1 → (66 ≤ x1.toInt → G1 3 = 0) → (67 ≤ x1.toInt → G1 4 = 0) → zset (zset G1 3 0) 4 0 = zset (zset G 3 0) 4 0 → zok (zbv (x1 + 1) (fun v22 => fX12_anew_24 n σ1 v22)) (zIM (zset (zset G 3 0) 4 0)) := fun G1 σ1 i a b e => by
        refine zok_bv (fun v e9 => ?_)
        subst e9
        rw [← e]
        exact ih i ⟨by omega, by omega⟩ (fun h => a (by omega)) (fun h => b (by omega)) (by omega)
      refine zok_ck (zin_ok h5 (by decide)) ?_
      by_cases c6 : x1.toInt = 66
      · have ex : x1 = 66 := Int32.toInt_inj.mp (by rw [c6]; rfl)
        subst ex
        exact zok_bs (I := zIM (zset G 3 0)) (zIM.wg (v := 0) 3 hσ (by decide) (by decide) (zr_c (lo := 0) (hi := 0) (by decide)) (by decide +kernel)) (fun σ1 e i => nx _ _ i (fun _ => zset_eq) (fun h => absurd h (by decide)) (by rw [zset_set]))
      · by_cases c7 : x1.toInt = 67
        · have ex : x1 = 67 := Int32.toInt_inj.mp (by rw [c7]; rfl)
          subst ex
          exact zok_bs (I := zIM (zset G 4 0)) (zIM.wg (v := 0) 4 hσ (by decide) (by decide) (zr_c (lo := 0) (hi := 0) (by decide)) (by decide +kernel)) (fun σ1 e i => nx _ _ i (fun _ => by rw [zset_ne (by decide)]; exact h3 (by decide)) (fun _ => zset_eq) (by rw [zset_com (i := 4) (k := 3) (by decide), zset_set]))
        · by_cases c8 : x1.toInt < 66
          · have h6 : zr 47 65 x1 := ⟨b1, by omega⟩
            exact zok_bs (I := zIM G) (hσ.wi 47 65 (z_ix h6 (by decide)) (zr_c (lo := 0) (hi := 0) (by decide)) (by decide +kernel)) (fun σ1 e i => nx _ _ i (fun h => absurd h (by omega)) (fun h => absurd h (by omega)) rfl)
          · have h6 : zr 68 86 x1 := ⟨by omega, by omega⟩
            exact zok_bs (I := zIM G) (hσ.wi 68 86 (z_ix h6 (by decide)) (zr_c (lo := 0) (hi := 0) (by decide)) (by decide +kernel)) (fun σ1 e i => nx _ _ i (fun _ => h3 (by omega)) (fun _ => h4 (by omega)) rfl)
theorem s_anew_2x : ∀ (n : Nat) {G : Nat → Int} {σ : zSt} (hσ : zIM G σ) {x1 : Int32} (h1 : zr 0 42 x1) (hm : 42 - x1.toInt < n), zok (fX12_anew_2 n σ x1) (zIM (zset (zset G 3 0) 4 0)) := by
  intro n
  induction n with
  | zero => intro G σ hσ x1 h1 hm; have := h1.2; exfalso; omega
  | succ n ih =>
    intro G σ hσ x1 h1 hm
    show zok (fX12_anew_2_body (fX12_anew_2 n) σ x1) _
    unfold fX12_anew_2_body
    have c42 : (42 : Int32).toInt = 42 := rfl
    refine zok_if (fun q => ?_) (fun q => ?_)
    · exact s_anew_24x zfuel hσ (zr_c (by decide)) (fun h => absurd h (by decide)) (fun h => absurd h (by decide)) (by decide)
    · have q1 := Int32.lt_iff_toInt_lt.mp (z_nle q)
      have h5 : zr 0 41 x1 := ⟨h1.1, by omega⟩
      have b1 := h1.1
      have c1 : (1 : Int32).toInt = 1 := rfl
      have t : (x1 + 1).toInt = x1.toInt + (1 : Int32).toInt := z_tadd h5 (zr_c (lo := 1) (hi := 1) (x := 1) (by decide)) (by decide)
      refine zok_ck (zin_ok h5 (by decide)) ?_
      refine zok_bs (I := zIM G) (hσ.wi 0 41 (z_ix h5 (by decide)) (zr_c (lo := 0) (hi := 0) (by decide)) (by decide +kernel)) (fun σ1 e i => ?_)
      refine zok_bv (fun v e9 => ?_)
      subst e9
      exact ih i ⟨by omega, by omega⟩ (by omega)
/-- anew, exactly -/
theorem s_anewx {G : Nat → Int} {σ : zSt} (hσ : zIM G σ) : zok (fX12_anew σ) (zIM (zset (zset G 3 0) 4 0)) := by
  unfold fX12_anew
  exact s_anew_2x zfuel hσ (zr_c (by decide)) (by decide)
noncomputable def zG0 (k : Int32) : Nat → Int := zset (zset (zset (fun _ => 0) 1 k.toInt) 3 0) 4 0
/-- the reference's fresh state -/
theorem s_freshM {k : Int32} (hk : zr 0 2 k) : zok (fX12_anew (zsi (zsi (zsi (zsi (zsi zS0 0 8 (-1)) 0 3 k) 3 44 0) 3 45 1) 3 46 1)) (zIM (zG0 k)) := by
  have h1 : zIM (fun _ => 0) (zsi zS0 0 8 (-1)) := zM0.wi 8 8 (by decide) (zr_c (lo := -1) (hi := -1) (by decide)) (by decide +kernel)
  have h2 : zIM (zset (fun _ => 0) 1 k.toInt) (zsi (zsi zS0 0 8 (-1)) 0 3 k) := h1.wg 1 (by decide) (by decide) hk (by decide +kernel)
  have h3 := h2.wi (k := 3) (j := 44) (v := 0) 44 44 (by decide) (zr_c (lo := 0) (hi := 0) (by decide)) (by decide +kernel)
  have h4 := h3.wi (k := 3) (j := 45) (v := 1) 45 45 (by decide) (zr_c (lo := 1) (hi := 1) (by decide)) (by decide +kernel)
  have h5 := h4.wi (k := 3) (j := 46) (v := 1) 46 46 (by decide) (zr_c (lo := 1) (hi := 1) (by decide)) (by decide +kernel)
  exact s_anewx h5
theorem zG0_J {k : Int32} (hk : zr 0 2 k) : zK 0 (zG0 k) := by
  have v : ∀ i, ¬ i = 1 → zG0 k i = 0 := fun i h1 => by
    unfold zG0 zset
    split
    · rfl
    · split
      · rfl
      · first | rfl | rw [if_neg h1]
  have lb := zln_b (zG0 k)
  unfold zK zGJ zJ
  rw [v 100 (by decide), v 103 (by decide), v 104 (by decide), v 101 (by decide), v 3 (by decide), v 4 (by decide), v 5 (by decide)]
  omega
end ZJN7
section ZJN8
noncomputable def sZ : List zSeg := [(1, 2, 2, 0, 262656), (1, 3, 3, 0, 512), (1, 4, 4, 0, 262144), (1, 5, 5, 0, 16), (1, 7, 7, -1, 32752), (7, 5, 5, 0, 65535), (40, 8, 8, 0, 8), (41, 8, 8, 0, 8), (10, 2, 2, 0, 32), (5, 3, 3, 0, 8), (13, 0, 262655, 0, 255), (14, 0, 262655, 0, 255), (15, 0, 8191, 0, 255), (16, 0, 8191, 0, 255), (17, 0, 32767, 0, 255), (18, 0, 32767, 0, 255), (19, 0, 3, 0, 255), (20, 0, 3, 0, 255), (21, 0, 16383, 0, 255), (22, 0, 16383, 0, 255), (36, 0, 15, 0, 255), (36, 16, 20, 0, 65535), (36, 21, 22, 0, 255), (36, 23, 24, 0, 1), (36, 25, 25, 0, 2), (36, 26, 28, 0, 1), (36, 0, 20, 0, 65535), (37, 0, 15, 0, 255), (37, 16, 20, 0, 65535), (37, 21, 22, 0, 255), (37, 23, 24, 0, 1), (37, 25, 25, 0, 2), (37, 26, 28, 0, 1), (37, 0, 20, 0, 65535), (23, 0, 10, 0, 255), (23, 11, 11, 0, 16383), (23, 12, 12, 0, 3), (23, 13, 13, 0, 255), (23, 14, 14, 0, 1), (23, 15, 15, 0, 255), (23, 19, 19, 0, 255), (23, 21, 21, 0, 227), (23, 26, 26, 0, 255), (23, 32, 95, 0, 255), (24, 0, 10, 0, 255), (24, 11, 11, 0, 16383), (24, 12, 12, 0, 3), (24, 13, 13, 0, 255), (24, 14, 14, 0, 1), (24, 15, 15, 0, 255), (24, 19, 19, 0, 255), (24, 21, 21, 0, 227), (24, 26, 26, 0, 255), (24, 32, 95, 0, 255), (34, 0, 6, 0, 255), (34, 10, 11, 0, 1), (35, 0, 6, 0, 255), (35, 10, 11, 0, 1), (30, 17, 17, 0, 7), (31, 17, 17, 0, 7), (32, 64, 64, 0, 3), (33, 64, 64, 0, 3)]
noncomputable def zZZ : List (Nat × Nat) := []
noncomputable def zLZ : List (Nat × Nat) := []
noncomputable def zQZ : Nat × Nat × Int := (7, 999, 0)
noncomputable def zIZ (G : Nat → Int) (σ : zSt) : Prop := zIV sZ zZZ zLZ zQZ G σ
noncomputable def zPZ (σ : zSt) : Prop := zSg sZ σ ∧ zSp zQZ σ
noncomputable def zEZ (l : List Nat) (G : Nat → Int) (σ : zSt) : Prop := ∃ G1, zIZ G1 σ ∧ ∀ i, ¬ i ∈ l → G1 i = G i
section ZSZ
variable {G : Nat → Int} {σ : zSt} {l : List Nat}
theorem zIZ.sg (h : zIZ G σ) : zSg sZ σ := h.1
theorem zIZ.sp (h : zIZ G σ) : zSp zQZ σ := h.2.2.2
theorem zIZ.fz (h : zIZ G σ) : zFz zZZ G σ := h.2.1
theorem zIZ.fl (h : zIZ G σ) : zFl zLZ G σ := h.2.2.1
theorem zIZ.P (h : zIZ G σ) : zPZ σ := ⟨h.sg, h.sp⟩
theorem zPZ.sg (h : zPZ σ) : zSg sZ σ := h.1
theorem zPZ.sp (h : zPZ σ) : zSp zQZ σ := h.2
theorem zIZ.E (h : zIZ G σ) : zEZ l G σ := ⟨G, h, fun _ _ => rfl⟩
theorem zEZ.sg (h : zEZ l G σ) : zSg sZ σ := by obtain ⟨G1, h1, _⟩ := h; exact h1.sg
theorem zEZ.sp (h : zEZ l G σ) : zSp zQZ σ := by obtain ⟨G1, h1, _⟩ := h; exact h1.sp
theorem zEZ.P (h : zEZ l G σ) : zPZ σ := by obtain ⟨G1, h1, _⟩ := h; exact h1.P
theorem zIZ.wi {k j : Nat} {v : Int32} {lo hi : Int} (h : zIZ G σ) (a b : Nat) (hj : a ≤ j ∧ j ≤ b) (hv : zr lo hi v) (c : zWi sZ zZZ zQZ k a b lo hi = true) : zIZ G (zsi σ k j v) := zIV_i a b h hj hv c
theorem zIZ.wk {k j : Nat} {v : Int32} (h : zIZ G σ) (c : zWk sZ zZZ zQZ k = true) : zIZ G (zsi σ k j v) := zIV_k h c
theorem zIZ.wl {k j : Nat} {v : Int64} (h : zIZ G σ) (a b : Nat) (hj : a ≤ j ∧ j ≤ b) (c : zLZ.all (fun z => !Nat.beq z.1 k || (Nat.blt b z.2 || Nat.blt z.2 a)) = true) : zIZ G (zsl σ k j v) := zIV_l a b h hj c
theorem zIZ.wc {k0 k1 sp dp n : Nat} (h : zIZ G σ) (c : zWc sZ zZZ zQZ k0 k1 = true) (e0 : sp = 0) (e1 : dp = 0) : zIZ G (zcpi σ k0 k1 sp dp n) := zIV_c h c e0 e1
theorem zIZ.wcl {k0 k1 sp dp n : Nat} (h : zIZ G σ) (c : zLZ.all (fun z => !Nat.beq z.1 k1) = true) : zIZ G (zcpl σ k0 k1 sp dp n) := zIV_cl h c
theorem zIZ.sp0 {v : Int32} {lo hi : Int} (h : zIZ G σ) (hv : zr lo hi v) (c : (decide (lo = 0 ∧ hi = 0) && zWs sZ zZZ zQZ lo hi) = true) : zIZ G (zsi σ 7 999 v) := by
  rw [Bool.and_eq_true] at c
  have e := of_decide_eq_true c.1
  have h1 := hv.1
  have h2 := hv.2
  exact zIV_s h hv c.2 (Or.inl (by show v.toInt = 0; omega))
theorem zIZ.sp1 {v : Int32} {lo hi : Int} (h : zIZ G σ) (hv : zr lo hi v) (c : (decide (16 ≤ lo) && zWs sZ zZZ zQZ lo hi) = true) : zIZ G (zsi σ 7 999 v) := by
  rw [Bool.and_eq_true] at c
  have e := of_decide_eq_true c.1
  have h1 := hv.1
  exact zIV_s h hv c.2 (Or.inr (by omega))
theorem zIZ.we {k j : Nat} {v : Int32} {lo hi : Int} (h : zIZ G σ) (a b : Nat) (hj : a ≤ j ∧ j ≤ b) (hv : zr lo hi v) (c : zWe sZ zZZ zQZ l k a b lo hi = true) : zEZ l G (zsi σ k j v) := zIV_e a b h hj hv c
theorem zEZ.lift {σ1 : zSt} (h : zEZ l G σ) (k : ∀ G1, zIZ G1 σ → zIZ G1 σ1) : zEZ l G σ1 := by obtain ⟨G1, h1, g1⟩ := h; exact ⟨G1, k G1 h1, g1⟩
theorem zEZ.wi {k j : Nat} {v : Int32} {lo hi : Int} (h : zEZ l G σ) (a b : Nat) (hj : a ≤ j ∧ j ≤ b) (hv : zr lo hi v) (c : zWe sZ zZZ zQZ l k a b lo hi = true) : zEZ l G (zsi σ k j v) := by
  obtain ⟨G1, h1, g1⟩ := h
  obtain ⟨G2, h2, g2⟩ := h1.we a b hj hv c
  exact ⟨G2, h2, fun i hi => (g2 i hi).trans (g1 i hi)⟩
theorem zEZ.wk {k j : Nat} {v : Int32} (h : zEZ l G σ) (c : zWk sZ zZZ zQZ k = true) : zEZ l G (zsi σ k j v) := h.lift (fun _ h1 => h1.wk c)
theorem zEZ.wl {k j : Nat} {v : Int64} (h : zEZ l G σ) (a b : Nat) (hj : a ≤ j ∧ j ≤ b) (c : zLZ.all (fun z => !Nat.beq z.1 k || (Nat.blt b z.2 || Nat.blt z.2 a)) = true) : zEZ l G (zsl σ k j v) := h.lift (fun _ h1 => h1.wl a b hj c)
theorem zEZ.sub {l1 : List Nat} (h : zEZ l1 G σ) (c : l1.all (fun i => l.contains i) = true) : zEZ l G σ := by
  obtain ⟨G1, h1, g1⟩ := h
  rw [List.all_eq_true] at c
  exact ⟨G1, h1, fun i hi => g1 i (fun r => hi (List.contains_iff_mem.mp (c i r)))⟩
theorem zEZ.uEi {o : Option (zSt × Int32)} {Q : Int32 → Prop} {l1 : List Nat} (h : zEZ l G σ) (c : l1.all (fun i => l.contains i) = true) (k : ∀ G1, zEZ l1 G1 σ → zok o (zAi (zEZ l1 G1) Q)) : zok o (zAi (zEZ l G) Q) := by
  obtain ⟨G1, h1, g1⟩ := h
  rw [List.all_eq_true] at c
  have k1 : ∀ x, zEZ l1 G1 x → zEZ l G x := fun x hx => by
    obtain ⟨G2, h2, g2⟩ := hx
    exact ⟨G2, h2, fun i hi => (g2 i (fun r => hi (List.contains_iff_mem.mp (c i r)))).trans (g1 i hi)⟩
  exact zok_mono (k G1 h1.E) (fun r q => ⟨k1 _ q.1, q.2⟩)
theorem zEZ.upu {o : Option zSt} (h : zEZ l G σ) (k : ∀ G1, zIZ G1 σ → zok o (zIZ G1)) : zok o (zEZ l G) := by
  obtain ⟨G1, h1, g1⟩ := h
  exact zok_mono (k G1 h1) (fun r q => ⟨G1, q, g1⟩)
theorem zEZ.upTi {o : Option zRi} {ks : List Nat} (h : zEZ l G σ) (k : ∀ G1, zIZ G1 σ → zok o (zTi (zIZ G1) ks)) : zok o (zTi (zEZ l G) ks) := by
  obtain ⟨G1, h1, g1⟩ := h
  exact zok_mono (k G1 h1) (fun r q => ⟨⟨G1, q.1, g1⟩, q.2⟩)
end ZSZ
theorem s0_X4_clear {G : Nat → Int} {σ : zSt} (hσ : zIZ G σ) : zok (fX4_clear σ ) (zIZ G) := by
  unfold fX4_clear
  refine zok_ck rfl ?_
  refine zok_bs (hσ.wi 0 0 (by decide) (zr_c (lo := 255) (hi := 255) (by decide)) (by decide +kernel)) (fun σ1 e2 i1 => ?_)
  refine zok_ck rfl ?_
  refine zok_bs (i1.wi 1 1 (by decide) (zr_c (lo := 127) (hi := 127) (by decide)) (by decide +kernel)) (fun σ2 e4 i3 => ?_)
  refine zok_ck rfl ?_
  refine zok_bs (i3.wi 2 2 (by decide) (zr_c (lo := 255) (hi := 255) (by decide)) (by decide +kernel)) (fun σ3 e6 i5 => ?_)
  refine zok_ck rfl ?_
  refine zok_bs (i5.wi 3 3 (by decide) (zr_c (lo := 0) (hi := 0) (by decide)) (by decide +kernel)) (fun σ4 e8 i7 => ?_)
  refine zok_ck rfl ?_
  refine zok_bs (i7.wi 4 4 (by decide) (zr_c (lo := 255) (hi := 255) (by decide)) (by decide +kernel)) (fun σ5 e10 i9 => ?_)
  refine zok_ck rfl ?_
  refine zok_bs (i9.wi 5 5 (by decide) (zr_c (lo := 0) (hi := 0) (by decide)) (by decide +kernel)) (fun σ6 e12 i11 => ?_)
  refine zok_ck rfl ?_
  refine zok_bs (i11.wi 6 6 (by decide) (zr_c (lo := 0) (hi := 0) (by decide)) (by decide +kernel)) (fun σ7 e14 i13 => ?_)
  exact zok_some i13
theorem s0_J7_fill_53178_k30_5_body {G : Nat → Int} {σ : zSt} {k5 : zSt → Int32 → Int32 → Int32 → Option (zSt)} {Mk5 : Int} (hk5 : ∀ (σ : zSt) (x1 : Int32) (x2 : Int32) (x3 : Int32), zIZ G σ → zr (0) (0) x1 → zr (0) (19) x2 → zr (19) (19) x3 → (19) - x2.toInt < Mk5 → zok (k5 σ x1 x2 x3) (zIZ G)) (hσ : zIZ G σ) {x1 : Int32} (h_x1 : zr (0) (0) x1) {x2 : Int32} (h_x2 : zr (0) (19) x2) {x3 : Int32} (h_x3 : zr (19) (19) x3) (hMk5 : (19) - x2.toInt ≤ Mk5) : zok (fJ7_fill_53178_k30_5_body k5 σ x1 x2 x3) (zIZ G) := by
  unfold fJ7_fill_53178_k30_5_body
  refine zok_if (fun q1 => ?_) (fun q1 => ?_)
  · have h2 := zc_ler (19) q1 h_x3 h_x2 (by decide)
    exact zok_some hσ
  have h3 := zc_ltl (18) (z_nle q1) h_x2 h_x3 (by decide)
  refine zok_ck (zin_ok h3 (by decide)) ?_
  refine zok_bs (hσ.wi 0 18 (z_ix h3 (by decide)) h_x1 (by decide +kernel)) (fun σ1 e5 i4 => ?_)
  refine zok_br (zr_add (lo := 1) (hi := 19) h3 (zr_c (lo := 1) (hi := 1) (by decide)) (by decide)) (fun v2 e7 h6 => ?_)
  exact hk5 _ _ _ _ i4 h_x1 (zr_w h6 (by decide)) h_x3 (by rw [e7]; have := z_tadd (y := (1 : Int32)) h3 (zr_c (lo := 1) (hi := 1) (by decide)) (by decide); have e9 : (1 : Int32).toInt = 1 := rfl; omega) 
theorem s0_J7_fill_53178_k30_5 {G : Nat → Int} : ∀ (n : Nat) {σ : zSt} (hσ : zIZ G σ) {x1 : Int32} (h_x1 : zr (0) (0) x1) {x2 : Int32} (h_x2 : zr (0) (19) x2) {x3 : Int32} (h_x3 : zr (19) (19) x3) (hm : (19) - x2.toInt < n), zok (fJ7_fill_53178_k30_5 n σ x1 x2 x3) (zIZ G) := by
  intro n
  induction n with
  | zero => intro σ hσ x1 h_x1 x2 h_x2 x3 h_x3 hm ; have h9 := h_x2.1; have h8 := h_x2.2; exfalso; omega
  | succ n ih => intro σ hσ x1 h_x1 x2 h_x2 x3 h_x3 hm ; exact s0_J7_fill_53178_k30_5_body (fun σ x1 x2 x3 hσ h_x1 h_x2 h_x3 hm1 => ih hσ h_x1 h_x2 h_x3 (by omega)) hσ h_x1 h_x2 h_x3 (Int.le_refl _)
theorem s0_J7_fill_53178_k30 {G : Nat → Int} {σ : zSt} (hσ : zIZ G σ) {x1 : Int32} (h_x1 : zr (0) (0) x1) : zok (fJ7_fill_53178_k30 σ x1) (zIZ G) := by
  unfold fJ7_fill_53178_k30
  exact (s0_J7_fill_53178_k30_5 zfuel hσ h_x1 (zr_w (zr_c (lo := 0) (hi := 0) (by decide)) (by decide)) (zr_c (lo := 19) (hi := 19) (by decide)) (by decide))
theorem s0_J7_fill_fda19_k30_10_body {G : Nat → Int} {σ : zSt} {k10 : zSt → Int32 → Int32 → Int32 → Option (zSt)} {Mk10 : Int} (hk10 : ∀ (σ : zSt) (x2 : Int32) (x3 : Int32) (x4 : Int32), zIZ G σ → zr (13) (13) x2 → zr (15) (15) x3 → zr (9) (13) x4 → (13) - x4.toInt < Mk10 → zok (k10 σ x2 x3 x4) (zIZ G)) (hσ : zIZ G σ) {x2 : Int32} (h_x2 : zr (13) (13) x2) {x3 : Int32} (h_x3 : zr (15) (15) x3) {x4 : Int32} (h_x4 : zr (9) (13) x4) (hMk10 : (13) - x4.toInt ≤ Mk10) : zok (fJ7_fill_fda19_k30_10_body k10 σ x2 x3 x4) (zIZ G) := by
  unfold fJ7_fill_fda19_k30_10_body
  refine zok_if (fun q1 => ?_) (fun q1 => ?_)
  · have h2 := zc_ler (13) q1 h_x2 h_x4 (by decide)
    exact zok_some hσ
  have h3 := zc_ltl (12) (z_nle q1) h_x4 h_x2 (by decide)
  refine zok_ck (zin_ok h3 (by decide)) ?_
  refine zok_bs (hσ.wi 9 12 (z_ix h3 (by decide)) h_x3 (by decide +kernel)) (fun σ1 e5 i4 => ?_)
  refine zok_br (zr_add (lo := 10) (hi := 13) h3 (zr_c (lo := 1) (hi := 1) (by decide)) (by decide)) (fun v2 e7 h6 => ?_)
  exact hk10 _ _ _ _ i4 h_x2 h_x3 (zr_w h6 (by decide)) (by rw [e7]; have := z_tadd (y := (1 : Int32)) h3 (zr_c (lo := 1) (hi := 1) (by decide)) (by decide); have e9 : (1 : Int32).toInt = 1 := rfl; omega) 
theorem s0_J7_fill_fda19_k30_10 {G : Nat → Int} : ∀ (n : Nat) {σ : zSt} (hσ : zIZ G σ) {x2 : Int32} (h_x2 : zr (13) (13) x2) {x3 : Int32} (h_x3 : zr (15) (15) x3) {x4 : Int32} (h_x4 : zr (9) (13) x4) (hm : (13) - x4.toInt < n), zok (fJ7_fill_fda19_k30_10 n σ x2 x3 x4) (zIZ G) := by
  intro n
  induction n with
  | zero => intro σ hσ x2 h_x2 x3 h_x3 x4 h_x4 hm ; have h9 := h_x4.1; have h8 := h_x4.2; exfalso; omega
  | succ n ih => intro σ hσ x2 h_x2 x3 h_x3 x4 h_x4 hm ; exact s0_J7_fill_fda19_k30_10_body (fun σ x2 x3 x4 hσ h_x2 h_x3 h_x4 hm1 => ih hσ h_x2 h_x3 h_x4 (by omega)) hσ h_x2 h_x3 h_x4 (Int.le_refl _)
theorem s0_J7_fill_fda19_k30 {G : Nat → Int} {σ : zSt} (hσ : zIZ G σ) {x1 : Int32} (h_x1 : zr (9) (9) x1) {x2 : Int32} (h_x2 : zr (13) (13) x2) {x3 : Int32} (h_x3 : zr (15) (15) x3) : zok (fJ7_fill_fda19_k30 σ x1 x2 x3) (zIZ G) := by
  unfold fJ7_fill_fda19_k30
  refine zok_pu (s_rangeCheck (zr_c (lo := 19) (hi := 19) (by decide)) h_x1 h_x2 (by decide)) ?_
  exact (s0_J7_fill_fda19_k30_10 zfuel hσ h_x2 h_x3 (zr_w h_x1 (by decide)) (z_su h_x1 (by decide)))
theorem s0_X7_clear {G : Nat → Int} {σ : zSt} (hσ : zIZ G σ) : zok (fX7_clear σ ) (zIZ G) := by
  unfold fX7_clear
  refine zok_bu (s0_J7_fill_53178_k30 hσ (zr_c (lo := 0) (hi := 0) (by decide))) (fun σ1 i1 => ?_)
  refine zok_bu (s0_J7_fill_fda19_k30 i1 (zr_c (lo := 9) (hi := 9) (by decide)) (zr_c (lo := 13) (hi := 13) (by decide)) (zr_c (lo := 15) (hi := 15) (by decide))) (fun σ2 i2 => ?_)
  refine zok_ck rfl ?_
  refine zok_bs (i2.wi 16 16 (by decide) (zr_c (lo := 32768) (hi := 32768) (by decide)) (by decide +kernel)) (fun σ3 e4 i3 => ?_)
  refine zok_ck rfl ?_
  refine zok_bs (i3.wi 18 18 (by decide) (zr_c (lo := 255) (hi := 255) (by decide)) (by decide +kernel)) (fun σ4 e6 i5 => ?_)
  exact zok_some i5
theorem s0_J7_fill_53178_k32_5_body {G : Nat → Int} {σ : zSt} {k5 : zSt → Int32 → Int32 → Int32 → Option (zSt)} {Mk5 : Int} (hk5 : ∀ (σ : zSt) (x1 : Int32) (x2 : Int32) (x3 : Int32), zIZ G σ → zr (0) (0) x1 → zr (0) (272) x2 → zr (272) (272) x3 → (272) - x2.toInt < Mk5 → zok (k5 σ x1 x2 x3) (zIZ G)) (hσ : zIZ G σ) {x1 : Int32} (h_x1 : zr (0) (0) x1) {x2 : Int32} (h_x2 : zr (0) (272) x2) {x3 : Int32} (h_x3 : zr (272) (272) x3) (hMk5 : (272) - x2.toInt ≤ Mk5) : zok (fJ7_fill_53178_k32_5_body k5 σ x1 x2 x3) (zIZ G) := by
  unfold fJ7_fill_53178_k32_5_body
  refine zok_if (fun q1 => ?_) (fun q1 => ?_)
  · have h2 := zc_ler (272) q1 h_x3 h_x2 (by decide)
    exact zok_some hσ
  have h3 := zc_ltl (271) (z_nle q1) h_x2 h_x3 (by decide)
  refine zok_ck (zin_ok h3 (by decide)) ?_
  refine zok_bs (hσ.wi 0 271 (z_ix h3 (by decide)) h_x1 (by decide +kernel)) (fun σ1 e5 i4 => ?_)
  refine zok_br (zr_add (lo := 1) (hi := 272) h3 (zr_c (lo := 1) (hi := 1) (by decide)) (by decide)) (fun v2 e7 h6 => ?_)
  exact hk5 _ _ _ _ i4 h_x1 (zr_w h6 (by decide)) h_x3 (by rw [e7]; have := z_tadd (y := (1 : Int32)) h3 (zr_c (lo := 1) (hi := 1) (by decide)) (by decide); have e9 : (1 : Int32).toInt = 1 := rfl; omega) 
theorem s0_J7_fill_53178_k32_5 {G : Nat → Int} : ∀ (n : Nat) {σ : zSt} (hσ : zIZ G σ) {x1 : Int32} (h_x1 : zr (0) (0) x1) {x2 : Int32} (h_x2 : zr (0) (272) x2) {x3 : Int32} (h_x3 : zr (272) (272) x3) (hm : (272) - x2.toInt < n), zok (fJ7_fill_53178_k32_5 n σ x1 x2 x3) (zIZ G) := by
  intro n
  induction n with
  | zero => intro σ hσ x1 h_x1 x2 h_x2 x3 h_x3 hm ; have h9 := h_x2.1; have h8 := h_x2.2; exfalso; omega
  | succ n ih => intro σ hσ x1 h_x1 x2 h_x2 x3 h_x3 hm ; exact s0_J7_fill_53178_k32_5_body (fun σ x1 x2 x3 hσ h_x1 h_x2 h_x3 hm1 => ih hσ h_x1 h_x2 h_x3 (by omega)) hσ h_x1 h_x2 h_x3 (Int.le_refl _)
theorem s0_J7_fill_53178_k32 {G : Nat → Int} {σ : zSt} (hσ : zIZ G σ) {x1 : Int32} (h_x1 : zr (0) (0) x1) : zok (fJ7_fill_53178_k32 σ x1) (zIZ G) := by
  unfold fJ7_fill_53178_k32
  exact (s0_J7_fill_53178_k32_5 zfuel hσ h_x1 (zr_w (zr_c (lo := 0) (hi := 0) (by decide)) (by decide)) (zr_c (lo := 272) (hi := 272) (by decide)) (by decide))
theorem s0_X10_clear_h {G : Nat → Int} : ∀ (n : Nat) {σ : zSt} (hσ : zIZ G σ) {x2 : Int32} (h_x2 : zr 128 272 x2) (h8 : x2.toInt % 8 = 0) (hm : 272 - x2.toInt < n), zok (fX10_clear_36 n σ x2) (zIZ G) := by
  intro n
  induction n with
  | zero => intro σ hσ x2 h_x2 h8 hm; have := h_x2.2; exfalso; omega
  | succ n ih =>
    intro σ hσ x2 h_x2 h8 hm
    show zok (fX10_clear_36_body (fX10_clear_36 n) σ x2) (zIZ G)
    unfold fX10_clear_36_body
    refine zok_if (fun q => zok_some hσ) (fun q => ?_)
    have c272 : (272 : Int32).toInt = 272 := rfl
    have q1 := Int32.lt_iff_toInt_lt.mp (z_nle q)
    have hx : zr 128 264 x2 := ⟨h_x2.1, by omega⟩
    have h0 := zr_add (lo := 128) (hi := 264) hx (zr_c (lo := 0) (hi := 0) (x := 0) (by decide)) (by decide)
    have h1 := zr_add (lo := 129) (hi := 265) hx (zr_c (lo := 1) (hi := 1) (x := 1) (by decide)) (by decide)
    have e8 := z_tadd hx (zr_c (lo := 8) (hi := 8) (x := 8) (by decide)) (by decide)
    have c8 : (8 : Int32).toInt = 8 := rfl
    refine zok_ck (zin_ok h0 (by decide)) ?_
    refine zok_bs (hσ.wi 128 264 (z_ix h0 (by decide)) (zr_any) (by decide +kernel)) (fun σ1 e1 i1 => ?_)
    refine zok_ck (zin_ok h1 (by decide)) ?_
    refine zok_bs (i1.wi 129 265 (z_ix h1 (by decide)) (zr_any) (by decide +kernel)) (fun σ2 e2 i2 => ?_)
    refine zok_bv (fun v3 e3 => ih i2 ?_ ?_ ?_)
    · subst e3; have := hx.1; have := hx.2; exact ⟨by omega, by omega⟩
    · subst e3; omega
    · subst e3; omega
theorem s0_X10_clear_36 {G : Nat → Int} (n : Nat) {σ : zSt} (hσ : zIZ G σ) {x2 : Int32} (h_x2 : zr (128) (128) x2) (hm : (128) - x2.toInt < n) (hn : zfuel ≤ n := by decide) : zok (fX10_clear_36 n σ x2) (zIZ G) :=
  s0_X10_clear_h n hσ (zr_w h_x2 (by decide)) (by have := h_x2.1; have := h_x2.2; omega) (by have := h_x2.1; unfold zfuel at hn; omega)
theorem s0_X10_clear {G : Nat → Int} {σ : zSt} (hσ : zIZ G σ) : zok (fX10_clear σ ) (zIZ G) := by
  unfold fX10_clear
  refine zok_ck rfl ?_
  refine zok_bv (fun v4 e2 => ?_)
  refine zok_bu (s0_J7_fill_53178_k32 hσ (zr_c (lo := 0) (hi := 0) (by decide))) (fun σ5 i3 => ?_)
  refine zok_ck rfl ?_
  refine zok_bs (i3.wi 66 66 (by decide) zr_any (by decide +kernel)) (fun σ6 e5 i4 => ?_)
  refine zok_ck rfl ?_
  refine zok_bs (i4.wi 65 65 (by decide) (zr_c (lo := 1) (hi := 1) (by decide)) (by decide +kernel)) (fun σ7 e7 i6 => ?_)
  exact (s0_X10_clear_36 zfuel i6 (zr_c (lo := 128) (hi := 128) (by decide)) (by decide))
theorem z0_sg : ∀ s ∈ sZ, s.2.2.2.1 ≤ 0 ∧ 0 ≤ s.2.2.2.2 := by decide +kernel
theorem zZ0 : zIZ (fun _ => 0) zS0 := ⟨fun s hs j _ _ => z0_sg s hs, fun i z _ => rfl, fun i z _ => rfl, Or.inl rfl⟩
theorem z_bif {α : Type} {P : α → Prop} {b : Bool} {x y : α} (h1 : P x) (h2 : P y) : P (bif b then x else y) := by cases b; exact h2; exact h1
set_option maxRecDepth 20000 in
theorem zC0p_all {P : zSt → Prop} {s0 s1 s2 s3 s4 s5 s6 s7 s8 s9 s10 : zSt} (h0 : P s0) (h1 : P s1) (h2 : P s2) (h3 : P s3) (h4 : P s4) (h5 : P s5) (h6 : P s6) (h7 : P s7) (h8 : P s8) (h9 : P s9) (h10 : P s10) (hZ : P zS0) (a : Nat) : P (zC0p s0 s1 s2 s3 s4 s5 s6 s7 s8 s9 s10 a) := by
  unfold zC0p
  repeat (first | assumption | refine z_bif (by assumption) ?_)
theorem zC_mem : ∀ s ∈ sC, s ∈ sZ ∨ s = (7, 4, 4, 6, 17) := by decide +kernel
theorem zC0_sg {s0 s1 s2 s3 s4 s5 s6 s7 s8 s9 s10 : zSt} (h0 : zSg sZ s0) (h1 : zSg sZ s1) (h2 : zSg sZ s2) (h3 : zSg sZ s3) (h4 : zSg sZ s4) (h5 : zSg sZ s5) (h6 : zSg sZ s6) (h7 : zSg sZ s7) (h8 : zSg sZ s8) (h9 : zSg sZ s9) (h10 : zSg sZ s10) (h : zr 6 17 (s7.1 7 4)) : zSg sC (zC0 s0 s1 s2 s3 s4 s5 s6 s7 s8 s9 s10) := by
  intro s hs j l1 l2
  rcases zC_mem s hs with m | m
  · exact zC0p_all (P := fun σ => zSg sZ σ) h0 h1 h2 h3 h4 h5 h6 h7 h8 h9 h10 zZ0.sg s.1 s m j l1 l2
  · subst m
    have ej : j = 4 := by have a : 4 ≤ j := l1; have b : j ≤ 4 := l2; omega
    subst ej
    exact h
theorem zI44 : ∀ (n : Nat) {σ : zSt} (hσ : zIZ (fun _ => 0) σ) {x1 x2 : Int32} (h2 : zr 0 32 x2) (hm : 32 - x2.toInt < n), zok (fJ7_fill_53178_k44_5 n σ x1 x2 32) (zIZ (fun _ => 0)) := by
  intro n
  induction n with
  | zero => intro σ hσ x1 x2 h2 hm; have := h2.2; exfalso; omega
  | succ n ih =>
    intro σ hσ x1 x2 h2 hm
    show zok (fJ7_fill_53178_k44_5_body (fJ7_fill_53178_k44_5 n) σ x1 x2 32) _
    unfold fJ7_fill_53178_k44_5_body
    have c32 : (32 : Int32).toInt = 32 := rfl
    refine zok_if (fun q => zok_some hσ) (fun q => ?_)
    have q1 := Int32.lt_iff_toInt_lt.mp (z_nle q)
    have h5 : zr 0 31 x2 := ⟨h2.1, by omega⟩
    have b1 := h2.1
    have c1 : (1 : Int32).toInt = 1 := rfl
    have t : (x2 + 1).toInt = x2.toInt + (1 : Int32).toInt := z_tadd h5 (zr_c (lo := 1) (hi := 1) (x := 1) (by decide)) (by decide)
    refine zok_ck (zin_ok h5 (by decide)) ?_
    refine zok_bs (I := zIZ (fun _ => 0)) (hσ.wk (by decide)) (fun σ1 e1 i1 => ?_)
    refine zok_bv (fun v e9 => ?_)
    subst e9
    exact ih i1 ⟨by omega, by omega⟩ (by omega)
noncomputable def zH0 (k : Int32) (i : Nat) : Int := if i = 2 then (if k = 2 then 1 else 0) else 0
/-- the class's fresh state -/
theorem s_freshC {k : Int32} {σN4 σN5 : zSt} {σN6 : Int32 → zSt} {σN9 : zSt} (n4 : zIZ (fun _ => 0) σN4) (n5 : zIZ (fun _ => 0) σN5) (n6 : ∀ v, zIZ (fun _ => 0) (σN6 v)) (n9 : zIZ (fun _ => 0) σN9) : zIC (zH0 k) (zC1 k σN4 σN5 σN6 σN9) := by
  have w0_0 := zZ0.wi (k := 0) (j := 0) (v := (if k = 2 then 1 else 0)) 0 0 (by decide) (show zr (0) (1) (if k = 2 then 1 else 0) by split <;> exact zr_c (by decide)) (by decide +kernel)
  have w1_0 := zZ0.wi (k := 1) (j := 1) (v := 1) 1 1 (by decide) (zr_c (lo := 1) (hi := 1) (by decide)) (by decide +kernel)
  have w1_1 := w1_0.wi (k := 1) (j := 7) (v := (-1)) 7 7 (by decide) (zr_c (lo := -1) (hi := -1) (by decide)) (by decide +kernel)
  have w1_2 := w1_1.wi (k := 19) (j := 0) (v := 0) 0 0 (by decide) (zr_c (lo := 0) (hi := 0) (by decide)) (by decide +kernel)
  have w1_3 := w1_2.wi (k := 19) (j := 1) (v := 1) 1 1 (by decide) (zr_c (lo := 1) (hi := 1) (by decide)) (by decide +kernel)
  have w1_4 := w1_3.wi (k := 19) (j := 2) (v := 2) 2 2 (by decide) (zr_c (lo := 2) (hi := 2) (by decide)) (by decide +kernel)
  have w1_5 := w1_4.wi (k := 19) (j := 3) (v := 0) 3 3 (by decide) (zr_c (lo := 0) (hi := 0) (by decide)) (by decide +kernel)
  have w2_0 := zZ0.wi (k := 2) (j := 0) (v := (if k = 2 then 1 else 0)) 0 0 (by decide) (show zr (0) (1) (if k = 2 then 1 else 0) by split <;> exact zr_c (by decide)) (by decide +kernel)
  have w2_1 := w2_0.wi (k := 2) (j := 1) (v := (if k = 1 then 313 else 262)) 1 1 (by decide) (show zr (262) (313) (if k = 1 then 313 else 262) by split <;> exact zr_c (by decide)) (by decide +kernel)
  have w3_0 := zZ0.wi (k := 3) (j := 1) (v := (if k = 2 then 1 else 0)) 1 1 (by decide) (show zr (0) (1) (if k = 2 then 1 else 0) by split <;> exact zr_c (by decide)) (by decide +kernel)
  have w7_0 := zZ0.wi (k := 7) (j := 4) (v := 6) 4 4 (by decide) (zr_c (lo := 6) (hi := 6) (by decide)) (by decide +kernel)
  have w7_1 := w7_0.wi (k := 36) (j := 18) (v := 57328) 18 18 (by decide) (zr_c (lo := 57328) (hi := 57328) (by decide)) (by decide +kernel)
  refine ⟨zC0_sg w0_0.sg w1_5.sg w2_1.sg w3_0.sg n4.sg n5.sg (n6 _).sg w7_1.sg zZ0.sg n9.sg zZ0.sg (zr_c (x := 6) (by decide)), fun i z hz => ?_, fun i z hz => by simp [zLC] at hz, Or.inl rfl⟩
  match i, hz with
  | 0, hz => cases hz; rfl
  | 1, hz => cases hz; rfl
  | 2, hz => cases hz; show (if k = 2 then (1 : Int32) else 0).toInt = if (2 : Nat) = 2 then (if k = 2 then (1 : Int) else 0) else 0; rw [if_pos rfl]; split <;> rfl
  | i + 3, hz => simp [zZC] at hz
theorem z_c4 : ∃ σ, fX7_clear zS0 = some σ ∧ zIZ (fun _ => 0) σ := s0_X7_clear zZ0
theorem z_c5 : ∃ σ, fX10_clear zS0 = some σ ∧ zIZ (fun _ => 0) σ := s0_X10_clear zZ0
theorem z_c6 (v : Int32) : ∃ σ, fX4_clear (zsi (zsi (zsi zS0 6 0 v) 34 10 1) 34 11 1) = some σ ∧ zIZ (fun _ => 0) σ := s0_X4_clear (((zZ0.wi (k := 6) (j := 0) (v := v) 0 0 (by decide) zr_any (by decide +kernel)).wi (k := 34) (j := 10) (v := 1) 10 10 (by decide) (zr_c (lo := 1) (hi := 1) (by decide)) (by decide +kernel)).wi (k := 34) (j := 11) (v := 1) 11 11 (by decide) (zr_c (lo := 1) (hi := 1) (by decide)) (by decide +kernel))
theorem z_c9 : ∃ σ, fJ7_fill_53178_k44 zS0 (-1) = some σ ∧ zIZ (fun _ => 0) σ := zI44 zfuel zZ0 (zr_c (by decide)) (by decide)
end ZJN8
section ZJN9
/-! what is owed, from states with the invariants -/
noncomputable def zKd (x : Int32) : Int32 := if x = 1 then x else if x = 2 then x else 0
theorem zKd_r (x : Int32) : zr 0 2 (zKd x) := by
  unfold zKd
  by_cases h : x = 1
  · rw [if_pos h, h]; exact zr_c (by decide)
  · rw [if_neg h]
    by_cases h2 : x = 2
    · rw [if_pos h2, h2]; exact zr_c (by decide)
    · rw [if_neg h2]; exact zr_c (by decide)
end ZJN9
section ZJN10
/-! press: both sides, and the law's case -/
theorem zok_zbr {α β : Type} {o : Option α} {f : α → Option β} {Q : α → Prop} {P : β → Prop} (h : zok o Q) (k : ∀ r, Q r → zok (f r) P) : zok (zbr o f) P := by
  obtain ⟨a, e, q⟩ := h
  subst e
  exact k a q
theorem zok_thrown {α : Type} {μ : zSt} {f : zSt → Int32 → Option α} {P : α → Prop} (h : zok (f μ (zgi μ 0 0)) P) : zok (zbi (fX12_thrown μ ) f) P := h
end ZJN10
section ZJN11

end ZJN11
section ZJN12
/-! the reference's numbers that hold at every call, also of what is saved -/
noncomputable def zKS (K : Int) (G : Nat → Int) : Prop := (0 ≤ G 102 ∧ G 102 ≤ K) ∧ (0 ≤ G 105 ∧ G 105 ≤ K) ∧ (0 ≤ G 106 ∧ G 106 ≤ K) ∧ (0 ≤ G 6 ∧ G 6 < zln G) ∧ (0 ≤ G 7 ∧ G 7 ≤ 227) ∧ (0 ≤ G 8 ∧ G 8 ≤ K) ∧ zJ (G 102) (G 8)
theorem zKS.keep {K K1 : Int} {G G1 : Nat → Int} (h : zKS K G) (c : K ≤ K1) (e : ∀ i, i ∈ [1, 6, 7, 8, 102, 105, 106] → G1 i = G i) : zKS K1 G1 := by
  obtain ⟨a1, a2, a3, a4, a5, a6, a7⟩ := h
  unfold zKS
  rw [e 102 (by decide), e 105 (by decide), e 106 (by decide), e 6 (by decide), e 7 (by decide), e 8 (by decide), zln_c (e 1 (by decide))]
  exact ⟨by omega, by omega, by omega, a4, a5, by omega, a7⟩
theorem zK.keep {K : Int} {G G1 : Nat → Int} (h : zK K G) (e : ∀ i, i ∈ [1, 3, 4, 5, 100, 101, 103, 104] → G1 i = G i) : zK K G1 := by
  unfold zK zGJ at h ⊢
  rw [e 100 (by decide), e 103 (by decide), e 104 (by decide), e 101 (by decide), e 3 (by decide), e 4 (by decide), e 5 (by decide), zln_c (e 1 (by decide))]
  exact h
/-- anew: line and beat -/
theorem zK.line {K : Int} {G G1 : Nat → Int} (h : zK K G) (e : ∀ i, i ∈ [1, 5, 100, 101, 103, 104] → G1 i = G i) (c : G1 3 = G 3 ∨ G1 3 = 0) (d : 0 ≤ G1 4 ∧ G1 4 ≤ 227) : zK K G1 := by
  have lb := zln_b G
  unfold zK zGJ at h ⊢
  rw [e 100 (by decide), e 103 (by decide), e 104 (by decide), e 101 (by decide), e 5 (by decide), zln_c (e 1 (by decide))]
  obtain ⟨⟨j1, j2, j3, j4, j5, j6, j7, j8⟩, k1, k2, k3, k4, k5⟩ := h
  refine ⟨⟨j1, j2, j3, j4, ?_, d, j7, j8⟩, k1, k2, k3, k4, k5⟩
  rcases c with c | c <;> rw [c]
  · exact j5
  · omega
theorem zIM.beat {G : Nat → Int} {σ : zSt} (h : zIM G σ) : 0 ≤ G 4 ∧ G 4 ≤ 227 := by
  have a : zr 0 227 (zgi σ 3 67) := rM_30 h.sg 67 (by decide)
  have b : (zgi σ 3 67).toInt = G 4 := h.at 4 (by decide)
  rw [← b]; exact a

noncomputable def zFsva (j : Nat) (G : Nat → Int) (i : Nat) : Int := if i = 6 then (if j = 66 then G 3 else G 6) else if i = 7 then (if j = 67 then G 4 else G 7) else if i = 8 then (if j = 168 then G 5 else G 8) else G i
theorem zIM.sva {G : Nat → Int} {σ : zSt} {j : Nat} (h : zIM G σ) (hj : j ≤ 1047) : zIM (zFsva j G) (zsi σ 12 j (zgi σ 3 j)) := by
  obtain ⟨G2, h2, g2⟩ := (h.E (l := [6, 7, 8])).c12 (j := j) ⟨Nat.zero_le _, hj⟩ (by decide +kernel)
  have e : G2 = zFsva j G := by
    funext i
    unfold zFsva
    by_cases i6 : i = 6
    · subst i6
      rw [if_pos rfl]
      have a0 : (zgi (zsi σ 12 j (zgi σ 3 j)) 12 66).toInt = G2 6 := h2.at 6 (by decide)
      have a : ((zsi σ 12 j (zgi σ 3 j)).1 12 66).toInt = G2 6 := a0
      have b : (zgi σ 3 66).toInt = G 3 := h.at 3 (by decide)
      have c : (zgi σ 12 66).toInt = G 6 := h.at 6 (by decide)
      by_cases q : j = 66
      · subst q
        rw [zsi_at, if_pos ⟨rfl, rfl⟩] at a
        rw [if_pos rfl, ← a]; exact b
      · rw [zsi_at, if_neg (fun r => q r.2.symm)] at a
        rw [if_neg q, ← a]; exact c
    rw [if_neg i6]
    by_cases i7 : i = 7
    · subst i7
      rw [if_pos rfl]
      have a0 : (zgi (zsi σ 12 j (zgi σ 3 j)) 12 67).toInt = G2 7 := h2.at 7 (by decide)
      have a : ((zsi σ 12 j (zgi σ 3 j)).1 12 67).toInt = G2 7 := a0
      have b : (zgi σ 3 67).toInt = G 4 := h.at 4 (by decide)
      have c : (zgi σ 12 67).toInt = G 7 := h.at 7 (by decide)
      by_cases q : j = 67
      · subst q
        rw [zsi_at, if_pos ⟨rfl, rfl⟩] at a
        rw [if_pos rfl, ← a]; exact b
      · rw [zsi_at, if_neg (fun r => q r.2.symm)] at a
        rw [if_neg q, ← a]; exact c
    rw [if_neg i7]
    by_cases i8 : i = 8
    · subst i8
      rw [if_pos rfl]
      have a0 : (zgi (zsi σ 12 j (zgi σ 3 j)) 12 168).toInt = G2 8 := h2.at 8 (by decide)
      have a : ((zsi σ 12 j (zgi σ 3 j)).1 12 168).toInt = G2 8 := a0
      have b : (zgi σ 3 168).toInt = G 5 := h.at 5 (by decide)
      have c : (zgi σ 12 168).toInt = G 8 := h.at 8 (by decide)
      by_cases q : j = 168
      · subst q
        rw [zsi_at, if_pos ⟨rfl, rfl⟩] at a
        rw [if_pos rfl, ← a]; exact b
      · rw [zsi_at, if_neg (fun r => q r.2.symm)] at a
        rw [if_neg q, ← a]; exact c
    rw [if_neg i8]
    exact g2 i (fun r => by simp only [List.mem_cons, List.not_mem_nil, or_false] at r; omega)
  rw [← e]; exact h2
noncomputable def zFsvl (j : Nat) (G : Nat → Int) (i : Nat) : Int := if i = 102 then (if j = 0 then G 100 else G 102) else if i = 105 then (if j = 4 then G 104 else G 105) else if i = 106 then (if j = 2 then G 101 else G 106) else G i
theorem zIM.svl {G : Nat → Int} {σ : zSt} {j : Nat} (h : zIM G σ) (hj : j ≤ 4) : zIM (zFsvl j G) (zsl σ 13 j (zgl σ 4 j)) := by
  obtain ⟨G2, h2, g2⟩ := (h.E (l := [102, 105, 106])).wle (v := zgl σ 4 j) (k := 13) 0 4 ⟨Nat.zero_le _, hj⟩ (by decide +kernel)
  have e : G2 = zFsvl j G := by
    funext i
    unfold zFsvl
    by_cases i102 : i = 102
    · subst i102
      rw [if_pos rfl]
      have a0 : (zgl (zsl σ 13 j (zgl σ 4 j)) 13 0).toInt = G2 102 := h2.atl 2 (by decide)
      have a : ((zsl σ 13 j (zgl σ 4 j)).2 13 0).toInt = G2 102 := a0
      have b : (zgl σ 4 0).toInt = G 100 := h.atl 0 (by decide)
      have c : (zgl σ 13 0).toInt = G 102 := h.atl 2 (by decide)
      by_cases q : j = 0
      · subst q
        rw [zsl_at, if_pos ⟨rfl, rfl⟩] at a
        rw [if_pos rfl, ← a]; exact b
      · rw [zsl_at, if_neg (fun r => q r.2.symm)] at a
        rw [if_neg q, ← a]; exact c
    rw [if_neg i102]
    by_cases i105 : i = 105
    · subst i105
      rw [if_pos rfl]
      have a0 : (zgl (zsl σ 13 j (zgl σ 4 j)) 13 4).toInt = G2 105 := h2.atl 5 (by decide)
      have a : ((zsl σ 13 j (zgl σ 4 j)).2 13 4).toInt = G2 105 := a0
      have b : (zgl σ 4 4).toInt = G 104 := h.atl 4 (by decide)
      have c : (zgl σ 13 4).toInt = G 105 := h.atl 5 (by decide)
      by_cases q : j = 4
      · subst q
        rw [zsl_at, if_pos ⟨rfl, rfl⟩] at a
        rw [if_pos rfl, ← a]; exact b
      · rw [zsl_at, if_neg (fun r => q r.2.symm)] at a
        rw [if_neg q, ← a]; exact c
    rw [if_neg i105]
    by_cases i106 : i = 106
    · subst i106
      rw [if_pos rfl]
      have a0 : (zgl (zsl σ 13 j (zgl σ 4 j)) 13 2).toInt = G2 106 := h2.atl 6 (by decide)
      have a : ((zsl σ 13 j (zgl σ 4 j)).2 13 2).toInt = G2 106 := a0
      have b : (zgl σ 4 2).toInt = G 101 := h.atl 1 (by decide)
      have c : (zgl σ 13 2).toInt = G 106 := h.atl 6 (by decide)
      by_cases q : j = 2
      · subst q
        rw [zsl_at, if_pos ⟨rfl, rfl⟩] at a
        rw [if_pos rfl, ← a]; exact b
      · rw [zsl_at, if_neg (fun r => q r.2.symm)] at a
        rw [if_neg q, ← a]; exact c
    rw [if_neg i106]
    exact g2 i (fun r => by simp only [List.mem_cons, List.not_mem_nil, or_false] at r; omega)
  rw [← e]; exact h2
noncomputable def zLsave (G0 : Nat → Int) (r : zSt) : Prop := ∃ G1, zIM G1 r ∧ (∀ i, ¬ i = 102 → ¬ i = 105 → ¬ i = 106 → G1 i = G0 i) ∧ G1 102 = G0 100 ∧ G1 105 = G0 104 ∧ G1 106 = G0 101
noncomputable def zAsave (G0 : Nat → Int) (r : zSt) : Prop := ∃ G1, zIM G1 r ∧ (∀ i, ¬ i = 6 → ¬ i = 7 → ¬ i = 8 → ¬ i = 102 → ¬ i = 105 → ¬ i = 106 → G1 i = G0 i) ∧ G1 6 = G0 3 ∧ G1 7 = G0 4 ∧ G1 8 = G0 5 ∧ G1 102 = G0 100 ∧ G1 105 = G0 104 ∧ G1 106 = G0 101
noncomputable def zIsvl (x : Int) (G0 G : Nat → Int) : Prop := (∀ i, ¬ i = 102 → ¬ i = 105 → ¬ i = 106 → G i = G0 i) ∧ (0 < x → G 102 = G0 100) ∧ (4 < x → G 105 = G0 104) ∧ (2 < x → G 106 = G0 101)
theorem zIsvl.next {x : Int} {j : Nat} {G0 G : Nat → Int} (h : zIsvl x G0 G) (e : (j : Int) = x) : zIsvl (x + 1) G0 (zFsvl j G) := by
  obtain ⟨h0, h102, h105, h106⟩ := h
  refine ⟨fun i n102 n105 n106 => ?_, fun l => ?_, fun l => ?_, fun l => ?_⟩
  · unfold zFsvl; rw [if_neg n102, if_neg n105, if_neg n106]; exact h0 i n102 n105 n106
  · unfold zFsvl
    rw [if_pos rfl]
    by_cases q : j = 0
    · rw [if_pos q]; exact h0 100 (by decide) (by decide) (by decide)
    · rw [if_neg q]; exact h102 (by omega)
  · unfold zFsvl
    rw [if_neg (by decide : ¬ 105 = 102), if_pos rfl]
    by_cases q : j = 4
    · rw [if_pos q]; exact h0 104 (by decide) (by decide) (by decide)
    · rw [if_neg q]; exact h105 (by omega)
  · unfold zFsvl
    rw [if_neg (by decide : ¬ 106 = 102), if_neg (by decide : ¬ 106 = 105), if_pos rfl]
    by_cases q : j = 2
    · rw [if_pos q]; exact h0 101 (by decide) (by decide) (by decide)
    · rw [if_neg q]; exact h106 (by omega)
theorem q_save_39 : ∀ (n : Nat) {G0 G : Nat → Int} {σ : zSt} (hσ : zIM G σ) {x1 : Int32} (h1 : zr 0 5 x1) (hI : zIsvl x1.toInt G0 G) (hm : 5 - x1.toInt < n), zok (fX12_save_39 n σ x1) (zLsave G0) := by
  intro n
  induction n with
  | zero => intro G0 G σ hσ x1 h1 hI hm; have := h1.2; exfalso; omega
  | succ n ih =>
    intro G0 G σ hσ x1 h1 hI hm
    show zok (fX12_save_39_body (fX12_save_39 n) σ x1) _
    unfold fX12_save_39_body
    have c9 : (5 : Int32).toInt = 5 := rfl
    have b1 := h1.1
    refine zok_if (fun q => ?_) (fun q => ?_)
    · have q1 := Int32.le_iff_toInt_le.mp q
      obtain ⟨h0, h102, h105, h106⟩ := hI
      exact zok_mono (s_X12_save_64 zfuel hσ (zr_c (by decide)) (by decide)) (fun r i => ⟨G, i, h0, h102 (by omega), h105 (by omega), h106 (by omega)⟩)
    · have q1 := Int32.lt_iff_toInt_lt.mp (z_nle q)
      have h5 : zr 0 4 x1 := ⟨b1, by omega⟩
      have c1 : (1 : Int32).toInt = 1 := rfl
      have t : (x1 + 1).toInt = x1.toInt + (1 : Int32).toInt := z_tadd h5 (zr_c (lo := 1) (hi := 1) (x := 1) (by decide)) (by decide)
      have ex : (x1.toNatClampNeg : Int) = x1.toInt := by have : x1.toNatClampNeg = x1.toInt.toNat := rfl; omega
      refine zok_ck (zin_ok h5 (by decide)) (zok_ck (zin_ok h5 (by decide)) ?_)
      refine zok_bs (I := zIM (zFsvl x1.toNatClampNeg G)) (hσ.svl (by omega)) (fun σ1 e1 i1 => ?_)
      refine zok_bv (fun v3 e3 => ?_)
      subst e3
      refine ih i1 ⟨by omega, by omega⟩ ?_ (by omega)
      rw [t, c1]
      exact hI.next ex
noncomputable def zIsva (x : Int) (G0 G : Nat → Int) : Prop := (∀ i, ¬ i = 6 → ¬ i = 7 → ¬ i = 8 → G i = G0 i) ∧ (66 < x → G 6 = G0 3) ∧ (67 < x → G 7 = G0 4) ∧ (168 < x → G 8 = G0 5)
theorem zIsva.next {x : Int} {j : Nat} {G0 G : Nat → Int} (h : zIsva x G0 G) (e : (j : Int) = x) : zIsva (x + 1) G0 (zFsva j G) := by
  obtain ⟨h0, h6, h7, h8⟩ := h
  refine ⟨fun i n6 n7 n8 => ?_, fun l => ?_, fun l => ?_, fun l => ?_⟩
  · unfold zFsva; rw [if_neg n6, if_neg n7, if_neg n8]; exact h0 i n6 n7 n8
  · unfold zFsva
    rw [if_pos rfl]
    by_cases q : j = 66
    · rw [if_pos q]; exact h0 3 (by decide) (by decide) (by decide)
    · rw [if_neg q]; exact h6 (by omega)
  · unfold zFsva
    rw [if_neg (by decide : ¬ 7 = 6), if_pos rfl]
    by_cases q : j = 67
    · rw [if_pos q]; exact h0 4 (by decide) (by decide) (by decide)
    · rw [if_neg q]; exact h7 (by omega)
  · unfold zFsva
    rw [if_neg (by decide : ¬ 8 = 6), if_neg (by decide : ¬ 8 = 7), if_pos rfl]
    by_cases q : j = 168
    · rw [if_pos q]; exact h0 5 (by decide) (by decide) (by decide)
    · rw [if_neg q]; exact h8 (by omega)
theorem q_save_12 : ∀ (n : Nat) {G0 G : Nat → Int} {σ : zSt} (hσ : zIM G σ) {x1 : Int32} (h1 : zr 0 1048 x1) (hI : zIsva x1.toInt G0 G) (hm : 1048 - x1.toInt < n), zok (fX12_save_12 n σ x1) (zAsave G0) := by
  intro n
  induction n with
  | zero => intro G0 G σ hσ x1 h1 hI hm; have := h1.2; exfalso; omega
  | succ n ih =>
    intro G0 G σ hσ x1 h1 hI hm
    show zok (fX12_save_12_body (fX12_save_12 n) σ x1) _
    unfold fX12_save_12_body
    have c9 : (1048 : Int32).toInt = 1048 := rfl
    have b1 := h1.1
    refine zok_if (fun q => ?_) (fun q => ?_)
    · have q1 := Int32.le_iff_toInt_le.mp q
      obtain ⟨h0, h6, h7, h8⟩ := hI
      refine zok_mono (q_save_39 zfuel (G0 := G) (x1 := 0) hσ (zr_c (by decide)) ⟨fun i _ _ _ => rfl, fun l => absurd l (by decide), fun l => absurd l (by decide), fun l => absurd l (by decide)⟩ (by decide)) (fun r q => ?_)
      obtain ⟨G1, i1, g0, g102, g105, g106⟩ := q
      refine ⟨G1, i1, fun i n6 n7 n8 n102 n105 n106 => (g0 i n102 n105 n106).trans (h0 i n6 n7 n8), (g0 6 (by decide) (by decide) (by decide)).trans (h6 (by omega)), (g0 7 (by decide) (by decide) (by decide)).trans (h7 (by omega)), (g0 8 (by decide) (by decide) (by decide)).trans (h8 (by omega)), g102.trans (h0 100 (by decide) (by decide) (by decide)), g105.trans (h0 104 (by decide) (by decide) (by decide)), g106.trans (h0 101 (by decide) (by decide) (by decide))⟩
    · have q1 := Int32.lt_iff_toInt_lt.mp (z_nle q)
      have h5 : zr 0 1047 x1 := ⟨b1, by omega⟩
      have c1 : (1 : Int32).toInt = 1 := rfl
      have t : (x1 + 1).toInt = x1.toInt + (1 : Int32).toInt := z_tadd h5 (zr_c (lo := 1) (hi := 1) (x := 1) (by decide)) (by decide)
      have ex : (x1.toNatClampNeg : Int) = x1.toInt := by have : x1.toNatClampNeg = x1.toInt.toNat := rfl; omega
      refine zok_ck (zin_ok h5 (by decide)) (zok_ck (zin_ok h5 (by decide)) ?_)
      refine zok_bs (I := zIM (zFsva x1.toNatClampNeg G)) (hσ.sva (by omega)) (fun σ1 e1 i1 => ?_)
      refine zok_bv (fun v3 e3 => ?_)
      subst e3
      refine ih i1 ⟨by omega, by omega⟩ ?_ (by omega)
      rw [t, c1]
      exact hI.next ex
noncomputable def zFrsa (j : Nat) (G : Nat → Int) (i : Nat) : Int := if i = 3 then (if j = 66 then G 6 else G 3) else if i = 4 then (if j = 67 then G 7 else G 4) else if i = 5 then (if j = 168 then G 8 else G 5) else G i
theorem zIM.rsa {G : Nat → Int} {σ : zSt} {j : Nat} (h : zIM G σ) (hj : j ≤ 1047) : zIM (zFrsa j G) (zsi σ 3 j (zgi σ 12 j)) := by
  obtain ⟨G2, h2, g2⟩ := (h.E (l := [3, 4, 5])).c3 (j := j) ⟨Nat.zero_le _, hj⟩ (by decide +kernel)
  have e : G2 = zFrsa j G := by
    funext i
    unfold zFrsa
    by_cases i3 : i = 3
    · subst i3
      rw [if_pos rfl]
      have a0 : (zgi (zsi σ 3 j (zgi σ 12 j)) 3 66).toInt = G2 3 := h2.at 3 (by decide)
      have a : ((zsi σ 3 j (zgi σ 12 j)).1 3 66).toInt = G2 3 := a0
      have b : (zgi σ 12 66).toInt = G 6 := h.at 6 (by decide)
      have c : (zgi σ 3 66).toInt = G 3 := h.at 3 (by decide)
      by_cases q : j = 66
      · subst q
        rw [zsi_at, if_pos ⟨rfl, rfl⟩] at a
        rw [if_pos rfl, ← a]; exact b
      · rw [zsi_at, if_neg (fun r => q r.2.symm)] at a
        rw [if_neg q, ← a]; exact c
    rw [if_neg i3]
    by_cases i4 : i = 4
    · subst i4
      rw [if_pos rfl]
      have a0 : (zgi (zsi σ 3 j (zgi σ 12 j)) 3 67).toInt = G2 4 := h2.at 4 (by decide)
      have a : ((zsi σ 3 j (zgi σ 12 j)).1 3 67).toInt = G2 4 := a0
      have b : (zgi σ 12 67).toInt = G 7 := h.at 7 (by decide)
      have c : (zgi σ 3 67).toInt = G 4 := h.at 4 (by decide)
      by_cases q : j = 67
      · subst q
        rw [zsi_at, if_pos ⟨rfl, rfl⟩] at a
        rw [if_pos rfl, ← a]; exact b
      · rw [zsi_at, if_neg (fun r => q r.2.symm)] at a
        rw [if_neg q, ← a]; exact c
    rw [if_neg i4]
    by_cases i5 : i = 5
    · subst i5
      rw [if_pos rfl]
      have a0 : (zgi (zsi σ 3 j (zgi σ 12 j)) 3 168).toInt = G2 5 := h2.at 5 (by decide)
      have a : ((zsi σ 3 j (zgi σ 12 j)).1 3 168).toInt = G2 5 := a0
      have b : (zgi σ 12 168).toInt = G 8 := h.at 8 (by decide)
      have c : (zgi σ 3 168).toInt = G 5 := h.at 5 (by decide)
      by_cases q : j = 168
      · subst q
        rw [zsi_at, if_pos ⟨rfl, rfl⟩] at a
        rw [if_pos rfl, ← a]; exact b
      · rw [zsi_at, if_neg (fun r => q r.2.symm)] at a
        rw [if_neg q, ← a]; exact c
    rw [if_neg i5]
    exact g2 i (fun r => by simp only [List.mem_cons, List.not_mem_nil, or_false] at r; omega)
  rw [← e]; exact h2
noncomputable def zFrsl (j : Nat) (G : Nat → Int) (i : Nat) : Int := if i = 100 then (if j = 0 then G 102 else G 100) else if i = 104 then (if j = 4 then G 105 else G 104) else if i = 101 then (if j = 2 then G 106 else G 101) else G i
theorem zIM.rsl {G : Nat → Int} {σ : zSt} {j : Nat} (h : zIM G σ) (hj : j ≤ 4) : zIM (zFrsl j G) (zsl σ 4 j (zgl σ 13 j)) := by
  obtain ⟨G2, h2, g2⟩ := (h.E (l := [100, 104, 101])).wle (v := zgl σ 13 j) (k := 4) 0 4 ⟨Nat.zero_le _, hj⟩ (by decide +kernel)
  have e : G2 = zFrsl j G := by
    funext i
    unfold zFrsl
    by_cases i100 : i = 100
    · subst i100
      rw [if_pos rfl]
      have a0 : (zgl (zsl σ 4 j (zgl σ 13 j)) 4 0).toInt = G2 100 := h2.atl 0 (by decide)
      have a : ((zsl σ 4 j (zgl σ 13 j)).2 4 0).toInt = G2 100 := a0
      have b : (zgl σ 13 0).toInt = G 102 := h.atl 2 (by decide)
      have c : (zgl σ 4 0).toInt = G 100 := h.atl 0 (by decide)
      by_cases q : j = 0
      · subst q
        rw [zsl_at, if_pos ⟨rfl, rfl⟩] at a
        rw [if_pos rfl, ← a]; exact b
      · rw [zsl_at, if_neg (fun r => q r.2.symm)] at a
        rw [if_neg q, ← a]; exact c
    rw [if_neg i100]
    by_cases i104 : i = 104
    · subst i104
      rw [if_pos rfl]
      have a0 : (zgl (zsl σ 4 j (zgl σ 13 j)) 4 4).toInt = G2 104 := h2.atl 4 (by decide)
      have a : ((zsl σ 4 j (zgl σ 13 j)).2 4 4).toInt = G2 104 := a0
      have b : (zgl σ 13 4).toInt = G 105 := h.atl 5 (by decide)
      have c : (zgl σ 4 4).toInt = G 104 := h.atl 4 (by decide)
      by_cases q : j = 4
      · subst q
        rw [zsl_at, if_pos ⟨rfl, rfl⟩] at a
        rw [if_pos rfl, ← a]; exact b
      · rw [zsl_at, if_neg (fun r => q r.2.symm)] at a
        rw [if_neg q, ← a]; exact c
    rw [if_neg i104]
    by_cases i101 : i = 101
    · subst i101
      rw [if_pos rfl]
      have a0 : (zgl (zsl σ 4 j (zgl σ 13 j)) 4 2).toInt = G2 101 := h2.atl 1 (by decide)
      have a : ((zsl σ 4 j (zgl σ 13 j)).2 4 2).toInt = G2 101 := a0
      have b : (zgl σ 13 2).toInt = G 106 := h.atl 6 (by decide)
      have c : (zgl σ 4 2).toInt = G 101 := h.atl 1 (by decide)
      by_cases q : j = 2
      · subst q
        rw [zsl_at, if_pos ⟨rfl, rfl⟩] at a
        rw [if_pos rfl, ← a]; exact b
      · rw [zsl_at, if_neg (fun r => q r.2.symm)] at a
        rw [if_neg q, ← a]; exact c
    rw [if_neg i101]
    exact g2 i (fun r => by simp only [List.mem_cons, List.not_mem_nil, or_false] at r; omega)
  rw [← e]; exact h2
noncomputable def zLrestore (G0 : Nat → Int) (r : zSt) : Prop := ∃ G1, zIM G1 r ∧ (∀ i, ¬ i = 100 → ¬ i = 104 → ¬ i = 101 → G1 i = G0 i) ∧ G1 100 = G0 102 ∧ G1 104 = G0 105 ∧ G1 101 = G0 106
noncomputable def zArestore (G0 : Nat → Int) (r : zSt) : Prop := ∃ G1, zIM G1 r ∧ (∀ i, ¬ i = 3 → ¬ i = 4 → ¬ i = 5 → ¬ i = 100 → ¬ i = 104 → ¬ i = 101 → G1 i = G0 i) ∧ G1 3 = G0 6 ∧ G1 4 = G0 7 ∧ G1 5 = G0 8 ∧ G1 100 = G0 102 ∧ G1 104 = G0 105 ∧ G1 101 = G0 106
noncomputable def zIrsl (x : Int) (G0 G : Nat → Int) : Prop := (∀ i, ¬ i = 100 → ¬ i = 104 → ¬ i = 101 → G i = G0 i) ∧ (0 < x → G 100 = G0 102) ∧ (4 < x → G 104 = G0 105) ∧ (2 < x → G 101 = G0 106)
theorem zIrsl.next {x : Int} {j : Nat} {G0 G : Nat → Int} (h : zIrsl x G0 G) (e : (j : Int) = x) : zIrsl (x + 1) G0 (zFrsl j G) := by
  obtain ⟨h0, h100, h104, h101⟩ := h
  refine ⟨fun i n100 n104 n101 => ?_, fun l => ?_, fun l => ?_, fun l => ?_⟩
  · unfold zFrsl; rw [if_neg n100, if_neg n104, if_neg n101]; exact h0 i n100 n104 n101
  · unfold zFrsl
    rw [if_pos rfl]
    by_cases q : j = 0
    · rw [if_pos q]; exact h0 102 (by decide) (by decide) (by decide)
    · rw [if_neg q]; exact h100 (by omega)
  · unfold zFrsl
    rw [if_neg (by decide : ¬ 104 = 100), if_pos rfl]
    by_cases q : j = 4
    · rw [if_pos q]; exact h0 105 (by decide) (by decide) (by decide)
    · rw [if_neg q]; exact h104 (by omega)
  · unfold zFrsl
    rw [if_neg (by decide : ¬ 101 = 100), if_neg (by decide : ¬ 101 = 104), if_pos rfl]
    by_cases q : j = 2
    · rw [if_pos q]; exact h0 106 (by decide) (by decide) (by decide)
    · rw [if_neg q]; exact h101 (by omega)
theorem q_restore_50 : ∀ (n : Nat) {G0 G : Nat → Int} {σ : zSt} (hσ : zIM G σ) {x1 : Int32} (h1 : zr 0 5 x1) (hI : zIrsl x1.toInt G0 G) (hm : 5 - x1.toInt < n), zok (fX12_restore_50 n σ x1) (zLrestore G0) := by
  intro n
  induction n with
  | zero => intro G0 G σ hσ x1 h1 hI hm; have := h1.2; exfalso; omega
  | succ n ih =>
    intro G0 G σ hσ x1 h1 hI hm
    show zok (fX12_restore_50_body (fX12_restore_50 n) σ x1) _
    unfold fX12_restore_50_body
    have c9 : (5 : Int32).toInt = 5 := rfl
    have b1 := h1.1
    refine zok_if (fun q => ?_) (fun q => ?_)
    · have q1 := Int32.le_iff_toInt_le.mp q
      obtain ⟨h0, h100, h104, h101⟩ := hI
      exact zok_mono (s_X12_restore_75 zfuel hσ (zr_c (by decide)) (by decide)) (fun r i => ⟨G, i, h0, h100 (by omega), h104 (by omega), h101 (by omega)⟩)
    · have q1 := Int32.lt_iff_toInt_lt.mp (z_nle q)
      have h5 : zr 0 4 x1 := ⟨b1, by omega⟩
      have c1 : (1 : Int32).toInt = 1 := rfl
      have t : (x1 + 1).toInt = x1.toInt + (1 : Int32).toInt := z_tadd h5 (zr_c (lo := 1) (hi := 1) (x := 1) (by decide)) (by decide)
      have ex : (x1.toNatClampNeg : Int) = x1.toInt := by have : x1.toNatClampNeg = x1.toInt.toNat := rfl; omega
      refine zok_ck (zin_ok h5 (by decide)) (zok_ck (zin_ok h5 (by decide)) ?_)
      refine zok_bs (I := zIM (zFrsl x1.toNatClampNeg G)) (hσ.rsl (by omega)) (fun σ1 e1 i1 => ?_)
      refine zok_bv (fun v3 e3 => ?_)
      subst e3
      refine ih i1 ⟨by omega, by omega⟩ ?_ (by omega)
      rw [t, c1]
      exact hI.next ex
noncomputable def zIrsa (x : Int) (G0 G : Nat → Int) : Prop := (∀ i, ¬ i = 3 → ¬ i = 4 → ¬ i = 5 → G i = G0 i) ∧ (66 < x → G 3 = G0 6) ∧ (67 < x → G 4 = G0 7) ∧ (168 < x → G 5 = G0 8)
theorem zIrsa.next {x : Int} {j : Nat} {G0 G : Nat → Int} (h : zIrsa x G0 G) (e : (j : Int) = x) : zIrsa (x + 1) G0 (zFrsa j G) := by
  obtain ⟨h0, h3, h4, h5⟩ := h
  refine ⟨fun i n3 n4 n5 => ?_, fun l => ?_, fun l => ?_, fun l => ?_⟩
  · unfold zFrsa; rw [if_neg n3, if_neg n4, if_neg n5]; exact h0 i n3 n4 n5
  · unfold zFrsa
    rw [if_pos rfl]
    by_cases q : j = 66
    · rw [if_pos q]; exact h0 6 (by decide) (by decide) (by decide)
    · rw [if_neg q]; exact h3 (by omega)
  · unfold zFrsa
    rw [if_neg (by decide : ¬ 4 = 3), if_pos rfl]
    by_cases q : j = 67
    · rw [if_pos q]; exact h0 7 (by decide) (by decide) (by decide)
    · rw [if_neg q]; exact h4 (by omega)
  · unfold zFrsa
    rw [if_neg (by decide : ¬ 5 = 3), if_neg (by decide : ¬ 5 = 4), if_pos rfl]
    by_cases q : j = 168
    · rw [if_pos q]; exact h0 8 (by decide) (by decide) (by decide)
    · rw [if_neg q]; exact h5 (by omega)
theorem q_restore_23 : ∀ (n : Nat) {G0 G : Nat → Int} {σ : zSt} (hσ : zIM G σ) {x1 : Int32} (h1 : zr 0 1048 x1) (hI : zIrsa x1.toInt G0 G) (hm : 1048 - x1.toInt < n), zok (fX12_restore_23 n σ x1) (zArestore G0) := by
  intro n
  induction n with
  | zero => intro G0 G σ hσ x1 h1 hI hm; have := h1.2; exfalso; omega
  | succ n ih =>
    intro G0 G σ hσ x1 h1 hI hm
    show zok (fX12_restore_23_body (fX12_restore_23 n) σ x1) _
    unfold fX12_restore_23_body
    have c9 : (1048 : Int32).toInt = 1048 := rfl
    have b1 := h1.1
    refine zok_if (fun q => ?_) (fun q => ?_)
    · have q1 := Int32.le_iff_toInt_le.mp q
      obtain ⟨h0, h3, h4, h5⟩ := hI
      refine zok_mono (q_restore_50 zfuel (G0 := G) (x1 := 0) hσ (zr_c (by decide)) ⟨fun i _ _ _ => rfl, fun l => absurd l (by decide), fun l => absurd l (by decide), fun l => absurd l (by decide)⟩ (by decide)) (fun r q => ?_)
      obtain ⟨G1, i1, g0, g100, g104, g101⟩ := q
      refine ⟨G1, i1, fun i n3 n4 n5 n100 n104 n101 => (g0 i n100 n104 n101).trans (h0 i n3 n4 n5), (g0 3 (by decide) (by decide) (by decide)).trans (h3 (by omega)), (g0 4 (by decide) (by decide) (by decide)).trans (h4 (by omega)), (g0 5 (by decide) (by decide) (by decide)).trans (h5 (by omega)), g100.trans (h0 102 (by decide) (by decide) (by decide)), g104.trans (h0 105 (by decide) (by decide) (by decide)), g101.trans (h0 106 (by decide) (by decide) (by decide))⟩
    · have q1 := Int32.lt_iff_toInt_lt.mp (z_nle q)
      have h5 : zr 0 1047 x1 := ⟨b1, by omega⟩
      have c1 : (1 : Int32).toInt = 1 := rfl
      have t : (x1 + 1).toInt = x1.toInt + (1 : Int32).toInt := z_tadd h5 (zr_c (lo := 1) (hi := 1) (x := 1) (by decide)) (by decide)
      have ex : (x1.toNatClampNeg : Int) = x1.toInt := by have : x1.toNatClampNeg = x1.toInt.toNat := rfl; omega
      refine zok_ck (zin_ok h5 (by decide)) (zok_ck (zin_ok h5 (by decide)) ?_)
      refine zok_bs (I := zIM (zFrsa x1.toNatClampNeg G)) (hσ.rsa (by omega)) (fun σ1 e1 i1 => ?_)
      refine zok_bv (fun v3 e3 => ?_)
      subst e3
      refine ih i1 ⟨by omega, by omega⟩ ?_ (by omega)
      rw [t, c1]
      exact hI.next ex
noncomputable def zLE (l : List Nat) (G : Nat → Int) (σ : zSt) : Prop := ∃ c, (c = G 3 ∨ c = 0) ∧ zEM l (zset G 3 c) σ
section ZLE
variable {G : Nat → Int} {σ : zSt} {l : List Nat}
theorem zLE.lift {σ1 : zSt} (h : zLE l G σ) (k : ∀ G1, zEM l G1 σ → zEM l G1 σ1) : zLE l G σ1 := by obtain ⟨c, hc, h1⟩ := h; exact ⟨c, hc, k _ h1⟩
theorem zLE.P (h : zLE l G σ) : zPM σ := by obtain ⟨c, hc, h1⟩ := h; exact h1.P
theorem zLE.sg (h : zLE l G σ) : zSg sM σ := by obtain ⟨c, hc, h1⟩ := h; exact h1.sg
theorem zLE.Y (h : zLE l G σ) : zYM σ := by obtain ⟨c, hc, h1⟩ := h; exact h1.Y
theorem zLE.wk {k j : Nat} {v : Int32} (h : zLE l G σ) (c : (zWk sM zZM zQM k && (!Nat.beq k 0 && (!Nat.beq k 3 && !Nat.beq k 12))) = true) : zLE l G (zsi σ k j v) := h.lift (fun _ h1 => h1.wk c)
theorem zLE.wi {k j : Nat} {v : Int32} {lo hi : Int} (h : zLE l G σ) (a b : Nat) (hj : a ≤ j ∧ j ≤ b) (hv : zr lo hi v) (c : (zWe sM zZM zQM l k a b lo hi && zOM k a b) = true) : zLE l G (zsi σ k j v) := h.lift (fun _ h1 => h1.wi a b hj hv c)
theorem zLE.wb {v : Int32} {lo hi : Int} (h : zLE l G σ) (hv : zr lo hi v) (c : 1 ≤ lo ∧ hi ≤ 16) : zLE l G (zsi σ 0 6 v) := h.lift (fun _ h1 => h1.wb hv c)
theorem zLE.wp {v : Int32} {lo hi a b : Int} (h : zLE l G σ) (hv : zr lo hi v) (hb : zr a b (zgi σ 0 6)) (c : 0 ≤ lo ∧ hi ≤ 3 ∧ 1 ≤ a) : zLE l G (zsi σ 0 7 v) := h.lift (fun _ h1 => h1.wp hv hb c)
theorem zLE.upu {o : Option zSt} (h : zLE l G σ) (k : ∀ G1, zIM G1 σ → zok o (zIM G1)) : zok o (zLE l G) := by
  obtain ⟨c, hc, h1⟩ := h
  exact zok_mono (h1.upu k) (fun r q => ⟨c, hc, q⟩)
theorem zLE_of {G1 : Nat → Int} (h : zIM G1 σ) : zLE l G1 σ := ⟨G1 3, Or.inl rfl, by rw [zset_id]; exact h.E⟩
theorem zLE.sub {l1 : List Nat} {G1 : Nat → Int} {r : zSt} (c : (l1.all (fun i => l.contains i) && !l.contains 3) = true) {d : Int} (hd : d = G 3 ∨ d = 0) (g1 : ∀ i, ¬ i ∈ l → G1 i = zset G 3 d i) (h : zLE l1 G1 r) : zLE l G r := by
  rw [Bool.and_eq_true, List.all_eq_true] at c
  obtain ⟨c1, c2⟩ := c
  have n3 : ¬ (3 : Nat) ∈ l := fun r => by rw [List.contains_iff_mem.mpr r] at c2; exact absurd c2 (by decide)
  obtain ⟨e, he, G2, h2, g2⟩ := h
  have e3 : G1 3 = d := (g1 3 n3).trans zset_eq
  refine ⟨e, ?_, G2, h2, fun i hi => ?_⟩
  · rw [e3] at he
    rcases he with he | he
    · rw [he]; exact hd
    · exact Or.inr he
  · rw [g2 i (fun r => hi (List.contains_iff_mem.mp (c1 i r)))]
    by_cases q : i = 3
    · subst q; rw [zset_eq, zset_eq]
    · rw [zset_ne q, zset_ne q, g1 i hi, zset_ne q]
theorem zLE.uEi {o : Option (zSt × Int32)} {Q : Int32 → Prop} {l1 : List Nat} (h : zLE l G σ) (c : (l1.all (fun i => l.contains i) && !l.contains 3) = true) (k : ∀ G1, zLE l1 G1 σ → zok o (zAi (zLE l1 G1) Q)) : zok o (zAi (zLE l G) Q) := by
  obtain ⟨d, hd, G1, h1, g1⟩ := h
  exact zok_mono (k G1 (zLE_of h1)) (fun r q => ⟨zLE.sub c hd g1 q.1, q.2⟩)
theorem q_anewE (h : zLE [2, 4] G σ) : zok (fX12_anew σ ) (zLE [2, 4] G) := by
  obtain ⟨d, hd, G1, h1, g1⟩ := h
  refine zok_mono (s_anewx h1) (fun r q => ⟨0, Or.inr rfl, _, q, fun i hi => ?_⟩)
  have n4 : ¬ i = 4 := fun e => hi (by rw [e]; decide)
  rw [zset_ne n4]
  by_cases q3 : i = 3
  · subst q3; rw [zset_eq, zset_eq]
  · rw [zset_ne q3, zset_ne q3, g1 i hi, zset_ne q3]
end ZLE
theorem q_load_126 {G : Nat → Int} {σ : zSt} {k89 : zSt → Int32 → Int32 → Option (zSt × Int32)} {Mk89 : Int} (hk89 : ∀ (σ : zSt) (x1 : Int32) (x3 : Int32), zLE [2, 4] G σ → zr (0) (512) x1 → zr (0) (262144) x3 → zr (1) (16) (zgi σ 0 6) → (262144) - x3.toInt < Mk89 → zok (k89 σ x1 x3) (zAi (zLE [2, 4] G) (fun v : Int32 => zr (0) (3) v))) (hσ : zLE [2, 4] G σ) {x1 : Int32} (h_x1 : zr (0) (512) x1) {x3 : Int32} (h_x3 : zr (0) (262143) x3) {s0 : Int32} {s1 : Int32} (h_s1 : zr (0) (262143) s1) (c_0_6 : zr (1) (16) (zgi σ 0 6)) (hMk89 : (262144) - x3.toInt ≤ Mk89) : zok (fX12_load_126 k89 σ x1 x3 s0 s1) (zAi (zLE [2, 4] G) (fun v : Int32 => zr (0) (3) v)) := by
  unfold fX12_load_126
  refine zok_ck (zin_ok h_s1 (by decide)) ?_
  refine zok_bs (hσ.wk (by decide)) (fun σ1 e2 i1 => ?_)
  refine zok_br (zr_add (lo := 1) (hi := 262144) h_x3 (zr_c (lo := 1) (hi := 1) (by decide)) (by decide)) (fun v2 e4 h3 => ?_)
  exact hk89 _ _ _ i1 h_x1 (zr_w h3 (by decide)) (z_tr e2 rfl c_0_6) (by rw [e4]; have := z_tadd (y := (1 : Int32)) h_x3 (zr_c (lo := 1) (hi := 1) (by decide)) (by decide); have e9 : (1 : Int32).toInt = 1 := rfl; omega) 
theorem q_load_161 {G : Nat → Int} {σ : zSt} {k142 : zSt → Int32 → Option (zSt × Int32)} {Mk142 : Int} (hk142 : ∀ (σ : zSt) (x3 : Int32), zLE [2, 4] G σ → zr (8176) (65550) x3 → zr (1) (16) (zgi σ 0 6) → (65550) - x3.toInt < Mk142 → zok (k142 σ x3) (zAi (zLE [2, 4] G) (fun v : Int32 => zr (0) (3) v))) (hσ : zLE [2, 4] G σ) {x3 : Int32} (h_x3 : zr (8176) (32767) x3) (c_0_6 : zr (1) (16) (zgi σ 0 6)) (hMk142 : (65550) - x3.toInt ≤ Mk142) : zok (fX12_load_161 k142 σ x3) (zAi (zLE [2, 4] G) (fun v : Int32 => zr (0) (3) v)) := by
  unfold fX12_load_161
  refine zok_br (zr_add (lo := 16368) (hi := 65550) (zr_mul (lo := 16352) (hi := 65534) (zr_c (lo := 2) (hi := 2) (by decide)) h_x3 (by decide)) (zr_c (lo := 16) (hi := 16) (by decide)) (by decide)) (fun v3 e2 h1 => ?_)
  exact hk142 _ _ hσ (zr_w h1 (by decide)) c_0_6 (z_l142 e2 h_x3 (by decide) hMk142) 
theorem q_load_414_body {G : Nat → Int} {σ : zSt} {k414 : zSt → Int32 → Option (zSt × Int32)} {Mk414 : Int} (hk414 : ∀ (σ : zSt) (x6 : Int32), zLE [2] G σ → zr (0) (8192) x6 → (8192) - x6.toInt < Mk414 → zok (k414 σ x6) (zAi (zLE [2] G) (fun v : Int32 => zr (0) (3) v))) (hσ : zLE [2] G σ) {x6 : Int32} (h_x6 : zr (0) (8192) x6) (hMk414 : (8192) - x6.toInt ≤ Mk414) : zok (fX12_load_414_body k414 σ x6) (zAi (zLE [2] G) (fun v : Int32 => zr (0) (3) v)) := by
  unfold fX12_load_414_body
  refine zok_if (fun q1 => ?_) (fun q1 => ?_)
  · have h2 := zc_ler (8192) q1 (zr_c (lo := 8192) (hi := 8192) (by decide)) h_x6 (by decide)
    refine zok_ck rfl ?_
    refine zok_bs (hσ.wi 19 19 (by decide) (zr_c (lo := 0) (hi := 0) (by decide)) (by decide +kernel)) (fun σ4 e4 i3 => ?_)
    exact zok_sai i3 (zr_w (zr_c (lo := 0) (hi := 0) (by decide)) (by decide))
  have h5 := zc_ltl (8191) (z_nle q1) h_x6 (zr_c (lo := 8192) (hi := 8192) (by decide)) (by decide)
  refine zok_ck (zin_ok h5 (by decide)) ?_
  refine zok_bs (hσ.wk (by decide)) (fun σ5 e7 i6 => ?_)
  refine zok_br (zr_add (lo := 1) (hi := 8192) h5 (zr_c (lo := 1) (hi := 1) (by decide)) (by decide)) (fun v6 e9 h8 => ?_)
  exact hk414 _ _ i6 (zr_w h8 (by decide)) (by rw [e9]; have := z_tadd (y := (1 : Int32)) h5 (zr_c (lo := 1) (hi := 1) (by decide)) (by decide); have e9 : (1 : Int32).toInt = 1 := rfl; omega) 
theorem q_load_414 {G : Nat → Int} : ∀ (n : Nat) {σ : zSt} (hσ : zLE [2] G σ) {x6 : Int32} (h_x6 : zr (0) (8192) x6) (hm : (8192) - x6.toInt < n), zok (fX12_load_414 n σ x6) (zAi (zLE [2] G) (fun v : Int32 => zr (0) (3) v)) := by
  intro n
  induction n with
  | zero => intro σ hσ x6 h_x6 hm ; have h9 := h_x6.1; have h8 := h_x6.2; exfalso; omega
  | succ n ih => intro σ hσ x6 h_x6 hm ; exact q_load_414_body (fun σ x6 hσ h_x6 hm1 => ih hσ h_x6 (by omega)) hσ h_x6 (Int.le_refl _)
theorem q_load_404 {G : Nat → Int} {σ : zSt} (hσ : zLE [2, 4] G σ) {s0 : Int32} (h_s0 : zr (0) (65535) s0) : zok (fX12_load_404 σ s0) (zAi (zLE [2, 4] G) (fun v : Int32 => zr (0) (3) v)) := by
  unfold fX12_load_404
  refine zok_bs (hσ.wi 9 9 (by decide) h_s0 (by decide +kernel)) (fun σ7 e2 i1 => ?_)
  refine zok_bu (q_anewE i1) (fun σ8 i3 => ?_)
  exact (i3.uEi (by decide) (fun G1 hG => q_load_414 zfuel hG (zr_w (zr_c (lo := 0) (hi := 0) (by decide)) (by decide)) (by decide)))
theorem q_load_385 {G : Nat → Int} {σ : zSt} (hσ : zLE [2, 4] G σ) : zok (fX12_load_385 σ ) (zAi (zLE [2, 4] G) (fun v : Int32 => zr (0) (3) v)) := by
  unfold fX12_load_385
  refine zok_if (fun q1 => ?_) (fun q1 => ?_)
  · have h2 := zc_ler (0) q1 (zr_c (lo := 0) (hi := 0) (by decide)) (rM_5 hσ.sg _ (by decide)) (by decide)
    exact (q_load_404 hσ (zr_andr (lo := 0) (hi := 65535) (zr_c (lo := 65535) (hi := 65535) (by decide)) (by decide)))
  have h3 := zc_ltl (-1) (z_nle q1) (rM_5 hσ.sg _ (by decide)) (zr_c (lo := 0) (hi := 0) (by decide)) (by decide)
  exact (q_load_404 hσ (zr_w (zr_c (lo := 0) (hi := 0) (by decide)) (by decide)))
theorem q_load_359 {G : Nat → Int} {σ : zSt} {k337 : zSt → Int32 → Int32 → Option (zSt × Int32)} {Mk337 : Int} (hk337 : ∀ (σ : zSt) (x5 : Int32) (x6 : Int32), zLE [2, 4] G σ → zr (0) (15) x5 → zr (32768) (262144) x6 → (262144) - x6.toInt < Mk337 → zok (k337 σ x5 x6) (zAi (zLE [2, 4] G) (fun v : Int32 => zr (0) (3) v))) (hσ : zLE [2, 4] G σ) {x5 : Int32} (h_x5 : zr (0) (15) x5) {x6 : Int32} (h_x6 : zr (32768) (262143) x6) (hMk337 : (262144) - x6.toInt ≤ Mk337) : zok (fX12_load_359 k337 σ x5 x6) (zAi (zLE [2, 4] G) (fun v : Int32 => zr (0) (3) v)) := by
  unfold fX12_load_359
  refine zok_ck (zin_ok h_x6 (by decide)) ?_
  refine zok_bs (hσ.wi 9 9 (by decide) zr_any (by decide +kernel)) (fun σ9 e2 i1 => ?_)
  refine zok_br (zr_add (lo := 32769) (hi := 262144) h_x6 (zr_c (lo := 1) (hi := 1) (by decide)) (by decide)) (fun v10 e4 h3 => ?_)
  exact hk337 _ _ _ i1 h_x5 (zr_w h3 (by decide)) (by rw [e4]; have := z_tadd (y := (1 : Int32)) h_x6 (zr_c (lo := 1) (hi := 1) (by decide)) (by decide); have e9 : (1 : Int32).toInt = 1 := rfl; omega) 
theorem q_load_337_body {G : Nat → Int} {σ : zSt} {k337 : zSt → Int32 → Int32 → Option (zSt × Int32)} {Mk337 : Int} (hk337 : ∀ (σ : zSt) (x5 : Int32) (x6 : Int32), zLE [2, 4] G σ → zr (0) (15) x5 → zr (32768) (262144) x6 → (262144) - x6.toInt < Mk337 → zok (k337 σ x5 x6) (zAi (zLE [2, 4] G) (fun v : Int32 => zr (0) (3) v))) (hσ : zLE [2, 4] G σ) {x5 : Int32} (h_x5 : zr (0) (15) x5) {x6 : Int32} (h_x6 : zr (32768) (262144) x6) (hMk337 : (262144) - x6.toInt ≤ Mk337) : zok (fX12_load_337_body k337 σ x5 x6) (zAi (zLE [2, 4] G) (fun v : Int32 => zr (0) (3) v)) := by
  unfold fX12_load_337_body
  refine zok_if (fun q1 => ?_) (fun q1 => ?_)
  · exact (q_load_385 hσ)
  have h2 := zc_ltl (262143) (z_nle q1) h_x6 (rM_2 hσ.sg _ (by decide)) (by decide)
  have h3 := zc_ltr (32769) (z_nle q1) h_x6 (rM_2 hσ.sg _ (by decide)) (by decide)
  refine zok_if (fun q4 => ?_) (fun q4 => ?_)
  · have h5 := zc_ltr (14) q4 (zr_c (lo := 13) (hi := 13) (by decide)) h_x5 (by decide)
    exact (q_load_359 hk337 hσ (zr_w h5 (by decide)) h2 hMk337)
  have h6 := zc_lel (13) (z_nlt q4) h_x5 (zr_c (lo := 13) (hi := 13) (by decide)) (by decide)
  refine zok_if (fun q7 => ?_) (fun q7 => ?_)
  · have h8 := zc_ler (3) q7 (zr_c (lo := 3) (hi := 3) (by decide)) h6 (by decide)
    exact (q_load_385 hσ)
  have h9 := zc_ltl (2) (z_nle q7) h6 (zr_c (lo := 3) (hi := 3) (by decide)) (by decide)
  exact (q_load_359 hk337 hσ (zr_w h9 (by decide)) h2 hMk337)
theorem q_load_337 {G : Nat → Int} : ∀ (n : Nat) {σ : zSt} (hσ : zLE [2, 4] G σ) {x5 : Int32} (h_x5 : zr (0) (15) x5) {x6 : Int32} (h_x6 : zr (32768) (262144) x6) (hm : (262144) - x6.toInt < n), zok (fX12_load_337 n σ x5 x6) (zAi (zLE [2, 4] G) (fun v : Int32 => zr (0) (3) v)) := by
  intro n
  induction n with
  | zero => intro σ hσ x5 h_x5 x6 h_x6 hm ; have h9 := h_x6.1; have h8 := h_x6.2; exfalso; omega
  | succ n ih => intro σ hσ x5 h_x5 x6 h_x6 hm ; exact q_load_337_body (fun σ x5 x6 hσ h_x5 h_x6 hm1 => ih hσ h_x5 h_x6 (by omega)) hσ h_x5 h_x6 (Int.le_refl _)
theorem q_load_298_body {G : Nat → Int} {σ : zSt} {k298 : zSt → Int32 → Int32 → Option (zSt × Int32)} {Mk298 : Int} (hk298 : ∀ (σ : zSt) (x5 : Int32) (x6 : Int32), zLE [2, 4] G σ → zr (0) (15) x5 → zr (0) (32767) x6 → (32767) - x6.toInt < Mk298 → zok (k298 σ x5 x6) (zAi (zLE [2, 4] G) (fun v : Int32 => zr (0) (3) v))) (hσ : zLE [2, 4] G σ) {x5 : Int32} (h_x5 : zr (0) (15) x5) {x6 : Int32} (h_x6 : zr (0) (32767) x6) (hMk298 : (32767) - x6.toInt ≤ Mk298) : zok (fX12_load_298_body k298 σ x5 x6) (zAi (zLE [2, 4] G) (fun v : Int32 => zr (0) (3) v)) := by
  unfold fX12_load_298_body
  refine zok_if (fun q1 => ?_) (fun q1 => ?_)
  · exact (q_load_337 zfuel hσ h_x5 (zr_w (zr_c (lo := 32768) (hi := 32768) (by decide)) (by decide)) (by decide))
  have h2 := zc_ltl (32766) (z_nle q1) h_x6 (rM_5 hσ.sg _ (by decide)) (by decide)
  have h3 := zc_ltr (1) (z_nle q1) h_x6 (rM_5 hσ.sg _ (by decide)) (by decide)
  refine zok_ck (zin_ok h2 (by decide)) ?_
  refine zok_bs (hσ.wi 9 9 (by decide) zr_any (by decide +kernel)) (fun σ11 e5 i4 => ?_)
  refine zok_br (zr_add (lo := 1) (hi := 32767) h2 (zr_c (lo := 1) (hi := 1) (by decide)) (by decide)) (fun v12 e7 h6 => ?_)
  exact hk298 _ _ _ i4 h_x5 (zr_w h6 (by decide)) (by rw [e7]; have := z_tadd (y := (1 : Int32)) h2 (zr_c (lo := 1) (hi := 1) (by decide)) (by decide); have e9 : (1 : Int32).toInt = 1 := rfl; omega) 
theorem q_load_298 {G : Nat → Int} : ∀ (n : Nat) {σ : zSt} (hσ : zLE [2, 4] G σ) {x5 : Int32} (h_x5 : zr (0) (15) x5) {x6 : Int32} (h_x6 : zr (0) (32767) x6) (hm : (32767) - x6.toInt < n), zok (fX12_load_298 n σ x5 x6) (zAi (zLE [2, 4] G) (fun v : Int32 => zr (0) (3) v)) := by
  intro n
  induction n with
  | zero => intro σ hσ x5 h_x5 x6 h_x6 hm ; have h9 := h_x6.1; have h8 := h_x6.2; exfalso; omega
  | succ n ih => intro σ hσ x5 h_x5 x6 h_x6 hm ; exact q_load_298_body (fun σ x5 x6 hσ h_x5 h_x6 hm1 => ih hσ h_x5 h_x6 (by omega)) hσ h_x5 h_x6 (Int.le_refl _)
theorem q_load_293 {G : Nat → Int} {σ : zSt} (hσ : zLE [2, 4] G σ) {s0 : Int32} (h_s0 : zr (0) (15) s0) : zok (fX12_load_293 σ s0) (zAi (zLE [2, 4] G) (fun v : Int32 => zr (0) (3) v)) := by
  unfold fX12_load_293
  exact (q_load_298 zfuel hσ h_s0 (zr_w (zr_c (lo := 0) (hi := 0) (by decide)) (by decide)) (by decide))
theorem q_load_259 {G : Nat → Int} {σ : zSt} (hσ : zLE [2, 4] G σ) {s0 : Int32} (h_s0 : zr (0) (3) s0) (c_0_6 : zr (1) (16) (zgi σ 0 6)) : zok (fX12_load_259 σ s0) (zAi (zLE [2, 4] G) (fun v : Int32 => zr (0) (3) v)) := by
  unfold fX12_load_259
  refine zok_bs (hσ.wp h_s0 c_0_6 (by decide)) (fun σ13 e2 i1 => ?_)
  refine zok_bs (i1.wi 9 9 (by decide) (zr_c (lo := 0) (hi := 0) (by decide)) (by decide +kernel)) (fun σ14 e4 i3 => ?_)
  refine zok_if (fun q5 => ?_) (fun q5 => ?_)
  · have h6 := zc_ler (0) q5 (zr_c (lo := 0) (hi := 0) (by decide)) (rM_5 i3.sg _ (by decide)) (by decide)
    refine zok_ck (zin_ok (zr_add (lo := 15) (hi := 32782) h6 (zr_c (lo := 15) (hi := 15) (by decide)) (by decide)) (by decide)) ?_
    exact (q_load_293 i3 (zr_andr (lo := 0) (hi := 15) (zr_c (lo := 15) (hi := 15) (by decide)) (by decide)))
  have h7 := zc_ltl (-1) (z_nle q5) (rM_5 i3.sg _ (by decide)) (zr_c (lo := 0) (hi := 0) (by decide)) (by decide)
  exact (q_load_293 i3 (zr_w (zr_c (lo := 3) (hi := 3) (by decide)) (by decide)))
theorem q_load_247 {G : Nat → Int} {σ : zSt} (hσ : zLE [2, 4] G σ) (c_0_6 : zr (1) (16) (zgi σ 0 6)) : zok (fX12_load_247 σ ) (zAi (zLE [2, 4] G) (fun v : Int32 => zr (0) (3) v)) := by
  unfold fX12_load_247
  refine zok_if (fun q1 => ?_) (fun q1 => ?_)
  · have h2 := zc_ler (0) q1 (zr_c (lo := 0) (hi := 0) (by decide)) (rM_5 hσ.sg _ (by decide)) (by decide)
    exact (q_load_259 hσ (zr_w (zr_c (lo := 1) (hi := 1) (by decide)) (by decide)) c_0_6)
  have h3 := zc_ltl (-1) (z_nle q1) (rM_5 hσ.sg _ (by decide)) (zr_c (lo := 0) (hi := 0) (by decide)) (by decide)
  exact (q_load_259 hσ (zr_w (zr_c (lo := 3) (hi := 3) (by decide)) (by decide)) c_0_6)
theorem q_load_214 {G : Nat → Int} {σ : zSt} (hσ : zLE [2, 4] G σ) {x3 : Int32} {s0 : Int32} (c_0_6 : zr (1) (16) (zgi σ 0 6)) : zok (fX12_load_214 σ x3 s0) (zAi (zLE [2, 4] G) (fun v : Int32 => zr (0) (3) v)) := by
  unfold fX12_load_214
  refine zok_if (fun q1 => ?_) (fun q1 => ?_)
  · have h2 := zc_ltr (49153) q1 (zr_c (lo := 49152) (hi := 49152) (by decide)) (rM_2 hσ.sg _ (by decide)) (by decide)
    refine zok_if (fun q3 => ?_) (fun q3 => ?_)
    · have h4 := zc_lel (0) q3 zr_any (zr_c (lo := 0) (hi := 0) (by decide)) (by decide)
      exact (q_load_247 hσ c_0_6)
    have h5 := zc_ltr (1) (z_nle q3) (zr_c (lo := 0) (hi := 0) (by decide)) zr_any (by decide)
    refine zok_if (fun q6 => ?_) (fun q6 => ?_)
    · have h7 := zc_eql (65536) (65536) q6 zr_any (zr_c (lo := 65536) (hi := 65536) (by decide)) (by decide)
      exact (q_load_259 hσ (zr_w (zr_c (lo := 2) (hi := 2) (by decide)) (by decide)) c_0_6)
    exact (q_load_247 hσ c_0_6)
  have h8 := zc_lel (49152) (z_nlt q1) (rM_2 hσ.sg _ (by decide)) (zr_c (lo := 49152) (hi := 49152) (by decide)) (by decide)
  exact (q_load_259 hσ (zr_w (zr_c (lo := 0) (hi := 0) (by decide)) (by decide)) c_0_6)
theorem q_load_192 {G : Nat → Int} {σ : zSt} (hσ : zLE [2, 4] G σ) {s0 : Int32} (c_0_6 : zr (1) (16) (zgi σ 0 6)) : zok (fX12_load_192 σ s0) (zAi (zLE [2, 4] G) (fun v : Int32 => zr (0) (3) v)) := by
  unfold fX12_load_192
  refine zok_if (fun q1 => ?_) (fun q1 => ?_)
  · have h2 := zc_lel (49152) q1 (rM_2 hσ.sg _ (by decide)) (zr_c (lo := 49152) (hi := 49152) (by decide)) (by decide)
    exact (q_load_214 hσ c_0_6)
  have h3 := zc_ltr (49153) (z_nle q1) (zr_c (lo := 49152) (hi := 49152) (by decide)) (rM_2 hσ.sg _ (by decide)) (by decide)
  refine zok_pi (s_X12_bytesAt hσ.P (zr_w (zr_c (lo := 32744) (hi := 32744) (by decide)) (by decide)) (zr_c (lo := 2) (hi := 2) (by decide))) (fun v16 h4 => ?_)
  exact (q_load_214 hσ c_0_6)
theorem q_load_142_body {G : Nat → Int} {σ : zSt} {k142 : zSt → Int32 → Option (zSt × Int32)} {Mk142 : Int} (hk142 : ∀ (σ : zSt) (x3 : Int32), zLE [2, 4] G σ → zr (8176) (65550) x3 → zr (1) (16) (zgi σ 0 6) → (65550) - x3.toInt < Mk142 → zok (k142 σ x3) (zAi (zLE [2, 4] G) (fun v : Int32 => zr (0) (3) v))) (hσ : zLE [2, 4] G σ) {x3 : Int32} (h_x3 : zr (8176) (65550) x3) (c_0_6 : zr (1) (16) (zgi σ 0 6)) (hMk142 : (65550) - x3.toInt ≤ Mk142) : zok (fX12_load_142_body k142 σ x3) (zAi (zLE [2, 4] G) (fun v : Int32 => zr (0) (3) v)) := by
  unfold fX12_load_142_body
  refine zok_if (fun q1 => ?_) (fun q1 => ?_)
  · have h2 := zc_ler (32768) q1 (zr_c (lo := 32768) (hi := 32768) (by decide)) h_x3 (by decide)
    refine zok_if (fun q3 => ?_) (fun q3 => ?_)
    · have h4 := zc_lel (49152) q3 (rM_2 hσ.sg _ (by decide)) (zr_c (lo := 49152) (hi := 49152) (by decide)) (by decide)
      exact (q_load_192 hσ c_0_6)
    have h5 := zc_ltr (49153) (z_nle q3) (zr_c (lo := 49152) (hi := 49152) (by decide)) (rM_2 hσ.sg _ (by decide)) (by decide)
    refine zok_pi (s_X12_bytesAt hσ.P (zr_w (zr_c (lo := 32742) (hi := 32742) (by decide)) (by decide)) (zr_c (lo := 2) (hi := 2) (by decide))) (fun v18 h6 => ?_)
    exact (q_load_192 hσ c_0_6)
  have h7 := zc_ltl (32767) (z_nle q1) h_x3 (zr_c (lo := 32768) (hi := 32768) (by decide)) (by decide)
  refine zok_pi (s_X12_isHeader hσ.P h7) (fun v20 h8 => ?_)
  refine zok_if (fun q9 => ?_) (fun q9 => ?_)
  · have h10 := zc_eql (0) (0) q9 h8 (zr_c (lo := 0) (hi := 0) (by decide)) (by decide)
    exact (q_load_161 hk142 hσ h7 c_0_6 hMk142)
  have h11 := zc_nel (1) (1) q9 h8 (zr_c (lo := 0) (hi := 0) (by decide)) (by decide)
  refine zok_bs (hσ.wi 8 8 (by decide) h7 (by decide +kernel)) (fun σ21 e13 i12 => ?_)
  exact (q_load_161 hk142 i12 h7 (z_trj e13 (by decide) c_0_6) hMk142)
theorem q_load_142 {G : Nat → Int} : ∀ (n : Nat) {σ : zSt} (hσ : zLE [2, 4] G σ) {x3 : Int32} (h_x3 : zr (8176) (65550) x3) (c_0_6 : zr (1) (16) (zgi σ 0 6)) (hm : (65550) - x3.toInt < n), zok (fX12_load_142 n σ x3) (zAi (zLE [2, 4] G) (fun v : Int32 => zr (0) (3) v)) := by
  intro n
  induction n with
  | zero => intro σ hσ x3 h_x3 c_0_6 hm ; have h9 := h_x3.1; have h8 := h_x3.2; exfalso; omega
  | succ n ih => intro σ hσ x3 h_x3 c_0_6 hm ; exact q_load_142_body (fun σ x3 hσ h_x3 c_0_6 hm1 => ih hσ h_x3 c_0_6 (by omega)) hσ h_x3 c_0_6 (Int.le_refl _)
theorem q_load_89_body {G : Nat → Int} {σ : zSt} {k89 : zSt → Int32 → Int32 → Option (zSt × Int32)} {Mk89 : Int} (hk89 : ∀ (σ : zSt) (x1 : Int32) (x3 : Int32), zLE [2, 4] G σ → zr (0) (512) x1 → zr (0) (262144) x3 → zr (1) (16) (zgi σ 0 6) → (262144) - x3.toInt < Mk89 → zok (k89 σ x1 x3) (zAi (zLE [2, 4] G) (fun v : Int32 => zr (0) (3) v))) (hσ : zLE [2, 4] G σ) {x1 : Int32} (h_x1 : zr (0) (512) x1) {x3 : Int32} (h_x3 : zr (0) (262144) x3) (c_0_6 : zr (1) (16) (zgi σ 0 6)) (hMk89 : (262144) - x3.toInt ≤ Mk89) : zok (fX12_load_89_body k89 σ x1 x3) (zAi (zLE [2, 4] G) (fun v : Int32 => zr (0) (3) v)) := by
  unfold fX12_load_89_body
  refine zok_if (fun q1 => ?_) (fun q1 => ?_)
  · have h2 := zc_ler (16384) q1 (zr_mul (lo := 16384) (hi := 262144) (zr_c (lo := 16384) (hi := 16384) (by decide)) c_0_6 (by decide)) h_x3 (by decide)
    refine zok_bs (hσ.wi 8 8 (by decide) (zr_c (lo := -1) (hi := -1) (by decide)) (by decide +kernel)) (fun σ22 e4 i3 => ?_)
    exact (q_load_142 zfuel i3 (zr_w (zr_c (lo := 8176) (hi := 8176) (by decide)) (by decide)) (z_trj e4 (by decide) c_0_6) (by decide))
  have h5 := zc_ltl (262143) (z_nle q1) h_x3 (zr_mul (lo := 16384) (hi := 262144) (zr_c (lo := 16384) (hi := 16384) (by decide)) c_0_6 (by decide)) (by decide)
  refine zok_if (fun q6 => ?_) (fun q6 => ?_)
  · have h7 := zc_lel (262143) q6 (rM_2 hσ.sg _ (by decide)) h5 (by decide)
    exact (q_load_126 hk89 hσ h_x1 h5 h5 c_0_6 hMk89)
  have h8 := zc_ltr (1) (z_nle q6) h5 (rM_2 hσ.sg _ (by decide)) (by decide)
  refine zok_ck (zin_ok (zr_add (lo := 0) (hi := 262655) h_x1 h5 (by decide)) (by decide)) ?_
  exact (q_load_126 hk89 hσ h_x1 h5 h5 c_0_6 hMk89)
theorem q_load_89 {G : Nat → Int} : ∀ (n : Nat) {σ : zSt} (hσ : zLE [2, 4] G σ) {x1 : Int32} (h_x1 : zr (0) (512) x1) {x3 : Int32} (h_x3 : zr (0) (262144) x3) (c_0_6 : zr (1) (16) (zgi σ 0 6)) (hm : (262144) - x3.toInt < n), zok (fX12_load_89 n σ x1 x3) (zAi (zLE [2, 4] G) (fun v : Int32 => zr (0) (3) v)) := by
  intro n
  induction n with
  | zero => intro σ hσ x1 h_x1 x3 h_x3 c_0_6 hm ; have h9 := h_x3.1; have h8 := h_x3.2; exfalso; omega
  | succ n ih => intro σ hσ x1 h_x1 x3 h_x3 c_0_6 hm ; exact q_load_89_body (fun σ x1 x3 hσ h_x1 h_x3 c_0_6 hm1 => ih hσ h_x1 h_x3 c_0_6 (by omega)) hσ h_x1 h_x3 c_0_6 (Int.le_refl _)
end ZJN12
section ZJN13
/-! what holds between two calls: the reference with its counters, the class; n: the tape's length, k: the kind, s: saved -/
noncomputable def zRM (K n k s : Int) (μ : zSt) : Prop := K ≤ 268435456 ∧ ∃ G, zIM G μ ∧ zK K G ∧ zKS K G ∧ G 0 = n ∧ G 1 = k ∧ G 2 = s
noncomputable def zRC (n k s : Int) (σ : zSt) : Prop := ∃ H, zIC H σ ∧ H 0 = n ∧ H 2 = k ∧ H 1 = s
theorem zRM.mono {K K1 n k s : Int} {μ : zSt} (h : zRM K n k s μ) (c : K ≤ K1) (c1 : K1 ≤ 268435456) : zRM K1 n k s μ := by
  obtain ⟨_, G, i, a, b, e⟩ := h
  exact ⟨c1, G, i, a.mono c, b.keep c (fun _ _ => rfl), e⟩
theorem zTh_i2 {I : zSt → Prop} {o : Nat → Int64} {q : Option zRi} (h : zok q (zTi I [1, 2])) : zok (zbr q (zhi o zh2)) (fun r => I r.1.2) := by
  refine zok_zbr h (fun r hr => ?_)
  obtain ⟨h1, h2⟩ := hr
  rcases r with x | x
  · show zok (some ((vp_updL o 0 x.2.toInt64, x.1), (0 : Int32))) _
    exact zok_some h1
  · obtain ⟨y, k⟩ := x
    have h2 : k ∈ ([1, 2] : List Nat) := h2
    show zok (zh2 (o, y) k) _
    unfold zh2
    refine zok_if (fun _ => zok_some h1) (fun q1 => zok_if (fun _ => zok_some h1) (fun q2 => ?_))
    rcases List.mem_cons.mp h2 with e | e
    · exact absurd e q1
    · rcases List.mem_cons.mp e with e | e
      · exact absurd e q2
      · cases e
theorem zTh_i1 {n : Nat} {I : zSt → Prop} {o : Nat → Int64} {q : Option zRi} (h : zok q (zTi I [n])) : zok (zbr q (zhi o (zh1 n))) (fun r => I r.1.2) := by
  refine zok_zbr h (fun r hr => ?_)
  obtain ⟨h1, h2⟩ := hr
  rcases r with x | x
  · show zok (some ((vp_updL o 0 x.2.toInt64, x.1), (0 : Int32))) _
    exact zok_some h1
  · obtain ⟨y, k⟩ := x
    have h2 : k ∈ ([n] : List Nat) := h2
    show zok (zh1 n (o, y) k) _
    unfold zh1
    refine zok_if (fun _ => zok_some h1) (fun q1 => ?_)
    rcases List.mem_cons.mp h2 with e | e
    · exact absurd e q1
    · cases e
theorem zTh_l1 {n : Nat} {I : zSt → Prop} {o : Nat → Int64} {q : Option zRl} (h : zok q (zTl I [n])) : zok (zbr q (zhl o (zh1 n))) (fun r => I r.1.2) := by
  refine zok_zbr h (fun r hr => ?_)
  obtain ⟨h1, h2⟩ := hr
  rcases r with x | x
  · show zok (some ((vp_updL o 0 x.2, x.1), (0 : Int32))) _
    exact zok_some h1
  · obtain ⟨y, k⟩ := x
    have h2 : k ∈ ([n] : List Nat) := h2
    show zok (zh1 n (o, y) k) _
    unfold zh1
    refine zok_if (fun _ => zok_some h1) (fun q1 => ?_)
    rcases List.mem_cons.mp h2 with e | e
    · exact absurd e q1
    · cases e
theorem zTh_u1 {n : Nat} {I : zSt → Prop} {q : Option zRu} (h : zok q (zTu I [n])) : zok (zbr q (zhu (zh1 n))) (fun r => I r.1) := by
  refine zok_zbr h (fun r hr => ?_)
  obtain ⟨h1, h2⟩ := hr
  rcases r with x | x
  · show zok (some (x, (0 : Int32))) _
    exact zok_some h1
  · obtain ⟨y, k⟩ := x
    have h2 : k ∈ ([n] : List Nat) := h2
    show zok (zh1 n y k) _
    unfold zh1
    refine zok_if (fun _ => zok_some h1) (fun q1 => ?_)
    rcases List.mem_cons.mp h2 with e | e
    · exact absurd e q1
    · cases e
section ZCALLS
variable {K n k s : Int} {μ σ : zSt} {o : Nat → Int64}

theorem m_tell (h : zRM K n k s μ) {x1 : Int32} : zok (fX12_tell μ x1) (fun r => zRM K n k s r.1) := by
  obtain ⟨c, G, i, a, b, e0, e1, e2⟩ := h
  refine zok_mono (s_X12_tell i.E) (fun r q => ?_)
  obtain ⟨⟨G1, i1, g⟩, _⟩ := q
  have g1 : ∀ i, ¬ i = 9 → G1 i = G i := fun i hi => g i (fun r => hi (List.mem_singleton.mp r))
  exact ⟨c, G1, i1, a.keep (fun i hi => g1 i (fun r => by subst r; revert hi; decide)), b.keep (Int.le_refl _) (fun i hi => g1 i (fun r => by subst r; revert hi; decide)), (g1 0 (by decide)).trans e0, (g1 1 (by decide)).trans e1, (g1 2 (by decide)).trans e2⟩
theorem m_reset (h : zRM K n k s μ) : zok (fX12_reset μ ) (zRM K n k s) := by
  obtain ⟨c, G, i, a, b, e0, e1, e2⟩ := h
  unfold fX12_reset
  refine zok_bs (I := zIM G) (i.wi 0 0 (by decide) (zr_c (lo := 0) (hi := 0) (by decide)) (by decide +kernel)) (fun σ1 e1' i1 => ?_)
  refine zok_bu (s_anewx i1) (fun σ2 i2 => zok_some ?_)
  have g1 : ∀ i, ¬ i = 3 → ¬ i = 4 → (zset (zset G 3 0) 4 0) i = G i := fun i h3 h4 => by rw [zset_ne h4, zset_ne h3]
  have g3 : (zset (zset G 3 0) 4 0) 3 = 0 := by rw [zset_ne (by decide), zset_eq]
  exact ⟨c, _, i2, a.line (fun i hi => g1 i (fun r => by subst r; revert hi; decide) (fun r => by subst r; revert hi; decide)) (Or.inr g3) i2.beat, b.keep (Int.le_refl _) (fun i hi => g1 i (fun r => by subst r; revert hi; decide) (fun r => by subst r; revert hi; decide)), (g1 0 (by decide) (by decide)).trans e0, (g1 1 (by decide) (by decide)).trans e1, (g1 2 (by decide) (by decide)).trans e2⟩
theorem m_step (h : zRM K n k s μ) (hb : K + 2100000 ≤ 268435456) {x1 : Int32} : zok (fX12_step μ x1) (fun r => zRM (K + 2100000) n k s r.1) := by
  obtain ⟨c, G, i, a, b, e0, e1, e2⟩ := h
  refine zok_mono (s_X12_step i a (by omega)) (fun r q => ?_)
  obtain ⟨⟨G1, i1, a1, g⟩, _⟩ := q
  exact ⟨hb, G1, i1, a1.mono (by omega), b.keep (by omega) (fun i hi => g i (by revert hi; simp only [List.mem_cons, List.not_mem_nil, or_false]; omega)), (g 0 (by decide)).trans e0, (g 1 (by decide)).trans e1, (g 2 (by decide)).trans e2⟩
theorem m_picture (h : zRM K n k s μ) (hb : K + 2100000 ≤ 268435456) {x1 : Int32} : zok (fX12_picture μ x1) (fun r => zRM (K + 2100000) n k s r.1) := by
  obtain ⟨c, G, i, a, b, e0, e1, e2⟩ := h
  refine zok_mono (s_X12_picture i a hb) (fun r q => ?_)
  obtain ⟨⟨G1, i1, a1, g⟩, _⟩ := q
  exact ⟨hb, G1, i1, a1, b.keep (by omega) (fun i hi => g i (by revert hi; simp only [List.mem_cons, List.not_mem_nil, or_false]; omega)), (g 0 (by decide)).trans e0, (g 1 (by decide)).trans e1, (g 2 (by decide)).trans e2⟩
theorem m_save (h : zRM K n k s μ) : zok (fX12_save μ ) (zRM K n k 1) := by
  obtain ⟨c, G, i, a, b, e0, e1, e2⟩ := h
  unfold fX12_save
  refine zok_bs (I := zIM G) (i.wi 0 0 (by decide) (zr_c (lo := 0) (hi := 0) (by decide)) (by decide +kernel)) (fun σ1 _ i1 => ?_)
  refine zok_ck rfl ?_
  refine zok_bs (I := zIM (zset G 2 1)) (zIM.wg (v := 1) 2 i1 (by decide) (by decide) zr_any (by decide +kernel)) (fun σ2 _ i2 => ?_)
  refine zok_mono (q_save_12 zfuel (G0 := zset G 2 1) (x1 := 0) i2 (zr_c (by decide)) ⟨fun _ _ _ _ => rfl, fun l => absurd l (by decide), fun l => absurd l (by decide), fun l => absurd l (by decide)⟩ (by decide)) (fun r q => ?_)
  obtain ⟨G1, j1, g0, g6, g7, g8, g102, g105, g106⟩ := q
  have v : ∀ i, ¬ i = 2 → zset G 2 1 i = G i := fun i hi => zset_ne hi
  rw [v 3 (by decide)] at g6
  rw [v 4 (by decide)] at g7
  rw [v 5 (by decide)] at g8
  rw [v 100 (by decide)] at g102
  rw [v 104 (by decide)] at g105
  rw [v 101 (by decide)] at g106
  have w : ∀ i, ¬ i ∈ [2, 6, 7, 8, 102, 105, 106] → G1 i = G i := fun i hi => by
    simp only [List.mem_cons, List.not_mem_nil, or_false, not_or] at hi
    obtain ⟨h2, h6, h7, h8, h102, h105, h106⟩ := hi
    exact (g0 i h6 h7 h8 h102 h105 h106).trans (v i h2)
  have a2 : zK K G1 := a.keep (fun i hi => w i (fun r => by revert hi r; simp only [List.mem_cons, List.not_mem_nil, or_false]; omega))
  refine ⟨c, G1, j1, a2, ?_, (w 0 (by decide)).trans e0, (w 1 (by decide)).trans e1, (g0 2 (by decide) (by decide) (by decide) (by decide) (by decide) (by decide)).trans zset_eq⟩
  obtain ⟨⟨d1, d2, d3, d4, d5, d6, d7, d8⟩, f1, f2, f3, f4, f5⟩ := a
  unfold zKS
  rw [g6, g7, g8, g102, g105, g106, zln_c (w 1 (by decide))]
  exact ⟨by omega, by omega, by omega, d5, d6, by omega, d8⟩
theorem m_restore (h : zRM K n k s μ) : zok (fX12_restore μ ) (zRM K n k s) := by
  obtain ⟨c, G, i, a, b, e0, e1, e2⟩ := h
  have fin : ∀ μ1, zIM G μ1 → zRM K n k s μ1 := fun μ1 i1 => ⟨c, G, i1, a, b, e0, e1, e2⟩
  unfold fX12_restore
  refine zok_if (fun q1 => ?_) (fun q1 => ?_)
  · unfold fX12_restore_13
    refine zok_fails1 (I := zIM G) (i.wi 0 0 (by decide) zr_any (by decide +kernel)) (fun σ1 _ i1 => ?_)
    exact zok_if (fun q => absurd q (by decide)) (fun _ => zok_some (fin _ i1))
  · unfold fX12_restore_13
    refine zok_fails0 (I := zIM G) (i.wi 0 0 (by decide) zr_any (by decide +kernel)) (fun σ1 _ i1 => ?_)
    refine zok_if (fun _ => ?_) (fun q => absurd rfl q)
    refine zok_mono (q_restore_23 zfuel (G0 := G) (x1 := 0) i1 (zr_c (by decide)) ⟨fun _ _ _ _ => rfl, fun l => absurd l (by decide), fun l => absurd l (by decide), fun l => absurd l (by decide)⟩ (by decide)) (fun r q => ?_)
    obtain ⟨G1, j1, g0, g3, g4, g5, g100, g104, g101⟩ := q
    have w : ∀ i, ¬ i ∈ [3, 4, 5, 100, 104, 101] → G1 i = G i := fun i hi => by
      simp only [List.mem_cons, List.not_mem_nil, or_false, not_or] at hi
      obtain ⟨h3, h4, h5, h100, h104, h101⟩ := hi
      exact g0 i h3 h4 h5 h100 h104 h101
    have b2 : zKS K G1 := b.keep (Int.le_refl _) (fun i hi => w i (fun r => by revert hi r; simp only [List.mem_cons, List.not_mem_nil, or_false]; omega))
    refine ⟨c, G1, j1, ?_, b2, (w 0 (by decide)).trans e0, (w 1 (by decide)).trans e1, (w 2 (by decide)).trans e2⟩
    obtain ⟨⟨d1, d2, d3, d4, d5, d6, d7, d8⟩, f1, f2, f3, f4, f5⟩ := a
    obtain ⟨p1, p2, p3, p4, p5, p6, p7⟩ := b
    unfold zK zGJ
    rw [g3, g4, g5, g100, g104, g101, w 103 (by decide), zln_c (w 1 (by decide))]
    exact ⟨⟨by omega, d2, by omega, by omega, p4, p5, by omega, p7⟩, by omega, f2, by omega, by omega, by omega⟩
theorem m_patch (h : zRM K n k s μ) {x1 : Int32} {x2 : Int64} : zok (fX12_patch μ x1 x2) (zRM K n k s) := by
  obtain ⟨c, G, i, a, b, e⟩ := h
  exact zok_mono (s_X12_patch i) (fun r q => ⟨c, G, q, a, b, e⟩)
theorem m_card (h : zRM K n k s μ) {x1 : Int32} : zok (fX12_card μ x1) (fun r => zRM K n k s r.1) := by
  obtain ⟨c, G, i, a, b, e⟩ := h
  exact zok_mono (s_X12_card i) (fun r q => ⟨c, G, q.1, a, b, e⟩)
theorem m_pause (h : zRM K n k s μ) : zok (fX12_pause μ ) (fun r => zRM K n k s r.1) := by
  obtain ⟨c, G, i, a, b, e⟩ := h
  exact zok_mono (s_X12_pause i) (fun r q => ⟨c, G, q.1, a, b, e⟩)
theorem m_press (h : zRM K n k s μ) {x1 : Int32} {x2 : Int32} : zok (fX12_press μ x1 x2) (zRM K n k s) := by
  obtain ⟨c, G, i, a, b, e⟩ := h
  exact zok_mono (s_X12_press i) (fun r q => ⟨c, G, q, a, b, e⟩)
theorem m_start (h : zRM K n k s μ) {x1 : Int32} (h_x1 : zr (0) (1) x1) : zok (fX12_start μ x1) (zRM K n k s) := by
  obtain ⟨c, G, i, a, b, e⟩ := h
  exact zok_mono (s_X12_start i h_x1) (fun r q => ⟨c, G, q, a, b, e⟩)
theorem m_line (h : zRM K n k s μ) {x1 : Int32} {x2 : Int32} (h_x2 : zr (0) (1) x2) : zok (fX12_line μ x1 x2) (zRM K n k s) := by
  obtain ⟨c, G, i, a, b, e⟩ := h
  exact zok_mono (s_X12_line i h_x2) (fun r q => ⟨c, G, q, a, b, e⟩)
theorem m_plan (h : zRM K n k s μ) {x1 : Int32} {x2 : Int32} {x3 : Int32} : zok (fX12_plan μ x1 x2 x3) (fun r => zRM K n k s r.1) := by
  obtain ⟨c, G, i, a, b, e⟩ := h
  exact zok_mono (s_X12_plan i) (fun r q => ⟨c, G, q.1, a, b, e⟩)
theorem m_text (h : zRM K n k s μ) {x1 : Int32} : zok (fX12_text μ x1) (fun r => zRM K n k s r.1) := by
  obtain ⟨c, G, i, a, b, e⟩ := h
  exact zok_mono (s_X12_text i) (fun r q => ⟨c, G, q.1, a, b, e⟩)
theorem m_stop (h : zRM K n k s μ) {x1 : Int32} {x2 : Int32} (h_x2 : zr (0) (1) x2) : zok (fX12_stop μ x1 x2) (fun r => zRM K n k s r.1) := by
  obtain ⟨c, G, i, a, b, e⟩ := h
  exact zok_mono (s_X12_stop i h_x2) (fun r q => ⟨c, G, q.1, a, b, e⟩)
theorem m_register (h : zRM K n k s μ) {x1 : Int32} : zok (fX12_register μ x1) (fun r => zRM K n k s r.1) := by
  obtain ⟨c, G, i, a, b, e⟩ := h
  exact zok_mono (s_X12_register i) (fun r q => ⟨c, G, q.1, a, b, e⟩)
theorem m_set (h : zRM K n k s μ) {x1 : Int32} {x2 : Int32} : zok (fX12_set μ x1 x2) (zRM K n k s) := by
  obtain ⟨c, G, i, a, b, e⟩ := h
  exact zok_mono (s_X12_set i) (fun r q => ⟨c, G, q, a, b, e⟩)
theorem m_peek (h : zRM K n k s μ) {x1 : Int32} : zok (fX12_peek μ x1) (fun r => zRM K n k s r.1) := by
  obtain ⟨c, G, i, a, b, e⟩ := h
  exact zok_mono (s_X12_peek i) (fun r q => ⟨c, G, q.1, a, b, e⟩)
theorem m_poke (h : zRM K n k s μ) {x1 : Int32} {x2 : Int32} : zok (fX12_poke μ x1 x2) (zRM K n k s) := by
  obtain ⟨c, G, i, a, b, e⟩ := h
  exact zok_mono (s_X12_poke i) (fun r q => ⟨c, G, q, a, b, e⟩)
theorem m_in (h : zRM K n k s μ) {x1 : Int32} : zok (fX12_in μ x1) (fun r => zRM K n k s r.1) := by
  obtain ⟨c, G, i, a, b, e⟩ := h
  exact zok_mono (s_X12_in i) (fun r q => ⟨c, G, q.1, a, b, e⟩)
theorem m_out (h : zRM K n k s μ) {x1 : Int32} {x2 : Int32} : zok (fX12_out μ x1 x2) (zRM K n k s) := by
  obtain ⟨c, G, i, a, b, e⟩ := h
  exact zok_mono (s_X12_out i) (fun r q => ⟨c, G, q, a, b, e⟩)
theorem m_battery (h : zRM K n k s μ) {x1 : Int32} : zok (fX12_battery μ x1) (fun r => zRM K n k s r.1) := by
  obtain ⟨c, G, i, a, b, e⟩ := h
  exact zok_mono (s_X12_battery i) (fun r q => ⟨c, G, q.1, a, b, e⟩)
theorem m_wipe (h : zRM K n k s μ) : zok (fX12_wipe μ ) (zRM K n k s) := by
  obtain ⟨c, G, i, a, b, e⟩ := h
  exact zok_mono (s_X12_wipe i) (fun r q => ⟨c, G, q, a, b, e⟩)
theorem m_video (h : zRM K n k s μ) {x1 : Int32} : zok (fX12_video μ x1) (fun r => zRM K n k s r.1) := by
  obtain ⟨c, G, i, a, b, e⟩ := h
  exact zok_mono (s_X12_video i) (fun r q => ⟨c, G, q.1, a, b, e⟩)
theorem m_chip (h : zRM K n k s μ) {x1 : Int32} : zok (fX12_chip μ x1) (fun r => zRM K n k s r.1) := by
  obtain ⟨c, G, i, a, b, e⟩ := h
  exact zok_mono (s_X12_chip i) (fun r q => ⟨c, G, q.1, a, b, e⟩)
theorem m_dot (h : zRM K n k s μ) {x1 : Int32} {x2 : Int32} : zok (fX12_dot μ x1 x2) (fun r => zRM K n k s r.1) := by
  obtain ⟨c, G, i, a, b, e⟩ := h
  exact zok_mono (s_X12_dot i) (fun r q => ⟨c, G, q.1, a, b, e⟩)
theorem m_row (h : zRM K n k s μ) {x1 : Int32} : zok (fX12_row μ x1) (fun r => zRM K n k s r.1) := by
  obtain ⟨c, G, i, a, b, e⟩ := h
  exact zok_mono (s_X12_row i) (fun r q => ⟨c, G, q.1, a, b, e⟩)
theorem m_hear (h : zRM K n k s μ) : zok (fX12_hear μ ) (fun r => zRM K n k s r.1) := by
  obtain ⟨c, G, i, a, b, e⟩ := h
  exact zok_mono (s_X12_hear i) (fun r q => ⟨c, G, q.1, a, b, e⟩)
theorem m_mix (h : zRM K n k s μ) : zok (fX12_mix μ ) (fun r => zRM K n k s r.1) := by
  obtain ⟨c, G, i, a, b, e⟩ := h
  exact zok_mono (s_X12_mix i) (fun r q => ⟨c, G, q.1, a, b, e⟩)
theorem m_wave (h : zRM K n k s μ) {x1 : Int32} : zok (fX12_wave μ x1) (fun r => zRM K n k s r.1) := by
  obtain ⟨c, G, i, a, b, e⟩ := h
  exact zok_mono (s_X12_wave i) (fun r q => ⟨c, G, q.1, a, b, e⟩)
theorem m_sound (h : zRM K n k s μ) {x1 : Int32} : zok (fX12_sound μ x1) (fun r => zRM K n k s r.1) := by
  obtain ⟨c, G, i, a, b, e⟩ := h
  exact zok_mono (s_X12_sound i) (fun r q => ⟨c, G, q.1, a, b, e⟩)
theorem m_trace (h : zRM K n k s μ) {x1 : Int32} : zok (fX12_trace μ x1) (fun r => zRM K n k s r.1) := by
  obtain ⟨c, G, i, a, b, e⟩ := h
  exact zok_mono (s_X12_trace i) (fun r q => ⟨c, G, q.1, a, b, e⟩)
theorem m_look (h : zRM K n k s μ) {x1 : Int32} : zok (fX12_look μ x1) (fun r => zRM K n k s r.1) := by
  obtain ⟨c, G, i, a, b, e⟩ := h
  exact zok_mono (s_X12_look i) (fun r q => ⟨c, G, q.1, a, b, e⟩)
theorem l_card (h : zRC n k s σ) {x1 : Int32} : zok (fL_card o σ x1) (fun r => zRC n k s r.1.2) := by
  obtain ⟨H, i, e0, e1, e2⟩ := h
  unfold fL_card
  exact zok_mono (zTh_i1 (s_X11_card i)) (fun r q => ⟨H, q, e0, e1, e2⟩)
theorem l_step (h : zRC n k s σ) {x1 : Int32} : zok (fL_step o σ x1) (fun r => zRC n k s r.1.2) := by
  obtain ⟨H, i, e0, e1, e2⟩ := h
  unfold fL_step
  exact zok_mono (zTh_i1 (s_X11_step i)) (fun r q => ⟨H, q, e0, e1, e2⟩)
theorem l_picture (h : zRC n k s σ) {x1 : Int32} : zok (fL_picture o σ x1) (fun r => zRC n k s r.1.2) := by
  obtain ⟨H, i, e0, e1, e2⟩ := h
  unfold fL_picture
  exact zok_mono (zTh_i1 (s_X11_picture i)) (fun r q => ⟨H, q, e0, e1, e2⟩)
theorem c_reset (h : zRC n k s σ) : zok (fX11_reset σ ) (fun r => zRC n k s r) := by
  obtain ⟨H, i, e0, e1, e2⟩ := h
  exact zok_mono (s_X11_reset i) (fun r q => ⟨H, q, e0, e1, e2⟩)
theorem c_pause (h : zRC n k s σ) : zok (fX11_pause σ ) (fun r => zRC n k s r.1) := by
  obtain ⟨H, i, e0, e1, e2⟩ := h
  exact zok_mono (s_X11_pause i) (fun r q => ⟨H, q.1, e0, e1, e2⟩)
theorem l_press (h : zRC n k s σ) {x1 : Int32} {x2 : Int32} : zok (fL_press σ x1 x2) (fun r => zRC n k s r.1) := by
  obtain ⟨H, i, e0, e1, e2⟩ := h
  unfold fL_press
  exact zok_mono (zTh_u1 (s_X11_press i)) (fun r q => ⟨H, q, e0, e1, e2⟩)
theorem c_start (h : zRC n k s σ) {x1 : Int32} (h_x1 : zr (0) (1) x1) : zok (fX11_start σ x1) (fun r => zRC n k s r) := by
  obtain ⟨H, i, e0, e1, e2⟩ := h
  exact zok_mono (s_X11_start i h_x1) (fun r q => ⟨H, q, e0, e1, e2⟩)
theorem l_line (h : zRC n k s σ) {x1 : Int32} {x2 : Int32} (h_x2 : zr (0) (1) x2) : zok (fL_line σ x1 x2) (fun r => zRC n k s r.1) := by
  obtain ⟨H, i, e0, e1, e2⟩ := h
  unfold fL_line
  exact zok_mono (zTh_u1 (s_X11_line i h_x2)) (fun r q => ⟨H, q, e0, e1, e2⟩)
theorem l_plan (h : zRC n k s σ) {x1 : Int32} {x2 : Int32} {x3 : Int32} : zok (fL_plan o σ x1 x2 x3) (fun r => zRC n k s r.1.2) := by
  obtain ⟨H, i, e0, e1, e2⟩ := h
  unfold fL_plan
  exact zok_mono (zTh_i2 (s_X11_plan i)) (fun r q => ⟨H, q, e0, e1, e2⟩)
theorem c_tell (h : zRC n k s σ) {x1 : Int32} : zok (fX11_tell σ x1) (fun r => zRC n k s r.1) := by
  obtain ⟨H, i, e0, e1, e2⟩ := h
  exact zok_mono (s_X11_tell i) (fun r q => ⟨H, q.1, e0, e1, e2⟩)
theorem l_text (h : zRC n k s σ) {x1 : Int32} : zok (fL_text o σ x1) (fun r => zRC n k s r.1.2) := by
  obtain ⟨H, i, e0, e1, e2⟩ := h
  unfold fL_text
  exact zok_mono (zTh_l1 (s_X11_text i)) (fun r q => ⟨H, q, e0, e1, e2⟩)
theorem l_stop (h : zRC n k s σ) {x1 : Int32} {x2 : Int32} (h_x2 : zr (0) (1) x2) : zok (fL_stop o σ x1 x2) (fun r => zRC n k s r.1.2) := by
  obtain ⟨H, i, e0, e1, e2⟩ := h
  unfold fL_stop
  exact zok_mono (zTh_i2 (s_X11_stop i h_x2)) (fun r q => ⟨H, q, e0, e1, e2⟩)
theorem l_register (h : zRC n k s σ) {x1 : Int32} : zok (fL_register o σ x1) (fun r => zRC n k s r.1.2) := by
  obtain ⟨H, i, e0, e1, e2⟩ := h
  unfold fL_register
  exact zok_mono (zTh_i1 (s_X11_register i)) (fun r q => ⟨H, q, e0, e1, e2⟩)
theorem l_set (h : zRC n k s σ) {x1 : Int32} {x2 : Int32} : zok (fL_set σ x1 x2) (fun r => zRC n k s r.1) := by
  obtain ⟨H, i, e0, e1, e2⟩ := h
  unfold fL_set
  exact zok_mono (zTh_u1 (s_X11_set i)) (fun r q => ⟨H, q, e0, e1, e2⟩)
theorem c_peek (h : zRC n k s σ) {x1 : Int32} : zok (fX11_peek σ x1) (fun r => zRC n k s r.1) := by
  have h0 := h
  obtain ⟨H, i, e⟩ := h
  exact zok_mono (s_X11_peek i.P) (fun r q => by rw [q.1]; exact h0)
theorem c_poke (h : zRC n k s σ) {x1 : Int32} {x2 : Int32} : zok (fX11_poke σ x1 x2) (fun r => zRC n k s r) := by
  obtain ⟨H, i, e0, e1, e2⟩ := h
  exact zok_mono (s_X11_poke i) (fun r q => ⟨H, q, e0, e1, e2⟩)
theorem c_in (h : zRC n k s σ) {x1 : Int32} : zok (fX11_in σ x1) (fun r => zRC n k s r.1) := by
  obtain ⟨H, i, e0, e1, e2⟩ := h
  exact zok_mono (s_X11_in i) (fun r q => ⟨H, q.1, e0, e1, e2⟩)
theorem c_out (h : zRC n k s σ) {x1 : Int32} {x2 : Int32} : zok (fX11_out σ x1 x2) (fun r => zRC n k s r) := by
  obtain ⟨H, i, e0, e1, e2⟩ := h
  exact zok_mono (s_X11_out i) (fun r q => ⟨H, q, e0, e1, e2⟩)
theorem l_battery (h : zRC n k s σ) {x1 : Int32} : zok (fL_battery o σ x1) (fun r => zRC n k s r.1.2) := by
  obtain ⟨H, i, e0, e1, e2⟩ := h
  unfold fL_battery
  exact zok_mono (zTh_i1 (s_X11_battery i)) (fun r q => ⟨H, q, e0, e1, e2⟩)
theorem c_wipe (h : zRC n k s σ) : zok (fX11_wipe σ ) (fun r => zRC n k s r) := by
  obtain ⟨H, i, e0, e1, e2⟩ := h
  exact zok_mono (s_X11_wipe i) (fun r q => ⟨H, q, e0, e1, e2⟩)
theorem c_video (h : zRC n k s σ) {x1 : Int32} : zok (fX11_video σ x1) (fun r => zRC n k s r.1) := by
  have h0 := h
  obtain ⟨H, i, e⟩ := h
  exact zok_mono (s_X11_video i.P) (fun r q => by rw [q.1]; exact h0)
theorem l_chip (h : zRC n k s σ) {x1 : Int32} : zok (fL_chip o σ x1) (fun r => zRC n k s r.1.2) := by
  obtain ⟨H, i, e0, e1, e2⟩ := h
  unfold fL_chip
  exact zok_mono (zTh_i1 (s_X11_chip i)) (fun r q => ⟨H, q, e0, e1, e2⟩)
theorem l_dot (h : zRC n k s σ) {x1 : Int32} {x2 : Int32} : zok (fL_dot o σ x1 x2) (fun r => zRC n k s r.1.2) := by
  obtain ⟨H, i, e0, e1, e2⟩ := h
  unfold fL_dot
  exact zok_mono (zTh_i1 (s_X11_dot i)) (fun r q => ⟨H, q, e0, e1, e2⟩)
theorem l_row (h : zRC n k s σ) {x1 : Int32} : zok (fL_row o σ x1) (fun r => zRC n k s r.1.2) := by
  obtain ⟨H, i, e0, e1, e2⟩ := h
  unfold fL_row
  exact zok_mono (zTh_i1 (s_X11_row i)) (fun r q => ⟨H, q, e0, e1, e2⟩)
theorem l_hear (h : zRC n k s σ) : zok (fL_hear o σ ) (fun r => zRC n k s r.1.2) := by
  obtain ⟨H, i, e0, e1, e2⟩ := h
  unfold fL_hear
  exact zok_mono (zTh_l1 (s_X11_hear i)) (fun r q => ⟨H, q, e0, e1, e2⟩)
theorem l_mix (h : zRC n k s σ) : zok (fL_mix o σ ) (fun r => zRC n k s r.1.2) := by
  obtain ⟨H, i, e0, e1, e2⟩ := h
  unfold fL_mix
  exact zok_mono (zTh_l1 (s_X11_mix i)) (fun r q => ⟨H, q, e0, e1, e2⟩)
theorem l_wave (h : zRC n k s σ) {x1 : Int32} : zok (fL_wave o σ x1) (fun r => zRC n k s r.1.2) := by
  obtain ⟨H, i, e0, e1, e2⟩ := h
  unfold fL_wave
  exact zok_mono (zTh_i1 (s_X11_wave i)) (fun r q => ⟨H, q, e0, e1, e2⟩)
theorem l_sound (h : zRC n k s σ) {x1 : Int32} : zok (fL_sound o σ x1) (fun r => zRC n k s r.1.2) := by
  obtain ⟨H, i, e0, e1, e2⟩ := h
  unfold fL_sound
  exact zok_mono (zTh_i1 (s_X11_sound i)) (fun r q => ⟨H, q, e0, e1, e2⟩)
theorem c_trace (h : zRC n k s σ) {x1 : Int32} : zok (fX11_trace σ x1) (fun r => zRC n k s r.1) := by
  have h0 := h
  obtain ⟨H, i, e⟩ := h
  exact zok_mono (s_X11_trace i.P) (fun r q => by rw [q.1]; exact h0)
theorem l_look (h : zRC n k s σ) {x1 : Int32} : zok (fL_look o σ x1) (fun r => zRC n k s r.1.2) := by
  obtain ⟨H, i, e0, e1, e2⟩ := h
  unfold fL_look
  exact zok_mono (zTh_l1 (s_X11_look i)) (fun r q => ⟨H, q, e0, e1, e2⟩)
end ZCALLS
end ZJN13
section ZJN14
/-! partial answers: what holds of an answer, if there is one -/
noncomputable def zpc {α : Type} (o : Option α) (Q : α → Prop) : Prop := ∀ r, o = some r → Q r
theorem zpc_none {α : Type} {Q : α → Prop} : zpc (none : Option α) Q := fun r e => by cases e
theorem zpc_some {α : Type} {Q : α → Prop} {a : α} (h : Q a) : zpc (some a) Q := fun r e => by cases e; exact h
theorem zpc_ck {α : Type} {Q : α → Prop} {b : Bool} {x : Option α} (h : zpc x Q) : zpc (zck b x) Q := by
  cases b
  · exact zpc_none
  · exact h
theorem zpc_if {α : Type} {c : Prop} {d : Decidable c} {x y : Option α} {Q : α → Prop} (h1 : c → zpc x Q) (h2 : ¬ c → zpc y Q) : zpc (@ite _ c d x y) Q := by
  by_cases q : c
  · rw [if_pos q]; exact h1 q
  · rw [if_neg q]; exact h2 q
theorem zpc_bv {α β : Type} {x : α} {f : α → Option β} {Q : β → Prop} (h : ∀ y, y = x → zpc (f y) Q) : zpc (zbv x f) Q := h x rfl
theorem zpc_bi {α : Type} {o : Option (zSt × Int32)} {f : zSt → Int32 → Option α} {P : zSt × Int32 → Prop} {Q : α → Prop} (h : zpc o P) (k : ∀ σ v, P (σ, v) → zpc (f σ v) Q) : zpc (zbi o f) Q := by
  cases o with
  | none => exact zpc_none
  | some a => exact k a.1 a.2 (h a rfl)
theorem zpc_bu {α : Type} {o : Option zSt} {f : zSt → Option α} {P : zSt → Prop} {Q : α → Prop} (h : zpc o P) (k : ∀ σ, P σ → zpc (f σ) Q) : zpc (zbu o f) Q := by
  cases o with
  | none => exact zpc_none
  | some a => exact k a (h a rfl)
theorem zok_zpc {α : Type} {o : Option α} {P Q : α → Prop} (h : zok o P) (k : zpc o Q) : zok o (fun r => P r ∧ Q r) := by
  obtain ⟨a, e, p⟩ := h
  exact ⟨a, e, p, k a e⟩
theorem zpc_and {α : Type} {o : Option α} {P Q : α → Prop} (h : zpc o P) (k : zpc o Q) : zpc o (fun r => P r ∧ Q r) := fun r e => ⟨h r e, k r e⟩
theorem zpc_mono {α : Type} {o : Option α} {P Q : α → Prop} (h : zpc o P) (k : ∀ a, P a → Q a) : zpc o Q := fun r e => k r (h r e)
theorem zpc_within {α : Type} {σ : zSt} {a l h : Int64} {f : zSt → Int32 → Option α} {P : α → Prop} (k1 : l.toInt ≤ a.toInt → a.toInt ≤ h.toInt → zpc (f σ 1) P) (k0 : (a.toInt < l.toInt ∨ h.toInt < a.toInt) → zpc (f σ 0) P) : zpc (zbi (fX12_within σ a l h) f) P := by
  unfold fX12_within
  by_cases q1 : lg_cmp a l < 0
  · rw [if_pos q1]; exact k0 (Or.inl (z_cmp_lt.mp q1))
  · rw [if_neg q1]
    by_cases q2 : 0 < lg_cmp a h
    · rw [if_pos q2]; exact k0 (Or.inr (z_cmp_gt.mp q2))
    · rw [if_neg q2]
      exact k1 (Int.not_lt.mp (fun r => q1 (z_cmp_lt.mpr r))) (Int.not_lt.mp (fun r => q2 (z_cmp_gt.mpr r)))
theorem zpc_fails0 {α : Type} {σ : zSt} {c : Int32} {f : zSt → Int32 → Option α} {P : α → Prop} (k : ∀ σ1, σ1 = zsi σ 0 0 0 → zpc (f σ1 0) P) : zpc (zbi (fX12_fails σ 0 c) f) P := by
  unfold fX12_fails
  rw [if_pos rfl]
  exact k _ rfl
theorem zpc_fails1 {α : Type} {σ : zSt} {c : Int32} {f : zSt → Int32 → Option α} {P : α → Prop} (k : ∀ σ1, σ1 = zsi σ 0 0 c → zpc (f σ1 1) P) : zpc (zbi (fX12_fails σ 1 c) f) P := by
  unfold fX12_fails
  rw [if_neg (by decide)]
  exact k _ rfl
/-! the reference's thrown kind -/
noncomputable def zTh (v : Int32) (σ : zSt) : Prop := zgi σ 0 0 = v
theorem zTh_own {σ : zSt} {v : Int32} : zTh v (zsi σ 0 0 v) := by
  show (zsi σ 0 0 v).1 0 0 = v
  exact zsi_ej
theorem zTh.w {v x : Int32} {σ : zSt} {k j : Nat} (h : zTh v σ) (c : ¬ (0 = k ∧ 0 = j)) : zTh v (zsi σ k j x) := by
  show (zsi σ k j x).1 0 0 = v
  rw [zsi_off c]
  exact h
theorem z_within {x : Int32} {l h : Int64} {a b : Int} (w : x.toInt64.toInt < l.toInt ∨ h.toInt < x.toInt64.toInt) (hl : l.toInt = a) (hh : h.toInt = b) : ¬ zr a b x := by
  rw [Int32.toInt_toInt64, hl, hh] at w
  intro q
  obtain ⟨q1, q2⟩ := q
  omega
theorem zTh_hu {n : Nat} {A : Prop} {I : zSt → Prop} {q : Option zRu} (h : zok q (fun r => (A ∧ ∃ s, r = Sum.inl s ∧ I s) ∨ (¬ A ∧ ∃ s, r = Sum.inr (s, n) ∧ I s))) : zok (zbr q (zhu (zh1 n))) (fun r => I r.1 ∧ ((A ∧ r.2 = 0) ∨ (¬ A ∧ r.2 = 1))) := by
  refine zok_zbr h (fun r hr => ?_)
  rcases hr with ⟨a, s, e, i⟩ | ⟨a, s, e, i⟩
  · subst e
    show zok (some (s, (0 : Int32))) _
    exact zok_some ⟨i, Or.inl ⟨a, rfl⟩⟩
  · subst e
    show zok (zh1 n s n) _
    unfold zh1
    rw [if_pos rfl]
    exact zok_some ⟨i, Or.inr ⟨a, rfl⟩⟩
end ZJN14
section ZJN15
/-! exact: the tape's length, the kind, what is saved, on both sides -/
theorem zTh.bs {v x : Int32} {σ σ1 : zSt} {k j : Nat} (h : zTh v σ) (e : σ1 = zsi σ k j x) (c : Nat.beq 0 k = false) : zTh v σ1 := by
  subst e
  exact h.w (fun r => by rw [← r.1] at c; exact absurd c (by decide))
theorem zTh.bl {v : Int32} {σ σ1 : zSt} {k j : Nat} {x : Int64} (h : zTh v σ) (e : σ1 = zsl σ k j x) : zTh v σ1 := by
  subst e
  exact h
theorem z_tp1 (x : Int32) : ¬ 1 = ztp x := by
  unfold ztp
  split <;> decide
theorem z_lgc {x y : Int64} (h : x.toInt = y.toInt) : lg_cmp x y = 0 := by
  have e : x = y := Int64.toInt_inj.mp h
  subst e
  unfold lg_cmp
  rw [if_neg (fun r => by have := Int64.lt_iff_toInt_lt.mp r; omega), if_pos rfl]
noncomputable def zLz (r : zSt × Int32) : Prop := r.2 = 0 ∧ zgi r.1 0 19 = 0
theorem t_load_126 {k89 : zSt → Int32 → Int32 → Option (zSt × Int32)} (hk : ∀ (σ : zSt) (y0 y1 : Int32), zpc (k89 σ y0 y1) zLz) {σ : zSt} {x1 : Int32} {x3 : Int32} {s0 : Int32} {s1 : Int32} : zpc (fX12_load_126 k89 σ x1 x3 s0 s1) zLz := by
  unfold fX12_load_126
  exact zpc_ck (zpc_bv (fun σ1 e_σ1 => zpc_bv (fun v2 e_v2 => hk _ _ _)))
theorem t_load_161 {k142 : zSt → Int32 → Option (zSt × Int32)} (hk : ∀ (σ : zSt) (y0 : Int32), zpc (k142 σ y0) zLz) {σ : zSt} {x3 : Int32} : zpc (fX12_load_161 k142 σ x3) zLz := by
  unfold fX12_load_161
  exact zpc_bv (fun v3 e_v3 => hk _ _)
theorem t_load_414_body {k414 : zSt → Int32 → Option (zSt × Int32)} (hk : ∀ (σ : zSt) (y0 : Int32), zpc (k414 σ y0) zLz) {σ : zSt} {x6 : Int32} : zpc (fX12_load_414_body k414 σ x6) zLz := by
  unfold fX12_load_414_body
  exact zpc_if (fun _ => zpc_ck (zpc_bv (fun σ4 e_σ4 => zpc_some ⟨rfl, by subst e_σ4; exact zsi_ej⟩))) (fun _ => zpc_ck (zpc_bv (fun σ5 e_σ5 => zpc_bv (fun v6 e_v6 => hk _ _))))
theorem t_load_414 : ∀ (n : Nat) (σ : zSt) (y0 : Int32), zpc (fX12_load_414 n σ y0) zLz := by
  intro n
  induction n with
  | zero => intro σ y0; exact zpc_none
  | succ n ih => intro σ y0; exact t_load_414_body ih
theorem t_load_404 {σ : zSt} {s0 : Int32} : zpc (fX12_load_404 σ s0) zLz := by
  unfold fX12_load_404
  exact zpc_bv (fun σ7 e_σ7 => zpc_bu (P := fun _ => True) (fun _ _ => trivial) (fun σ8 _ => t_load_414 _ _ _))
theorem t_load_385 {σ : zSt} : zpc (fX12_load_385 σ) zLz := by
  unfold fX12_load_385
  exact zpc_if (fun _ => t_load_404) (fun _ => t_load_404)
theorem t_load_359 {k337 : zSt → Int32 → Int32 → Option (zSt × Int32)} (hk : ∀ (σ : zSt) (y0 y1 : Int32), zpc (k337 σ y0 y1) zLz) {σ : zSt} {x5 : Int32} {x6 : Int32} : zpc (fX12_load_359 k337 σ x5 x6) zLz := by
  unfold fX12_load_359
  exact zpc_ck (zpc_bv (fun σ9 e_σ9 => zpc_bv (fun v10 e_v10 => hk _ _ _)))
theorem t_load_337_body {k337 : zSt → Int32 → Int32 → Option (zSt × Int32)} (hk : ∀ (σ : zSt) (y0 y1 : Int32), zpc (k337 σ y0 y1) zLz) {σ : zSt} {x5 : Int32} {x6 : Int32} : zpc (fX12_load_337_body k337 σ x5 x6) zLz := by
  unfold fX12_load_337_body
  exact zpc_if (fun _ => t_load_385) (fun _ => zpc_if (fun _ => t_load_359 hk) (fun _ => zpc_if (fun _ => t_load_385) (fun _ => t_load_359 hk)))
theorem t_load_337 : ∀ (n : Nat) (σ : zSt) (y0 y1 : Int32), zpc (fX12_load_337 n σ y0 y1) zLz := by
  intro n
  induction n with
  | zero => intro σ y0 y1; exact zpc_none
  | succ n ih => intro σ y0 y1; exact t_load_337_body ih
theorem t_load_298_body {k298 : zSt → Int32 → Int32 → Option (zSt × Int32)} (hk : ∀ (σ : zSt) (y0 y1 : Int32), zpc (k298 σ y0 y1) zLz) {σ : zSt} {x5 : Int32} {x6 : Int32} : zpc (fX12_load_298_body k298 σ x5 x6) zLz := by
  unfold fX12_load_298_body
  exact zpc_if (fun _ => t_load_337 _ _ _ _) (fun _ => zpc_ck (zpc_bv (fun σ11 e_σ11 => zpc_bv (fun v12 e_v12 => hk _ _ _))))
theorem t_load_298 : ∀ (n : Nat) (σ : zSt) (y0 y1 : Int32), zpc (fX12_load_298 n σ y0 y1) zLz := by
  intro n
  induction n with
  | zero => intro σ y0 y1; exact zpc_none
  | succ n ih => intro σ y0 y1; exact t_load_298_body ih
theorem t_load_293 {σ : zSt} {s0 : Int32} : zpc (fX12_load_293 σ s0) zLz := by
  unfold fX12_load_293
  exact t_load_298 _ _ _ _
theorem t_load_259 {σ : zSt} {s0 : Int32} : zpc (fX12_load_259 σ s0) zLz := by
  unfold fX12_load_259
  exact zpc_bv (fun σ13 e_σ13 => zpc_bv (fun σ14 e_σ14 => zpc_if (fun _ => zpc_ck (t_load_293)) (fun _ => t_load_293)))
theorem t_load_247 {σ : zSt} : zpc (fX12_load_247 σ) zLz := by
  unfold fX12_load_247
  exact zpc_if (fun _ => t_load_259) (fun _ => t_load_259)
theorem t_load_214 {σ : zSt} {x3 : Int32} {s0 : Int32} : zpc (fX12_load_214 σ x3 s0) zLz := by
  unfold fX12_load_214
  exact zpc_if (fun _ => zpc_if (fun _ => t_load_247) (fun _ => zpc_if (fun _ => t_load_259) (fun _ => t_load_247))) (fun _ => t_load_259)
theorem t_load_192 {σ : zSt} {s0 : Int32} : zpc (fX12_load_192 σ s0) zLz := by
  unfold fX12_load_192
  exact zpc_if (fun _ => t_load_214) (fun _ => zpc_bi (P := fun _ => True) (fun _ _ => trivial) (fun σ15 v16 _ => t_load_214))
theorem t_load_142_body {k142 : zSt → Int32 → Option (zSt × Int32)} (hk : ∀ (σ : zSt) (y0 : Int32), zpc (k142 σ y0) zLz) {σ : zSt} {x3 : Int32} : zpc (fX12_load_142_body k142 σ x3) zLz := by
  unfold fX12_load_142_body
  exact zpc_if (fun _ => zpc_if (fun _ => t_load_192) (fun _ => zpc_bi (P := fun _ => True) (fun _ _ => trivial) (fun σ17 v18 _ => t_load_192))) (fun _ => zpc_bi (P := fun _ => True) (fun _ _ => trivial) (fun σ19 v20 _ => zpc_if (fun _ => t_load_161 hk) (fun _ => zpc_bv (fun σ21 e_σ21 => t_load_161 hk))))
theorem t_load_142 : ∀ (n : Nat) (σ : zSt) (y0 : Int32), zpc (fX12_load_142 n σ y0) zLz := by
  intro n
  induction n with
  | zero => intro σ y0; exact zpc_none
  | succ n ih => intro σ y0; exact t_load_142_body ih
theorem t_load_89_body {k89 : zSt → Int32 → Int32 → Option (zSt × Int32)} (hk : ∀ (σ : zSt) (y0 y1 : Int32), zpc (k89 σ y0 y1) zLz) {σ : zSt} {x1 : Int32} {x3 : Int32} : zpc (fX12_load_89_body k89 σ x1 x3) zLz := by
  unfold fX12_load_89_body
  exact zpc_if (fun _ => zpc_bv (fun σ22 e_σ22 => t_load_142 _ _ _)) (fun _ => zpc_if (fun _ => t_load_126 hk) (fun _ => zpc_ck (t_load_126 hk)))
theorem t_load_89 : ∀ (n : Nat) (σ : zSt) (y0 y1 : Int32), zpc (fX12_load_89 n σ y0 y1) zLz := by
  intro n
  induction n with
  | zero => intro σ y0 y1; exact zpc_none
  | succ n ih => intro σ y0 y1; exact t_load_89_body ih
theorem t_restore_207_body {v : Int32} {k207 : zSt → Int32 → Option zSt} (hk : ∀ (σ : zSt) (y : Int32), zTh v σ → zpc (k207 σ y) (zTh v)) {σ : zSt} {x1 : Int32} (h : zTh v σ) : zpc (fX12_restore_207_body k207 σ x1) (zTh v) := by
  unfold fX12_restore_207_body
  exact zpc_if (fun _ => zpc_some h) (fun _ => zpc_ck (zpc_ck (zpc_bv (fun σ1 e_σ1 => zpc_ck (zpc_ck (zpc_bv (fun σ2 e_σ2 => zpc_bv (fun v3 e_v3 => hk _ _ (zTh.bl (zTh.bl h e_σ1) e_σ2)))))))))
theorem t_restore_207 {v : Int32} : ∀ (n : Nat) (σ : zSt) (y : Int32), zTh v σ → zpc (fX12_restore_207 n σ y) (zTh v) := by
  intro n
  induction n with
  | zero => intro σ y h; exact zpc_none
  | succ n ih => intro σ y h; exact t_restore_207_body ih h
theorem t_restore_181_body {v : Int32} {k181 : zSt → Int32 → Option zSt} (hk : ∀ (σ : zSt) (y : Int32), zTh v σ → zpc (k181 σ y) (zTh v)) {σ : zSt} {x1 : Int32} (h : zTh v σ) : zpc (fX12_restore_181_body k181 σ x1) (zTh v) := by
  unfold fX12_restore_181_body
  exact zpc_if (fun _ => t_restore_207 _ _ _ h) (fun _ => zpc_ck (zpc_ck (zpc_bv (fun σ4 e_σ4 => zpc_bv (fun v5 e_v5 => hk _ _ (zTh.bs h e_σ4 (by decide)))))))
theorem t_restore_181 {v : Int32} : ∀ (n : Nat) (σ : zSt) (y : Int32), zTh v σ → zpc (fX12_restore_181 n σ y) (zTh v) := by
  intro n
  induction n with
  | zero => intro σ y h; exact zpc_none
  | succ n ih => intro σ y h; exact t_restore_181_body ih h
theorem t_restore_155_body {v : Int32} {k155 : zSt → Int32 → Option zSt} (hk : ∀ (σ : zSt) (y : Int32), zTh v σ → zpc (k155 σ y) (zTh v)) {σ : zSt} {x1 : Int32} (h : zTh v σ) : zpc (fX12_restore_155_body k155 σ x1) (zTh v) := by
  unfold fX12_restore_155_body
  exact zpc_if (fun _ => t_restore_181 _ _ _ h) (fun _ => zpc_ck (zpc_ck (zpc_bv (fun σ6 e_σ6 => zpc_bv (fun v7 e_v7 => hk _ _ (zTh.bs h e_σ6 (by decide)))))))
theorem t_restore_155 {v : Int32} : ∀ (n : Nat) (σ : zSt) (y : Int32), zTh v σ → zpc (fX12_restore_155 n σ y) (zTh v) := by
  intro n
  induction n with
  | zero => intro σ y h; exact zpc_none
  | succ n ih => intro σ y h; exact t_restore_155_body ih h
theorem t_restore_128_body {v : Int32} {k128 : zSt → Int32 → Option zSt} (hk : ∀ (σ : zSt) (y : Int32), zTh v σ → zpc (k128 σ y) (zTh v)) {σ : zSt} {x1 : Int32} (h : zTh v σ) : zpc (fX12_restore_128_body k128 σ x1) (zTh v) := by
  unfold fX12_restore_128_body
  exact zpc_if (fun _ => t_restore_155 _ _ _ h) (fun _ => zpc_ck (zpc_ck (zpc_bv (fun σ8 e_σ8 => zpc_bv (fun v9 e_v9 => hk _ _ (zTh.bs h e_σ8 (by decide)))))))
theorem t_restore_128 {v : Int32} : ∀ (n : Nat) (σ : zSt) (y : Int32), zTh v σ → zpc (fX12_restore_128 n σ y) (zTh v) := by
  intro n
  induction n with
  | zero => intro σ y h; exact zpc_none
  | succ n ih => intro σ y h; exact t_restore_128_body ih h
theorem t_restore_102_body {v : Int32} {k102 : zSt → Int32 → Option zSt} (hk : ∀ (σ : zSt) (y : Int32), zTh v σ → zpc (k102 σ y) (zTh v)) {σ : zSt} {x1 : Int32} (h : zTh v σ) : zpc (fX12_restore_102_body k102 σ x1) (zTh v) := by
  unfold fX12_restore_102_body
  exact zpc_if (fun _ => t_restore_128 _ _ _ h) (fun _ => zpc_ck (zpc_ck (zpc_bv (fun σ10 e_σ10 => zpc_bv (fun v11 e_v11 => hk _ _ (zTh.bs h e_σ10 (by decide)))))))
theorem t_restore_102 {v : Int32} : ∀ (n : Nat) (σ : zSt) (y : Int32), zTh v σ → zpc (fX12_restore_102 n σ y) (zTh v) := by
  intro n
  induction n with
  | zero => intro σ y h; exact zpc_none
  | succ n ih => intro σ y h; exact t_restore_102_body ih h
theorem t_restore_75_body {v : Int32} {k75 : zSt → Int32 → Option zSt} (hk : ∀ (σ : zSt) (y : Int32), zTh v σ → zpc (k75 σ y) (zTh v)) {σ : zSt} {x1 : Int32} (h : zTh v σ) : zpc (fX12_restore_75_body k75 σ x1) (zTh v) := by
  unfold fX12_restore_75_body
  exact zpc_if (fun _ => t_restore_102 _ _ _ h) (fun _ => zpc_ck (zpc_ck (zpc_bv (fun σ12 e_σ12 => zpc_bv (fun v13 e_v13 => hk _ _ (zTh.bs h e_σ12 (by decide)))))))
theorem t_restore_75 {v : Int32} : ∀ (n : Nat) (σ : zSt) (y : Int32), zTh v σ → zpc (fX12_restore_75 n σ y) (zTh v) := by
  intro n
  induction n with
  | zero => intro σ y h; exact zpc_none
  | succ n ih => intro σ y h; exact t_restore_75_body ih h
theorem t_restore_50_body {v : Int32} {k50 : zSt → Int32 → Option zSt} (hk : ∀ (σ : zSt) (y : Int32), zTh v σ → zpc (k50 σ y) (zTh v)) {σ : zSt} {x1 : Int32} (h : zTh v σ) : zpc (fX12_restore_50_body k50 σ x1) (zTh v) := by
  unfold fX12_restore_50_body
  exact zpc_if (fun _ => t_restore_75 _ _ _ h) (fun _ => zpc_ck (zpc_ck (zpc_bv (fun σ14 e_σ14 => zpc_bv (fun v15 e_v15 => hk _ _ (zTh.bl h e_σ14))))))
theorem t_restore_50 {v : Int32} : ∀ (n : Nat) (σ : zSt) (y : Int32), zTh v σ → zpc (fX12_restore_50 n σ y) (zTh v) := by
  intro n
  induction n with
  | zero => intro σ y h; exact zpc_none
  | succ n ih => intro σ y h; exact t_restore_50_body ih h
theorem t_restore_23_body {v : Int32} {k23 : zSt → Int32 → Option zSt} (hk : ∀ (σ : zSt) (y : Int32), zTh v σ → zpc (k23 σ y) (zTh v)) {σ : zSt} {x1 : Int32} (h : zTh v σ) : zpc (fX12_restore_23_body k23 σ x1) (zTh v) := by
  unfold fX12_restore_23_body
  exact zpc_if (fun _ => t_restore_50 _ _ _ h) (fun _ => zpc_ck (zpc_ck (zpc_bv (fun σ16 e_σ16 => zpc_bv (fun v17 e_v17 => hk _ _ (zTh.bs h e_σ16 (by decide)))))))
theorem t_restore_23 {v : Int32} : ∀ (n : Nat) (σ : zSt) (y : Int32), zTh v σ → zpc (fX12_restore_23 n σ y) (zTh v) := by
  intro n
  induction n with
  | zero => intro σ y h; exact zpc_none
  | succ n ih => intro σ y h; exact t_restore_23_body ih h
/-- three ends: refused by 1, refused by 2, done -/
noncomputable def zBr (A B : Prop) (n m y : Int) (t : Int32) (V R : Int → Prop) : Prop := (¬ A ∧ t = 1 ∧ R n) ∨ (A ∧ ¬ B ∧ t = 2 ∧ R n) ∨ (A ∧ B ∧ t = 0 ∧ V y ∧ R m)
theorem zBr.both {A B : Prop} {n m y : Int} {t t' : Int32} {V V' R R' : Int → Prop} (h : zBr A B n m y t V R) (h' : zBr A B n m y t' V' R') : t' = t ∧ (∃ n1, R n1 ∧ R' n1) ∧ (t = 0 → ∃ z, V z ∧ V' z) := by
  rcases h with ⟨a, b, c⟩ | ⟨a, d, b, c⟩ | ⟨a, d, b, v, c⟩ <;> rcases h' with ⟨a', b', c'⟩ | ⟨a', d', b', c'⟩ | ⟨a', d', b', v', c'⟩
  · exact ⟨b'.trans b.symm, ⟨n, c, c'⟩, fun z => absurd (b.symm.trans z) (by decide)⟩
  · exact absurd a' a
  · exact absurd a' a
  · exact absurd a a'
  · exact ⟨b'.trans b.symm, ⟨n, c, c'⟩, fun z => absurd (b.symm.trans z) (by decide)⟩
  · exact absurd d' d
  · exact absurd a a'
  · exact absurd d d'
  · exact ⟨b'.trans b.symm, ⟨m, c, c'⟩, fun _ => ⟨y, v, v'⟩⟩
/-! feed, the reference -/
theorem p_feed_54 {x1 : Int32} {x2 x4 x6 : Int64} (hx : zr 1 24 x1) : ∀ (n : Nat) (σ : zSt) (x8 : Int32), zr 0 24 x8 → x8.toInt ≤ x1.toInt → 0 ≤ (zgi σ 0 2).toInt → (zgi σ 0 2).toInt + (x1.toInt - x8.toInt) ≤ 262656 → zpc (fX12_feed_54 n σ x1 x2 x4 x6 x8) (fun r => zgi r.1 0 0 = zgi σ 0 0 ∧ (zgi r.1 0 2).toInt = (zgi σ 0 2).toInt + (x1.toInt - x8.toInt) ∧ r.2 = zgi r.1 0 2) := by
  intro n
  induction n with
  | zero => intro σ x8 _ _ _ _; exact zpc_none
  | succ n ih =>
    intro σ x8 h8 hle h0 hb
    show zpc (fX12_feed_54_body (fX12_feed_54 n) σ x1 x2 x4 x6 x8) _
    unfold fX12_feed_54_body
    have b8 := h8.1
    have bx := hx.2
    refine zpc_if (fun q => ?_) (fun q => ?_)
    · have q1 := Int32.le_iff_toInt_le.mp q
      have e : (zgi σ 0 2).toInt = (zgi σ 0 2).toInt + (x1.toInt - x8.toInt) := by omega
      exact zpc_some ⟨rfl, e, rfl⟩
    · have q1 := Int32.lt_iff_toInt_lt.mp (z_nle q)
      have f : ∀ s0, zpc (fX12_feed_93 (fX12_feed_54 n) σ x1 x2 x4 x6 x8 s0 (zgi σ 0 2)) (fun r => zgi r.1 0 0 = zgi σ 0 0 ∧ (zgi r.1 0 2).toInt = (zgi σ 0 2).toInt + (x1.toInt - x8.toInt) ∧ r.2 = zgi r.1 0 2) := fun s0 => by
        unfold fX12_feed_93
        refine zpc_ck (zpc_ck (zpc_bv (fun σ1 e1 => zpc_bv (fun σ2 e2 => zpc_bv (fun v3 e3 => ?_)))))
        have a2 : zgi σ1 0 2 = zgi σ 0 2 := by
          subst e1
          show (zsi σ 1 _ _).1 0 2 = σ.1 0 2
          rw [zsi_off (by omega)]
        have a0 : zgi σ2 0 0 = zgi σ 0 0 := by
          subst e2
          subst e1
          show (zsi (zsi σ 1 _ _) 0 2 _).1 0 0 = σ.1 0 0
          rw [zsi_off (by omega), zsi_off (by omega)]
        have c1 : (1 : Int32).toInt = 1 := rfl
        have r1 : zr 1 1 (1 : Int32) := zr_c (by decide)
        have t3 : (zgi σ 0 2 + 1).toInt = (zgi σ 0 2).toInt + (1 : Int32).toInt := z_tadd (a := 0) (b := 262655) ⟨h0, by omega⟩ r1 (by decide)
        have a3 : (zgi σ2 0 2).toInt = (zgi σ 0 2).toInt + 1 := by
          subst e2
          show ((zsi σ1 0 2 (zgi σ1 0 2 + 1)).1 0 2).toInt = _
          rw [zsi_ej, a2, t3, c1]
        have t8 : (x8 + 1).toInt = x8.toInt + (1 : Int32).toInt := z_tadd h8 r1 (by decide)
        have t : v3.toInt = x8.toInt + 1 := by rw [e3, t8, c1]
        refine zpc_mono (ih σ2 v3 ⟨by omega, by omega⟩ (by omega) (by omega) (by omega)) (fun r p => ?_)
        obtain ⟨p1, p2, p3⟩ := p
        exact ⟨p1.trans a0, by omega, p3⟩
      exact zpc_if (fun _ => zpc_if (fun _ => f _) (fun _ => f _)) (fun _ => f _)
theorem p_feed {μ : zSt} {x1 : Int32} {x2 x4 x6 : Int64} (hr : zr 0 262656 (zgi μ 0 2)) : zpc (fX12_feed μ x1 x2 x4 x6) (fun r => (¬ zr 1 24 x1 ∧ zTh 1 r.1 ∧ zgi r.1 0 2 = zgi μ 0 2) ∨ (zr 1 24 x1 ∧ ¬ (zgi μ 0 2).toInt + x1.toInt ≤ 262656 ∧ zTh 2 r.1 ∧ zgi r.1 0 2 = zgi μ 0 2) ∨ (zr 1 24 x1 ∧ (zgi μ 0 2).toInt + x1.toInt ≤ 262656 ∧ zTh 0 r.1 ∧ (zgi r.1 0 2).toInt = (zgi μ 0 2).toInt + x1.toInt ∧ r.2 = zgi r.1 0 2)) := by
  unfold fX12_feed
  have c2 : (262656 : Int32).toInt = 262656 := rfl
  have c0 : (0 : Int32).toInt = 0 := rfl
  have at02 : ∀ (σ σ1 : zSt) (v : Int32), σ1 = zsi σ 0 0 v → zgi σ1 0 2 = zgi σ 0 2 := fun σ σ1 v e => by
    subst e
    show (zsi σ 0 0 _).1 0 2 = σ.1 0 2
    rw [zsi_off (by omega)]
  refine zpc_within (fun w1 w2 => ?_) (fun w3 => ?_)
  · have h := z_wir w1 w2 (zrl_c (lo := 1) (hi := 1) (by decide)) (zrl_c (lo := 24) (hi := 24) (by decide))
    refine zpc_if (fun q => absurd q (by decide)) (fun _ => ?_)
    unfold fX12_feed_18
    refine zpc_fails0 (fun σ1 e1 => ?_)
    refine zpc_if (fun _ => ?_) (fun q => absurd rfl q)
    have a := at02 _ _ _ e1
    have t : (zgi μ 0 2 + x1).toInt = (zgi μ 0 2).toInt + x1.toInt := z_tadd hr h (by decide)
    have hx1 := h.1
    have hr1 := hr.1
    refine zpc_if (fun q => ?_) (fun q => ?_)
    · rw [a] at q
      have q1 := Int32.le_iff_toInt_le.mp q
      rw [t, c2] at q1
      unfold fX12_feed_42
      refine zpc_fails0 (fun σ2 e2 => ?_)
      refine zpc_if (fun _ => ?_) (fun q => absurd rfl q)
      have a2 : zgi σ2 0 2 = zgi μ 0 2 := (at02 _ _ _ e2).trans a
      have b2 : zgi σ2 0 0 = 0 := by subst e2; exact zTh_own
      have k1 : (0 : Int32).toInt ≤ x1.toInt := by omega
      have k2 : 0 ≤ (zgi σ2 0 2).toInt := by rw [a2]; exact hr1
      have k3 : (zgi σ2 0 2).toInt + (x1.toInt - (0 : Int32).toInt) ≤ 262656 := by rw [a2, c0]; omega
      refine zpc_mono (p_feed_54 h zfuel σ2 0 (zr_c (by decide)) k1 k2 k3) (fun r p => ?_)
      obtain ⟨p1, p2, p3⟩ := p
      rw [a2, c0] at p2
      exact Or.inr (Or.inr ⟨h, q1, p1.trans b2, by omega, p3⟩)
    · rw [a] at q
      have q1 := Int32.lt_iff_toInt_lt.mp (z_nle q)
      rw [t, c2] at q1
      unfold fX12_feed_42 fX12_feed_49
      refine zpc_fails1 (fun σ2 e2 => ?_)
      have a2 : zgi σ2 0 2 = zgi μ 0 2 := (at02 _ _ _ e2).trans a
      exact zpc_if (fun q => absurd q (by decide)) (fun _ => zpc_some (Or.inr (Or.inl ⟨h, by omega, by subst e2; exact zTh_own, a2⟩)))
  · refine zpc_if (fun _ => ?_) (fun q => absurd rfl q)
    unfold fX12_feed_18 fX12_feed_49
    refine zpc_fails1 (fun σ1 e1 => ?_)
    have a := at02 _ _ _ e1
    exact zpc_if (fun q => absurd q (by decide)) (fun _ => zpc_some (Or.inl ⟨z_within w3 rfl rfl, by subst e1; exact zTh_own, a⟩))
/-! grow, the reference -/
theorem p_grow_54 {x1 x2 : Int32} (hx : zr 0 262656 x1) : ∀ (n : Nat) (σ : zSt), 0 ≤ (zgi σ 0 2).toInt → (zgi σ 0 2).toInt ≤ x1.toInt → zpc (fX12_grow_54 n σ x1 x2) (fun r => zgi r.1 0 0 = zgi σ 0 0 ∧ (zgi r.1 0 2).toInt = x1.toInt ∧ r.2 = x2) := by
  intro n
  induction n with
  | zero => intro σ _ _; exact zpc_none
  | succ n ih =>
    intro σ h0 hle
    show zpc (fX12_grow_54_body (fX12_grow_54 n) σ x1 x2) _
    unfold fX12_grow_54_body
    have bx := hx.2
    refine zpc_if (fun q => ?_) (fun q => ?_)
    · have q1 := Int32.le_iff_toInt_le.mp q
      have e : (zgi σ 0 2).toInt = x1.toInt := by omega
      exact zpc_some ⟨rfl, e, rfl⟩
    · have q1 := Int32.lt_iff_toInt_lt.mp (z_nle q)
      refine zpc_ck (zpc_ck (zpc_ck (zpc_bv (fun σ1 e1 => zpc_bv (fun σ2 e2 => ?_)))))
      have a2 : zgi σ1 0 2 = zgi σ 0 2 := by
        subst e1
        show (zsi σ 1 _ _).1 0 2 = σ.1 0 2
        rw [zsi_off (by omega)]
      have a0 : zgi σ2 0 0 = zgi σ 0 0 := by
        subst e2
        subst e1
        show (zsi (zsi σ 1 _ _) 0 2 _).1 0 0 = σ.1 0 0
        rw [zsi_off (by omega), zsi_off (by omega)]
      have c1 : (1 : Int32).toInt = 1 := rfl
      have r1 : zr 1 1 (1 : Int32) := zr_c (by decide)
      have t3 : (zgi σ 0 2 + 1).toInt = (zgi σ 0 2).toInt + (1 : Int32).toInt := z_tadd (a := 0) (b := 262655) ⟨h0, by omega⟩ r1 (by decide)
      have a3 : (zgi σ2 0 2).toInt = (zgi σ 0 2).toInt + 1 := by
        subst e2
        show ((zsi σ1 0 2 (zgi σ1 0 2 + 1)).1 0 2).toInt = _
        rw [zsi_ej, a2, t3, c1]
      refine zpc_mono (ih σ2 (by omega) (by omega)) (fun r p => ?_)
      obtain ⟨p1, p2, p3⟩ := p
      exact ⟨p1.trans a0, p2, p3⟩
theorem p_grow {μ : zSt} {x1 : Int32} (hr : zr 0 262656 (zgi μ 0 2)) : zpc (fX12_grow μ x1) (fun r => (¬ ((zgi μ 0 2).toInt ≤ x1.toInt ∧ x1.toInt ≤ 262656) ∧ zTh 1 r.1 ∧ zgi r.1 0 2 = zgi μ 0 2) ∨ (((zgi μ 0 2).toInt ≤ x1.toInt ∧ x1.toInt ≤ 262656) ∧ (zgi μ 0 2).toInt = 0 ∧ zTh 2 r.1 ∧ zgi r.1 0 2 = zgi μ 0 2) ∨ (((zgi μ 0 2).toInt ≤ x1.toInt ∧ x1.toInt ≤ 262656) ∧ ¬ (zgi μ 0 2).toInt = 0 ∧ zTh 0 r.1 ∧ (zgi r.1 0 2).toInt = x1.toInt ∧ r.2 = zgi μ 0 2)) := by
  unfold fX12_grow fX12_grow_15
  have c2 : (262656 : Int32).toInt = 262656 := rfl
  have c0 : (0 : Int32).toInt = 0 := rfl
  have at02 : ∀ (σ σ1 : zSt) (v : Int32), σ1 = zsi σ 0 0 v → zgi σ1 0 2 = zgi σ 0 2 := fun σ σ1 v e => by
    subst e
    show (zsi σ 0 0 _).1 0 2 = σ.1 0 2
    rw [zsi_off (by omega)]
  have no : ∀ (hno : ¬ ((zgi μ 0 2).toInt ≤ x1.toInt ∧ x1.toInt ≤ 262656)), zpc (fX12_grow_20 μ x1 1) (fun r => (¬ ((zgi μ 0 2).toInt ≤ x1.toInt ∧ x1.toInt ≤ 262656) ∧ zTh 1 r.1 ∧ zgi r.1 0 2 = zgi μ 0 2) ∨ (((zgi μ 0 2).toInt ≤ x1.toInt ∧ x1.toInt ≤ 262656) ∧ (zgi μ 0 2).toInt = 0 ∧ zTh 2 r.1 ∧ zgi r.1 0 2 = zgi μ 0 2) ∨ (((zgi μ 0 2).toInt ≤ x1.toInt ∧ x1.toInt ≤ 262656) ∧ ¬ (zgi μ 0 2).toInt = 0 ∧ zTh 0 r.1 ∧ (zgi r.1 0 2).toInt = x1.toInt ∧ r.2 = zgi μ 0 2)) := fun hno => by
    unfold fX12_grow_20 fX12_grow_47
    refine zpc_fails1 (fun σ1 e1 => ?_)
    have a := at02 _ _ _ e1
    exact zpc_if (fun q => absurd q (by decide)) (fun _ => zpc_some (Or.inl ⟨hno, by subst e1; exact zTh_own, a⟩))
  refine zpc_if (fun q => no (fun h => ?_)) (fun q => zpc_if (fun q1 => ?_) (fun q1 => no (fun h => ?_)))
  · have r := Int32.lt_iff_toInt_lt.mp q; omega
  · have r := Int32.le_iff_toInt_le.mp (z_nlt q)
    have r1 := Int32.le_iff_toInt_le.mp q1
    rw [c2] at r1
    have hr1 := hr.1
    unfold fX12_grow_20
    refine zpc_fails0 (fun σ1 e1 => ?_)
    refine zpc_if (fun _ => ?_) (fun q => absurd rfl q)
    have a := at02 _ _ _ e1
    refine zpc_if (fun q2 => ?_) (fun q2 => ?_)
    · rw [a] at q2
      unfold fX12_grow_40 fX12_grow_47
      refine zpc_fails1 (fun σ2 e2 => ?_)
      have a2 : zgi σ2 0 2 = zgi μ 0 2 := (at02 _ _ _ e2).trans a
      have e0 : (zgi μ 0 2).toInt = 0 := by rw [q2]; exact c0
      exact zpc_if (fun q => absurd q (by decide)) (fun _ => zpc_some (Or.inr (Or.inl ⟨⟨r, r1⟩, e0, by subst e2; exact zTh_own, a2⟩)))
    · rw [a] at q2
      unfold fX12_grow_40
      refine zpc_fails0 (fun σ2 e2 => ?_)
      refine zpc_if (fun _ => ?_) (fun q => absurd rfl q)
      have a2 : zgi σ2 0 2 = zgi μ 0 2 := (at02 _ _ _ e2).trans a
      have b2 : zgi σ2 0 0 = 0 := by subst e2; exact zTh_own
      refine zpc_bv (fun v5 e5 => ?_)
      have k2 : 0 ≤ (zgi σ2 0 2).toInt := by rw [a2]; exact hr1
      have k3 : (zgi σ2 0 2).toInt ≤ x1.toInt := by rw [a2]; exact r
      refine zpc_mono (p_grow_54 (x2 := v5) ⟨by omega, r1⟩ zfuel σ2 k2 k3) (fun r' p => ?_)
      obtain ⟨p1, p2, p3⟩ := p
      refine Or.inr (Or.inr ⟨⟨r, r1⟩, fun h => q2 (Int32.toInt_inj.mp (h.trans c0.symm)), p1.trans b2, p2, ?_⟩)
      rw [p3, e5, a2]
  · have r := Int32.lt_iff_toInt_lt.mp (z_nle q1); omega
/-! patch, the reference -/
theorem t_patch_32 {v x1 : Int32} {x2 : Int64} : ∀ (n : Nat) (σ : zSt) (x4 : Int32), zTh v σ → zpc (fX12_patch_32 n σ x1 x2 x4) (zTh v) := by
  intro n
  induction n with
  | zero => intro σ x4 h; exact zpc_none
  | succ n ih =>
    intro σ x4 h
    show zpc (fX12_patch_32_body (fX12_patch_32 n) σ x1 x2 x4) _
    unfold fX12_patch_32_body
    exact zpc_if (fun _ => zpc_some h) (fun _ => zpc_ck (zpc_bv (fun σ1 e1 => zpc_bv (fun v2 e2 => ih _ _ (zTh.bs h e1 (by decide))))))
theorem p_patch {μ : zSt} {x1 : Int32} {x2 : Int64} (hr : zr 0 262656 (zgi μ 0 2)) : zpc (fX12_patch μ x1 x2) (fun r => ((0 ≤ x1.toInt ∧ x1.toInt ≤ (zgi μ 0 2).toInt - 8) ∧ zgi r 0 0 = 0) ∨ (¬ (0 ≤ x1.toInt ∧ x1.toInt ≤ (zgi μ 0 2).toInt - 8) ∧ zgi r 0 0 = 1)) := by
  unfold fX12_patch fX12_patch_16
  have c0 : (0 : Int32).toInt = 0 := rfl
  have c8 : (8 : Int32).toInt = 8 := rfl
  have t : (zgi μ 0 2 - 8).toInt = (zgi μ 0 2).toInt - (8 : Int32).toInt := z_tsub hr (zr_c (lo := 8) (hi := 8) (by decide)) (by decide)
  have no : ∀ (hno : ¬ (0 ≤ x1.toInt ∧ x1.toInt ≤ (zgi μ 0 2).toInt - 8)), zpc (fX12_patch_21 μ x1 x2 1) (fun r => ((0 ≤ x1.toInt ∧ x1.toInt ≤ (zgi μ 0 2).toInt - 8) ∧ zgi r 0 0 = 0) ∨ (¬ (0 ≤ x1.toInt ∧ x1.toInt ≤ (zgi μ 0 2).toInt - 8) ∧ zgi r 0 0 = 1)) := fun hno => by
    unfold fX12_patch_21
    refine zpc_fails1 (fun σ1 e1 => ?_)
    exact zpc_if (fun q => absurd q (by decide)) (fun _ => zpc_some (Or.inr ⟨hno, by subst e1; exact zTh_own⟩))
  refine zpc_if (fun q => no (fun h => ?_)) (fun q => zpc_if (fun q1 => ?_) (fun q1 => no (fun h => ?_)))
  · have r := Int32.lt_iff_toInt_lt.mp q; omega
  · have r := Int32.le_iff_toInt_le.mp (z_nlt q)
    have r1 := Int32.le_iff_toInt_le.mp q1
    rw [t, c8] at r1
    unfold fX12_patch_21
    refine zpc_fails0 (fun σ1 e1 => ?_)
    refine zpc_if (fun _ => ?_) (fun q => absurd rfl q)
    exact zpc_mono (t_patch_32 (v := 0) _ _ _ (by subst e1; exact zTh_own)) (fun r' p => Or.inl ⟨⟨by omega, r1⟩, p⟩)
  · have r := Int32.lt_iff_toInt_lt.mp (z_nle q1); rw [t, c8] at r; omega
/-! feed, grow, the class -/
theorem p_addToTape {σ : zSt} {x : Int32} (hr : zr 0 262655 (zgi σ 1 2)) : zpc (fX2_addToTape σ x) (fun r => (zgi r 1 2).toInt = (zgi σ 1 2).toInt + 1) := by
  unfold fX2_addToTape fX2_addToTape_29
  have c1 : (1 : Int32).toInt = 1 := rfl
  have c2 : (262656 : Int32).toInt = 262656 := rfl
  have t3 : (zgi σ 1 2 + 1).toInt = (zgi σ 1 2).toInt + (1 : Int32).toInt := z_tadd hr (zr_c (lo := 1) (hi := 1) (by decide)) (by decide)
  refine zpc_if (fun q => ?_) (fun q => zpc_ck (zpc_bv (fun σ1 e1 => zpc_bv (fun σ2 e2 => zpc_some ?_))))
  · have q1 := Int32.le_iff_toInt_le.mp q
    have := hr.2
    exfalso
    omega
  · have a2 : zgi σ1 1 2 = zgi σ 1 2 := by
      subst e1
      show (zsi σ (ztp _) _ _).1 1 2 = σ.1 1 2
      rw [zsi_off (fun r => z_tp1 _ r.1)]
    subst e2
    show ((zsi σ1 1 2 (zgi σ1 1 2 + 1)).1 1 2).toInt = _
    rw [zsi_ej, a2, t3, c1]
theorem p_feedC_48 {x1 : Int32} {x2 x4 x6 : Int64} (hx : zr 1 24 x1) : ∀ (n : Nat) (σ : zSt) (x8 : Int32), zr 0 24 x8 → x8.toInt ≤ x1.toInt → 0 ≤ (zgi σ 1 2).toInt → (zgi σ 1 2).toInt + (x1.toInt - x8.toInt) ≤ 262656 → zpc (fX11_feed_48 n σ x1 x2 x4 x6 x8) (fun r => ∃ s1 v, r = Sum.inl (s1, v) ∧ v = zgi s1 1 2 ∧ (zgi s1 1 2).toInt = (zgi σ 1 2).toInt + (x1.toInt - x8.toInt)) := by
  intro n
  induction n with
  | zero => intro σ x8 _ _ _ _; exact zpc_none
  | succ n ih =>
    intro σ x8 h8 hle h0 hb
    show zpc (fX11_feed_48_body (fX11_feed_48 n) σ x1 x2 x4 x6 x8) _
    unfold fX11_feed_48_body
    have b8 := h8.1
    have bx := hx.2
    refine zpc_if (fun q => ?_) (fun q => ?_)
    · have q1 := Int32.le_iff_toInt_le.mp q
      exact zpc_some ⟨σ, _, rfl, rfl, by omega⟩
    · have q1 := Int32.lt_iff_toInt_lt.mp (z_nle q)
      have f : ∀ s0, zpc (fX11_feed_79 (fX11_feed_48 n) σ x1 x2 x4 x6 x8 s0) (fun r => ∃ s1 v, r = Sum.inl (s1, v) ∧ v = zgi s1 1 2 ∧ (zgi s1 1 2).toInt = (zgi σ 1 2).toInt + (x1.toInt - x8.toInt)) := fun s0 => by
        unfold fX11_feed_79
        refine zpc_bu (p_addToTape ⟨h0, by omega⟩) (fun σ1 a3 => zpc_bv (fun v3 e3 => ?_))
        have c1 : (1 : Int32).toInt = 1 := rfl
        have r1 : zr 1 1 (1 : Int32) := zr_c (by decide)
        have t8 : (x8 + 1).toInt = x8.toInt + (1 : Int32).toInt := z_tadd h8 r1 (by decide)
        have t : v3.toInt = x8.toInt + 1 := by rw [e3, t8, c1]
        refine zpc_mono (ih σ1 v3 ⟨by omega, by omega⟩ (by omega) (by omega) (by omega)) (fun r p => ?_)
        obtain ⟨s1, v, p1, p2, p3⟩ := p
        exact ⟨s1, v, p1, p2, by omega⟩
      exact zpc_if (fun _ => zpc_if (fun _ => f _) (fun _ => f _)) (fun _ => f _)
theorem p_feedC {σ : zSt} {x1 : Int32} {x2 x4 x6 : Int64} (hr : zr 0 262656 (zgi σ 1 2)) : zpc (fX11_feed σ x1 x2 x4 x6) (fun r => (¬ zr 1 24 x1 ∧ r = Sum.inr (σ, 1)) ∨ (zr 1 24 x1 ∧ ¬ (zgi σ 1 2).toInt + x1.toInt ≤ 262656 ∧ r = Sum.inr (σ, 2)) ∨ (zr 1 24 x1 ∧ (zgi σ 1 2).toInt + x1.toInt ≤ 262656 ∧ ∃ s1 v, r = Sum.inl (s1, v) ∧ v = zgi s1 1 2 ∧ (zgi s1 1 2).toInt = (zgi σ 1 2).toInt + x1.toInt)) := by
  unfold fX11_feed fX11_feed_11
  have c0 : (0 : Int32).toInt = 0 := rfl
  have c1 : (1 : Int32).toInt = 1 := rfl
  have c4 : (24 : Int32).toInt = 24 := rfl
  have c2 : (262656 : Int32).toInt = 262656 := rfl
  refine zpc_if (fun q => zpc_some (Or.inl ⟨fun h => ?_, rfl⟩)) (fun q => zpc_if (fun q1 => ?_) (fun q1 => zpc_some (Or.inl ⟨fun h => ?_, rfl⟩)))
  · have r := Int32.lt_iff_toInt_lt.mp q; have := h.1; omega
  · have r := Int32.le_iff_toInt_le.mp (z_nlt q)
    have r1 := Int32.le_iff_toInt_le.mp q1
    rw [c1] at r
    rw [c4] at r1
    have h : zr 1 24 x1 := ⟨r, r1⟩
    have t : (zgi σ 1 2 + x1).toInt = (zgi σ 1 2).toInt + x1.toInt := z_tadd hr h (by decide)
    refine zpc_if (fun q2 => ?_) (fun q2 => ?_)
    · have r2 := Int32.le_iff_toInt_le.mp q2
      rw [t, c2] at r2
      refine zpc_mono (p_feedC_48 h zfuel σ 0 (zr_c (by decide)) (by omega) hr.1 (by omega)) (fun r' p => ?_)
      obtain ⟨s1, v, p1, p2, p3⟩ := p
      exact Or.inr (Or.inr ⟨h, r2, s1, v, p1, p2, by omega⟩)
    · have r2 := Int32.lt_iff_toInt_lt.mp (z_nle q2)
      rw [t, c2] at r2
      exact zpc_some (Or.inr (Or.inl ⟨h, by omega, rfl⟩))
  · have r := Int32.lt_iff_toInt_lt.mp (z_nle q1); have := h.2; omega
theorem p_repeat_15 {x2 x3 : Int32} : ∀ (n : Nat) (σ : zSt) (x4 : Int32), zpc (fX2_repeatTape_15 n σ x2 x3 x4) (fun r => zgi r 1 2 = zmax x2 x3) := by
  intro n
  induction n with
  | zero => intro σ x4; exact zpc_none
  | succ n ih =>
    intro σ x4
    show zpc (fX2_repeatTape_15_body (fX2_repeatTape_15 n) σ x2 x3 x4) _
    unfold fX2_repeatTape_15_body
    have f : zpc (fX2_repeatTape_47 σ x2 x3) (fun r => zgi r 1 2 = zmax x2 x3) := by
      unfold fX2_repeatTape_47
      exact zpc_bv (fun σ1 e1 => zpc_some (by subst e1; exact zsi_ej))
    exact zpc_if (fun _ => f) (fun _ => zpc_if (fun _ => f) (fun _ => zpc_ck (zpc_ck (zpc_bv (fun σ1 e1 => zpc_bv (fun v e => ih _ _))))))
theorem p_growC {σ : zSt} {x1 : Int32} : zpc (fX11_grow σ x1) (fun r => (¬ ((zgi σ 1 2).toInt ≤ x1.toInt ∧ x1.toInt ≤ 262656) ∧ r = Sum.inr (σ, 1)) ∨ (((zgi σ 1 2).toInt ≤ x1.toInt ∧ x1.toInt ≤ 262656) ∧ (zgi σ 1 2).toInt = 0 ∧ r = Sum.inr (σ, 2)) ∨ (((zgi σ 1 2).toInt ≤ x1.toInt ∧ x1.toInt ≤ 262656) ∧ ¬ (zgi σ 1 2).toInt = 0 ∧ ∃ s1 v, r = Sum.inl (s1, v) ∧ v = zgi σ 1 2 ∧ (zgi s1 1 2).toInt = x1.toInt)) := by
  unfold fX11_grow fX11_grow_19
  have c0 : (0 : Int32).toInt = 0 := rfl
  have c2 : (262656 : Int32).toInt = 262656 := rfl
  refine zpc_bv (fun v1 e1 => ?_)
  subst e1
  refine zpc_if (fun q => zpc_some (Or.inl ⟨fun h => ?_, rfl⟩)) (fun q => zpc_if (fun q1 => ?_) (fun q1 => zpc_some (Or.inl ⟨fun h => ?_, rfl⟩)))
  · have r := Int32.lt_iff_toInt_lt.mp q; omega
  · have r := Int32.le_iff_toInt_le.mp (z_nlt q)
    have r1 := Int32.le_iff_toInt_le.mp q1
    rw [c2] at r1
    refine zpc_if (fun q2 => ?_) (fun q2 => ?_)
    · exact zpc_some (Or.inr (Or.inl ⟨⟨r, r1⟩, by rw [q2]; exact c0, rfl⟩))
    · unfold fX2_repeatTape
      refine zpc_bu (P := fun r => zgi r 1 2 = x1) ?_ (fun σ2 h2 => ?_)
      · refine zpc_bv (fun v4 e4 => zpc_bv (fun v5 e5 => ?_))
        refine zpc_mono (p_repeat_15 _ _ _) (fun r' p => ?_)
        rw [p, e4, e5]
        have m1 : zmin x1 262656 = x1 := by
          unfold zmin
          rw [if_neg (fun h => by have := Int32.lt_iff_toInt_lt.mp h; omega)]
        rw [m1]
        unfold zmax
        split
        · rfl
        · next h => exact Int32.toInt_inj.mp (by have := Int32.le_iff_toInt_le.mp (z_nlt h); omega)
      · exact zpc_some (Or.inr (Or.inr ⟨⟨r, r1⟩, fun h => q2 (Int32.toInt_inj.mp (h.trans c0.symm)), σ2, _, rfl, rfl, by rw [h2]⟩))
  · have r := Int32.lt_iff_toInt_lt.mp (z_nle q1); omega
section ZEXACT
variable {K n k s : Int} {μ σ : zSt} {o : Nat → Int64}
theorem m_feedx (h : zRM K n k s μ) {x1 : Int32} {x2 x4 x6 : Int64} : zok (fX12_feed μ x1 x2 x4 x6) (fun r => zBr (zr 1 24 x1) (n + x1.toInt ≤ 262656) n (n + x1.toInt) (n + x1.toInt) (zgi r.1 0 0) (fun y => r.2.toInt = y) (fun n1 => zRM K n1 k s r.1)) := by
  obtain ⟨c, G, i, a, b, e0, e1, e2⟩ := h
  have hr : zr 0 262656 (zgi μ 0 2) := rM_0 i.sg 2 (by decide)
  have hn : (zgi μ 0 2).toInt = n := (i.at 0 (by decide)).trans e0
  refine zok_mono (zok_zpc (s_X12_feed i.E) (p_feed hr)) (fun r q => ?_)
  obtain ⟨⟨⟨G1, i1, g⟩, _⟩, p⟩ := q
  have g1 : ∀ i, ¬ i = 0 → G1 i = G i := fun i hi => g i (fun r => hi (List.mem_singleton.mp r))
  have f : zRM K (zgi r.1 0 2).toInt k s r.1 := ⟨c, G1, i1, a.keep (fun i hi => g1 i (fun r => by subst r; revert hi; decide)), b.keep (Int.le_refl _) (fun i hi => g1 i (fun r => by subst r; revert hi; decide)), (i1.at 0 (by decide)).symm, (g1 1 (by decide)).trans e1, (g1 2 (by decide)).trans e2⟩
  rcases p with ⟨p1, p2, p3⟩ | ⟨p1, p2, p3, p4⟩ | ⟨p1, p2, p3, p4, p5⟩
  · rw [p3, hn] at f
    exact Or.inl ⟨p1, p2, f⟩
  · rw [p4, hn] at f
    rw [hn] at p2
    exact Or.inr (Or.inl ⟨p1, p2, p3, f⟩)
  · rw [hn] at p2 p4
    rw [p4] at f
    exact Or.inr (Or.inr ⟨p1, p2, p3, by rw [p5]; exact p4, f⟩)
theorem m_growx (h : zRM K n k s μ) {x1 : Int32} : zok (fX12_grow μ x1) (fun r => zBr (n ≤ x1.toInt ∧ x1.toInt ≤ 262656) (¬ n = 0) n x1.toInt n (zgi r.1 0 0) (fun y => r.2.toInt = y) (fun n1 => zRM K n1 k s r.1)) := by
  obtain ⟨c, G, i, a, b, e0, e1, e2⟩ := h
  have hr : zr 0 262656 (zgi μ 0 2) := rM_0 i.sg 2 (by decide)
  have hn : (zgi μ 0 2).toInt = n := (i.at 0 (by decide)).trans e0
  refine zok_mono (zok_zpc (s_X12_grow i.E) (p_grow hr)) (fun r q => ?_)
  obtain ⟨⟨⟨G1, i1, g⟩, _⟩, p⟩ := q
  have g1 : ∀ i, ¬ i = 0 → G1 i = G i := fun i hi => g i (fun r => hi (List.mem_singleton.mp r))
  have f : zRM K (zgi r.1 0 2).toInt k s r.1 := ⟨c, G1, i1, a.keep (fun i hi => g1 i (fun r => by subst r; revert hi; decide)), b.keep (Int.le_refl _) (fun i hi => g1 i (fun r => by subst r; revert hi; decide)), (i1.at 0 (by decide)).symm, (g1 1 (by decide)).trans e1, (g1 2 (by decide)).trans e2⟩
  rcases p with ⟨p1, p2, p3⟩ | ⟨p1, p2, p3, p4⟩ | ⟨p1, p2, p3, p4, p5⟩
  · rw [p3, hn] at f
    rw [hn] at p1
    exact Or.inl ⟨p1, p2, f⟩
  · rw [p4, hn] at f
    rw [hn] at p1 p2
    exact Or.inr (Or.inl ⟨p1, fun h => h p2, p3, f⟩)
  · rw [hn] at p1 p2
    rw [p4] at f
    exact Or.inr (Or.inr ⟨p1, p2, p3, by rw [p5]; exact hn, f⟩)
theorem m_patchx (h : zRM K n k s μ) {x1 : Int32} {x2 : Int64} : zok (fX12_patch μ x1 x2) (fun r => zRM K n k s r ∧ (((0 ≤ x1.toInt ∧ x1.toInt ≤ n - 8) ∧ zgi r 0 0 = 0) ∨ (¬ (0 ≤ x1.toInt ∧ x1.toInt ≤ n - 8) ∧ zgi r 0 0 = 1))) := by
  have h0 := h
  obtain ⟨c, G, i, a, b, e0, e1, e2⟩ := h
  have hr : zr 0 262656 (zgi μ 0 2) := rM_0 i.sg 2 (by decide)
  have hn : (zgi μ 0 2).toInt = n := (i.at 0 (by decide)).trans e0
  have p := p_patch (x1 := x1) (x2 := x2) hr
  rw [hn] at p
  exact zok_zpc (m_patch h0) p
theorem l_feedx (h : zRC n k s σ) {x1 : Int32} {x2 x4 x6 : Int64} : zok (fL_feed o σ x1 x2 x4 x6) (fun r => zBr (zr 1 24 x1) (n + x1.toInt ≤ 262656) n (n + x1.toInt) (n + x1.toInt) r.2 (fun y => (r.1.1 0).toInt = y) (fun n1 => zRC n1 k s r.1.2)) := by
  have h0 := h
  obtain ⟨H, i, e0, e1, e2⟩ := h
  have hr : zr 0 262656 (zgi σ 1 2) := rC_0 i.sg 2 (by decide)
  have hn : (zgi σ 1 2).toInt = n := Eq.trans (i.fz 0 (1, 2) rfl) e0
  unfold fL_feed
  refine zok_zbr (zok_zpc (s_X11_feed i.E) (p_feedC hr)) (fun r q => ?_)
  obtain ⟨⟨q1, _⟩, p⟩ := q
  rcases p with ⟨p1, p2⟩ | ⟨p1, p2, p3⟩ | ⟨p1, p2, s1, v, p3, p4, p5⟩
  · subst p2
    show zok (some ((o, σ), (1 : Int32))) _
    exact zok_some (Or.inl ⟨p1, rfl, h0⟩)
  · subst p3
    rw [hn] at p2
    show zok (some ((o, σ), (2 : Int32))) _
    exact zok_some (Or.inr (Or.inl ⟨p1, p2, rfl, h0⟩))
  · subst p3
    rw [hn] at p2 p5
    obtain ⟨H1, i1, g⟩ := q1
    have i1 : zIC H1 s1 := i1
    have f : (zgi s1 1 2).toInt = H1 0 := i1.fz 0 (1, 2) rfl
    show zok (some ((vp_updL o 0 v.toInt64, s1), (0 : Int32))) _
    refine zok_some (Or.inr (Or.inr ⟨p1, p2, rfl, ?_, H1, i1, by rw [← f]; exact p5, (g 2 (by decide)).trans e1, (g 1 (by decide)).trans e2⟩))
    show (if (0 : Nat) = 0 then v.toInt64 else o 0).toInt = _
    rw [if_pos rfl, Int32.toInt_toInt64, p4]
    exact p5
theorem l_growx (h : zRC n k s σ) {x1 : Int32} : zok (fL_grow o σ x1) (fun r => zBr (n ≤ x1.toInt ∧ x1.toInt ≤ 262656) (¬ n = 0) n x1.toInt n r.2 (fun y => (r.1.1 0).toInt = y) (fun n1 => zRC n1 k s r.1.2)) := by
  have h0 := h
  obtain ⟨H, i, e0, e1, e2⟩ := h
  have hn : (zgi σ 1 2).toInt = n := Eq.trans (i.fz 0 (1, 2) rfl) e0
  unfold fL_grow
  refine zok_zbr (zok_zpc (s_X11_grow i.E) p_growC) (fun r q => ?_)
  obtain ⟨⟨q1, _⟩, p⟩ := q
  rcases p with ⟨p1, p2⟩ | ⟨p1, p2, p3⟩ | ⟨p1, p2, s1, v, p3, p4, p5⟩
  · subst p2
    rw [hn] at p1
    show zok (some ((o, σ), (1 : Int32))) _
    exact zok_some (Or.inl ⟨p1, rfl, h0⟩)
  · subst p3
    rw [hn] at p1 p2
    show zok (some ((o, σ), (2 : Int32))) _
    exact zok_some (Or.inr (Or.inl ⟨p1, fun h => h p2, rfl, h0⟩))
  · subst p3
    rw [hn] at p1 p2
    obtain ⟨H1, i1, g⟩ := q1
    have i1 : zIC H1 s1 := i1
    have f : (zgi s1 1 2).toInt = H1 0 := i1.fz 0 (1, 2) rfl
    show zok (some ((vp_updL o 0 v.toInt64, s1), (0 : Int32))) _
    refine zok_some (Or.inr (Or.inr ⟨p1, p2, rfl, ?_, H1, i1, by rw [← f]; exact p5, (g 2 (by decide)).trans e1, (g 1 (by decide)).trans e2⟩))
    show (if (0 : Nat) = 0 then v.toInt64 else o 0).toInt = _
    rw [if_pos rfl, Int32.toInt_toInt64, p4]
    exact hn
theorem l_patchx (h : zRC n k s σ) {x1 : Int32} {x2 : Int64} : zok (fL_patch σ x1 x2) (fun r => zRC n k s r.1 ∧ (((0 ≤ x1.toInt ∧ x1.toInt ≤ n - 8) ∧ r.2 = 0) ∨ (¬ (0 ≤ x1.toInt ∧ x1.toInt ≤ n - 8) ∧ r.2 = 1))) := by
  have h0 := h
  obtain ⟨H, i, e0, e1, e2⟩ := h
  have hr : zr 0 262656 (zgi σ 1 2) := rC_0 i.sg 2 (by decide)
  have hn : (zgi σ 1 2).toInt = n := Eq.trans (i.fz 0 (1, 2) rfl) e0
  have hr2 := hr.2
  unfold fL_patch
  refine zTh_hu ?_
  unfold fX11_patch fX11_patch_18
  have c0 : (0 : Int32).toInt = 0 := rfl
  have c8 : (8 : Int32).toInt = 8 := rfl
  have t : (zgi σ 1 2 - 8).toInt = (zgi σ 1 2).toInt - (8 : Int32).toInt := z_tsub hr (zr_c (lo := 8) (hi := 8) (by decide)) (by decide)
  refine zok_if (fun q => zok_some (Or.inr ⟨fun h => ?_, σ, rfl, h0⟩)) (fun q => zok_if (fun q1 => ?_) (fun q1 => zok_some (Or.inr ⟨fun h => ?_, σ, rfl, h0⟩)))
  · have r := Int32.lt_iff_toInt_lt.mp q; omega
  · have r := Int32.le_iff_toInt_le.mp (z_nlt q)
    have r1 := Int32.le_iff_toInt_le.mp q1
    rw [t, c8] at r1
    have ha : zr 0 262648 x1 := ⟨by omega, by omega⟩
    exact zok_bu (s_X2_changeTape i ha) (fun σ3 i3 => zok_some (Or.inl ⟨⟨by omega, by omega⟩, σ3, rfl, H, i3, e0, e1, e2⟩))
  · have r := Int32.lt_iff_toInt_lt.mp (z_nle q1); rw [t, c8] at r; omega
/-! load -/
noncomputable def zTk (l : Int) (v : Int32) : Prop := (l < 8192 ∧ v = 1) ∨ (8192 ≤ l ∧ ¬ l % 8192 = 0 ∧ v = 2) ∨ (8192 ≤ l ∧ l % 8192 = 0 ∧ v = 0)
theorem zTk.both {l : Int} {v w : Int32} (h : zTk l v) (h' : zTk l w) : v = w := by
  rcases h with ⟨a, b⟩ | ⟨a, c, b⟩ | ⟨a, c, b⟩ <;> rcases h' with ⟨a', b'⟩ | ⟨a', c', b'⟩ | ⟨a', c', b'⟩ <;> first | exact b.trans b'.symm | (exfalso; omega)
noncomputable def zLf (n : Int) : Int := if n % 16384 = 512 then n - 512 else n
/-- behind load: the length 0, what is saved forgotten if it answers 0 -/
noncomputable def zLo (n s : Int) (v : Int32) (R : Int → Int → Prop) : Prop := zTk (zLf n) v ∧ ((v = 0 ∧ R 0 0) ∨ (¬ v = 0 ∧ R 0 s))
theorem zLo.both {n s : Int} {v w : Int32} {R R' : Int → Int → Prop} (h : zLo n s v R) (h' : zLo n s w R') : v = w ∧ ∃ s1, R 0 s1 ∧ R' 0 s1 := by
  obtain ⟨t, h⟩ := h
  obtain ⟨t', h'⟩ := h'
  have e := t.both t'
  refine ⟨e, ?_⟩
  rcases h with ⟨a, b⟩ | ⟨a, b⟩ <;> rcases h' with ⟨a', b'⟩ | ⟨a', b'⟩
  · exact ⟨0, b, b'⟩
  · exact absurd (e.symm.trans a) a'
  · exact absurd (e.trans a') a
  · exact ⟨s, b, b'⟩
theorem z_rem8 {v : Int32} {l : Int} (tl : v.toInt = l) (h : zr 8192 262656 v) (q : zrem v 8192 = 0) : l % 8192 = 0 := by
  have e := z_trem (y := (8192 : Int32)) 8192 rfl h (by decide)
  rw [q, tl] at e
  exact e.symm
theorem z_rem8n {v : Int32} {l : Int} (tl : v.toInt = l) (h : zr 8192 262656 v) (q : ¬ zrem v 8192 = 0) : ¬ l % 8192 = 0 := fun r => by
  have e := z_trem (y := (8192 : Int32)) 8192 rfl h (by decide)
  rw [tl, r] at e
  exact q (Int32.toInt_inj.mp e)
theorem q_take21 {G : Nat → Int} {σ : zSt} (hσ : zEC [0] G σ) {s0 : Int32} (h_s0 : zr (0) (512) s0) : zok (fX2_takeTape_21 σ s0) (fun r => zEC [0] G r.1 ∧ zr 0 0 (zgi r.1 1 2) ∧ zTk ((zgi σ 1 2).toInt - s0.toInt) r.2) := by
  unfold fX2_takeTape_21
  refine zok_br (zr_sub (lo := -512) (hi := 262656) (rC_0 hσ.sg _ (by decide)) h_s0 (by decide)) (fun v1 e2 h1 => ?_)
  have tl : v1.toInt = (zgi σ 1 2).toInt - s0.toInt := by
    rw [e2]
    exact z_tsub (rC_0 hσ.sg 2 (by decide)) h_s0 (by decide)
  refine zok_bs (hσ.wi 2 2 (by decide) (zr_c (lo := 0) (hi := 0) (by decide)) (by decide +kernel)) (fun σ2 e4 i3 => ?_)
  have w2 : zr 0 0 (zgi σ2 1 2) := z_own e4 (zr_c (lo := 0) (hi := 0) (by decide))
  have c8 : (8192 : Int32).toInt = 8192 := rfl
  refine zok_if (fun q5 => ?_) (fun q5 => ?_)
  · have q6 := Int32.le_iff_toInt_le.mp q5
    have h6 := zc_ler (8192) q5 (zr_c (lo := 8192) (hi := 8192) (by decide)) h1 (by decide)
    refine zok_ck (by decide) ?_
    refine zok_if (fun q7 => ?_) (fun q7 => ?_)
    · have h8 := zc_eql (0) (0) q7 (zr_rem (lo := 0) (hi := 8191) 8192 (by decide) h6 (by decide)) (zr_c (lo := 0) (hi := 0) (by decide)) (by decide)
      have h9 := z_m8 h6 h8
      refine zok_bs (i3.wi 1 1 (by decide) zr_any (by decide +kernel)) (fun σ3 e11 i10 => ?_)
      refine zok_bs (i10.wi 0 0 (by decide) zr_any (by decide +kernel)) (fun σ4 e13 i12 => ?_)
      refine zok_bs (i12.wi 3 3 (by decide) h_s0 (by decide +kernel)) (fun σ5 e15 i14 => ?_)
      refine zok_bs (i14.wi 4 4 (by decide) h9 (by decide +kernel)) (fun σ6 e17 i16 => ?_)
      refine zok_ck (by decide) ?_
      refine zok_bs (i16.wi 5 5 (by decide) (zr_div (lo := 1) (hi := 16) 16384 (by decide) (zr_sub (lo := 24575) (hi := 278527) (zr_add (lo := 24576) (hi := 278528) h9 (zr_c (lo := 16384) (hi := 16384) (by decide)) (by decide)) (zr_c (lo := 1) (hi := 1) (by decide)) (by decide)) (by decide)) (by decide +kernel)) (fun σ7 e19 i18 => ?_)
      refine zok_pi (s_X2_findHeader i18.P) (fun v9 h20 => ?_)
      refine zok_bs (i18.wi 7 7 (by decide) h20 (by decide +kernel)) (fun σ10 e22 i21 => ?_)
      refine zok_pi (s_X2_findPaging i21.P) (fun v12 h23 => ?_)
      refine zok_bs (i21.wi 6 6 (by decide) h23 (by decide +kernel)) (fun σ13 e25 i24 => ?_)
      have w13 : zr 0 0 (zgi σ13 1 2) := z_trj (j1 := 2) e25 (by decide) (z_trj (j1 := 2) e22 (by decide) (z_trj (j1 := 2) e19 (by decide) (z_trj (j1 := 2) e17 (by decide) (z_trj (j1 := 2) e15 (by decide) (z_trj (j1 := 2) e13 (by decide) (z_trj (j1 := 2) e11 (by decide) w2))))))
      exact zok_some ⟨i24, w13, Or.inr (Or.inr ⟨by omega, z_rem8 tl h6 q7, rfl⟩)⟩
    exact zok_some ⟨i3, w2, Or.inr (Or.inl ⟨by omega, z_rem8n tl h6 q7, rfl⟩)⟩
  have q6 := Int32.lt_iff_toInt_lt.mp (z_nle q5)
  exact zok_some ⟨i3, w2, Or.inl ⟨by omega, rfl⟩⟩
theorem z_rem16 {v : Int32} {n : Int} (tn : v.toInt = n) (h : zr 0 262656 v) : (zrem v 16384).toInt = n % 16384 := by
  rw [z_trem (y := (16384 : Int32)) 16384 rfl h (by decide), tn]
theorem c_loadx (h : zRC n k s σ) : zok (fX11_load σ ) (fun r => zLo n s r.2 (fun n1 s1 => zRC n1 k s1 r.1)) := by
  obtain ⟨H, i, e0, e1, e2⟩ := h
  have hr : zr 0 262656 (zgi σ 1 2) := rC_0 i.sg 2 (by decide)
  have hn : (zgi σ 1 2).toInt = n := Eq.trans (i.fz 0 (1, 2) rfl) e0
  have tk : zok (fX2_takeTape σ ) (fun r => zEC [0] H r.1 ∧ zr 0 0 (zgi r.1 1 2) ∧ zTk (zLf n) r.2) := by
    unfold fX2_takeTape
    refine zok_ck (by decide) ?_
    have m := z_rem16 hn hr
    have c5 : (512 : Int32).toInt = 512 := rfl
    have c0 : (0 : Int32).toInt = 0 := rfl
    refine zok_if (fun q1 => ?_) (fun q1 => ?_)
    · rw [q1, c5] at m
      have e : zLf n = (zgi σ 1 2).toInt - (512 : Int32).toInt := by unfold zLf; rw [if_pos m.symm, hn, c5]
      rw [e]
      exact q_take21 i.E (zr_c (by decide))
    · have e : zLf n = (zgi σ 1 2).toInt - (0 : Int32).toInt := by
        unfold zLf
        rw [if_neg (fun r => q1 (Int32.toInt_inj.mp (by rw [m, r]; rfl))), hn, c0]; omega
      rw [e]
      exact q_take21 i.E (zr_c (by decide))
  unfold fX11_load fX11_load_28
  refine zok_bi tk (fun σ1 v2 q => ?_)
  obtain ⟨q1, q2, q3⟩ := q
  obtain ⟨H1, i1, g⟩ := q1
  have z0 : H1 0 = 0 := by
    have f : (zgi σ1 1 2).toInt = H1 0 := i1.fz 0 (1, 2) rfl
    have := q2.1
    have := q2.2
    have f2 : (zgi (σ1, v2).1 1 2).toInt = (zgi σ1 1 2).toInt := rfl
    omega
  refine zok_if (fun q4 => ?_) (fun q4 => ?_)
  · refine zok_bu (s_X2_clearRam i1) (fun σ3 i5 => ?_)
    refine zok_bu (s_X11_clearAll i5) (fun σ4 i6 => ?_)
    refine zok_ck rfl ?_
    refine zok_bs (I := zEC [1] H1) (zEC.wi i6.E 11 11 (by decide) (zr_c (lo := 0) (hi := 0) (by decide)) (by decide +kernel)) (fun σ5 e8 i7 => ?_)
    obtain ⟨H2, i8, g2⟩ := i7
    have f : (zgi σ5 0 11).toInt = H2 1 := i8.fz 1 (0, 11) rfl
    have f0 : (zgi σ5 0 11).toInt = 0 := by
      rw [e8]
      show ((zsi σ4 0 11 0).1 0 11).toInt = 0
      rw [zsi_ej]
      rfl
    exact zok_some ⟨q3, Or.inl ⟨q4, H2, i8, (g2 0 (by decide)).trans z0, ((g2 2 (by decide)).trans (g 2 (by decide))).trans e1, f.symm.trans f0⟩⟩
  · exact zok_some ⟨q3, Or.inr ⟨q4, H1, i1, z0, (g 2 (by decide)).trans e1, (g 1 (by decide)).trans e2⟩⟩
theorem q_load26x {G : Nat → Int} (hσ : zIM G σ) {s0 : Int32} (h_s0 : zr (0) (512) s0) : zok (fX12_load_26 σ s0) (fun r => zTk (G 0 - s0.toInt) r.2 ∧ ((r.2 = 0 ∧ zLE [2, 4] (zset G 0 0) r.1 ∧ zgi r.1 0 19 = 0) ∨ (¬ r.2 = 0 ∧ zIM (zset G 0 0) r.1))) := by
  unfold fX12_load_26
  refine zok_br (zr_sub (lo := -512) (hi := 262656) (rM_0 hσ.sg _ (by decide)) h_s0 (by decide)) (fun v23 e2 h1 => ?_)
  have hg : (zgi σ 0 2).toInt = G 0 := hσ.at 0 (by decide)
  have tl : v23.toInt = G 0 - s0.toInt := by
    rw [e2, ← hg]
    exact z_tsub (rM_0 hσ.sg 2 (by decide)) h_s0 (by decide)
  refine zok_bs (I := zIM (zset G 0 0)) (zIM.wg (v := 0) 0 hσ (by decide) (by decide) (zr_c (lo := 0) (hi := 0) (by decide)) (by decide +kernel)) (fun σ24 e4 i3 => ?_)
  have c8 : (8192 : Int32).toInt = 8192 := rfl
  have c9 : (262144 : Int32).toInt = 262144 := rfl
  have b1 := h1.2
  refine zok_if (fun q5 => ?_) (fun q5 => ?_)
  · have q6 := Int32.le_iff_toInt_le.mp q5
    have h6 := zc_ler (8192) q5 (zr_c (lo := 8192) (hi := 8192) (by decide)) h1 (by decide)
    refine zok_ck (by decide) ?_
    refine zok_if (fun q7 => ?_) (fun q7 => ?_)
    · have m8 := z_rem8 tl h6 q7
      refine zok_if (fun q9 => ?_) (fun q9 => ?_)
      · have h10 := zc_lel (262144) q9 h6 (zr_c (lo := 262144) (hi := 262144) (by decide)) (by decide)
        refine zok_bs (I := zIM (zset G 0 0)) (i3.wi 5 5 (by decide) h10 (by decide +kernel)) (fun σ25 e12 i11 => ?_)
        refine zok_ck (by decide) ?_
        refine zok_bs (I := zIM (zset G 0 0)) (i11.wb (zr_div (lo := 1) (hi := 16) 16384 (by decide) (zr_add (lo := 24575) (hi := 278527) (z_own e12 h10) (zr_c (lo := 16383) (hi := 16383) (by decide)) (by decide)) (by decide)) (by decide)) (fun σ26 e14 i13 => ?_)
        refine zok_mono (zok_zpc (q_load_89 zfuel (zLE_of i13) h_s0 (zr_w (zr_c (lo := 0) (hi := 0) (by decide)) (by decide)) (z_own e14 (zr_div (lo := 1) (hi := 16) 16384 (by decide) (zr_add (lo := 24575) (hi := 278527) (z_own e12 h10) (zr_c (lo := 16383) (hi := 16383) (by decide)) (by decide)) (by decide))) (by decide)) (t_load_89 zfuel σ26 s0 0)) (fun r q => ?_)
        obtain ⟨⟨r1, _⟩, r2, r3⟩ := q
        exact ⟨Or.inr (Or.inr ⟨by omega, m8, r2⟩), Or.inl ⟨r2, r1, r3⟩⟩
      · have q10 := Int32.lt_iff_toInt_lt.mp (z_nle q9)
        exfalso
        omega
    · exact zok_some ⟨Or.inr (Or.inl ⟨by omega, z_rem8n tl h6 q7, rfl⟩), Or.inr ⟨(by decide : ¬ (2 : Int32) = 0), i3⟩⟩
  · have q6 := Int32.lt_iff_toInt_lt.mp (z_nle q5)
    exact zok_some ⟨Or.inl ⟨by omega, rfl⟩, Or.inr ⟨(by decide : ¬ (1 : Int32) = 0), i3⟩⟩
theorem m_loadx (h : zRM K n k s μ) : zok (fX12_load μ ) (fun r => zLo n s r.2 (fun n1 s1 => zRM K n1 k s1 r.1)) := by
  obtain ⟨c, G, i, a, b, e0, e1, e2⟩ := h
  have fin : ∀ (σ1 : zSt) (s0 : Int32) (i1 : zIM G σ1), zr (0) (512) s0 → zLf n = G 0 - s0.toInt → zok (fX12_load_26 σ1 s0) (fun r => zLo n s r.2 (fun n1 s1 => zRM K n1 k s1 r.1)) := fun σ1 s0 i1 h0 el => by
    refine zok_mono (q_load26x i1 h0) (fun r q => ?_)
    obtain ⟨q1, q2⟩ := q
    rw [← el] at q1
    refine ⟨q1, ?_⟩
    have v : ∀ i, ¬ i = 0 → zset G 0 0 i = G i := fun i hi => zset_ne hi
    rcases q2 with ⟨p1, ⟨d, hd, G1, j1, g⟩, p3⟩ | ⟨p1, p2⟩
    · rw [v 3 (by decide)] at hd
      have g1 : ∀ i, ¬ i ∈ [0, 2, 3, 4] → G1 i = G i := fun i hi => (g i (fun r => hi (by simp only [List.mem_cons, List.not_mem_nil, or_false] at r ⊢; omega))).trans ((zset_ne (fun e => hi (by subst e; decide))).trans (v i (fun e => hi (by subst e; decide))))
      have g3 : G1 3 = d := (g 3 (by decide)).trans zset_eq
      have g0 : G1 0 = 0 := (g 0 (by decide)).trans ((zset_ne (by decide)).trans zset_eq)
      have g2 : G1 2 = 0 := by
        have f : (zgi r.1 0 19).toInt = G1 2 := j1.at 2 (by decide)
        rw [← f, p3]
        rfl
      exact Or.inl ⟨p1, c, G1, j1, a.line (fun i hi => g1 i (fun r => by revert hi r; simp only [List.mem_cons, List.not_mem_nil, or_false]; omega)) (by rw [g3]; exact hd) j1.beat, b.keep (Int.le_refl _) (fun i hi => g1 i (fun r => by revert hi r; simp only [List.mem_cons, List.not_mem_nil, or_false]; omega)), g0, (g1 1 (by decide)).trans e1, g2⟩
    · exact Or.inr ⟨p1, c, _, p2, a.keep (fun i hi => v i (fun r => by subst r; revert hi; decide)), b.keep (Int.le_refl _) (fun i hi => v i (fun r => by subst r; revert hi; decide)), zset_eq, (v 1 (by decide)).trans e1, (v 2 (by decide)).trans e2⟩
  unfold fX12_load
  refine zok_bs (I := zIM G) (i.wi 0 0 (by decide) (zr_c (lo := 0) (hi := 0) (by decide)) (by decide +kernel)) (fun σ27 e3 i1 => ?_)
  refine zok_ck (by decide) ?_
  have hn : (zgi σ27 0 2).toInt = n := (i1.at 0 (by decide)).trans e0
  have m := z_rem16 hn (rM_0 i1.sg 2 (by decide))
  have c5 : (512 : Int32).toInt = 512 := rfl
  have c0 : (0 : Int32).toInt = 0 := rfl
  refine zok_if (fun q1 => ?_) (fun q1 => ?_)
  · rw [q1, c5] at m
    exact fin σ27 512 i1 (zr_c (by decide)) (by unfold zLf; rw [if_pos m.symm, e0, c5])
  · exact fin σ27 0 i1 (zr_c (by decide)) (by unfold zLf; rw [if_neg (fun r => q1 (Int32.toInt_inj.mp (by rw [m, r]; rfl))), e0, c0]; omega)
/-! save, restore -/
theorem c_savex (h : zRC n k s σ) : zok (fX11_save σ ) (fun r => zRC n k 1 r) := by
  obtain ⟨H, i, e0, e1, e2⟩ := h
  have p : zpc (fX11_save σ ) (fun r => zgi r 0 11 = 1) := by
    unfold fX11_save
    exact zpc_bu (P := fun _ => True) (fun _ _ => trivial) (fun _ _ => zpc_bu (P := fun _ => True) (fun _ _ => trivial) (fun _ _ => zpc_bu (P := fun _ => True) (fun _ _ => trivial) (fun _ _ => zpc_bu (P := fun _ => True) (fun _ _ => trivial) (fun _ _ => zpc_bu (P := fun _ => True) (fun _ _ => trivial) (fun _ _ => zpc_bu (P := fun _ => True) (fun _ _ => trivial) (fun _ _ => zpc_bu (P := fun _ => True) (fun _ _ => trivial) (fun _ _ => zpc_bu (P := fun _ => True) (fun _ _ => trivial) (fun _ _ => zpc_bu (P := fun _ => True) (fun _ _ => trivial) (fun _ _ => zpc_ck (zpc_bv (fun σ1 e1 => zpc_some (by subst e1; exact zsi_ej))))))))))))
  refine zok_mono (zok_zpc (s_X11_save i.E) p) (fun r q => ?_)
  obtain ⟨⟨H1, i1, g⟩, q2⟩ := q
  have f : (zgi r 0 11).toInt = H1 1 := i1.fz 1 (0, 11) rfl
  exact ⟨H1, i1, (g 0 (by decide)).trans e0, (g 2 (by decide)).trans e1, by rw [← f, q2]; rfl⟩
theorem l_restorex (h : zRC n k s σ) : zok (fL_restore σ ) (fun r => zRC n k s r.1 ∧ ((¬ s = 0 ∧ r.2 = 0) ∨ (¬ ¬ s = 0 ∧ r.2 = 1))) := by
  have h0 := h
  obtain ⟨H, i, e0, e1, e2⟩ := h
  have hs : (zgi σ 0 11).toInt = s := Eq.trans (i.fz 1 (0, 11) rfl) e2
  have p : zpc (fX11_restore σ ) (fun r => (s = 0 ∧ r = Sum.inr (σ, 2)) ∨ (¬ s = 0 ∧ ∃ s1, r = Sum.inl s1)) := by
    unfold fX11_restore
    refine zpc_if (fun q => zpc_some (Or.inl ⟨by rw [← hs, q]; rfl, rfl⟩)) (fun q => ?_)
    have n0 : ¬ s = 0 := fun r => q (Int32.toInt_inj.mp (by rw [hs, r]; rfl))
    exact zpc_bu (P := fun _ => True) (fun _ _ => trivial) (fun _ _ => zpc_bu (P := fun _ => True) (fun _ _ => trivial) (fun _ _ => zpc_bu (P := fun _ => True) (fun _ _ => trivial) (fun _ _ => zpc_bu (P := fun _ => True) (fun _ _ => trivial) (fun _ _ => zpc_bu (P := fun _ => True) (fun _ _ => trivial) (fun _ _ => zpc_bu (P := fun _ => True) (fun _ _ => trivial) (fun _ _ => zpc_bu (P := fun _ => True) (fun _ _ => trivial) (fun _ _ => zpc_bu (P := fun _ => True) (fun _ _ => trivial) (fun _ _ => zpc_bu (P := fun _ => True) (fun _ _ => trivial) (fun _ _ => zpc_some (Or.inr ⟨n0, _, rfl⟩))))))))))
  unfold fL_restore
  refine zTh_hu (zok_mono (zok_zpc (s_X11_restore i) p) (fun r q => ?_))
  obtain ⟨⟨q1, _⟩, q2⟩ := q
  rcases q2 with ⟨a, b⟩ | ⟨a, s1, b⟩
  · subst b
    exact Or.inr ⟨fun r => r a, σ, rfl, h0⟩
  · subst b
    exact Or.inl ⟨a, s1, rfl, H, q1, e0, e1, e2⟩
theorem m_restorex (h : zRM K n k s μ) : zok (fX12_restore μ ) (fun r => zRM K n k s r ∧ ((¬ s = 0 ∧ zgi r 0 0 = 0) ∨ (¬ ¬ s = 0 ∧ zgi r 0 0 = 1))) := by
  have h0 := h
  obtain ⟨c, G, i, a, b, e0, e1, e2⟩ := h
  have hs : (zgi μ 0 19).toInt = s := (i.at 2 (by decide)).trans e2
  refine zok_zpc (m_restore h0) ?_
  unfold fX12_restore
  refine zpc_if (fun q => ?_) (fun q => ?_)
  · unfold fX12_restore_13
    have z : s = 0 := by rw [← hs, q]; rfl
    refine zpc_fails1 (fun σ1 e1 => ?_)
    exact zpc_if (fun q => absurd q (by decide)) (fun _ => zpc_some (Or.inr ⟨fun r => r z, by subst e1; exact zTh_own⟩))
  · unfold fX12_restore_13
    have n0 : ¬ s = 0 := fun r => q (Int32.toInt_inj.mp (by rw [hs, r]; rfl))
    refine zpc_fails0 (fun σ1 e1 => ?_)
    refine zpc_if (fun _ => ?_) (fun q => absurd rfl q)
    exact zpc_mono (t_restore_23 (v := 0) _ _ _ (by subst e1; exact zTh_own)) (fun r p => Or.inl ⟨n0, p⟩)
end ZEXACT
/-! pause -/
noncomputable def zHk (k h : Int) : Prop := (h = 0 ∧ ¬ k = 2) ∨ (¬ h = 0 ∧ k = 2)
theorem zHk.both {k h : Int} {v w : Int32} (d : zHk k h) (a : (h = 0 ∧ v = 1) ∨ (¬ h = 0 ∧ v = 0)) (b : (¬ k = 2 ∧ w = 1) ∨ (k = 2 ∧ w = 0)) : v = w := by
  rcases d with ⟨d1, d2⟩ | ⟨d1, d2⟩ <;> rcases a with ⟨a1, a2⟩ | ⟨a1, a2⟩ <;> rcases b with ⟨b1, b2⟩ | ⟨b1, b2⟩ <;> first | exact a2.trans b2.symm | exact absurd d1 a1 | exact absurd a1 d1 | exact absurd b1 d2 | exact absurd d2 b1
end ZJN15
section ZJN16
/-! frames: what calls leave as it is -/
theorem zpc_bs {β : Type} {x : zSt} {f : zSt → Option β} {Q : β → Prop} {I : zSt → Prop} (hx : I x) (h : ∀ y, I y → zpc (f y) Q) : zpc (zbv x f) Q := h x hx
theorem zpc_bll {α : Type} {o : Option (zSt × Int64)} {f : zSt → Int64 → Option α} {P : zSt × Int64 → Prop} {Q : α → Prop} (h : zpc o P) (k : ∀ σ v, P (σ, v) → zpc (f σ v) Q) : zpc (zbl o f) Q := by
  cases o with
  | none => exact zpc_none
  | some a => exact k a.1 a.2 (h a rfl)
theorem zpc_bk {α : Type} {o : Option (zSt × Nat)} {f : zSt → Nat → Option α} {P : zSt × Nat → Prop} {Q : α → Prop} (h : zpc o P) (k : ∀ σ v, P (σ, v) → zpc (f σ v) Q) : zpc (zbk o f) Q := by
  cases o with
  | none => exact zpc_none
  | some a => exact k a.1 a.2 (h a rfl)
noncomputable def zKeC (σ0 σ : zSt) : Prop := σ.1 1 = σ0.1 1 ∧ σ.1 13 = σ0.1 13 ∧ σ.1 14 = σ0.1 14
theorem zKeC.wi {σ0 σ : zSt} {k j : Nat} {v : Int32} (h : zKeC σ0 σ) (c : (Nat.beq 1 k || (Nat.beq 13 k || Nat.beq 14 k)) = false) : zKeC σ0 (zsi σ k j v) := by
  obtain ⟨h1, h2, h3⟩ := h
  rw [Bool.or_eq_false_iff, Bool.or_eq_false_iff] at c
  exact ⟨(zsi_ne (fun r => by rw [r, show Nat.beq k k = true from Nat.beq_refl k] at c; exact absurd c.1 (by decide))).trans h1, (zsi_ne (fun r => by rw [r, show Nat.beq k k = true from Nat.beq_refl k] at c; exact absurd c.2.1 (by decide))).trans h2, (zsi_ne (fun r => by rw [r, show Nat.beq k k = true from Nat.beq_refl k] at c; exact absurd c.2.2 (by decide))).trans h3⟩
theorem zKeC.wl {σ0 σ : zSt} {k j : Nat} {v : Int64} (h : zKeC σ0 σ) : zKeC σ0 (zsl σ k j v) := h
theorem zKeC.cl {σ0 σ : zSt} {k0 k1 sp dp n : Nat} (h : zKeC σ0 σ) : zKeC σ0 (zcpl σ k0 k1 sp dp n) := h
theorem zKeC.ci {σ0 σ : zSt} {k0 k1 sp dp n : Nat} (h : zKeC σ0 σ) (c : (Nat.beq 1 k1 || (Nat.beq 13 k1 || Nat.beq 14 k1)) = false) : zKeC σ0 (zcpi σ k0 k1 sp dp n) := by
  obtain ⟨h1, h2, h3⟩ := h
  rw [Bool.or_eq_false_iff, Bool.or_eq_false_iff] at c
  exact ⟨(zcpi_ne (fun r => by rw [r, show Nat.beq k1 k1 = true from Nat.beq_refl k1] at c; exact absurd c.1 (by decide))).trans h1, (zcpi_ne (fun r => by rw [r, show Nat.beq k1 k1 = true from Nat.beq_refl k1] at c; exact absurd c.2.1 (by decide))).trans h2, (zcpi_ne (fun r => by rw [r, show Nat.beq k1 k1 = true from Nat.beq_refl k1] at c; exact absurd c.2.2 (by decide))).trans h3⟩
theorem w_fJ7_fill_53178_k15_5_body {σ0 : zSt} {k5 : zSt → Int32 → Int32 → Int32 → Option (zSt)} (hk5 : ∀ (y0 : zSt) (y1 : Int32) (y2 : Int32) (y3 : Int32), zKeC σ0 y0 → zpc (k5 y0 y1 y2 y3) (fun r => zKeC σ0 (r))) {σ : zSt} {x1 : Int32} {x2 : Int32} {x3 : Int32} (h : zKeC σ0 σ) : zpc (fJ7_fill_53178_k15_5_body k5 σ x1 x2 x3) (fun r => zKeC σ0 (r)) := by
  unfold fJ7_fill_53178_k15_5_body
  exact zpc_if (fun _ => zpc_some h) (fun _ => zpc_ck (zpc_bs (zKeC.wi h (by decide)) (fun σ1 hσ1 => zpc_bv (fun v2 _ => hk5 _ _ _ _ hσ1))))
theorem w_fJ7_fill_53178_k15_5 {σ0 : zSt} : ∀ (n : Nat) (y0 : zSt) (y1 : Int32) (y2 : Int32) (y3 : Int32), zKeC σ0 y0 → zpc (fJ7_fill_53178_k15_5 n y0 y1 y2 y3) (fun r => zKeC σ0 (r)) := by
  intro n
  induction n with
  | zero => intro y0 y1 y2 y3 h; exact zpc_none
  | succ n ih => intro y0 y1 y2 y3 h; exact w_fJ7_fill_53178_k15_5_body ih h
theorem w_fJ7_fill_53178_k15 {σ0 : zSt} {σ : zSt} {x1 : Int32} (h : zKeC σ0 σ) : zpc (fJ7_fill_53178_k15 σ x1) (fun r => zKeC σ0 (r)) := by
  unfold fJ7_fill_53178_k15
  exact w_fJ7_fill_53178_k15_5 _ _ _ _ _ h
theorem w_fX2_clearRam {σ0 : zSt} {σ : zSt} (h : zKeC σ0 σ) : zpc (fX2_clearRam σ) (fun r => zKeC σ0 (r)) := by
  unfold fX2_clearRam
  exact zpc_bu (w_fJ7_fill_53178_k15 h) (fun σ1 hσ1 => zpc_some hσ1)
theorem w_fX2_clearPages_32 {σ0 : zSt} {σ : zSt} {s0 : Int32} {s1 : Int32} (h : zKeC σ0 σ) : zpc (fX2_clearPages_32 σ s0 s1) (fun r => zKeC σ0 (r)) := by
  unfold fX2_clearPages_32
  exact zpc_ck (zpc_bs (zKeC.wi h (by decide)) (fun σ1 hσ1 => zpc_ck (zpc_bs (zKeC.wi hσ1 (by decide)) (fun σ2 hσ2 => zpc_some hσ2))))
theorem w_fX2_clearPages {σ0 : zSt} {σ : zSt} (h : zKeC σ0 σ) : zpc (fX2_clearPages σ) (fun r => zKeC σ0 (r)) := by
  unfold fX2_clearPages
  exact zpc_ck (zpc_bs (zKeC.wi h (by decide)) (fun σ3 hσ3 => zpc_ck (zpc_bs (zKeC.wi hσ3 (by decide)) (fun σ4 hσ4 => zpc_if (fun _ => w_fX2_clearPages_32 hσ4) (fun _ => w_fX2_clearPages_32 hσ4)))))
theorem w_fJ7_rangeCheck_23922 {σ0 : zSt} {σ : zSt} {x0 : Int32} {x1 : Int32} {x2 : Int32} (h : zKeC σ0 σ) : zpc (fJ7_rangeCheck_23922 σ x0 x1 x2) (fun r => zKeC σ0 (r)) := by
  unfold fJ7_rangeCheck_23922
  exact zpc_if (fun _ => zpc_if (fun _ => zpc_if (fun _ => zpc_some h) (fun _ => zpc_none)) (fun _ => zpc_none)) (fun _ => zpc_none)
theorem w_fX4_clear {σ0 : zSt} {σ : zSt} (h : zKeC σ0 σ) : zpc (fX4_clear σ) (fun r => zKeC σ0 (r)) := by
  unfold fX4_clear
  exact zpc_ck (zpc_bs (zKeC.wi h (by decide)) (fun σ1 hσ1 => zpc_ck (zpc_bs (zKeC.wi hσ1 (by decide)) (fun σ2 hσ2 => zpc_ck (zpc_bs (zKeC.wi hσ2 (by decide)) (fun σ3 hσ3 => zpc_ck (zpc_bs (zKeC.wi hσ3 (by decide)) (fun σ4 hσ4 => zpc_ck (zpc_bs (zKeC.wi hσ4 (by decide)) (fun σ5 hσ5 => zpc_ck (zpc_bs (zKeC.wi hσ5 (by decide)) (fun σ6 hσ6 => zpc_ck (zpc_bs (zKeC.wi hσ6 (by decide)) (fun σ7 hσ7 => zpc_some hσ7))))))))))))))
theorem w_fJ7_fill_53178_k36_5_body {σ0 : zSt} {k5 : zSt → Int32 → Int32 → Int32 → Option (zSt)} (hk5 : ∀ (y0 : zSt) (y1 : Int32) (y2 : Int32) (y3 : Int32), zKeC σ0 y0 → zpc (k5 y0 y1 y2 y3) (fun r => zKeC σ0 (r))) {σ : zSt} {x1 : Int32} {x2 : Int32} {x3 : Int32} (h : zKeC σ0 σ) : zpc (fJ7_fill_53178_k36_5_body k5 σ x1 x2 x3) (fun r => zKeC σ0 (r)) := by
  unfold fJ7_fill_53178_k36_5_body
  exact zpc_if (fun _ => zpc_some h) (fun _ => zpc_ck (zpc_bs (zKeC.wi h (by decide)) (fun σ1 hσ1 => zpc_bv (fun v2 _ => hk5 _ _ _ _ hσ1))))
theorem w_fJ7_fill_53178_k36_5 {σ0 : zSt} : ∀ (n : Nat) (y0 : zSt) (y1 : Int32) (y2 : Int32) (y3 : Int32), zKeC σ0 y0 → zpc (fJ7_fill_53178_k36_5 n y0 y1 y2 y3) (fun r => zKeC σ0 (r)) := by
  intro n
  induction n with
  | zero => intro y0 y1 y2 y3 h; exact zpc_none
  | succ n ih => intro y0 y1 y2 y3 h; exact w_fJ7_fill_53178_k36_5_body ih h
theorem w_fJ7_fill_53178_k36 {σ0 : zSt} {σ : zSt} {x1 : Int32} (h : zKeC σ0 σ) : zpc (fJ7_fill_53178_k36 σ x1) (fun r => zKeC σ0 (r)) := by
  unfold fJ7_fill_53178_k36
  exact w_fJ7_fill_53178_k36_5 _ _ _ _ _ h
theorem w_fX5_clear {σ0 : zSt} {σ : zSt} (h : zKeC σ0 σ) : zpc (fX5_clear σ) (fun r => zKeC σ0 (r)) := by
  unfold fX5_clear
  exact zpc_bu (w_fJ7_fill_53178_k36 h) (fun σ1 hσ1 => zpc_ck (zpc_bs (zKeC.wi hσ1 (by decide)) (fun σ2 hσ2 => zpc_some hσ2)))
end ZJN16
section ZJN17
theorem w_fJ7_fill_53178_k30_5_body {σ0 : zSt} {k5 : zSt → Int32 → Int32 → Int32 → Option (zSt)} (hk5 : ∀ (y0 : zSt) (y1 : Int32) (y2 : Int32) (y3 : Int32), zKeC σ0 y0 → zpc (k5 y0 y1 y2 y3) (fun r => zKeC σ0 (r))) {σ : zSt} {x1 : Int32} {x2 : Int32} {x3 : Int32} (h : zKeC σ0 σ) : zpc (fJ7_fill_53178_k30_5_body k5 σ x1 x2 x3) (fun r => zKeC σ0 (r)) := by
  unfold fJ7_fill_53178_k30_5_body
  exact zpc_if (fun _ => zpc_some h) (fun _ => zpc_ck (zpc_bs (zKeC.wi h (by decide)) (fun σ1 hσ1 => zpc_bv (fun v2 _ => hk5 _ _ _ _ hσ1))))
theorem w_fJ7_fill_53178_k30_5 {σ0 : zSt} : ∀ (n : Nat) (y0 : zSt) (y1 : Int32) (y2 : Int32) (y3 : Int32), zKeC σ0 y0 → zpc (fJ7_fill_53178_k30_5 n y0 y1 y2 y3) (fun r => zKeC σ0 (r)) := by
  intro n
  induction n with
  | zero => intro y0 y1 y2 y3 h; exact zpc_none
  | succ n ih => intro y0 y1 y2 y3 h; exact w_fJ7_fill_53178_k30_5_body ih h
theorem w_fJ7_fill_53178_k30 {σ0 : zSt} {σ : zSt} {x1 : Int32} (h : zKeC σ0 σ) : zpc (fJ7_fill_53178_k30 σ x1) (fun r => zKeC σ0 (r)) := by
  unfold fJ7_fill_53178_k30
  exact w_fJ7_fill_53178_k30_5 _ _ _ _ _ h
theorem w_fJ7_fill_fda19_k30_10_body {σ0 : zSt} {k10 : zSt → Int32 → Int32 → Int32 → Option (zSt)} (hk10 : ∀ (y0 : zSt) (y1 : Int32) (y2 : Int32) (y3 : Int32), zKeC σ0 y0 → zpc (k10 y0 y1 y2 y3) (fun r => zKeC σ0 (r))) {σ : zSt} {x2 : Int32} {x3 : Int32} {x4 : Int32} (h : zKeC σ0 σ) : zpc (fJ7_fill_fda19_k30_10_body k10 σ x2 x3 x4) (fun r => zKeC σ0 (r)) := by
  unfold fJ7_fill_fda19_k30_10_body
  exact zpc_if (fun _ => zpc_some h) (fun _ => zpc_ck (zpc_bs (zKeC.wi h (by decide)) (fun σ1 hσ1 => zpc_bv (fun v2 _ => hk10 _ _ _ _ hσ1))))
theorem w_fJ7_fill_fda19_k30_10 {σ0 : zSt} : ∀ (n : Nat) (y0 : zSt) (y1 : Int32) (y2 : Int32) (y3 : Int32), zKeC σ0 y0 → zpc (fJ7_fill_fda19_k30_10 n y0 y1 y2 y3) (fun r => zKeC σ0 (r)) := by
  intro n
  induction n with
  | zero => intro y0 y1 y2 y3 h; exact zpc_none
  | succ n ih => intro y0 y1 y2 y3 h; exact w_fJ7_fill_fda19_k30_10_body ih h
theorem w_fJ7_fill_fda19_k30 {σ0 : zSt} {σ : zSt} {x1 : Int32} {x2 : Int32} {x3 : Int32} (h : zKeC σ0 σ) : zpc (fJ7_fill_fda19_k30 σ x1 x2 x3) (fun r => zKeC σ0 (r)) := by
  unfold fJ7_fill_fda19_k30
  exact zpc_bu (w_fJ7_rangeCheck_23922 h) (fun σ3 hσ3 => w_fJ7_fill_fda19_k30_10 _ _ _ _ _ hσ3)
theorem w_fX7_clear {σ0 : zSt} {σ : zSt} (h : zKeC σ0 σ) : zpc (fX7_clear σ) (fun r => zKeC σ0 (r)) := by
  unfold fX7_clear
  exact zpc_bu (w_fJ7_fill_53178_k30 h) (fun σ1 hσ1 => zpc_bu (w_fJ7_fill_fda19_k30 hσ1) (fun σ2 hσ2 => zpc_ck (zpc_bs (zKeC.wi hσ2 (by decide)) (fun σ3 hσ3 => zpc_ck (zpc_bs (zKeC.wi hσ3 (by decide)) (fun σ4 hσ4 => zpc_some hσ4))))))
theorem w_fJ7_fill_53178_k21_5_body {σ0 : zSt} {k5 : zSt → Int32 → Int32 → Int32 → Option (zSt)} (hk5 : ∀ (y0 : zSt) (y1 : Int32) (y2 : Int32) (y3 : Int32), zKeC σ0 y0 → zpc (k5 y0 y1 y2 y3) (fun r => zKeC σ0 (r))) {σ : zSt} {x1 : Int32} {x2 : Int32} {x3 : Int32} (h : zKeC σ0 σ) : zpc (fJ7_fill_53178_k21_5_body k5 σ x1 x2 x3) (fun r => zKeC σ0 (r)) := by
  unfold fJ7_fill_53178_k21_5_body
  exact zpc_if (fun _ => zpc_some h) (fun _ => zpc_ck (zpc_bs (zKeC.wi h (by decide)) (fun σ1 hσ1 => zpc_bv (fun v2 _ => hk5 _ _ _ _ hσ1))))
theorem w_fJ7_fill_53178_k21_5 {σ0 : zSt} : ∀ (n : Nat) (y0 : zSt) (y1 : Int32) (y2 : Int32) (y3 : Int32), zKeC σ0 y0 → zpc (fJ7_fill_53178_k21_5 n y0 y1 y2 y3) (fun r => zKeC σ0 (r)) := by
  intro n
  induction n with
  | zero => intro y0 y1 y2 y3 h; exact zpc_none
  | succ n ih => intro y0 y1 y2 y3 h; exact w_fJ7_fill_53178_k21_5_body ih h
theorem w_fJ7_fill_53178_k21 {σ0 : zSt} {σ : zSt} {x1 : Int32} (h : zKeC σ0 σ) : zpc (fJ7_fill_53178_k21 σ x1) (fun r => zKeC σ0 (r)) := by
  unfold fJ7_fill_53178_k21
  exact w_fJ7_fill_53178_k21_5 _ _ _ _ _ h
theorem w_fJ7_fill_53178_k23_5_body {σ0 : zSt} {k5 : zSt → Int32 → Int32 → Int32 → Option (zSt)} (hk5 : ∀ (y0 : zSt) (y1 : Int32) (y2 : Int32) (y3 : Int32), zKeC σ0 y0 → zpc (k5 y0 y1 y2 y3) (fun r => zKeC σ0 (r))) {σ : zSt} {x1 : Int32} {x2 : Int32} {x3 : Int32} (h : zKeC σ0 σ) : zpc (fJ7_fill_53178_k23_5_body k5 σ x1 x2 x3) (fun r => zKeC σ0 (r)) := by
  unfold fJ7_fill_53178_k23_5_body
  exact zpc_if (fun _ => zpc_some h) (fun _ => zpc_ck (zpc_bs (zKeC.wi h (by decide)) (fun σ1 hσ1 => zpc_bv (fun v2 _ => hk5 _ _ _ _ hσ1))))
theorem w_fJ7_fill_53178_k23_5 {σ0 : zSt} : ∀ (n : Nat) (y0 : zSt) (y1 : Int32) (y2 : Int32) (y3 : Int32), zKeC σ0 y0 → zpc (fJ7_fill_53178_k23_5 n y0 y1 y2 y3) (fun r => zKeC σ0 (r)) := by
  intro n
  induction n with
  | zero => intro y0 y1 y2 y3 h; exact zpc_none
  | succ n ih => intro y0 y1 y2 y3 h; exact w_fJ7_fill_53178_k23_5_body ih h
theorem w_fJ7_fill_53178_k23 {σ0 : zSt} {σ : zSt} {x1 : Int32} (h : zKeC σ0 σ) : zpc (fJ7_fill_53178_k23 σ x1) (fun r => zKeC σ0 (r)) := by
  unfold fJ7_fill_53178_k23
  exact w_fJ7_fill_53178_k23_5 _ _ _ _ _ h
theorem w_fX9_clear {σ0 : zSt} {σ : zSt} (h : zKeC σ0 σ) : zpc (fX9_clear σ) (fun r => zKeC σ0 (r)) := by
  unfold fX9_clear
  exact zpc_bu (w_fJ7_fill_53178_k21 h) (fun σ1 hσ1 => zpc_bu (w_fJ7_fill_53178_k23 hσ1) (fun σ2 hσ2 => zpc_some hσ2))
theorem w_fJ7_fill_53178_k32_5_body {σ0 : zSt} {k5 : zSt → Int32 → Int32 → Int32 → Option (zSt)} (hk5 : ∀ (y0 : zSt) (y1 : Int32) (y2 : Int32) (y3 : Int32), zKeC σ0 y0 → zpc (k5 y0 y1 y2 y3) (fun r => zKeC σ0 (r))) {σ : zSt} {x1 : Int32} {x2 : Int32} {x3 : Int32} (h : zKeC σ0 σ) : zpc (fJ7_fill_53178_k32_5_body k5 σ x1 x2 x3) (fun r => zKeC σ0 (r)) := by
  unfold fJ7_fill_53178_k32_5_body
  exact zpc_if (fun _ => zpc_some h) (fun _ => zpc_ck (zpc_bs (zKeC.wi h (by decide)) (fun σ1 hσ1 => zpc_bv (fun v2 _ => hk5 _ _ _ _ hσ1))))
theorem w_fJ7_fill_53178_k32_5 {σ0 : zSt} : ∀ (n : Nat) (y0 : zSt) (y1 : Int32) (y2 : Int32) (y3 : Int32), zKeC σ0 y0 → zpc (fJ7_fill_53178_k32_5 n y0 y1 y2 y3) (fun r => zKeC σ0 (r)) := by
  intro n
  induction n with
  | zero => intro y0 y1 y2 y3 h; exact zpc_none
  | succ n ih => intro y0 y1 y2 y3 h; exact w_fJ7_fill_53178_k32_5_body ih h
theorem w_fJ7_fill_53178_k32 {σ0 : zSt} {σ : zSt} {x1 : Int32} (h : zKeC σ0 σ) : zpc (fJ7_fill_53178_k32 σ x1) (fun r => zKeC σ0 (r)) := by
  unfold fJ7_fill_53178_k32
  exact w_fJ7_fill_53178_k32_5 _ _ _ _ _ h
theorem w_fX10_clear_36_body {σ0 : zSt} {k36 : zSt → Int32 → Option (zSt)} (hk36 : ∀ (y0 : zSt) (y1 : Int32), zKeC σ0 y0 → zpc (k36 y0 y1) (fun r => zKeC σ0 (r))) {σ : zSt} {x2 : Int32} (h : zKeC σ0 σ) : zpc (fX10_clear_36_body k36 σ x2) (fun r => zKeC σ0 (r)) := by
  unfold fX10_clear_36_body
  exact zpc_if (fun _ => zpc_some h) (fun _ => zpc_ck (zpc_bs (zKeC.wi h (by decide)) (fun σ1 hσ1 => zpc_ck (zpc_bs (zKeC.wi hσ1 (by decide)) (fun σ2 hσ2 => zpc_bv (fun v3 _ => hk36 _ _ hσ2))))))
theorem w_fX10_clear_36 {σ0 : zSt} : ∀ (n : Nat) (y0 : zSt) (y1 : Int32), zKeC σ0 y0 → zpc (fX10_clear_36 n y0 y1) (fun r => zKeC σ0 (r)) := by
  intro n
  induction n with
  | zero => intro y0 y1 h; exact zpc_none
  | succ n ih => intro y0 y1 h; exact w_fX10_clear_36_body ih h
theorem w_fX10_clear {σ0 : zSt} {σ : zSt} (h : zKeC σ0 σ) : zpc (fX10_clear σ) (fun r => zKeC σ0 (r)) := by
  unfold fX10_clear
  exact zpc_ck (zpc_bv (fun v4 _ => zpc_bu (w_fJ7_fill_53178_k32 h) (fun σ5 hσ5 => zpc_ck (zpc_bs (zKeC.wi hσ5 (by decide)) (fun σ6 hσ6 => zpc_ck (zpc_bs (zKeC.wi hσ6 (by decide)) (fun σ7 hσ7 => w_fX10_clear_36 _ _ _ hσ7)))))))
theorem w_fX11_clearAll {σ0 : zSt} {σ : zSt} (h : zKeC σ0 σ) : zpc (fX11_clearAll σ) (fun r => zKeC σ0 (r)) := by
  unfold fX11_clearAll
  exact zpc_bu (w_fX2_clearPages h) (fun σ1 hσ1 => zpc_bu (w_fX9_clear hσ1) (fun σ2 hσ2 => zpc_bu (w_fX7_clear hσ2) (fun σ3 hσ3 => zpc_bu (w_fX10_clear hσ3) (fun σ4 hσ4 => zpc_bu (w_fX4_clear hσ4) (fun σ5 hσ5 => zpc_bu (w_fX5_clear hσ5) (fun σ6 hσ6 => zpc_some hσ6))))))
end ZJN17
section ZJN18
noncomputable def zKeM (σ0 σ : zSt) : Prop := σ.1 1 = σ0.1 1 ∧ σ.1 2 = σ0.1 2 ∧ ∀ j, j ∈ [2, 5, 6, 7, 8, 9] → σ.1 0 j = σ0.1 0 j
theorem zKeM.wi {σ0 σ : zSt} {k j : Nat} {v : Int32} (h : zKeM σ0 σ) (c : (Nat.beq 0 k || (Nat.beq 1 k || Nat.beq 2 k)) = false) : zKeM σ0 (zsi σ k j v) := by
  obtain ⟨h1, h2, h3⟩ := h
  rw [Bool.or_eq_false_iff, Bool.or_eq_false_iff] at c
  exact ⟨(zsi_ne (fun r => by rw [r, show Nat.beq k k = true from Nat.beq_refl k] at c; exact absurd c.2.1 (by decide))).trans h1, (zsi_ne (fun r => by rw [r, show Nat.beq k k = true from Nat.beq_refl k] at c; exact absurd c.2.2 (by decide))).trans h2, fun i hi => by rw [zsi_ne (fun r => by rw [r, show Nat.beq k k = true from Nat.beq_refl k] at c; exact absurd c.1 (by decide))]; exact h3 i hi⟩
theorem zKeM.w0 {σ0 σ : zSt} {j : Nat} {v : Int32} (h : zKeM σ0 σ) (c : [2, 5, 6, 7, 8, 9].contains j = false) : zKeM σ0 (zsi σ 0 j v) := by
  obtain ⟨h1, h2, h3⟩ := h
  refine ⟨(zsi_ne (by decide)).trans h1, (zsi_ne (by decide)).trans h2, fun i hi => ?_⟩
  rw [zsi_nj (fun r => by rw [← r, List.contains_iff_mem.mpr hi] at c; exact absurd c (by decide))]
  exact h3 i hi
theorem zKeM.wl {σ0 σ : zSt} {k j : Nat} {v : Int64} (h : zKeM σ0 σ) : zKeM σ0 (zsl σ k j v) := h
theorem w_fX12_anew_236 {σ0 : zSt} {k196 : zSt → Int32 → Option (zSt)} (hk196 : ∀ (y0 : zSt) (y1 : Int32), zKeM σ0 y0 → zpc (k196 y0 y1) (fun r => zKeM σ0 (r))) {σ : zSt} {x1 : Int32} {s0 : Int32} {s1 : Int32} (h : zKeM σ0 σ) : zpc (fX12_anew_236 k196 σ x1 s0 s1) (fun r => zKeM σ0 (r)) := by
  unfold fX12_anew_236
  exact zpc_ck (zpc_bs (zKeM.wi h (by decide)) (fun σ1 hσ1 => zpc_bv (fun v2 _ => hk196 _ _ hσ1)))
theorem w_fX12_anew_267_body {σ0 : zSt} {k267 : zSt → Int32 → Option (zSt)} (hk267 : ∀ (y0 : zSt) (y1 : Int32), zKeM σ0 y0 → zpc (k267 y0 y1) (fun r => zKeM σ0 (r))) {σ : zSt} {x1 : Int32} (h : zKeM σ0 σ) : zpc (fX12_anew_267_body k267 σ x1) (fun r => zKeM σ0 (r)) := by
  unfold fX12_anew_267_body
  exact zpc_if (fun _ => zpc_some h) (fun _ => zpc_ck (zpc_bs (zKeM.wi h (by decide)) (fun σ3 hσ3 => zpc_bv (fun v4 _ => hk267 _ _ hσ3))))
theorem w_fX12_anew_267 {σ0 : zSt} : ∀ (n : Nat) (y0 : zSt) (y1 : Int32), zKeM σ0 y0 → zpc (fX12_anew_267 n y0 y1) (fun r => zKeM σ0 (r)) := by
  intro n
  induction n with
  | zero => intro y0 y1 h; exact zpc_none
  | succ n ih => intro y0 y1 h; exact w_fX12_anew_267_body ih h
theorem w_fX12_anew_245_body {σ0 : zSt} {k245 : zSt → Int32 → Option (zSt)} (hk245 : ∀ (y0 : zSt) (y1 : Int32), zKeM σ0 y0 → zpc (k245 y0 y1) (fun r => zKeM σ0 (r))) {σ : zSt} {x1 : Int32} (h : zKeM σ0 σ) : zpc (fX12_anew_245_body k245 σ x1) (fun r => zKeM σ0 (r)) := by
  unfold fX12_anew_245_body
  exact zpc_if (fun _ => w_fX12_anew_267 _ _ _ h) (fun _ => zpc_ck (zpc_bs (zKeM.wi h (by decide)) (fun σ5 hσ5 => zpc_bv (fun v6 _ => hk245 _ _ hσ5))))
theorem w_fX12_anew_245 {σ0 : zSt} : ∀ (n : Nat) (y0 : zSt) (y1 : Int32), zKeM σ0 y0 → zpc (fX12_anew_245 n y0 y1) (fun r => zKeM σ0 (r)) := by
  intro n
  induction n with
  | zero => intro y0 y1 h; exact zpc_none
  | succ n ih => intro y0 y1 h; exact w_fX12_anew_245_body ih h
theorem w_fX12_anew_196_body {σ0 : zSt} {k196 : zSt → Int32 → Option (zSt)} (hk196 : ∀ (y0 : zSt) (y1 : Int32), zKeM σ0 y0 → zpc (k196 y0 y1) (fun r => zKeM σ0 (r))) {σ : zSt} {x1 : Int32} (h : zKeM σ0 σ) : zpc (fX12_anew_196_body k196 σ x1) (fun r => zKeM σ0 (r)) := by
  unfold fX12_anew_196_body
  exact zpc_if (fun _ => w_fX12_anew_245 _ _ _ h) (fun _ => zpc_ck (zpc_if (fun _ => w_fX12_anew_236 hk196 h) (fun _ => zpc_ck (zpc_if (fun _ => w_fX12_anew_236 hk196 h) (fun _ => w_fX12_anew_236 hk196 h)))))
theorem w_fX12_anew_196 {σ0 : zSt} : ∀ (n : Nat) (y0 : zSt) (y1 : Int32), zKeM σ0 y0 → zpc (fX12_anew_196 n y0 y1) (fun r => zKeM σ0 (r)) := by
  intro n
  induction n with
  | zero => intro y0 y1 h; exact zpc_none
  | succ n ih => intro y0 y1 h; exact w_fX12_anew_196_body ih h
theorem w_fX12_anew_165_body {σ0 : zSt} {k165 : zSt → Int32 → Option (zSt)} (hk165 : ∀ (y0 : zSt) (y1 : Int32), zKeM σ0 y0 → zpc (k165 y0 y1) (fun r => zKeM σ0 (r))) {σ : zSt} {x1 : Int32} (h : zKeM σ0 σ) : zpc (fX12_anew_165_body k165 σ x1) (fun r => zKeM σ0 (r)) := by
  unfold fX12_anew_165_body
  exact zpc_if (fun _ => zpc_ck (zpc_bs (zKeM.wi h (by decide)) (fun σ7 hσ7 => w_fX12_anew_196 _ _ _ hσ7))) (fun _ => zpc_ck (zpc_bs (zKeM.wi h (by decide)) (fun σ8 hσ8 => zpc_bv (fun v9 _ => hk165 _ _ hσ8))))
theorem w_fX12_anew_165 {σ0 : zSt} : ∀ (n : Nat) (y0 : zSt) (y1 : Int32), zKeM σ0 y0 → zpc (fX12_anew_165 n y0 y1) (fun r => zKeM σ0 (r)) := by
  intro n
  induction n with
  | zero => intro y0 y1 h; exact zpc_none
  | succ n ih => intro y0 y1 h; exact w_fX12_anew_165_body ih h
theorem w_fX12_anew_131_body {σ0 : zSt} {k131 : zSt → Int32 → Option (zSt)} (hk131 : ∀ (y0 : zSt) (y1 : Int32), zKeM σ0 y0 → zpc (k131 y0 y1) (fun r => zKeM σ0 (r))) {σ : zSt} {x1 : Int32} (h : zKeM σ0 σ) : zpc (fX12_anew_131_body k131 σ x1) (fun r => zKeM σ0 (r)) := by
  unfold fX12_anew_131_body
  exact zpc_if (fun _ => zpc_ck (zpc_bs (zKeM.wi h (by decide)) (fun σ10 hσ10 => w_fX12_anew_165 _ _ _ hσ10))) (fun _ => zpc_ck (zpc_bs (zKeM.wi h (by decide)) (fun σ11 hσ11 => zpc_bv (fun v12 _ => hk131 _ _ hσ11))))
theorem w_fX12_anew_131 {σ0 : zSt} : ∀ (n : Nat) (y0 : zSt) (y1 : Int32), zKeM σ0 y0 → zpc (fX12_anew_131 n y0 y1) (fun r => zKeM σ0 (r)) := by
  intro n
  induction n with
  | zero => intro y0 y1 h; exact zpc_none
  | succ n ih => intro y0 y1 h; exact w_fX12_anew_131_body ih h
theorem w_fX12_anew_79 {σ0 : zSt} {σ : zSt} {s0 : Int32} {s1 : Int32} (h : zKeM σ0 σ) : zpc (fX12_anew_79 σ s0 s1) (fun r => zKeM σ0 (r)) := by
  unfold fX12_anew_79
  exact zpc_ck (zpc_bs (zKeM.wi h (by decide)) (fun σ13 hσ13 => zpc_ck (zpc_bs (zKeM.wi hσ13 (by decide)) (fun σ14 hσ14 => zpc_ck (zpc_bs (zKeM.wi hσ14 (by decide)) (fun σ15 hσ15 => zpc_ck (zpc_bs (zKeM.wi hσ15 (by decide)) (fun σ16 hσ16 => zpc_ck (zpc_bs (zKeM.wi hσ16 (by decide)) (fun σ17 hσ17 => zpc_ck (zpc_bs (zKeM.wi hσ17 (by decide)) (fun σ18 hσ18 => w_fX12_anew_131 _ _ _ hσ18))))))))))))
theorem w_fX12_anew_24_body {σ0 : zSt} {k24 : zSt → Int32 → Option (zSt)} (hk24 : ∀ (y0 : zSt) (y1 : Int32), zKeM σ0 y0 → zpc (k24 y0 y1) (fun r => zKeM σ0 (r))) {σ : zSt} {x1 : Int32} (h : zKeM σ0 σ) : zpc (fX12_anew_24_body k24 σ x1) (fun r => zKeM σ0 (r)) := by
  unfold fX12_anew_24_body
  exact zpc_if (fun _ => zpc_ck (zpc_bs (zKeM.wi h (by decide)) (fun σ19 hσ19 => zpc_ck (zpc_bs (zKeM.wi hσ19 (by decide)) (fun σ20 hσ20 => zpc_if (fun _ => w_fX12_anew_79 hσ20) (fun _ => w_fX12_anew_79 hσ20)))))) (fun _ => zpc_ck (zpc_bs (zKeM.wi h (by decide)) (fun σ21 hσ21 => zpc_bv (fun v22 _ => hk24 _ _ hσ21))))
theorem w_fX12_anew_24 {σ0 : zSt} : ∀ (n : Nat) (y0 : zSt) (y1 : Int32), zKeM σ0 y0 → zpc (fX12_anew_24 n y0 y1) (fun r => zKeM σ0 (r)) := by
  intro n
  induction n with
  | zero => intro y0 y1 h; exact zpc_none
  | succ n ih => intro y0 y1 h; exact w_fX12_anew_24_body ih h
theorem w_fX12_anew_2_body {σ0 : zSt} {k2 : zSt → Int32 → Option (zSt)} (hk2 : ∀ (y0 : zSt) (y1 : Int32), zKeM σ0 y0 → zpc (k2 y0 y1) (fun r => zKeM σ0 (r))) {σ : zSt} {x1 : Int32} (h : zKeM σ0 σ) : zpc (fX12_anew_2_body k2 σ x1) (fun r => zKeM σ0 (r)) := by
  unfold fX12_anew_2_body
  exact zpc_if (fun _ => w_fX12_anew_24 _ _ _ h) (fun _ => zpc_ck (zpc_bs (zKeM.wi h (by decide)) (fun σ23 hσ23 => zpc_bv (fun v24 _ => hk2 _ _ hσ23))))
theorem w_fX12_anew_2 {σ0 : zSt} : ∀ (n : Nat) (y0 : zSt) (y1 : Int32), zKeM σ0 y0 → zpc (fX12_anew_2 n y0 y1) (fun r => zKeM σ0 (r)) := by
  intro n
  induction n with
  | zero => intro y0 y1 h; exact zpc_none
  | succ n ih => intro y0 y1 h; exact w_fX12_anew_2_body ih h
theorem w_fX12_anew {σ0 : zSt} {σ : zSt} (h : zKeM σ0 σ) : zpc (fX12_anew σ) (fun r => zKeM σ0 (r)) := by
  unfold fX12_anew
  exact w_fX12_anew_2 _ _ _ h
theorem w_fX12_load_414_body {σ0 : zSt} {k414 : zSt → Int32 → Option (zSt × Int32)} (hk414 : ∀ (y0 : zSt) (y1 : Int32), zKeM σ0 y0 → zpc (k414 y0 y1) (fun r => zKeM σ0 (r.1))) {σ : zSt} {x6 : Int32} (h : zKeM σ0 σ) : zpc (fX12_load_414_body k414 σ x6) (fun r => zKeM σ0 (r.1)) := by
  unfold fX12_load_414_body
  exact zpc_if (fun _ => zpc_ck (zpc_bs (zKeM.w0 h (by decide)) (fun σ4 hσ4 => zpc_some hσ4))) (fun _ => zpc_ck (zpc_bs (zKeM.wi h (by decide)) (fun σ5 hσ5 => zpc_bv (fun v6 _ => hk414 _ _ hσ5))))
theorem w_fX12_load_414 {σ0 : zSt} : ∀ (n : Nat) (y0 : zSt) (y1 : Int32), zKeM σ0 y0 → zpc (fX12_load_414 n y0 y1) (fun r => zKeM σ0 (r.1)) := by
  intro n
  induction n with
  | zero => intro y0 y1 h; exact zpc_none
  | succ n ih => intro y0 y1 h; exact w_fX12_load_414_body ih h
end ZJN18
section ZJN19

end ZJN19
section ZJN20
/-! bytes -/
theorem z_255 {i : Nat} (h : 8 ≤ i) : (255#32).getLsbD i = false := by
  by_cases hi : i < 32
  · have k : ∀ j : Fin 32, 8 ≤ j.val → (255#32).getLsbD j.val = false := by decide
    exact k ⟨i, hi⟩ h
  · exact BitVec.getLsbD_of_ge _ _ (by omega)
theorem z_and255 {x y : Int32} (h : ∀ i, i < 8 → x.toBitVec.getLsbD i = y.toBitVec.getLsbD i) : x &&& 255 = y &&& 255 := by
  refine Int32.toBitVec_inj.1 (BitVec.eq_of_getLsbD_eq (fun i hi => ?_))
  rw [Int32.toBitVec_and, Int32.toBitVec_and, BitVec.getLsbD_and, BitVec.getLsbD_and]
  by_cases q : i < 8
  · rw [h i q]
  · rw [show (255 : Int32).toBitVec = 255#32 from rfl, z_255 (by omega), Bool.and_false, Bool.and_false]
theorem z_nar {x : Int32} : vp_nar .byte x &&& 255 = x &&& 255 := by
  refine z_and255 (fun i hi => ?_)
  have e : (vp_nar .byte x).toBitVec = (x.toBitVec.signExtend 8).signExtend 32 := rfl
  rw [e, BitVec.getLsbD_signExtend, if_pos hi, decide_eq_true (show i < 32 by omega), Bool.true_and, BitVec.getLsbD_signExtend, if_pos (show i < 32 by omega), decide_eq_true hi, Bool.true_and]
theorem z_i8 {x : Int32} : x.toInt8.toInt32 &&& 255 = x &&& 255 := z_nar (x := x)
theorem z_sh1 : ∀ i : Fin 8, (((8 * Int32.ofNat i.val).toInt64 &&& 63).toBitVec.smod 64).toNat = 8 * i.val := by decide +kernel
theorem z_sh2 : ∀ i : Fin 8, (UInt64.mod ((8 * Int32.ofNat i.val).toInt64.toUInt64 &&& Int64.toUInt64 63) 64).toBitVec.toNat = 8 * i.val := by decide +kernel
theorem z_shb {s : Int64} {i : Nat} (hi : i < 8) : (zlshr s (8 * Int32.ofNat i)).toInt32 &&& 255 = (zlushr s (8 * Int32.ofNat i)).toInt32 &&& 255 := by
  refine z_and255 (fun j hj => ?_)
  have s1 : (((8 * Int32.ofNat i).toInt64 &&& 63).toBitVec.smod 64).toNat = 8 * i := z_sh1 ⟨i, hi⟩
  have s2 : (UInt64.mod ((8 * Int32.ofNat i).toInt64.toUInt64 &&& Int64.toUInt64 63) 64).toBitVec.toNat = 8 * i := z_sh2 ⟨i, hi⟩
  have e1 : (zlshr s (8 * Int32.ofNat i)).toInt32.toBitVec = (s.toBitVec.sshiftRight (((8 * Int32.ofNat i).toInt64 &&& 63).toBitVec.smod 64).toNat).signExtend 32 := rfl
  have e2 : (zlushr s (8 * Int32.ofNat i)).toInt32.toBitVec = (s.toBitVec >>> (UInt64.mod ((8 * Int32.ofNat i).toInt64.toUInt64 &&& Int64.toUInt64 63) 64).toBitVec.toNat).signExtend 32 := rfl
  rw [e1, e2, s1, s2]
  simp only [BitVec.getLsbD_signExtend, BitVec.getLsbD_sshiftRight, BitVec.getLsbD_ushiftRight, if_pos (show j < 64 by omega), if_pos (show 8 * i + j < 64 by omega), decide_eq_false (show ¬ 64 ≤ j by omega), Bool.not_false, Bool.true_and]
theorem z_x24 : ∀ i : Fin 24, zrem (Int32.ofNat i.val) 8 = Int32.ofNat (i.val % 8) ∧ Int32.ofNat i.val &&& 7 = Int32.ofNat (i.val % 8) := by decide +kernel
theorem z_ofN {x : Int32} {i : Nat} (h : x.toInt = i) : x = Int32.ofNat i := by
  have l := Int32.toInt_lt x
  exact Int32.toInt_inj.mp (by rw [Int32.toInt_ofNat_of_lt (by omega), h])
/-- the byte that feed lays, on both sides -/
theorem z_feedb {s : Int64} {x : Int32} (h : zr 0 23 x) : ((zlushr s (8 * (x &&& 7))).toInt32) &&& 255 = vp_nar .byte (((zlshr s (8 * (zrem x 8))).toInt32).toInt8.toInt32) &&& 255 := by
  obtain ⟨h1, h2⟩ := h
  obtain ⟨i, hi⟩ : ∃ i : Nat, x.toInt = i := ⟨x.toInt.toNat, by omega⟩
  have e := z_ofN hi
  have k1 : zrem (Int32.ofNat i) 8 = Int32.ofNat (i % 8) := (z_x24 ⟨i, by omega⟩).1
  have k2 : Int32.ofNat i &&& 7 = Int32.ofNat (i % 8) := (z_x24 ⟨i, by omega⟩).2
  rw [z_nar, z_i8, e, k1, k2]
  exact (z_shb (by omega)).symm
theorem z_patchb {s : Int64} {x : Int32} (h : zr 0 7 x) : ((zlushr s (8 * x)).toInt32) &&& 255 = vp_nar .byte (((zlshr s (8 * x)).toInt32).toInt8.toInt32) &&& 255 := by
  obtain ⟨h1, h2⟩ := h
  obtain ⟨i, hi⟩ : ∃ i : Nat, x.toInt = i := ⟨x.toInt.toNat, by omega⟩
  have e := z_ofN hi
  rw [z_nar, z_i8, e]
  exact (z_shb (by omega)).symm
/-! two computations side by side -/
noncomputable def zp2 {α β : Type} (o : Option α) (p : Option β) (Q : α → β → Prop) : Prop := ∀ a b, o = some a → p = some b → Q a b
theorem zp2_nl {α β : Type} {p : Option β} {Q : α → β → Prop} : zp2 (none : Option α) p Q := fun a b e _ => by cases e
theorem zp2_nr {α β : Type} {o : Option α} {Q : α → β → Prop} : zp2 o (none : Option β) Q := fun a b _ e => by cases e
theorem zp2_some {α β : Type} {a : α} {b : β} {Q : α → β → Prop} (h : Q a b) : zp2 (some a) (some b) Q := fun x y e f => by cases e; cases f; exact h
theorem zp2_ckl {α β : Type} {c : Bool} {o : Option α} {p : Option β} {Q : α → β → Prop} (h : zp2 o p Q) : zp2 (zck c o) p Q := by
  cases c
  · exact zp2_nl
  · exact h
theorem zp2_ckr {α β : Type} {c : Bool} {o : Option α} {p : Option β} {Q : α → β → Prop} (h : zp2 o p Q) : zp2 o (zck c p) Q := by
  cases c
  · exact zp2_nr
  · exact h
theorem zp2_ifl {α β : Type} {c : Prop} {d : Decidable c} {x y : Option α} {p : Option β} {Q : α → β → Prop} (h1 : c → zp2 x p Q) (h2 : ¬ c → zp2 y p Q) : zp2 (@ite _ c d x y) p Q := by
  by_cases q : c
  · rw [if_pos q]; exact h1 q
  · rw [if_neg q]; exact h2 q
theorem zp2_ifr {α β : Type} {c : Prop} {d : Decidable c} {o : Option α} {x y : Option β} {Q : α → β → Prop} (h1 : c → zp2 o x Q) (h2 : ¬ c → zp2 o y Q) : zp2 o (@ite _ c d x y) Q := by
  by_cases q : c
  · rw [if_pos q]; exact h1 q
  · rw [if_neg q]; exact h2 q
/-- both ask the same -/
theorem zp2_if {α β : Type} {c : Prop} {d d' : Decidable c} {x y : Option α} {x' y' : Option β} {Q : α → β → Prop} (h1 : c → zp2 x x' Q) (h2 : ¬ c → zp2 y y' Q) : zp2 (@ite _ c d x y) (@ite _ c d' x' y') Q := zp2_ifl (fun q => zp2_ifr (fun _ => h1 q) (fun r => absurd q r)) (fun q => zp2_ifr (fun r => absurd r q) (fun _ => h2 q))
theorem zp2_bvl {α β γ : Type} {x : γ} {f : γ → Option α} {p : Option β} {Q : α → β → Prop} (h : ∀ y, y = x → zp2 (f y) p Q) : zp2 (zbv x f) p Q := h x rfl
theorem zp2_bvr {α β γ : Type} {x : γ} {o : Option α} {f : γ → Option β} {Q : α → β → Prop} (h : ∀ y, y = x → zp2 o (f y) Q) : zp2 o (zbv x f) Q := h x rfl
theorem zp2_bul {α β : Type} {o : Option zSt} {f : zSt → Option α} {p : Option β} {P : zSt → Prop} {Q : α → β → Prop} (h : zpc o P) (k : ∀ σ, P σ → zp2 (f σ) p Q) : zp2 (zbu o f) p Q := by
  cases o with
  | none => exact zp2_nl
  | some a => exact k a (h a rfl)
theorem zp2_of {α β : Type} {o : Option α} {p : Option β} {P : α → Prop} {P' : β → Prop} {Q : α → β → Prop} (h : zpc o P) (h' : zpc p P') (k : ∀ a b, P a → P' b → Q a b) : zp2 o p Q := fun a b e f => k a b (h a e) (h' b f)
/-! tape and cartridge of both sides -/
noncomputable def zSm (b : Nat → Int32) : Nat → Nat → Int32 → Int32
  | 0, _, a => a
  | n + 1, i, a => zSm b n (i + 1) (a + b i)
/-- the sum over a cartridge's bytes: size, header, bytes -/
noncomputable def zSum (z h : Int32) (b : Nat → Int32) : Int32 := (if 13 < b (h.toNatClampNeg + 15) &&& 15 then zSm b (z.toNatClampNeg - 32768) 32768 (zSm b h.toNatClampNeg 0 0) else if 3 ≤ b (h.toNatClampNeg + 15) &&& 15 then zSm b h.toNatClampNeg 0 0 else zSm b (z.toNatClampNeg - 32768) 32768 (zSm b h.toNatClampNeg 0 0)) &&& 65535
noncomputable def zCart (σ μ : zSt) : Prop := σ.1 1 4 = μ.1 0 5 ∧ σ.1 1 5 = μ.1 0 6 ∧ σ.1 1 6 = μ.1 0 7 ∧ σ.1 1 7 = μ.1 0 8 ∧ (∀ j : Nat, (j : Int) < (μ.1 0 5).toInt → σ.1 (ztp (σ.1 1 1)) ((σ.1 1 3).toNatClampNeg + j) = μ.1 2 j &&& 255) ∧ (0 ≤ (μ.1 0 8).toInt → (μ.1 0 8).toInt + 16 ≤ (μ.1 0 5).toInt ∧ μ.1 0 9 = zSum (μ.1 0 5) (μ.1 0 8) (fun j => μ.1 2 j &&& 255))
theorem zCart.keep {σ σ' μ μ' : zSt} (h : zCart σ μ) (a : ∀ j, j ∈ [1, 3, 4, 5, 6, 7] → σ'.1 1 j = σ.1 1 j) (a2 : σ'.1 (ztp (σ.1 1 1)) = σ.1 (ztp (σ.1 1 1))) (b : ∀ j, j ∈ [5, 6, 7, 8, 9] → μ'.1 0 j = μ.1 0 j) (b2 : μ'.1 2 = μ.1 2) : zCart σ' μ' := by
  unfold zCart at h ⊢
  rw [a 1 (by decide), a 3 (by decide), a 4 (by decide), a 5 (by decide), a 6 (by decide), a 7 (by decide), a2, b 5 (by decide), b 6 (by decide), b 7 (by decide), b 8 (by decide), b 9 (by decide), b2]
  exact h
noncomputable def zR6L (L : Int) (σ μ : zSt) : Prop := (∀ j : Nat, (j : Int) < L → σ.1 (ztp (σ.1 1 0)) j = μ.1 1 j &&& 255) ∧ ¬ ztp (σ.1 1 0) = ztp (σ.1 1 1) ∧ zCart σ μ
noncomputable def zR6 (σ μ : zSt) : Prop := σ.1 1 2 = μ.1 0 2 ∧ zR6L (μ.1 0 2).toInt σ μ
theorem z_tp13 (x : Int32) : ztp x = 13 ∨ ztp x = 14 := by
  unfold ztp
  split
  · exact Or.inl rfl
  · exact Or.inr rfl
theorem zKeC.row {σ σ' : zSt} (a : zKeC σ σ') (w : Int32) : σ'.1 (ztp w) = σ.1 (ztp w) := by
  rcases z_tp13 w with e | e <;> rw [e]
  · exact a.2.1
  · exact a.2.2
theorem zR6.keep {σ σ' μ μ' : zSt} (h : zR6 σ μ) (a : zKeC σ σ') (b : zKeM μ μ') : zR6 σ' μ' := by
  obtain ⟨h1, h2, h3, h4⟩ := h
  have c : zCart σ' μ' := h4.keep (fun j _ => by rw [a.1]) (a.row _) (fun j hj => b.2.2 j (by revert hj; simp only [List.mem_cons, List.not_mem_nil, or_false]; omega)) b.2.1
  unfold zR6 zR6L
  rw [a.1, a.row, b.2.2 2 (by decide), b.1]
  exact ⟨h1, h2, h3, c⟩
/-- one byte of the tape on both sides -/
theorem zR6L.set {L L' : Int} {σ μ : zSt} (h : zR6L L σ μ) {i : Nat} {x y : Int32} (hx : x = y &&& 255) (hL : ∀ j : Nat, (j : Int) < L' → ¬ j = i → (j : Int) < L) : zR6L L' (zsi σ (ztp (σ.1 1 0)) i x) (zsi μ 1 i y) := by
  obtain ⟨h1, h2, h3⟩ := h
  have n1 : ¬ 1 = ztp (σ.1 1 0) := z_tp1 _
  have r1 : (zsi σ (ztp (σ.1 1 0)) i x).1 1 = σ.1 1 := zsi_ne n1
  refine ⟨fun j hj => ?_, by rw [r1]; exact h2, h3.keep (fun j _ => by rw [r1]) (zsi_ne (fun r => h2 r.symm)) (fun j _ => by rw [zsi_ne (by decide)]) (zsi_ne (by decide))⟩
  rw [r1]
  by_cases q : j = i
  · subst q
    rw [zsi_ej, zsi_ej]
    exact hx
  · rw [zsi_nj q, zsi_nj q]
    exact h1 j (hL j hj q)
theorem zR6L.lenC {L : Int} {σ μ : zSt} (h : zR6L L σ μ) {v : Int32} : zR6L L (zsi σ 1 2 v) μ := by
  obtain ⟨h1, h2, h3⟩ := h
  have k : ∀ j, ¬ j = 2 → (zsi σ 1 2 v).1 1 j = σ.1 1 j := fun j q => zsi_nj q
  have r : ∀ w, (zsi σ 1 2 v).1 (ztp w) = σ.1 (ztp w) := fun w => zsi_ne (fun e => z_tp1 w e.symm)
  refine ⟨fun j hj => ?_, by rw [k 0 (by decide), k 1 (by decide)]; exact h2, h3.keep (fun j hj => k j (fun e => by subst e; revert hj; decide)) (r _) (fun j _ => rfl) rfl⟩
  rw [k 0 (by decide), r]
  exact h1 j hj
theorem zR6L.wM {L : Int} {σ μ : zSt} (h : zR6L L σ μ) {j : Nat} {v : Int32} (c : [5, 6, 7, 8, 9].contains j = false) : zR6L L σ (zsi μ 0 j v) := by
  obtain ⟨h1, h2, h3⟩ := h
  refine ⟨fun i hi => ?_, h2, h3.keep (fun _ _ => rfl) rfl (fun i hi => ?_) (zsi_ne (by decide))⟩
  · rw [zsi_ne (by decide)]
    exact h1 i hi
  · exact zsi_nj (fun e => by rw [← e, List.contains_iff_mem.mpr hi] at c; exact absurd c (by decide))
/-! feed -/
theorem p_add {σ : zSt} {x : Int32} (hr : (zgi σ 1 2).toInt ≤ 262655) : zpc (fX2_addToTape σ x) (fun r => r = zsi (zsi σ (ztp (σ.1 1 0)) (zgi σ 1 2).toNatClampNeg x) 1 2 (zgi σ 1 2 + 1)) := by
  unfold fX2_addToTape fX2_addToTape_29
  have c2 : (262656 : Int32).toInt = 262656 := rfl
  refine zpc_if (fun q => ?_) (fun q => zpc_ck (zpc_bv (fun σ1 e1 => zpc_bv (fun σ2 e2 => zpc_some ?_))))
  · have q1 := Int32.le_iff_toInt_le.mp q
    exfalso
    omega
  · have a2 : zgi σ1 1 2 = zgi σ 1 2 := by
      subst e1
      show (zsi σ (ztp _) _ _).1 1 2 = σ.1 1 2
      rw [zsi_off (fun r => z_tp1 _ r.1)]
    rw [e2, a2, e1]
    rfl
theorem z_clamp {x : Int32} (h : 0 ≤ x.toInt) : (x.toNatClampNeg : Int) = x.toInt := by
  have : x.toNatClampNeg = x.toInt.toNat := rfl
  omega
theorem z2_feed_48 {x1 : Int32} {x2 x4 x6 : Int64} (hx : zr 1 24 x1) : ∀ (n m : Nat) (σ μ : zSt) (x8 : Int32), zR6 σ μ → zr 0 24 x8 → x8.toInt ≤ x1.toInt → 0 ≤ (μ.1 0 2).toInt → (μ.1 0 2).toInt + (x1.toInt - x8.toInt) ≤ 262656 → zp2 (fX11_feed_48 n σ x1 x2 x4 x6 x8) (fX12_feed_54 m μ x1 x2 x4 x6 x8) (fun r r' => zR6 (zRis r) r'.1) := by
  intro n
  induction n with
  | zero => intro m σ μ x8 _ _ _ _ _; exact zp2_nl
  | succ n ih =>
    intro m σ μ x8 hR h8 hle h0 hb
    cases m with
    | zero => exact zp2_nr
    | succ m =>
      show zp2 (fX11_feed_48_body (fX11_feed_48 n) σ x1 x2 x4 x6 x8) (fX12_feed_54_body (fX12_feed_54 m) μ x1 x2 x4 x6 x8) _
      unfold fX11_feed_48_body fX12_feed_54_body
      have b8 := h8.1
      have bx := hx.2
      refine zp2_if (fun q => zp2_some hR) (fun q => ?_)
      have q1 := Int32.lt_iff_toInt_lt.mp (z_nle q)
      have f : ∀ s0, zp2 (fX11_feed_79 (fX11_feed_48 n) σ x1 x2 x4 x6 x8 s0) (fX12_feed_93 (fX12_feed_54 m) μ x1 x2 x4 x6 x8 s0 (zgi μ 0 2)) (fun r r' => zR6 (zRis r) r'.1) := fun s0 => by
        unfold fX11_feed_79 fX12_feed_93
        have e12 : zgi σ 1 2 = zgi μ 0 2 := hR.1
        have hl : (zgi μ 0 2).toInt ≤ 262655 := by show (μ.1 0 2).toInt ≤ 262655; omega
        refine zp2_bul (p_add (by rw [e12]; exact hl)) (fun σ1 s1 => zp2_bvl (fun v2 e2 => zp2_ckr (zp2_ckr (zp2_bvr (fun μ1 m1 => zp2_bvr (fun μ2 m2 => zp2_bvr (fun v3 e3 => ?_)))))))
        have a2 : zgi μ1 0 2 = zgi μ 0 2 := by
          subst m1
          show (zsi μ 1 _ _).1 0 2 = μ.1 0 2
          rw [zsi_off (by omega)]
        have c1 : (1 : Int32).toInt = 1 := rfl
        have r1 : zr 1 1 (1 : Int32) := zr_c (by decide)
        have t3 : (zgi μ 0 2 + 1).toInt = (zgi μ 0 2).toInt + (1 : Int32).toInt := z_tadd (a := 0) (b := 262655) ⟨h0, hl⟩ r1 (by decide)
        have l2 : (μ2.1 0 2) = zgi μ 0 2 + 1 := by rw [m2, a2, zsi_ej]
        have cl : ((zgi μ 0 2).toNatClampNeg : Int) = (zgi μ 0 2).toInt := z_clamp h0
        have g2 : (zgi μ 0 2).toInt = (μ.1 0 2).toInt := rfl
        have R1 : zR6L ((μ.1 0 2).toInt + 1) (zsi σ (ztp (σ.1 1 0)) (zgi μ 0 2).toNatClampNeg ((((zlushr s0 (8 * (x8 &&& 7))).toInt32) &&& 255))) μ1 := by
          rw [m1]
          exact hR.2.set (z_feedb ⟨b8, by omega⟩) (fun j hj nj => by omega)
        have R2 : zR6 σ1 μ2 := by
          refine ⟨?_, ?_⟩
          · rw [s1, zsi_ej, l2, e12]
          · rw [l2, t3, c1, g2, s1, e12, m2]
            exact (R1.lenC).wM (by decide)
        have t8 : (x8 + 1).toInt = x8.toInt + (1 : Int32).toInt := z_tadd h8 r1 (by decide)
        have t : v3.toInt = x8.toInt + 1 := by rw [e3, t8, c1]
        have e23 : v2 = v3 := by rw [e2, e3]
        rw [e23]
        have l3 : (μ2.1 0 2).toInt = (μ.1 0 2).toInt + 1 := by rw [l2, t3, c1, g2]
        exact ih m σ1 μ2 v3 R2 ⟨by omega, by omega⟩ (by omega) (by omega) (by omega)
      exact zp2_if (fun _ => zp2_if (fun _ => f _) (fun _ => f _)) (fun _ => f _)
end ZJN20
section ZJN21
theorem zp2_within {α β : Type} {o : Option α} {σ : zSt} {a l h : Int64} {f : zSt → Int32 → Option β} {Q : α → β → Prop} (k1 : l.toInt ≤ a.toInt → a.toInt ≤ h.toInt → zp2 o (f σ 1) Q) (k0 : (a.toInt < l.toInt ∨ h.toInt < a.toInt) → zp2 o (f σ 0) Q) : zp2 o (zbi (fX12_within σ a l h) f) Q := by
  unfold fX12_within
  by_cases q1 : lg_cmp a l < 0
  · rw [if_pos q1]; exact k0 (Or.inl (z_cmp_lt.mp q1))
  · rw [if_neg q1]
    by_cases q2 : 0 < lg_cmp a h
    · rw [if_pos q2]; exact k0 (Or.inr (z_cmp_gt.mp q2))
    · rw [if_neg q2]
      exact k1 (Int.not_lt.mp (fun r => q1 (z_cmp_lt.mpr r))) (Int.not_lt.mp (fun r => q2 (z_cmp_gt.mpr r)))
theorem zp2_fails0 {α β : Type} {o : Option α} {σ : zSt} {c : Int32} {f : zSt → Int32 → Option β} {Q : α → β → Prop} (k : ∀ σ1, σ1 = zsi σ 0 0 0 → zp2 o (f σ1 0) Q) : zp2 o (zbi (fX12_fails σ 0 c) f) Q := by
  unfold fX12_fails
  rw [if_pos rfl]
  exact k _ rfl
theorem zp2_fails1 {α β : Type} {o : Option α} {σ : zSt} {c : Int32} {f : zSt → Int32 → Option β} {Q : α → β → Prop} (k : ∀ σ1, σ1 = zsi σ 0 0 c → zp2 o (f σ1 1) Q) : zp2 o (zbi (fX12_fails σ 1 c) f) Q := by
  unfold fX12_fails
  rw [if_neg (by decide)]
  exact k _ rfl
theorem zR6.thr {σ μ μ1 : zSt} {v : Int32} (h : zR6 σ μ) (e : μ1 = zsi μ 0 0 v) : zR6 σ μ1 := by
  subst e
  refine ⟨?_, ?_⟩
  · rw [zsi_nj (by decide)]; exact h.1
  · rw [zsi_nj (by decide)]; exact h.2.wM (by decide)
theorem z_c02 {μ μ1 : zSt} {v : Int32} (e : μ1 = zsi μ 0 0 v) : zgi μ1 0 2 = zgi μ 0 2 := by
  subst e
  show (zsi μ 0 0 _).1 0 2 = μ.1 0 2
  rw [zsi_off (by omega)]
theorem z2_feed {σ μ : zSt} {x1 : Int32} {x2 x4 x6 : Int64} (h : zR6 σ μ) (hr : zr 0 262656 (zgi μ 0 2)) : zp2 (fX11_feed σ x1 x2 x4 x6) (fX12_feed μ x1 x2 x4 x6) (fun r r' => zR6 (zRis r) r'.1) := by
  unfold fX11_feed fX11_feed_11 fX12_feed
  have c1 : (1 : Int32).toInt = 1 := rfl
  have c4 : (24 : Int32).toInt = 24 := rfl
  have c2 : (262656 : Int32).toInt = 262656 := rfl
  have c0 : (0 : Int32).toInt = 0 := rfl
  refine zp2_within (fun w1 w2 => ?_) (fun w3 => ?_)
  · have hx := z_wir w1 w2 (zrl_c (lo := 1) (hi := 1) (by decide)) (zrl_c (lo := 24) (hi := 24) (by decide))
    have hx1 := hx.1
    have hx2 := hx.2
    refine zp2_ifr (fun q => absurd q (by decide)) (fun _ => ?_)
    unfold fX12_feed_18
    refine zp2_fails0 (fun μ1 e1 => zp2_ifr (fun _ => ?_) (fun q => absurd rfl q))
    refine zp2_ifl (fun q => ?_) (fun _ => zp2_ifl (fun _ => ?_) (fun q => ?_))
    · have := Int32.lt_iff_toInt_lt.mp q; exfalso; omega
    · have R1 := h.thr e1
      have e : zgi μ1 0 2 = zgi σ 1 2 := (z_c02 e1).trans h.1.symm
      have t : (zgi μ 0 2 + x1).toInt = (zgi μ 0 2).toInt + x1.toInt := z_tadd hr hx (by decide)
      rw [e]
      refine zp2_if (fun q => ?_) (fun q => ?_)
      · have q1 := Int32.le_iff_toInt_le.mp q
        rw [show zgi σ 1 2 = zgi μ 0 2 from h.1, t, c2] at q1
        unfold fX12_feed_42
        refine zp2_fails0 (fun μ2 e2 => zp2_ifr (fun _ => ?_) (fun q => absurd rfl q))
        have e3 : μ2.1 0 2 = zgi μ 0 2 := (z_c02 e2).trans (z_c02 e1)
        have hr1 := hr.1
        exact z2_feed_48 hx _ _ _ _ 0 (R1.thr e2) (zr_c (by decide)) (by omega) (by rw [e3]; exact hr1) (by rw [e3, c0]; omega)
      · unfold fX12_feed_42 fX12_feed_49
        exact zp2_fails1 (fun μ2 e2 => zp2_ifr (fun q => absurd q (by decide)) (fun _ => zp2_some (R1.thr e2)))
    · have := Int32.lt_iff_toInt_lt.mp (z_nle q); exfalso; omega
  · have hn : ¬ zr 1 24 x1 := z_within w3 rfl rfl
    refine zp2_ifr (fun _ => ?_) (fun q => absurd rfl q)
    unfold fX12_feed_18 fX12_feed_49
    refine zp2_fails1 (fun μ1 e1 => zp2_ifr (fun q => absurd q (by decide)) (fun _ => ?_))
    refine zp2_ifl (fun _ => zp2_some (h.thr e1)) (fun q => zp2_ifl (fun q1 => ?_) (fun _ => zp2_some (h.thr e1)))
    have r := Int32.le_iff_toInt_le.mp (z_nlt q)
    have r1 := Int32.le_iff_toInt_le.mp q1
    exact absurd ⟨by omega, by omega⟩ hn
/-! grow -/
theorem z2_grow_15 {x2 x3 : Int32} (h2 : 0 < x2.toInt) (h3 : zr 0 262656 x3) : ∀ (n m : Nat) (σ μ : zSt) (x4 : Int32), x4 = zgi μ 0 2 → x2.toInt ≤ x4.toInt → x4.toInt ≤ x3.toInt → zR6L x4.toInt σ μ → (∀ j : Nat, (j : Int) < x4.toInt → σ.1 (ztp (σ.1 1 0)) j = σ.1 (ztp (σ.1 1 0)) (j % x2.toNatClampNeg)) → zp2 (fX2_repeatTape_15 n σ x2 x3 x4) (fX12_grow_54 m μ x3 x2) (fun r r' => zR6 r r'.1) := by
  intro n
  induction n with
  | zero => intro m σ μ x4 _ _ _ _ _; exact zp2_nl
  | succ n ih =>
    intro m σ μ x4 e4 hle hl3 hR hp
    cases m with
    | zero => exact zp2_nr
    | succ m =>
      show zp2 (fX2_repeatTape_15_body (fX2_repeatTape_15 n) σ x2 x3 x4) (fX12_grow_54_body (fX12_grow_54 m) μ x3 x2) _
      unfold fX2_repeatTape_15_body fX12_grow_54_body
      have b3 := h3.2
      have c0 : (0 : Int32).toInt = 0 := rfl
      rw [← e4]
      refine zp2_if (fun q => ?_) (fun q => ?_)
      · have q1 := Int32.le_iff_toInt_le.mp q
        have e34 : x3 = x4 := Int32.toInt_inj.mp (by omega)
        unfold fX2_repeatTape_47
        refine zp2_bvl (fun σ1 s1 => zp2_some ?_)
        have mx : zmax x2 x3 = x3 := by
          unfold zmax
          split
          · rfl
          · next r => exact Int32.toInt_inj.mp (by have := Int32.le_iff_toInt_le.mp (z_nlt r); omega)
        have l : μ.1 0 2 = x4 := e4.symm
        refine ⟨?_, ?_⟩
        · rw [s1, zsi_ej, mx, l, e34]
        · rw [s1, l]
          exact hR.lenC
      · have q1 := Int32.lt_iff_toInt_lt.mp (z_nle q)
        refine zp2_ifl (fun r => ?_) (fun _ => ?_)
        · have := Int32.le_iff_toInt_le.mp r; exfalso; omega
        · refine zp2_ckl (zp2_ckl (zp2_bvl (fun σ1 s1 => zp2_bvl (fun v v1 => zp2_ckr (zp2_ckr (zp2_ckr (zp2_bvr (fun μ1 m1 => zp2_bvr (fun μ2 m2 => ?_)))))))))
          have c1 : (1 : Int32).toInt = 1 := rfl
          have r1 : zr 1 1 (1 : Int32) := zr_c (by decide)
          have r4 : zr 0 262655 x4 := ⟨by omega, by omega⟩
          have r2 : zr 0 262655 x2 := ⟨by omega, by omega⟩
          have t4 : (x4 + 1).toInt = x4.toInt + (1 : Int32).toInt := z_tadd r4 r1 (by decide)
          have ts : (x4 - x2).toInt = x4.toInt - x2.toInt := z_tsub r4 r2 (by decide)
          have k4 := z_clamp (x := x4) (by omega)
          have k2 := z_clamp (x := x2) (by omega)
          have ks := z_clamp (x := x4 - x2) (by omega)
          have tr := z_trem (y := x2) x2.toInt rfl r4 ⟨by decide, h2⟩
          have m0 := Int.emod_nonneg x4.toInt (b := x2.toInt) (by omega)
          have m9 := Int.emod_lt_of_pos x4.toInt (b := x2.toInt) h2
          have kr := z_clamp (x := zrem x4 x2) (by omega)
          have er : (zrem x4 x2).toNatClampNeg = x4.toNatClampNeg % x2.toNatClampNeg := by
            have e5 : ((x4.toNatClampNeg % x2.toNatClampNeg : Nat) : Int) = (x4.toNatClampNeg : Int) % (x2.toNatClampNeg : Int) := Int.natCast_emod _ _
            rw [k4, k2] at e5
            omega
          have es : (x4 - x2).toNatClampNeg = x4.toNatClampNeg - x2.toNatClampNeg := by omega
          have lt : (x4.toNatClampNeg % x2.toNatClampNeg) < x2.toNatClampNeg := Nat.mod_lt _ (by omega)
          -- the byte
          have hb : σ.1 (ztp (σ.1 1 0)) (x4 - x2).toNatClampNeg = σ.1 (ztp (σ.1 1 0)) (x4.toNatClampNeg % x2.toNatClampNeg) := by
            rw [es, hp _ (by omega), ← Nat.mod_eq_sub_mod (by omega)]
          have hm : σ.1 (ztp (σ.1 1 0)) (x4.toNatClampNeg % x2.toNatClampNeg) = μ.1 1 (x4.toNatClampNeg % x2.toNatClampNeg) &&& 255 := hR.1 _ (by omega)
          have hy : σ.1 (ztp (σ.1 1 0)) (x4 - x2).toNatClampNeg = vp_nar .byte (μ.1 1 (zrem x4 x2).toNatClampNeg) &&& 255 := by rw [z_nar, er, hb]; exact hm
          have R1 : zR6L (x4.toInt + 1) σ1 μ1 := by
            rw [s1, m1]
            exact hR.set hy (fun j hj nj => by omega)
          have a2 : zgi μ1 0 2 = x4 := by
            rw [m1, e4]
            show (zsi μ 1 _ _).1 0 2 = μ.1 0 2
            rw [zsi_off (by omega)]
          have l2 : zgi μ2 0 2 = x4 + 1 := by
            rw [m2, a2]
            exact zsi_ej
          have ev : v = x4 + 1 := v1
          have w1 : σ1.1 1 0 = σ.1 1 0 := by
            rw [s1]
            exact zsi_off (fun r => z_tp1 _ r.1)
          rw [ev]
          refine ih m σ1 μ2 (x4 + 1) l2.symm (by omega) (by omega) ?_ (fun j hj => ?_)
          · rw [t4, c1, m2]
            exact R1.wM (by decide)
          · rw [w1]
            have at1 : ∀ i : Nat, σ1.1 (ztp (σ.1 1 0)) i = if i = x4.toNatClampNeg then σ.1 (ztp (σ.1 1 0)) (x4 - x2).toNatClampNeg else σ.1 (ztp (σ.1 1 0)) i := fun i => by
              rw [s1]
              show (zsi σ (ztp (σ.1 1 0)) _ _).1 (ztp (σ.1 1 0)) i = _
              by_cases q : i = x4.toNatClampNeg
              · rw [if_pos q, q, zsi_ej]; rfl
              · rw [if_neg q, zsi_nj q]
            have lj : j % x2.toNatClampNeg < x2.toNatClampNeg := Nat.mod_lt _ (by omega)
            rw [at1 j, at1 (j % x2.toNatClampNeg), if_neg (show ¬ j % x2.toNatClampNeg = x4.toNatClampNeg by omega)]
            by_cases q : j = x4.toNatClampNeg
            · rw [if_pos q, hb, q]
            · rw [if_neg q]
              exact hp j (by omega)
theorem z2_grow {σ μ : zSt} {x1 : Int32} (h : zR6 σ μ) (hr : zr 0 262656 (zgi μ 0 2)) : zp2 (fX11_grow σ x1) (fX12_grow μ x1) (fun r r' => zR6 (zRis r) r'.1) := by
  unfold fX11_grow fX11_grow_19 fX12_grow fX12_grow_15
  have c2 : (262656 : Int32).toInt = 262656 := rfl
  have c0 : (0 : Int32).toInt = 0 := rfl
  have e12 : zgi σ 1 2 = zgi μ 0 2 := h.1
  refine zp2_bvl (fun v1 e1 => ?_)
  rw [e12] at e1
  subst e1
  have no : zp2 (some (Sum.inr (σ, 1)) : Option zRi) (fX12_grow_20 μ x1 1) (fun r r' => zR6 (zRis r) r'.1) := by
    unfold fX12_grow_20 fX12_grow_47
    exact zp2_fails1 (fun μ1 e1 => zp2_ifr (fun q => absurd q (by decide)) (fun _ => zp2_some (h.thr e1)))
  refine zp2_if (fun _ => no) (fun q => zp2_if (fun q1 => ?_) (fun _ => no))
  have r := Int32.le_iff_toInt_le.mp (z_nlt q)
  have r1 := Int32.le_iff_toInt_le.mp q1
  rw [c2] at r1
  have hr1 := hr.1
  unfold fX12_grow_20
  refine zp2_fails0 (fun μ1 e1 => zp2_ifr (fun _ => ?_) (fun q => absurd rfl q))
  rw [z_c02 e1]
  have R1 := h.thr e1
  refine zp2_if (fun q2 => ?_) (fun q2 => ?_)
  · unfold fX12_grow_40 fX12_grow_47
    exact zp2_fails1 (fun μ2 e2 => zp2_ifr (fun q => absurd q (by decide)) (fun _ => zp2_some (R1.thr e2)))
  · unfold fX12_grow_40 fX2_repeatTape
    refine zp2_fails0 (fun μ2 e2 => zp2_ifr (fun _ => zp2_bvr (fun v5 e5 => ?_)) (fun q => absurd rfl q))
    have R2 := R1.thr e2
    have l2 : zgi μ2 0 2 = zgi μ 0 2 := (z_c02 e2).trans (z_c02 e1)
    have m1 : zmin x1 262656 = x1 := by
      unfold zmin
      rw [if_neg (fun h => by have := Int32.lt_iff_toInt_lt.mp h; omega)]
    have n0 : ¬ (zgi μ 0 2).toInt = 0 := fun z => q2 (Int32.toInt_inj.mp (z.trans c0.symm))
    have two : zp2 (fX2_repeatTape_15 zfuel σ (zgi μ 0 2) x1 (zgi μ 0 2)) (fX12_grow_54 zfuel μ2 x1 (zgi μ 0 2)) (fun r r' => zR6 r r'.1) := by
      refine z2_grow_15 (by omega) ⟨by omega, r1⟩ zfuel zfuel σ μ2 _ l2.symm (Int.le_refl _) r ?_ (fun j hj => ?_)
      · have z := R2.2
        rw [show μ2.1 0 2 = zgi μ 0 2 from l2] at z
        exact z
      · have k := z_clamp (x := zgi μ 0 2) (by omega)
        rw [Nat.mod_eq_of_lt (by omega)]
    rw [e5, l2]
    refine fun a b ea eb => ?_
    have eq : zbu (zbv (zgi σ 1 2) (fun v4 => zbv (zmin x1 262656) (fun v5 => fX2_repeatTape_15 zfuel σ v4 v5 v4))) (fun σ2 => (some (Sum.inl (σ2, zgi μ 0 2)) : Option zRi)) = some a := ea
    have eq2 : zbu (fX2_repeatTape_15 zfuel σ (zgi μ 0 2) x1 (zgi μ 0 2)) (fun σ2 => (some (Sum.inl (σ2, zgi μ 0 2)) : Option zRi)) = some a := by
      rw [← eq]
      show _ = zbu (fX2_repeatTape_15 zfuel σ (zgi σ 1 2) (zmin x1 262656) (zgi σ 1 2)) _
      rw [m1, e12]
    cases q9 : fX2_repeatTape_15 zfuel σ (zgi μ 0 2) x1 (zgi μ 0 2) with
    | none => rw [q9] at eq2; cases eq2
    | some s =>
      rw [q9] at eq2
      have ea2 : (some (Sum.inl (s, zgi μ 0 2)) : Option zRi) = some a := eq2
      cases ea2
      exact two s b q9 eb
/-! patch -/
theorem z2_patch_3 {x1 : Int32} {x2 : Int64} : ∀ (n m : Nat) (σ μ : zSt) (x4 : Int32), zR6 σ μ → zr 0 8 x4 → 0 ≤ x1.toInt → x1.toInt + 8 ≤ (zgi μ 0 2).toInt → (zgi μ 0 2).toInt ≤ 262656 → zp2 (fX2_changeTape_3 n σ x1 x2 x4) (fX12_patch_32 m μ x1 x2 x4) (fun r r' => zR6 r r') := by
  intro n
  induction n with
  | zero => intro m σ μ x4 _ _ _ _ _; exact zp2_nl
  | succ n ih =>
    intro m σ μ x4 hR h4 hx hl hm
    cases m with
    | zero => exact zp2_nr
    | succ m =>
      show zp2 (fX2_changeTape_3_body (fX2_changeTape_3 n) σ x1 x2 x4) (fX12_patch_32_body (fX12_patch_32 m) μ x1 x2 x4) _
      unfold fX2_changeTape_3_body fX12_patch_32_body fX2_changeTape_52
      have c8 : (8 : Int32).toInt = 8 := rfl
      have c0 : (0 : Int32).toInt = 0 := rfl
      have b4 := h4.1
      refine zp2_if (fun q => zp2_some hR) (fun q => ?_)
      have q1 := Int32.lt_iff_toInt_lt.mp (z_nle q)
      have t : (x1 + x4).toInt = x1.toInt + x4.toInt := z_tadd (a := 0) (b := 262656) (c := 0) (d := 8) ⟨hx, by omega⟩ h4 (by decide)
      have e12 : zgi σ 1 2 = zgi μ 0 2 := hR.1
      refine zp2_ifl (fun r => ?_) (fun _ => zp2_ifl (fun r => ?_) (fun _ => ?_))
      · have := Int32.lt_iff_toInt_lt.mp r; exfalso; omega
      · rw [e12] at r
        have := Int32.le_iff_toInt_le.mp r
        exfalso
        omega
      · refine zp2_ckl (zp2_bvl (fun σ1 s1 => zp2_bvl (fun v2 e2 => zp2_ckr (zp2_bvr (fun μ1 m1 => zp2_bvr (fun v3 e3 => ?_))))))
        have R1 : zR6L (μ.1 0 2).toInt σ1 μ1 := by
          rw [s1, m1]
          exact hR.2.set (z_patchb ⟨b4, by omega⟩) (fun j hj _ => hj)
        have l1 : zgi μ1 0 2 = zgi μ 0 2 := by
          rw [m1]
          show (zsi μ 1 _ _).1 0 2 = μ.1 0 2
          rw [zsi_off (by omega)]
        have l0 : σ1.1 1 2 = σ.1 1 2 := by
          rw [s1]
          exact zsi_off (fun r => z_tp1 _ r.1)
        have R2 : zR6 σ1 μ1 := ⟨by rw [l0]; exact hR.1.trans l1.symm, by rw [show μ1.1 0 2 = μ.1 0 2 from l1]; exact R1⟩
        have c1 : (1 : Int32).toInt = 1 := rfl
        have t4 : (x4 + 1).toInt = x4.toInt + (1 : Int32).toInt := z_tadd h4 (zr_c (lo := 1) (hi := 1) (by decide)) (by decide)
        rw [e2, e3]
        exact ih m σ1 μ1 (x4 + 1) R2 ⟨by omega, by omega⟩ hx (by rw [l1]; exact hl) (by rw [l1]; exact hm)
theorem z2_patch {σ μ : zSt} {x1 : Int32} {x2 : Int64} (h : zR6 σ μ) (hr : zr 0 262656 (zgi μ 0 2)) : zp2 (fX11_patch σ x1 x2) (fX12_patch μ x1 x2) (fun r r' => zR6 (zRus r) r') := by
  unfold fX11_patch fX11_patch_18 fX12_patch fX12_patch_16
  have c0 : (0 : Int32).toInt = 0 := rfl
  have c8 : (8 : Int32).toInt = 8 := rfl
  have e12 : zgi σ 1 2 = zgi μ 0 2 := h.1
  have no : zp2 (some (Sum.inr (σ, 1)) : Option zRu) (fX12_patch_21 μ x1 x2 1) (fun r r' => zR6 (zRus r) r') := by
    unfold fX12_patch_21
    exact zp2_fails1 (fun μ1 e1 => zp2_ifr (fun q => absurd q (by decide)) (fun _ => zp2_some (h.thr e1)))
  have t : (zgi μ 0 2 - 8).toInt = (zgi μ 0 2).toInt - (8 : Int32).toInt := z_tsub hr (zr_c (lo := 8) (hi := 8) (by decide)) (by decide)
  rw [e12]
  refine zp2_if (fun _ => no) (fun q => zp2_if (fun q1 => ?_) (fun _ => no))
  have r := Int32.le_iff_toInt_le.mp (z_nlt q)
  have r1 := Int32.le_iff_toInt_le.mp q1
  rw [t, c8] at r1
  unfold fX12_patch_21 fX2_changeTape
  refine zp2_fails0 (fun μ1 e1 => zp2_ifr (fun _ => ?_) (fun q => absurd rfl q))
  have l := z_c02 e1
  have hr2 := hr.2
  have two : zp2 (fX2_changeTape_3 zfuel σ x1 x2 0) (fX12_patch_32 zfuel μ1 x1 x2 0) (fun r r' => zR6 r r') := z2_patch_3 zfuel zfuel σ μ1 0 (h.thr e1) (zr_c (by decide)) (by omega) (by rw [l]; omega) (by rw [l]; exact hr2)
  refine fun a b ea eb => ?_
  cases q9 : fX2_changeTape_3 zfuel σ x1 x2 0 with
  | none => rw [q9] at ea; cases ea
  | some s =>
    rw [q9] at ea
    have ea2 : (some (Sum.inl s) : Option zRu) = some a := ea
    cases ea2
    exact two s b q9 eb
end ZJN21
section ZJN22
/-! what a cartridge's bytes say: the header's place, the paging -/
noncomputable def zHm (b : Nat → Int32) (p : Nat) : Prop := ∀ i, i < 8 → b (p + i) = zt0 i
noncomputable def zHp (z : Int32) (b : Nat → Int32) (p : Nat) : Prop := (p : Int) + 16 ≤ z.toInt ∧ zHm b p
/-- h is the place that both sides find -/
noncomputable def zIsH (z : Int32) (b : Nat → Int32) (h : Int32) : Prop := (zHp z b 32752 ∧ h = 32752) ∨ (¬ zHp z b 32752 ∧ zHp z b 16368 ∧ h = 16368) ∨ (¬ zHp z b 32752 ∧ ¬ zHp z b 16368 ∧ zHp z b 8176 ∧ h = 8176) ∨ (¬ zHp z b 32752 ∧ ¬ zHp z b 16368 ∧ ¬ zHp z b 8176 ∧ h = -1)
theorem zIsH.one {z : Int32} {b : Nat → Int32} {h h' : Int32} (a : zIsH z b h) (c : zIsH z b h') : h = h' := by
  rcases a with ⟨a1, e⟩ | ⟨a1, a2, e⟩ | ⟨a1, a2, a3, e⟩ | ⟨a1, a2, a3, e⟩ <;> rcases c with ⟨c1, f⟩ | ⟨c1, c2, f⟩ | ⟨c1, c2, c3, f⟩ | ⟨c1, c2, c3, f⟩ <;> first | exact e.trans f.symm | exact absurd a1 c1 | exact absurd c1 a1 | exact absurd a2 c2 | exact absurd c2 a2 | exact absurd a3 c3 | exact absurd c3 a3
theorem zHp.cong {z : Int32} {b b' : Nat → Int32} {p : Nat} (e : ∀ j : Nat, (j : Int) < z.toInt → b j = b' j) (h : zHp z b p) : zHp z b' p := ⟨h.1, fun i hi => by rw [← e (p + i) (by have := h.1; omega)]; exact h.2 i hi⟩
theorem zHp_cong {z : Int32} {b b' : Nat → Int32} {p : Nat} (e : ∀ j : Nat, (j : Int) < z.toInt → b j = b' j) : zHp z b p ↔ zHp z b' p := ⟨zHp.cong e, zHp.cong (fun j hj => (e j hj).symm)⟩
theorem zIsH.cong {z : Int32} {b b' : Nat → Int32} {h : Int32} (e : ∀ j : Nat, (j : Int) < z.toInt → b j = b' j) (a : zIsH z b h) : zIsH z b' h := by
  unfold zIsH at a ⊢
  rw [← zHp_cong (p := 32752) e, ← zHp_cong (p := 16368) e, ← zHp_cong (p := 8176) e]
  exact a
noncomputable def zWd (b : Nat → Int32) (p : Nat) : Int32 := b p + 256 * b (p + 1)
noncomputable def zIsP (z : Int32) (b : Nat → Int32) (h v : Int32) : Prop := (¬ 49152 < z ∧ v = 0) ∨ (49152 < z ∧ zWd b 32742 + zWd b 32744 = 65536 ∧ v = 2) ∨ (49152 < z ∧ ¬ zWd b 32742 + zWd b 32744 = 65536 ∧ 0 ≤ h ∧ v = 1) ∨ (49152 < z ∧ ¬ zWd b 32742 + zWd b 32744 = 65536 ∧ ¬ 0 ≤ h ∧ v = 3)
theorem zIsP.one {z : Int32} {b : Nat → Int32} {h v v' : Int32} (a : zIsP z b h v) (c : zIsP z b h v') : v = v' := by
  rcases a with ⟨a1, e⟩ | ⟨a1, a2, e⟩ | ⟨a1, a2, a3, e⟩ | ⟨a1, a2, a3, e⟩ <;> rcases c with ⟨c1, f⟩ | ⟨c1, c2, f⟩ | ⟨c1, c2, c3, f⟩ | ⟨c1, c2, c3, f⟩ <;> first | exact e.trans f.symm | exact absurd a1 c1 | exact absurd c1 a1 | exact absurd a2 c2 | exact absurd c2 a2 | exact absurd a3 c3 | exact absurd c3 a3
theorem zIsP.cong {z : Int32} {b b' : Nat → Int32} {h v : Int32} (e : ∀ j : Nat, (j : Int) < z.toInt → b j = b' j) (a : zIsP z b h v) : zIsP z b' h v := by
  by_cases q : 49152 < z
  · have q1 := Int32.lt_iff_toInt_lt.mp q
    have c : (49152 : Int32).toInt = 49152 := rfl
    unfold zIsP zWd at a ⊢
    rw [← e 32742 (by omega), ← e (32742 + 1) (by omega), ← e 32744 (by omega), ← e (32744 + 1) (by omega)]
    exact a
  · rcases a with ⟨a1, e⟩ | ⟨a1, _⟩ | ⟨a1, _⟩ | ⟨a1, _⟩
    · exact Or.inl ⟨a1, e⟩
    · exact absurd a1 q
    · exact absurd a1 q
    · exact absurd a1 q
/-! the class: bytes of the cartridge -/
noncomputable def zCb (σ : zSt) (j : Nat) : Int32 := σ.1 (ztp (σ.1 1 1)) ((σ.1 1 3).toNatClampNeg + j)
theorem p_romByte {σ : zSt} {x : Int32} (h0 : 0 ≤ x.toInt) (h1 : x.toInt < (σ.1 1 4).toInt) (hb : zr 0 512 (σ.1 1 3)) (hz : (σ.1 1 4).toInt ≤ 262144) : zpc (fX2_romByte σ x) (fun r => r.1 = σ ∧ r.2 = zCb σ x.toNatClampNeg) := by
  unfold fX2_romByte fX2_romByte_26 fX2_romByte_29
  have c0 : (0 : Int32).toInt = 0 := rfl
  refine zpc_if (fun q => ?_) (fun _ => zpc_if (fun q => ?_) (fun _ => zpc_ck (zpc_some ⟨rfl, ?_⟩)))
  · have := Int32.lt_iff_toInt_lt.mp q; exfalso; omega
  · have := Int32.le_iff_toInt_le.mp q
    have : (zgi σ 1 4).toInt = (σ.1 1 4).toInt := rfl
    exfalso
    omega
  · have t : (σ.1 1 3 + x).toInt = (σ.1 1 3).toInt + x.toInt := z_tadd (c := 0) (d := 262144) hb ⟨h0, by omega⟩ (by decide)
    have b1 := hb.1
    have k := z_clamp (x := σ.1 1 3 + x) (by omega)
    have k1 := z_clamp (x := σ.1 1 3) b1
    have k2 := z_clamp (x := x) h0
    show σ.1 (ztp (σ.1 1 1)) (σ.1 1 3 + x).toNatClampNeg = σ.1 (ztp (σ.1 1 1)) ((σ.1 1 3).toNatClampNeg + x.toNatClampNeg)
    rw [show (σ.1 1 3 + x).toNatClampNeg = (σ.1 1 3).toNatClampNeg + x.toNatClampNeg by omega]
section ZCARD
variable {σ : zSt}
theorem p_head_41 {k9 : zSt → Int32 → Int32 → Option (zSt × Int32)} {x2 x3 x4 : Int32} {Q : zSt × Int32 → Prop} (hb : zr 0 512 (σ.1 1 3)) (hz : zr 0 262144 (σ.1 1 4)) (h4 : 0 ≤ x4.toInt) (h5 : x4.toInt + 16 ≤ (σ.1 1 4).toInt) (yes : zHm (zCb σ) x4.toNatClampNeg → Q (σ, x4)) (no : ¬ zHm (zCb σ) x4.toNatClampNeg → zpc (k9 σ x2 (x3 + 1)) Q) : ∀ (n : Nat) (x5 x6 : Int32), zr 0 8 x6 → ((x5 = 1 ∧ ∀ i : Nat, (i : Int) < x6.toInt → zCb σ (x4.toNatClampNeg + i) = zt0 i) ∨ (x5 = 0 ∧ ¬ zHm (zCb σ) x4.toNatClampNeg)) → zpc (fX2_findHeader_41 k9 n σ x2 x3 x4 x5 x6) Q := by
  intro n
  induction n with
  | zero => intro x5 x6 _ _; exact zpc_none
  | succ n ih =>
    intro x5 x6 h6 hI
    show zpc (fX2_findHeader_41_body k9 (fX2_findHeader_41 k9 n) σ x2 x3 x4 x5 x6) _
    unfold fX2_findHeader_41_body
    have c8 : (8 : Int32).toInt = 8 := rfl
    have b6 := h6.1
    have b62 := h6.2
    have hz2 := hz.2
    have k4 := z_clamp h4
    have k6 := z_clamp b6
    have out : ((x5 = 1 ∧ zHm (zCb σ) x4.toNatClampNeg) ∨ (x5 = 0 ∧ ¬ zHm (zCb σ) x4.toNatClampNeg)) → zpc (fX2_findHeader_84 k9 σ x2 x3 x4 x5) Q := fun a => by
      unfold fX2_findHeader_84
      refine zpc_if (fun q => ?_) (fun q => ?_)
      · rcases a with ⟨a1, _⟩ | ⟨_, a2⟩
        · rw [a1] at q; exact absurd q (by decide)
        · exact zpc_bv (fun v e => by subst e; exact no a2)
      · rcases a with ⟨_, a2⟩ | ⟨a1, _⟩
        · exact zpc_some (yes a2)
        · exact absurd a1 q
    refine zpc_if (fun q => ?_) (fun q => zpc_if (fun q1 => ?_) (fun q1 => ?_))
    · have q2 := Int32.le_iff_toInt_le.mp q
      rcases hI with ⟨a1, a2⟩ | a
      · exact out (Or.inl ⟨a1, fun i hi => a2 i (by omega)⟩)
      · exact out (Or.inr a)
    · rcases hI with ⟨a1, _⟩ | a
      · rw [a1] at q1; exact absurd q1 (by decide)
      · exact out (Or.inr a)
    · have q2 := Int32.lt_iff_toInt_lt.mp (z_nle q)
      rcases hI with ⟨a1, a2⟩ | a
      · have t : (x4 + x6).toInt = x4.toInt + x6.toInt := z_tadd (a := 0) (b := 262144) (c := 0) (d := 8) ⟨h4, by omega⟩ h6 (by decide)
        have ks := z_clamp (x := x4 + x6) (by omega)
        refine zpc_bi (p_romByte (x := x4 + x6) (by omega) (by omega) hb hz2) (fun σ1 v4 p => ?_)
        obtain ⟨p1, p2⟩ := p
        have p1 : σ1 = σ := p1
        have p2 : v4 = zCb σ (x4 + x6).toNatClampNeg := p2
        subst p1
        rw [show (x4 + x6).toNatClampNeg = x4.toNatClampNeg + x6.toNatClampNeg by omega] at p2
        have c1 : (1 : Int32).toInt = 1 := rfl
        have t6 : (x6 + 1).toInt = x6.toInt + (1 : Int32).toInt := z_tadd h6 (zr_c (lo := 1) (hi := 1) (by decide)) (by decide)
        unfold fX2_findHeader_76
        refine zpc_ck (zpc_if (fun r => zpc_bv (fun v e => ?_)) (fun r => zpc_bv (fun v e => ?_)))
        · subst e
          refine ih 1 (x6 + 1) ⟨by omega, by omega⟩ (Or.inl ⟨rfl, fun i hi => ?_⟩)
          by_cases qi : i = x6.toNatClampNeg
          · rw [qi, ← p2]; exact r
          · exact a2 i (by omega)
        · subst e
          refine ih 0 (x6 + 1) ⟨by omega, by omega⟩ (Or.inr ⟨rfl, fun m => r ?_⟩)
          rw [p2]
          exact m _ (by omega)
      · exact absurd a.1 q1
theorem p_head_9 {x3 : Int32} {Q : zSt × Int32 → Prop} (hb : zr 0 512 (σ.1 1 3)) (hz : zr 0 262144 (σ.1 1 4)) {i : Nat} (h3 : x3 = Int32.ofNat i) (hi : i < 3) {n : Nat} (yes : zHp (σ.1 1 4) (zCb σ) (zt1 i).toNatClampNeg → Q (σ, zt1 i)) (no : ¬ zHp (σ.1 1 4) (zCb σ) (zt1 i).toNatClampNeg → zpc (fX2_findHeader_9 n σ 3 (x3 + 1)) Q) : zpc (fX2_findHeader_9 (n + 1) σ 3 x3) Q := by
  show zpc (fX2_findHeader_9_body (fX2_findHeader_9 n) σ 3 x3) _
  unfold fX2_findHeader_9_body fX2_findHeader_36
  have l3 : ∀ i : Fin 3, ¬ (3 : Int32) ≤ Int32.ofNat i.val ∧ (Int32.ofNat i.val).toNatClampNeg = i.val ∧ 0 ≤ (zt1 i.val).toInt ∧ (zt1 i.val).toInt ≤ 32752 := by decide +kernel
  obtain ⟨l1, l2, l4, l5⟩ := l3 ⟨i, hi⟩
  have l1 : ¬ (3 : Int32) ≤ x3 := by rw [h3]; exact l1
  have l2 : x3.toNatClampNeg = i := by rw [h3]; exact l2
  have l4 : 0 ≤ (zt1 i).toInt := l4
  have l5 : (zt1 i).toInt ≤ 32752 := l5
  refine zpc_if (fun q => absurd q l1) (fun _ => zpc_ck (zpc_bv (fun v5 e5 => ?_)))
  rw [l2] at e5
  subst e5
  have c6 : (16 : Int32).toInt = 16 := rfl
  have t : (zt1 i + 16).toInt = (zt1 i).toInt + (16 : Int32).toInt := z_tadd (a := 0) (b := 32752) ⟨l4, l5⟩ (zr_c (lo := 16) (hi := 16) (by decide)) (by decide)
  have k := z_clamp l4
  refine zpc_if (fun q => ?_) (fun q => ?_)
  · have q1 := Int32.lt_iff_toInt_lt.mp q
    have g : (zgi σ 1 4).toInt = (σ.1 1 4).toInt := rfl
    have nh : ¬ zHp (σ.1 1 4) (zCb σ) (zt1 i).toNatClampNeg := fun r => by have := r.1; omega
    -- the places are too far: 0 at once
    obtain ⟨m, hm⟩ : ∃ m, zfuel = m + 1 := ⟨1999999, rfl⟩
    rw [hm]
    show zpc (fX2_findHeader_41_body (fX2_findHeader_9 n) (fX2_findHeader_41 (fX2_findHeader_9 n) m) σ 3 x3 (zt1 i) 0 0) Q
    unfold fX2_findHeader_41_body fX2_findHeader_84
    refine zpc_if (fun r => absurd r (by decide)) (fun _ => zpc_if (fun _ => zpc_if (fun _ => zpc_bv (fun v e => ?_)) (fun r => absurd rfl r)) (fun r => absurd rfl r))
    subst e
    exact no nh
  · have q1 := Int32.le_iff_toInt_le.mp (z_nlt q)
    have g : (zgi σ 1 4).toInt = (σ.1 1 4).toInt := rfl
    refine p_head_41 hb hz l4 (by omega) (fun m => yes ⟨by omega, m⟩) (fun m => no (fun r => m r.2)) zfuel 1 0 (zr_c (by decide)) (Or.inl ⟨rfl, fun i hi => ?_⟩)
    have : (0 : Int32).toInt = 0 := rfl
    exfalso
    omega
theorem p_header (hb : zr 0 512 (σ.1 1 3)) (hz : zr 0 262144 (σ.1 1 4)) : zpc (fX2_findHeader σ ) (fun r => r.1 = σ ∧ zIsH (σ.1 1 4) (zCb σ) r.2) := by
  unfold fX2_findHeader
  obtain ⟨m, hm⟩ : ∃ m, zfuel = m + 1 + 1 + 1 + 1 := ⟨1999996, rfl⟩
  rw [hm]
  refine p_head_9 (i := 0) hb hz rfl (by decide) (fun y => ⟨rfl, Or.inl ⟨y, rfl⟩⟩) (fun n0 => ?_)
  refine p_head_9 (i := 1) hb hz (by decide) (by decide) (fun y => ⟨rfl, Or.inr (Or.inl ⟨n0, y, rfl⟩)⟩) (fun n1 => ?_)
  refine p_head_9 (i := 2) hb hz (by decide) (by decide) (fun y => ⟨rfl, Or.inr (Or.inr (Or.inl ⟨n0, n1, y, rfl⟩))⟩) (fun n2 => ?_)
  show zpc (fX2_findHeader_9_body (fX2_findHeader_9 m) σ 3 (0 + 1 + 1 + 1)) _
  unfold fX2_findHeader_9_body
  exact zpc_if (fun _ => zpc_some ⟨rfl, Or.inr (Or.inr (Or.inr ⟨n0, n1, n2, rfl⟩))⟩) (fun r => absurd (by decide) r)
theorem p_romWord {x : Int32} (h0 : 0 ≤ x.toInt) (h1 : x.toInt + 1 < (σ.1 1 4).toInt) (hb : zr 0 512 (σ.1 1 3)) (hz : zr 0 262144 (σ.1 1 4)) : zpc (fX2_romWord σ x) (fun r => r.1 = σ ∧ r.2 = zWd (zCb σ) x.toNatClampNeg) := by
  unfold fX2_romWord
  have hz2 := hz.2
  refine zpc_bi (p_romByte h0 (by omega) hb hz2) (fun σ1 v2 p => ?_)
  obtain ⟨p1, p2⟩ := p
  have p1 : σ1 = σ := p1
  subst p1
  have c1 : (1 : Int32).toInt = 1 := rfl
  have t : (x + 1).toInt = x.toInt + (1 : Int32).toInt := z_tadd (a := 0) (b := 262144) ⟨h0, by omega⟩ (zr_c (lo := 1) (hi := 1) (by decide)) (by decide)
  have k := z_clamp h0
  have k1 := z_clamp (x := x + 1) (by omega)
  refine zpc_bi (p_romByte (x := x + 1) (by omega) (by omega) hb hz2) (fun σ3 v4 p => ?_)
  obtain ⟨r1, r2⟩ := p
  have r1 : σ3 = σ1 := r1
  subst r1
  have p2 : v2 = zCb σ3 x.toNatClampNeg := p2
  have r2 : v4 = zCb σ3 (x + 1).toNatClampNeg := r2
  refine zpc_some ⟨rfl, ?_⟩
  show v2 + (256 * v4) = zCb σ3 x.toNatClampNeg + 256 * zCb σ3 (x.toNatClampNeg + 1)
  rw [p2, r2, show (x + 1).toNatClampNeg = x.toNatClampNeg + 1 by omega]
theorem p_paging (hb : zr 0 512 (σ.1 1 3)) (hz : zr 0 262144 (σ.1 1 4)) : zpc (fX2_findPaging σ ) (fun r => r.1 = σ ∧ zIsP (σ.1 1 4) (zCb σ) (σ.1 1 7) r.2) := by
  unfold fX2_findPaging fX2_findPaging_45
  refine zpc_if (fun q => ?_) (fun q => zpc_some ⟨rfl, Or.inl ⟨q, rfl⟩⟩)
  have q1 := Int32.lt_iff_toInt_lt.mp q
  have c : (49152 : Int32).toInt = 49152 := rfl
  have g : (zgi σ 1 4).toInt = (σ.1 1 4).toInt := rfl
  have c1 : (32742 : Int32).toInt = 32742 := rfl
  have c2 : (32744 : Int32).toInt = 32744 := rfl
  refine zpc_bi (p_romWord (x := 32742) (by omega) (by omega) hb hz) (fun σ1 v2 p => ?_)
  obtain ⟨p1, p2⟩ := p
  have p1 : σ1 = σ := p1
  subst p1
  refine zpc_bi (p_romWord (x := 32744) (by omega) (by omega) hb hz) (fun σ3 v4 p => ?_)
  obtain ⟨r1, r2⟩ := p
  have r1 : σ3 = σ1 := r1
  subst r1
  have p2 : v2 = zWd (zCb σ3) 32742 := p2
  have r2 : v4 = zWd (zCb σ3) 32744 := r2
  rw [p2, r2]
  refine zpc_if (fun s => zpc_some ⟨rfl, Or.inr (Or.inl ⟨q, s, rfl⟩)⟩) (fun s => zpc_if (fun u => zpc_some ⟨rfl, Or.inr (Or.inr (Or.inl ⟨q, s, u, rfl⟩))⟩) (fun u => zpc_some ⟨rfl, Or.inr (Or.inr (Or.inr ⟨q, s, u, rfl⟩))⟩))
end ZCARD
end ZJN22
section ZJN23
/-! the reference's load -/
noncomputable def zMb (μ : zSt) (j : Nat) : Int32 := μ.1 2 j &&& 255
noncomputable def zMid (z bk : Int32) (B : Nat → Int32) (μ : zSt) : Prop := μ.1 0 5 = z ∧ μ.1 0 6 = bk ∧ ∀ j : Nat, (j : Int) < z.toInt → μ.1 2 j &&& 255 = B j
noncomputable def zFin (z bk : Int32) (B : Nat → Int32) (r : zSt × Int32) : Prop := zMid z bk B r.1 ∧ zIsH z B (r.1.1 0 8) ∧ zIsP z B (r.1.1 0 8) (r.1.1 0 7) ∧ (0 ≤ (r.1.1 0 8).toInt → r.1.1 0 9 = zSum z (r.1.1 0 8) B)
theorem zMid.w {z bk : Int32} {B : Nat → Int32} {μ μ1 : zSt} {j : Nat} {v : Int32} (h : zMid z bk B μ) (e : μ1 = zsi μ 0 j v) (c : ¬ 5 = j ∧ ¬ 6 = j) : zMid z bk B μ1 := by
  subst e
  refine ⟨?_, ?_, fun i hi => ?_⟩
  · rw [zsi_nj c.1]; exact h.1
  · rw [zsi_nj c.2]; exact h.2.1
  · rw [zsi_ne (by decide)]; exact h.2.2 i hi
theorem zSm_cong {b b' : Nat → Int32} : ∀ (n i : Nat) (a : Int32), (∀ j, i ≤ j → j < i + n → b j = b' j) → zSm b n i a = zSm b' n i a := by
  intro n
  induction n with
  | zero => intro i a _; rfl
  | succ n ih =>
    intro i a h
    show zSm b n (i + 1) (a + b i) = zSm b' n (i + 1) (a + b' i)
    rw [h i (by omega) (by omega)]
    exact ih (i + 1) _ (fun j h1 h2 => h j (by omega) (by omega))
theorem zSum_cong {z h : Int32} {b b' : Nat → Int32} (e : ∀ j : Nat, (j : Int) < z.toInt → b j = b' j) (h0 : 0 ≤ h.toInt) (h1 : h.toInt + 16 ≤ z.toInt) : zSum z h b = zSum z h b' := by
  have kh := z_clamp h0
  have kz := z_clamp (x := z) (by omega)
  unfold zSum
  rw [zSm_cong (b := b) (b' := b') h.toNatClampNeg 0 0 (fun j _ h2 => e j (by omega)), zSm_cong (b := b) (b' := b') (z.toNatClampNeg - 32768) 32768 _ (fun j h1 h2 => e j (by omega)), e (h.toNatClampNeg + 15) (by omega)]
theorem z_and15 {x : Int32} : x &&& 15 = (x &&& 255) &&& 15 := by
  rw [Int32.and_assoc, show (255 : Int32) &&& 15 = 15 by decide]
section ZLOAD
variable {z bk : Int32} {B : Nat → Int32}
theorem d_404 {μ : zSt} {s0 : Int32} (hm : zMid z bk B μ) (hh : zIsH z B (μ.1 0 8)) (hp : zIsP z B (μ.1 0 8) (μ.1 0 7)) (hs : 0 ≤ (μ.1 0 8).toInt → s0 = zSum z (μ.1 0 8) B) : zpc (fX12_load_404 μ s0) (zFin z bk B) := by
  unfold fX12_load_404
  refine zpc_bv (fun μ1 e1 => ?_)
  have k1 : zKeM μ1 μ1 := ⟨rfl, rfl, fun _ _ => rfl⟩
  refine zpc_bu (w_fX12_anew k1) (fun μ2 k2 => zpc_mono (w_fX12_load_414 (σ0 := μ1) _ _ _ k2) (fun r k => ?_))
  obtain ⟨_, a2, a3⟩ := k
  have m1 : zMid z bk B μ1 := hm.w e1 (by decide)
  have e8 : r.1.1 0 8 = μ.1 0 8 := (a3 8 (by decide)).trans (by rw [e1]; exact zsi_nj (by decide))
  have e7 : r.1.1 0 7 = μ.1 0 7 := (a3 7 (by decide)).trans (by rw [e1]; exact zsi_nj (by decide))
  have e9 : r.1.1 0 9 = s0 := (a3 9 (by decide)).trans (by rw [e1]; exact zsi_ej)
  refine ⟨⟨(a3 5 (by decide)).trans m1.1, (a3 6 (by decide)).trans m1.2.1, fun j hj => by rw [a2]; exact m1.2.2 j hj⟩, ?_, ?_, ?_⟩
  · rw [e8]; exact hh
  · rw [e8, e7]; exact hp
  · rw [e8, e9]; exact hs
theorem d_385 {μ : zSt} (hm : zMid z bk B μ) (hh : zIsH z B (μ.1 0 8)) (hp : zIsP z B (μ.1 0 8) (μ.1 0 7)) (hs : 0 ≤ (μ.1 0 8).toInt → μ.1 0 9 &&& 65535 = zSum z (μ.1 0 8) B) : zpc (fX12_load_385 μ ) (zFin z bk B) := by
  unfold fX12_load_385
  have c0 : (0 : Int32).toInt = 0 := rfl
  refine zpc_if (fun q => d_404 hm hh hp hs) (fun q => d_404 hm hh hp (fun r => absurd (Int32.le_iff_toInt_le.mpr (by rw [c0]; exact r)) q))
/-- the second loop, where the bytes from 32768 on count -/
theorem d_337 {x5 : Int32} {S : Int32} (hl : 13 < x5 ∨ ¬ 3 ≤ x5) (hz : zr 0 262144 z) : ∀ (n : Nat) (μ : zSt) (x6 : Int32), zr 32768 262144 x6 → zMid z bk B μ → zIsH z B (μ.1 0 8) → zIsP z B (μ.1 0 8) (μ.1 0 7) → zSm B (z.toNatClampNeg - x6.toNatClampNeg) x6.toNatClampNeg (μ.1 0 9) = S → (0 ≤ (μ.1 0 8).toInt → S &&& 65535 = zSum z (μ.1 0 8) B) → zpc (fX12_load_337 n μ x5 x6) (zFin z bk B) := by
  intro n
  induction n with
  | zero => intro μ x6 _ _ _ _ _ _; exact zpc_none
  | succ n ih =>
    intro μ x6 h6 hm hh hp hS hs
    show zpc (fX12_load_337_body (fX12_load_337 n) μ x5 x6) _
    unfold fX12_load_337_body
    have b6 := h6.1
    have k6 := z_clamp (x := x6) (by omega)
    have kz := z_clamp hz.1
    have z2 := hz.2
    have g5 : zgi μ 0 5 = z := hm.1
    rw [g5]
    have go : ¬ z ≤ x6 → zpc (fX12_load_359 (fX12_load_337 n) μ x5 x6) (zFin z bk B) := fun q => by
      have q1 := Int32.lt_iff_toInt_lt.mp (z_nle q)
      unfold fX12_load_359
      refine zpc_ck (zpc_bv (fun μ1 e1 => zpc_bv (fun v e => ?_)))
      subst e
      have c1 : (1 : Int32).toInt = 1 := rfl
      have t : (x6 + 1).toInt = x6.toInt + (1 : Int32).toInt := z_tadd h6 (zr_c (lo := 1) (hi := 1) (by decide)) (by decide)
      have k7 := z_clamp (x := x6 + 1) (by omega)
      have e8 : μ1.1 0 8 = μ.1 0 8 := by rw [e1]; exact zsi_nj (by decide)
      have e7 : μ1.1 0 7 = μ.1 0 7 := by rw [e1]; exact zsi_nj (by decide)
      have e9 : μ1.1 0 9 = μ.1 0 9 + B x6.toNatClampNeg := by
        rw [e1, zsi_ej, ← hm.2.2 x6.toNatClampNeg (by omega)]
        rfl
      refine ih μ1 (x6 + 1) ⟨by omega, by omega⟩ (hm.w e1 (by decide)) (by rw [e8]; exact hh) (by rw [e8, e7]; exact hp) ?_ (by rw [e8]; exact hs)
      rw [← hS, e9, show (x6 + 1).toNatClampNeg = x6.toNatClampNeg + 1 by omega, show z.toNatClampNeg - x6.toNatClampNeg = (z.toNatClampNeg - (x6.toNatClampNeg + 1)) + 1 by omega]
      rfl
    have stop : z ≤ x6 → zpc (fX12_load_385 μ ) (zFin z bk B) := fun q => by
      have q1 := Int32.le_iff_toInt_le.mp q
      rw [show z.toNatClampNeg - x6.toNatClampNeg = 0 by omega] at hS
      have hS : μ.1 0 9 = S := hS
      exact d_385 hm hh hp (fun r => by rw [hS]; exact hs r)
    refine zpc_if (fun q => stop q) (fun q => zpc_if (fun _ => go q) (fun q1 => zpc_if (fun q2 => ?_) (fun _ => go q)))
    rcases hl with a | a
    · exact absurd a q1
    · exact absurd q2 a
theorem d_337s {x5 : Int32} (h1 : ¬ 13 < x5) (h2 : 3 ≤ x5) {n : Nat} {μ : zSt} (hm : zMid z bk B μ) (hh : zIsH z B (μ.1 0 8)) (hp : zIsP z B (μ.1 0 8) (μ.1 0 7)) (hs : 0 ≤ (μ.1 0 8).toInt → μ.1 0 9 &&& 65535 = zSum z (μ.1 0 8) B) : zpc (fX12_load_337 n μ x5 32768) (zFin z bk B) := by
  cases n with
  | zero => exact zpc_none
  | succ n =>
    show zpc (fX12_load_337_body (fX12_load_337 n) μ x5 32768) _
    unfold fX12_load_337_body
    exact zpc_if (fun _ => d_385 hm hh hp hs) (fun _ => zpc_if (fun q => absurd q h1) (fun _ => zpc_if (fun _ => d_385 hm hh hp hs) (fun q => absurd h2 q)))
/-- the first loop -/
theorem d_298 {x5 h : Int32} (hz : zr 0 262144 z) (hhz : h.toInt < z.toInt) (hc : 0 ≤ h.toInt → x5 = B (h.toNatClampNeg + 15) &&& 15) : ∀ (n : Nat) (μ : zSt) (x6 : Int32), μ.1 0 8 = h → 0 ≤ x6.toInt → x6.toInt ≤ 262144 → zMid z bk B μ → zIsH z B h → zIsP z B h (μ.1 0 7) → (0 ≤ h.toInt → x6.toInt ≤ h.toInt ∧ zSm B (h.toNatClampNeg - x6.toNatClampNeg) x6.toNatClampNeg (μ.1 0 9) = zSm B h.toNatClampNeg 0 0) → zpc (fX12_load_298 n μ x5 x6) (zFin z bk B) := by
  intro n
  induction n with
  | zero => intro μ x6 _ _ _ _ _ _ _; exact zpc_none
  | succ n ih =>
    intro μ x6 e8 h0 h6 hm hh hp hS
    show zpc (fX12_load_298_body (fX12_load_298 n) μ x5 x6) _
    unfold fX12_load_298_body
    have k6 := z_clamp h0
    have z2 := hz.2
    rw [show zgi μ 0 8 = h from e8]
    refine zpc_if (fun q => ?_) (fun q => ?_)
    · have q1 := Int32.le_iff_toInt_le.mp q
      have hs9 : 0 ≤ h.toInt → μ.1 0 9 = zSm B h.toNatClampNeg 0 0 := fun r => by
        obtain ⟨s1, s2⟩ := hS r
        have kh := z_clamp r
        rw [show h.toNatClampNeg - x6.toNatClampNeg = 0 by omega] at s2
        exact s2
      by_cases q2 : 13 < x5
      · refine d_337 (S := zSm B (z.toNatClampNeg - 32768) 32768 (μ.1 0 9)) (Or.inl q2) hz zfuel μ 32768 (zr_c (by decide)) hm (by rw [e8]; exact hh) (by rw [e8]; exact hp) rfl (fun r => ?_)
        rw [e8] at r ⊢
        unfold zSum
        rw [← hc r, if_pos q2, hs9 r]
      · by_cases q3 : 3 ≤ x5
        · refine d_337s q2 q3 hm (by rw [e8]; exact hh) (by rw [e8]; exact hp) (fun r => ?_)
          rw [e8] at r ⊢
          unfold zSum
          rw [← hc r, if_neg q2, if_pos q3, hs9 r]
        · refine d_337 (S := zSm B (z.toNatClampNeg - 32768) 32768 (μ.1 0 9)) (Or.inr q3) hz zfuel μ 32768 (zr_c (by decide)) hm (by rw [e8]; exact hh) (by rw [e8]; exact hp) rfl (fun r => ?_)
          rw [e8] at r ⊢
          unfold zSum
          rw [← hc r, if_neg q2, if_neg q3, hs9 r]
    · have q1 := Int32.lt_iff_toInt_lt.mp (z_nle q)
      refine zpc_ck (zpc_bv (fun μ1 e1 => zpc_bv (fun v e => ?_)))
      subst e
      have c1 : (1 : Int32).toInt = 1 := rfl
      have t : (x6 + 1).toInt = x6.toInt + (1 : Int32).toInt := z_tadd (a := 0) (b := 262144) ⟨h0, h6⟩ (zr_c (lo := 1) (hi := 1) (by decide)) (by decide)
      have k7 := z_clamp (x := x6 + 1) (by omega)
      have f8 : μ1.1 0 8 = h := by rw [e1, zsi_nj (by decide)]; exact e8
      have f7 : μ1.1 0 7 = μ.1 0 7 := by rw [e1]; exact zsi_nj (by decide)
      have f9 : μ1.1 0 9 = μ.1 0 9 + B x6.toNatClampNeg := by
        rw [e1, zsi_ej, ← hm.2.2 x6.toNatClampNeg (by omega)]
        rfl
      refine ih μ1 (x6 + 1) f8 (by omega) (by omega) (hm.w e1 (by decide)) hh (by rw [f7]; exact hp) (fun r => ⟨by omega, ?_⟩)
      obtain ⟨s1, s2⟩ := hS r
      have kh := z_clamp r
      rw [← s2, f9, show (x6 + 1).toNatClampNeg = x6.toNatClampNeg + 1 by omega, show h.toNatClampNeg - x6.toNatClampNeg = (h.toNatClampNeg - (x6.toNatClampNeg + 1)) + 1 by omega]
      rfl
theorem zIsH.lt {h : Int32} (a : zIsH z B h) (hz : 0 ≤ z.toInt) : h.toInt < z.toInt ∧ (0 ≤ h.toInt → h.toInt + 16 ≤ z.toInt) := by
  rcases a with ⟨a1, e⟩ | ⟨_, a1, e⟩ | ⟨_, _, a1, e⟩ | ⟨_, _, _, e⟩
  · have := a1.1; rw [e, show (32752 : Int32).toInt = 32752 from rfl]; omega
  · have := a1.1; rw [e, show (16368 : Int32).toInt = 16368 from rfl]; omega
  · have := a1.1; rw [e, show (8176 : Int32).toInt = 8176 from rfl]; omega
  · rw [e, show (-1 : Int32).toInt = -1 from rfl]; omega
theorem d_259 {μ : zSt} {s0 : Int32} (hz : zr 0 262144 z) (hm : zMid z bk B μ) (hh : zIsH z B (μ.1 0 8)) (hp : zIsP z B (μ.1 0 8) s0) : zpc (fX12_load_259 μ s0) (zFin z bk B) := by
  unfold fX12_load_259 fX12_load_293
  refine zpc_bv (fun μ1 e1 => zpc_bv (fun μ2 e2 => ?_))
  have m2 := (hm.w e1 (by decide)).w e2 (by decide)
  have f8 : μ2.1 0 8 = μ.1 0 8 := by rw [e2, zsi_nj (by decide), e1]; exact zsi_nj (by decide)
  have f7 : μ2.1 0 7 = s0 := by rw [e2, zsi_nj (by decide), e1]; exact zsi_ej
  have f9 : μ2.1 0 9 = 0 := by rw [e2]; exact zsi_ej
  obtain ⟨l1, l2⟩ := hh.lt hz.1
  have z2 := hz.2
  have c0 : (0 : Int32).toInt = 0 := rfl
  rw [show zgi μ2 0 8 = μ.1 0 8 from f8]
  refine zpc_if (fun q => zpc_ck ?_) (fun q => ?_)
  · have q1 := Int32.le_iff_toInt_le.mp q
    rw [c0] at q1
    have l3 := l2 q1
    have t : (μ.1 0 8 + 15).toInt = (μ.1 0 8).toInt + (15 : Int32).toInt := z_tadd (a := 0) (b := 262144) ⟨q1, by omega⟩ (zr_c (lo := 15) (hi := 15) (by decide)) (by decide)
    have c5 : (15 : Int32).toInt = 15 := rfl
    have k := z_clamp q1
    have k1 := z_clamp (x := μ.1 0 8 + 15) (by omega)
    refine d_298 (h := μ.1 0 8) hz l1 (fun _ => ?_) zfuel μ2 0 f8 (by decide) (by decide) m2 hh (by rw [f7]; exact hp) (fun _ => ⟨q1, ?_⟩)
    · show μ2.1 2 (μ.1 0 8 + 15).toNatClampNeg &&& 15 = _
      rw [z_and15, m2.2.2 _ (by omega), show (μ.1 0 8 + 15).toNatClampNeg = (μ.1 0 8).toNatClampNeg + 15 by omega]
    · rw [f9]
      rfl
  · refine d_298 (h := μ.1 0 8) hz l1 (fun r => absurd (Int32.le_iff_toInt_le.mpr (by rw [c0]; exact r)) q) zfuel μ2 0 f8 (by decide) (by decide) m2 hh (by rw [f7]; exact hp) (fun r => absurd (Int32.le_iff_toInt_le.mpr (by rw [c0]; exact r)) q)
end ZLOAD
end ZJN23
section ZJN24
/-! words, paging, header in the reference -/
theorem z_word {x y : Int32} (hx : zr 0 255 x) (hy : zr 0 255 y) : (y <<< ((8 : Int32) &&& 31)) ||| x = x + 256 * y := by
  have x0 := hx.1
  have x1 := hx.2
  have y0 := hy.1
  have y1 := hy.2
  have nx := z_tN x0
  have ny := z_tN y0
  have e1 : (y <<< ((8 : Int32) &&& 31)).toBitVec = y.toBitVec <<< (((8 : Int32) &&& 31).toBitVec.smod 32).toNat := rfl
  have e2 : (y <<< ((8 : Int32) &&& 31)).toBitVec.toNat = 2 ^ 8 * y.toBitVec.toNat := by
    rw [e1, show (((8 : Int32) &&& 31).toBitVec.smod 32).toNat = 8 from rfl, BitVec.toNat_shiftLeft, Nat.shiftLeft_eq, Nat.mul_comm, Nat.mod_eq_of_lt (by omega)]
  have e3 : ((y <<< ((8 : Int32) &&& 31)) ||| x).toBitVec.toNat = 2 ^ 8 * y.toBitVec.toNat + x.toBitVec.toNat := by
    rw [Int32.toBitVec_or, BitVec.toNat_or, e2, Nat.two_pow_add_eq_or_of_lt (by omega)]
  have e4 := z_Nt e3 (by omega)
  have t1 := z_tmul (x := (256 : Int32)) (y := y) (zr_c (lo := 256) (hi := 256) (by decide)) hy (by decide)
  have r1 := zr_mul (lo := 0) (hi := 65280) (x := (256 : Int32)) (y := y) (zr_c (lo := 256) (hi := 256) (by decide)) hy (by decide)
  have t2 := z_tadd hx r1 (by decide)
  have c : (256 : Int32).toInt = 256 := rfl
  refine Int32.toInt_inj.mp ?_
  rw [e4, t2, t1, c]
  omega
theorem z_byte (x : Int32) : zr 0 255 (x &&& 255) := zr_andr (lo := 0) (hi := 255) (zr_c (lo := 255) (hi := 255) (by decide)) (by decide)
theorem p_bytesAt {μ : zSt} {x : Int32} (h : zr 0 262142 x) : zpc (fX12_bytesAt μ x 2) (fun r => r.1 = μ ∧ r.2 = zWd (zMb μ) x.toNatClampNeg) := by
  unfold fX12_bytesAt
  obtain ⟨m, hm⟩ : ∃ m, zfuel = m + 1 + 1 + 1 := ⟨1999997, rfl⟩
  refine zpc_bv (fun v3 e3 => ?_)
  subst e3
  rw [hm]
  show zpc (fX12_bytesAt_7_body (fX12_bytesAt_7 (m + 1 + 1)) μ x 0 (2 - 1)) _
  unfold fX12_bytesAt_7_body
  refine zpc_if (fun q => absurd q (by decide)) (fun _ => zpc_ck (zpc_bv (fun v1 e1 => zpc_bv (fun v2 e2 => ?_))))
  subst e2
  show zpc (fX12_bytesAt_7_body (fX12_bytesAt_7 (m + 1)) μ x v1 (2 - 1 + (-1))) _
  unfold fX12_bytesAt_7_body
  refine zpc_if (fun q => absurd q (by decide)) (fun _ => zpc_ck (zpc_bv (fun w1 f1 => zpc_bv (fun w2 f2 => ?_))))
  subst f2
  show zpc (fX12_bytesAt_7_body (fX12_bytesAt_7 m) μ x w1 (2 - 1 + (-1) + (-1))) _
  unfold fX12_bytesAt_7_body
  refine zpc_if (fun _ => zpc_some ⟨rfl, ?_⟩) (fun q => absurd (by decide) q)
  show w1 = zWd (zMb μ) x.toNatClampNeg
  have h0 := h.1
  have k := z_clamp h0
  have c1 : ((2 : Int32) - 1).toInt = 1 := rfl
  have t : (x + (2 - 1)).toInt = x.toInt + ((2 : Int32) - 1).toInt := z_tadd h (zr_c (lo := 1) (hi := 1) (x := 2 - 1) (by decide)) (by decide)
  have k1 := z_clamp (x := x + (2 - 1)) (by omega)
  have z0 : x + (2 - 1 + (-1)) = x := by rw [show ((2 : Int32) - 1 + (-1)) = 0 by decide, Int32.add_zero]
  have v : v1 = zMb μ (x.toNatClampNeg + 1) := by
    rw [e1, show ((0 : Int32) <<< ((8 : Int32) &&& 31)) = 0 by decide, Int32.zero_or]
    show μ.1 2 (x + (2 - 1)).toNatClampNeg &&& 255 = _
    rw [show (x + (2 - 1)).toNatClampNeg = x.toNatClampNeg + 1 by omega]
    rfl
  rw [f1, z0, v]
  exact z_word (z_byte _) (z_byte _)
theorem zWd_r {b : Nat → Int32} {p : Nat} (h0 : zr 0 255 (b p)) (h1 : zr 0 255 (b (p + 1))) : zr 0 65535 (zWd b p) := zr_add (lo := 0) (hi := 65535) h0 (zr_mul (lo := 0) (hi := 65280) (zr_c (lo := 256) (hi := 256) (by decide)) h1 (by decide)) (by decide)
section ZLOAD2
variable {z bk : Int32} {B : Nat → Int32}
theorem zMid.wd {μ : zSt} (hm : zMid z bk B μ) {p : Nat} (h : (p : Int) + 1 < z.toInt) : zWd (zMb μ) p = zWd B p := by
  unfold zWd zMb
  rw [hm.2.2 p (by omega), hm.2.2 (p + 1) (by omega)]
theorem d_247 {μ : zSt} (hz : zr 0 262144 z) (hm : zMid z bk B μ) (hh : zIsH z B (μ.1 0 8)) (q : 49152 < z) (ne : ¬ zWd B 32742 + zWd B 32744 = 65536) : zpc (fX12_load_247 μ ) (zFin z bk B) := by
  unfold fX12_load_247
  exact zpc_if (fun r => d_259 hz hm hh (Or.inr (Or.inr (Or.inl ⟨q, ne, r, rfl⟩)))) (fun r => d_259 hz hm hh (Or.inr (Or.inr (Or.inr ⟨q, ne, r, rfl⟩))))
theorem d_192 {μ : zSt} (hz : zr 0 262144 z) (hB : ∀ j, zr 0 255 (B j)) (hm : zMid z bk B μ) (hh : zIsH z B (μ.1 0 8)) {s0 : Int32} (h0 : 49152 < z → s0 = zWd B 32742) : zpc (fX12_load_192 μ s0) (zFin z bk B) := by
  unfold fX12_load_192
  have g5 : zgi μ 0 5 = z := hm.1
  have c : (49152 : Int32).toInt = 49152 := rfl
  have c0 : (0 : Int32).toInt = 0 := rfl
  have c6 : (65536 : Int32).toInt = 65536 := rfl
  rw [g5]
  refine zpc_if (fun q => ?_) (fun q => ?_)
  · have nq : ¬ 49152 < z := fun r => by have := Int32.lt_iff_toInt_lt.mp r; have := Int32.le_iff_toInt_le.mp q; omega
    unfold fX12_load_214
    rw [g5]
    exact zpc_if (fun r => absurd r nq) (fun _ => d_259 hz hm hh (Or.inl ⟨nq, rfl⟩))
  · have q1 := Int32.lt_iff_toInt_lt.mp (z_nle q)
    have yq : 49152 < z := Int32.lt_iff_toInt_lt.mpr (by omega)
    refine zpc_bi (p_bytesAt (x := 32744) (zr_c (by decide))) (fun μ1 v p => ?_)
    obtain ⟨p1, p2⟩ := p
    have p1 : μ1 = μ := p1
    subst p1
    have p2 : v = zWd (zMb μ1) 32744 := p2
    rw [hm.wd (by omega)] at p2
    unfold fX12_load_214
    rw [g5, h0 yq, p2]
    have r1 := zWd_r (hB 32742) (hB (32742 + 1))
    have r2 := zWd_r (hB 32744) (hB (32744 + 1))
    have t := z_tadd r1 r2 (by decide)
    refine zpc_if (fun _ => zpc_if (fun r => ?_) (fun r => zpc_if (fun s => ?_) (fun s => d_247 hz hm hh yq s))) (fun r => absurd yq r)
    · refine d_247 hz hm hh yq (fun s => ?_)
      have r3 := Int32.le_iff_toInt_le.mp r
      have r4 := r2.2
      rw [s, c6] at t
      omega
    · exact d_259 hz hm hh (Or.inr (Or.inl ⟨yq, s, rfl⟩))
/-- isHeader -/
theorem p_isH_15 {μ : zSt} {x1 : Int32} (hm : zMid z bk B μ) (h1 : 0 ≤ x1.toInt) (h2 : x1.toInt + 16 ≤ z.toInt) (hz : z.toInt ≤ 262144) : ∀ (n : Nat) (x2 : Int32), zr 0 8 x2 → (∀ i : Nat, (i : Int) < x2.toInt → B (x1.toNatClampNeg + i) = zt0 i) → zpc (fX12_isHeader_15 n μ x1 x2) (fun r => r.1 = μ ∧ ((zHm B x1.toNatClampNeg ∧ r.2 = 1) ∨ (¬ zHm B x1.toNatClampNeg ∧ r.2 = 0))) := by
  intro n
  induction n with
  | zero => intro x2 _ _; exact zpc_none
  | succ n ih =>
    intro x2 h3 hI
    show zpc (fX12_isHeader_15_body (fX12_isHeader_15 n) μ x1 x2) _
    unfold fX12_isHeader_15_body
    have c8 : (8 : Int32).toInt = 8 := rfl
    have b0 := h3.1
    have b8 := h3.2
    have k1 := z_clamp h1
    have k2 := z_clamp b0
    refine zpc_if (fun q => ?_) (fun q => zpc_ck ?_)
    · have q1 := Int32.le_iff_toInt_le.mp q
      have e8 : x2 = 8 := Int32.toInt_inj.mp (by omega)
      unfold fX12_isHeader_114 fX12_isHeader_125
      refine zpc_if (fun _ => zpc_ck (zpc_some ⟨rfl, Or.inl ⟨fun i hi => hI i (by omega), rfl⟩⟩)) (fun r => absurd e8 r)
    · have q1 := Int32.lt_iff_toInt_lt.mp (z_nle q)
      have t : (x1 + x2).toInt = x1.toInt + x2.toInt := z_tadd (a := 0) (b := 262144) (c := 0) (d := 8) ⟨h1, by omega⟩ h3 (by decide)
      have ks := z_clamp (x := x1 + x2) (by omega)
      have by1 : (zgi μ 2 (x1 + x2).toNatClampNeg) &&& 255 = B (x1.toNatClampNeg + x2.toNatClampNeg) := by
        rw [← hm.2.2 _ (by omega), show (x1 + x2).toNatClampNeg = x1.toNatClampNeg + x2.toNatClampNeg by omega]
        rfl
      rw [by1]
      have go : ∀ s0, s0 = zt0 x2.toNatClampNeg → zpc (fX12_isHeader_105 (fX12_isHeader_15 n) μ x1 x2 s0 (B (x1.toNatClampNeg + x2.toNatClampNeg))) (fun r => r.1 = μ ∧ ((zHm B x1.toNatClampNeg ∧ r.2 = 1) ∨ (¬ zHm B x1.toNatClampNeg ∧ r.2 = 0))) := fun s0 e0 => by
        unfold fX12_isHeader_105 fX12_isHeader_114 fX12_isHeader_125
        rw [e0]
        refine zpc_if (fun r => zpc_bv (fun v e => ?_)) (fun r => ?_)
        · subst e
          have c1 : (1 : Int32).toInt = 1 := rfl
          have t2 : (x2 + 1).toInt = x2.toInt + (1 : Int32).toInt := z_tadd h3 (zr_c (lo := 1) (hi := 1) (by decide)) (by decide)
          refine ih (x2 + 1) ⟨by omega, by omega⟩ (fun i hi => ?_)
          by_cases qi : i = x2.toNatClampNeg
          · rw [qi]; exact r
          · exact hI i (by omega)
        · refine zpc_if (fun s => ?_) (fun _ => zpc_ck (zpc_some ⟨rfl, Or.inr ⟨fun m => r (m _ (by omega)), rfl⟩⟩))
          rw [s] at q1
          exact absurd q1 (by decide)
      have lit : ∀ m : Nat, x2 = Int32.ofNat m → m < 8 → x2.toNatClampNeg = m := fun m e hm => by
        rw [e]
        have k : ∀ i : Fin 8, (Int32.ofNat i.val).toNatClampNeg = i.val := by decide
        exact k ⟨m, hm⟩
      refine zpc_if (fun r => go _ (by rw [lit 0 r (by decide)]; rfl)) (fun r0 => zpc_if (fun r => go _ (by rw [lit 1 r (by decide)]; rfl)) (fun r1 => zpc_if (fun r => go _ (by rw [lit 2 r (by decide)]; rfl)) (fun r2 => zpc_if (fun r => go _ (by rw [lit 3 r (by decide)]; rfl)) (fun r3 => zpc_if (fun r => go _ (by rw [lit 4 r (by decide)]; rfl)) (fun r4 => zpc_if (fun r => go _ (by rw [lit 5 r (by decide)]; rfl)) (fun r5 => zpc_if (fun r => go _ (by rw [lit 6 r (by decide)]; rfl)) (fun r6 => ?_)))))))
      have e7 : x2 = Int32.ofNat 7 := by
        obtain ⟨i, hi⟩ : ∃ i : Nat, x2.toInt = i := ⟨x2.toInt.toNat, by omega⟩
        have e := z_ofN hi
        have n0 : ∀ m : Nat, ¬ x2 = Int32.ofNat m → ¬ i = m := fun m h r => h (by rw [e, r])
        have a0 := n0 0 r0
        have a1 := n0 1 r1
        have a2 := n0 2 r2
        have a3 := n0 3 r3
        have a4 := n0 4 r4
        have a5 := n0 5 r5
        have a6 := n0 6 r6
        rw [e, show i = 7 by omega]
      exact go _ (by rw [lit 7 e7 (by decide)]; rfl)
theorem p_isH {μ : zSt} {x1 : Int32} (hm : zMid z bk B μ) (h1 : zr 0 32752 x1) (hz : zr 0 262144 z) : zpc (fX12_isHeader μ x1) (fun r => r.1 = μ ∧ ((zHp z B x1.toNatClampNeg ∧ r.2 = 1) ∨ (¬ zHp z B x1.toNatClampNeg ∧ r.2 = 0))) := by
  unfold fX12_isHeader
  have c6 : (16 : Int32).toInt = 16 := rfl
  have t : (x1 + 16).toInt = x1.toInt + (16 : Int32).toInt := z_tadd h1 (zr_c (lo := 16) (hi := 16) (by decide)) (by decide)
  have k1 := z_clamp h1.1
  rw [show zgi μ 0 5 = z from hm.1]
  refine zpc_if (fun q => ?_) (fun q => ?_)
  · have q1 := Int32.le_iff_toInt_le.mp q
    refine zpc_mono (p_isH_15 hm h1.1 (by omega) hz.2 zfuel 0 (zr_c (by decide)) (fun i hi => ?_)) (fun r p => ⟨p.1, ?_⟩)
    · have : (0 : Int32).toInt = 0 := rfl
      exfalso
      omega
    · rcases p.2 with ⟨a, b⟩ | ⟨a, b⟩
      · exact Or.inl ⟨⟨by omega, a⟩, b⟩
      · exact Or.inr ⟨fun m => a m.2, b⟩
  · have q1 := Int32.lt_iff_toInt_lt.mp (z_nle q)
    exact zpc_ck (zpc_some ⟨rfl, Or.inr ⟨fun m => by have := m.1; omega, rfl⟩⟩)
/-- behind the three places -/
theorem d_142e {μ : zSt} (hz : zr 0 262144 z) (hB : ∀ j, zr 0 255 (B j)) (hm : zMid z bk B μ) (hh : zIsH z B (μ.1 0 8)) {n : Nat} : zpc (fX12_load_142 n μ (2 * 32752 + 16)) (zFin z bk B) := by
  cases n with
  | zero => exact zpc_none
  | succ n =>
    show zpc (fX12_load_142_body (fX12_load_142 n) μ (2 * 32752 + 16)) _
    unfold fX12_load_142_body
    have g5 : zgi μ 0 5 = z := hm.1
    have c : (49152 : Int32).toInt = 49152 := rfl
    rw [g5]
    refine zpc_if (fun _ => zpc_if (fun q => ?_) (fun q => ?_)) (fun q => absurd (by decide) q)
    · refine d_192 hz hB hm hh (fun r => ?_)
      have := Int32.lt_iff_toInt_lt.mp r
      have := Int32.le_iff_toInt_le.mp q
      exfalso
      omega
    · have q1 := Int32.lt_iff_toInt_lt.mp (z_nle q)
      refine zpc_bi (p_bytesAt (x := 32742) (zr_c (by decide))) (fun μ1 v p => ?_)
      obtain ⟨p1, p2⟩ := p
      have p1 : μ1 = μ := p1
      subst p1
      have p2 : v = zWd (zMb μ1) 32742 := p2
      rw [hm.wd (by omega)] at p2
      exact d_192 hz hB hm hh (fun _ => p2)
/-- one place -/
theorem d_142s {μ : zSt} {x3 : Int32} (hm : zMid z bk B μ) (h3 : zr 0 32752 x3) (hz : zr 0 262144 z) (nl : ¬ 32768 ≤ x3) {n : Nat} {Q : zSt × Int32 → Prop} (k : ∀ μ1, zMid z bk B μ1 → ((zHp z B x3.toNatClampNeg ∧ μ1.1 0 8 = x3) ∨ (¬ zHp z B x3.toNatClampNeg ∧ μ1.1 0 8 = μ.1 0 8)) → zpc (fX12_load_142 n μ1 (2 * x3 + 16)) Q) : zpc (fX12_load_142 (n + 1) μ x3) Q := by
  show zpc (fX12_load_142_body (fX12_load_142 n) μ x3) _
  unfold fX12_load_142_body fX12_load_161
  refine zpc_if (fun q => absurd q nl) (fun _ => zpc_bi (p_isH hm h3 hz) (fun μ1 v p => ?_))
  obtain ⟨p1, p2⟩ := p
  have p1 : μ1 = μ := p1
  subst p1
  refine zpc_if (fun q => zpc_bv (fun w e => ?_)) (fun q => zpc_bv (fun μ2 e2 => zpc_bv (fun w e => ?_)))
  · subst e
    rcases p2 with ⟨_, b⟩ | ⟨a, b⟩
    · have b : v = 1 := b
      rw [b] at q
      exact absurd q (by decide)
    · exact k _ hm (Or.inr ⟨a, rfl⟩)
  · subst e
    rcases p2 with ⟨a, b⟩ | ⟨a, b⟩
    · exact k _ (hm.w e2 (by decide)) (Or.inl ⟨a, by rw [e2]; exact zsi_ej⟩)
    · exact absurd b q
theorem d_142 {μ : zSt} (hz : zr 0 262144 z) (hB : ∀ j, zr 0 255 (B j)) (hm : zMid z bk B μ) (h8 : μ.1 0 8 = -1) : zpc (fX12_load_142 zfuel μ 8176) (zFin z bk B) := by
  obtain ⟨m, hf⟩ : ∃ m, zfuel = m + 1 + 1 + 1 := ⟨1999997, rfl⟩
  rw [hf]
  refine d_142s hm (zr_c (by decide)) hz (by decide) (fun μ1 m1 a1 => ?_)
  rw [show (2 : Int32) * 8176 + 16 = 16368 by decide]
  refine d_142s m1 (zr_c (by decide)) hz (by decide) (fun μ2 m2 a2 => ?_)
  rw [show (2 : Int32) * 16368 + 16 = 32752 by decide]
  refine d_142s m2 (zr_c (by decide)) hz (by decide) (fun μ3 m3 a3 => ?_)
  refine d_142e hz hB m3 ?_
  rcases a3 with ⟨b3, e3⟩ | ⟨b3, e3⟩
  · exact Or.inl ⟨b3, e3⟩
  · rcases a2 with ⟨b2, e2⟩ | ⟨b2, e2⟩
    · exact Or.inr (Or.inl ⟨b3, b2, e3.trans e2⟩)
    · rcases a1 with ⟨b1, e1⟩ | ⟨b1, e1⟩
      · exact Or.inr (Or.inr (Or.inl ⟨b3, b2, b1, (e3.trans e2).trans e1⟩))
      · exact Or.inr (Or.inr (Or.inr ⟨b3, b2, b1, ((e3.trans e2).trans e1).trans h8⟩))
/-- the copy -/
theorem d_89 {T : Nat → Int32} {x1 : Int32} (hz : zr 0 262144 z) (hB : ∀ j, zr 0 255 (B j)) (h1 : zr 0 512 x1) (hT : ∀ j : Nat, (j : Int) < z.toInt → T (x1.toNatClampNeg + j) &&& 255 = B j) (hk : z.toInt ≤ (16384 * bk).toInt) : ∀ (n : Nat) (μ : zSt) (x3 : Int32), zr 0 262144 x3 → μ.1 1 = T → μ.1 0 5 = z → μ.1 0 6 = bk → (∀ j : Nat, (j : Int) < x3.toInt → (j : Int) < z.toInt → μ.1 2 j &&& 255 = B j) → zpc (fX12_load_89 n μ x1 x3) (zFin z bk B) := by
  intro n
  induction n with
  | zero => intro μ x3 _ _ _ _ _; exact zpc_none
  | succ n ih =>
    intro μ x3 h3 e1 e5 e6 hc
    show zpc (fX12_load_89_body (fX12_load_89 n) μ x1 x3) _
    unfold fX12_load_89_body fX12_load_126
    have b0 := h3.1
    have b9 := h3.2
    have z2 := hz.2
    have k3 := z_clamp b0
    rw [show zgi μ 0 6 = bk from e6, show zgi μ 0 5 = z from e5]
    refine zpc_if (fun q => zpc_bv (fun μ1 m1 => ?_)) (fun q => ?_)
    · have q1 := Int32.le_iff_toInt_le.mp q
      refine d_142 hz hB ⟨?_, ?_, fun j hj => ?_⟩ ?_
      · rw [m1, zsi_nj (by decide)]; exact e5
      · rw [m1, zsi_nj (by decide)]; exact e6
      · rw [m1, zsi_ne (by decide)]; exact hc j (by omega) hj
      · rw [m1]; exact zsi_ej
    · have c1 : (1 : Int32).toInt = 1 := rfl
      have go : ∀ (y : Int32) (μ1 : zSt), x3.toInt < 262144 → μ1 = zsi μ 2 x3.toNatClampNeg (vp_nar .byte y) → (x3.toInt < z.toInt → y &&& 255 = B x3.toNatClampNeg) → zpc (fX12_load_89 n μ1 x1 (x3 + 1)) (zFin z bk B) := fun y μ1 hx m1 hy => by
        have t : (x3 + 1).toInt = x3.toInt + (1 : Int32).toInt := z_tadd h3 (zr_c (lo := 1) (hi := 1) (by decide)) (by decide)
        refine ih μ1 (x3 + 1) ⟨by omega, by omega⟩ ?_ ?_ ?_ (fun j hj hjz => ?_)
        · rw [m1, zsi_ne (by decide)]; exact e1
        · rw [m1, zsi_ne (by decide)]; exact e5
        · rw [m1, zsi_ne (by decide)]; exact e6
        · rw [m1]
          by_cases qj : j = x3.toNatClampNeg
          · rw [qj, zsi_ej, z_nar]
            exact hy (by omega)
          · rw [zsi_nj qj]
            exact hc j (by omega) hjz
      have inr : ∀ {w : Option (zSt × Int32)} {Q : zSt × Int32 → Prop}, (x3.toInt < 262144 → zpc w Q) → zpc (zck (zin x3 262144) w) Q := fun {w Q} h => by
        by_cases r : x3.toInt < 262144
        · exact zpc_ck (h r)
        · have e : zin x3 262144 = false := by
            have l : 262144 ≤ x3.toNatClampNeg := by omega
            show (!(decide (x3 < 0) || decide (262144 ≤ x3.toNatClampNeg))) = false
            rw [decide_eq_true l, Bool.or_true]
            rfl
          rw [e]
          exact zpc_none
      refine zpc_if (fun r => inr (fun hx => zpc_bv (fun μ1 m1 => zpc_bv (fun v e => ?_)))) (fun r => zpc_ck (inr (fun hx => zpc_bv (fun μ1 m1 => zpc_bv (fun v e => ?_)))))
      · subst e
        have r1 := Int32.le_iff_toInt_le.mp r
        exact go _ μ1 hx m1 (fun h => by exfalso; omega)
      · subst e
        have r1 := Int32.lt_iff_toInt_lt.mp (z_nle r)
        have t : (x1 + x3).toInt = x1.toInt + x3.toInt := z_tadd h1 h3 (by decide)
        have b1 := h1.1
        have k1 := z_clamp b1
        have ks := z_clamp (x := x1 + x3) (by omega)
        refine go _ μ1 hx m1 (fun h => ?_)
        show μ.1 1 (x1 + x3).toNatClampNeg &&& 255 = _
        rw [e1, show (x1 + x3).toNatClampNeg = x1.toNatClampNeg + x3.toNatClampNeg by omega]
        exact hT _ (by omega)
end ZLOAD2
end ZJN24
section ZJN25
/-! load, both sides -/
noncomputable def zBk (z : Int32) : Int32 := (z + 16383) / 16384
theorem z_bank {z : Int32} (h : zr 8192 262144 z) : z.toInt ≤ (16384 * zBk z).toInt ∧ ((z + 16384) - 1) / 16384 = zBk z := by
  have c3 : (16383 : Int32).toInt = 16383 := rfl
  have c4 : (16384 : Int32).toInt = 16384 := rfl
  have c1 : (1 : Int32).toInt = 1 := rfl
  have r3 : zr 16383 16383 (16383 : Int32) := zr_c (by decide)
  have r4 : zr 16384 16384 (16384 : Int32) := zr_c (by decide)
  have r1 : zr 1 1 (1 : Int32) := zr_c (by decide)
  have t1 := z_tadd h r3 (by decide)
  have q1 := zr_add (lo := 24575) (hi := 278527) h r3 (by decide)
  have d1 := z_tdiv (y := (16384 : Int32)) 16384 rfl q1 (by decide)
  have qd : zr 1 16 (zBk z) := zr_div (lo := 1) (hi := 16) 16384 (by decide) q1 (by decide)
  have m1 := z_tmul r4 qd (by decide)
  have t2 := z_tadd h r4 (by decide)
  have q2 := zr_add (lo := 24576) (hi := 278528) h r4 (by decide)
  have t3 := z_tsub q2 r1 (by decide)
  have e : (z + 16384) - 1 = z + 16383 := Int32.toInt_inj.mp (by rw [t3, t2, t1, c3, c4, c1]; omega)
  refine ⟨?_, by rw [e]; rfl⟩
  have d2 : (zBk z).toInt = (z + 16383).toInt / 16384 := d1
  rw [m1, d2, t1, c4, c3]
  omega
/-- the class's take of the tape -/
noncomputable def zTake (σ : zSt) (s0 : Int32) (r : zSt × Int32) : Prop := (¬ r.2 = 0 ∧ (∀ j, ¬ j = 2 → r.1.1 1 j = σ.1 1 j) ∧ ∀ w, r.1.1 (ztp w) = σ.1 (ztp w)) ∨ (r.2 = 0 ∧ (r.1.1 1 0 = σ.1 1 1 ∧ r.1.1 1 1 = σ.1 1 0 ∧ r.1.1 1 3 = s0 ∧ r.1.1 1 4 = zgi σ 1 2 - s0 ∧ r.1.1 1 5 = zBk (zgi σ 1 2 - s0)) ∧ (∀ w, r.1.1 (ztp w) = σ.1 (ztp w)) ∧ zIsH (zgi σ 1 2 - s0) (fun j => σ.1 (ztp (σ.1 1 0)) (s0.toNatClampNeg + j)) (r.1.1 1 7) ∧ zIsP (zgi σ 1 2 - s0) (fun j => σ.1 (ztp (σ.1 1 0)) (s0.toNatClampNeg + j)) (r.1.1 1 7) (r.1.1 1 6) ∧ zr 8192 262144 (zgi σ 1 2 - s0))
theorem p_take21 {σ : zSt} {s0 : Int32} (hr : zr 0 262656 (zgi σ 1 2)) (h0 : zr 0 512 s0) : zpc (fX2_takeTape_21 σ s0) (zTake σ s0) := by
  unfold fX2_takeTape_21
  refine zpc_bv (fun v1 e1 => zpc_bv (fun σ2 e2 => ?_))
  have c8 : (8192 : Int32).toInt = 8192 := rfl
  have rv : zr (-512) 262656 v1 := by rw [e1]; exact zr_sub (lo := -512) (hi := 262656) hr h0 (by decide)
  have k2 : ∀ j, ¬ j = 2 → σ2.1 1 j = σ.1 1 j := fun j hj => by rw [e2]; exact zsi_nj hj
  have w2 : ∀ w, σ2.1 (ztp w) = σ.1 (ztp w) := fun w => by rw [e2]; exact zsi_ne (fun e => z_tp1 w e.symm)
  refine zpc_if (fun q5 => zpc_ck (zpc_if (fun q7 => ?_) (fun q7 => zpc_some (Or.inl ⟨(by decide : ¬ (2 : Int32) = 0), k2, w2⟩)))) (fun q5 => zpc_some (Or.inl ⟨(by decide : ¬ (1 : Int32) = 0), k2, w2⟩))
  have h6 := zc_ler (8192) q5 (zr_c (lo := 8192) (hi := 8192) (by decide)) rv (by decide)
  have h8 := zc_eql (0) (0) q7 (zr_rem (lo := 0) (hi := 8191) 8192 (by decide) h6 (by decide)) (zr_c (lo := 0) (hi := 0) (by decide)) (by decide)
  have h9 := z_m8 h6 h8
  refine zpc_bv (fun σ3 e3 => zpc_bv (fun σ4 e4 => zpc_bv (fun σ5 e5 => zpc_bv (fun σ6 e6 => zpc_ck (zpc_bv (fun σ7 e7 => ?_))))))
  have w7 : ∀ w, σ7.1 (ztp w) = σ.1 (ztp w) := fun w => by
    have n : ¬ ztp w = 1 := fun e => z_tp1 w e.symm
    rw [e7, zsi_ne n, e6, zsi_ne n, e5, zsi_ne n, e4, zsi_ne n, e3, zsi_ne n]
    exact w2 w
  have a1 : σ7.1 1 1 = σ.1 1 0 := by
    rw [e7, zsi_nj (by decide), e6, zsi_nj (by decide), e5, zsi_nj (by decide), e4, zsi_nj (by decide), e3, zsi_ej]
    exact k2 0 (by decide)
  have a0 : σ7.1 1 0 = σ.1 1 1 := by
    rw [e7, zsi_nj (by decide), e6, zsi_nj (by decide), e5, zsi_nj (by decide), e4, zsi_ej]
    exact k2 1 (by decide)
  have a3 : σ7.1 1 3 = s0 := by rw [e7, zsi_nj (by decide), e6, zsi_nj (by decide), e5, zsi_ej]
  have a4 : σ7.1 1 4 = v1 := by rw [e7, zsi_nj (by decide), e6, zsi_ej]
  have a5 : σ7.1 1 5 = zBk v1 := by rw [e7, zsi_ej]; exact (z_bank h9).2
  have cb : zCb σ7 = fun j => σ.1 (ztp (σ.1 1 0)) (s0.toNatClampNeg + j) := by
    funext j
    unfold zCb
    rw [a1, a3, w7]
  have hb7 : zr 0 512 (σ7.1 1 3) := by rw [a3]; exact h0
  have hz7 : zr 0 262144 (σ7.1 1 4) := by rw [a4]; exact zr_w h9 (by decide)
  refine zpc_bi (p_header hb7 hz7) (fun σ8 v9 p => ?_)
  obtain ⟨p1, p2⟩ := p
  have p1 : σ8 = σ7 := p1
  subst p1
  have p2 : zIsH (σ8.1 1 4) (zCb σ8) v9 := p2
  rw [a4, cb] at p2
  refine zpc_bv (fun σ10 e10 => ?_)
  have n10 : ∀ j, ¬ j = 7 → σ10.1 1 j = σ8.1 1 j := fun j hj => by rw [e10]; exact zsi_nj hj
  have w10 : ∀ w, σ10.1 (ztp w) = σ.1 (ztp w) := fun w => by rw [e10, zsi_ne (fun e => z_tp1 w e.symm)]; exact w7 w
  have a7 : σ10.1 1 7 = v9 := by rw [e10]; exact zsi_ej
  have cb2 : zCb σ10 = fun j => σ.1 (ztp (σ.1 1 0)) (s0.toNatClampNeg + j) := by
    funext j
    unfold zCb
    rw [n10 1 (by decide), n10 3 (by decide), a1, a3, w10]
  refine zpc_bi (p_paging (by rw [n10 3 (by decide)]; exact hb7) (by rw [n10 4 (by decide)]; exact hz7)) (fun σ11 v12 p => ?_)
  obtain ⟨r1, r2⟩ := p
  have r1 : σ11 = σ10 := r1
  subst r1
  have r2 : zIsP (σ11.1 1 4) (zCb σ11) (σ11.1 1 7) v12 := r2
  rw [n10 4 (by decide), a4, cb2, a7] at r2
  refine zpc_bv (fun σ13 e13 => zpc_some (Or.inr ⟨rfl, ?_⟩))
  have n13 : ∀ j, ¬ j = 6 → σ13.1 1 j = σ11.1 1 j := fun j hj => by rw [e13]; exact zsi_nj hj
  have b7 : σ13.1 1 7 = v9 := (n13 7 (by decide)).trans a7
  have b6 : σ13.1 1 6 = v12 := by rw [e13]; exact zsi_ej
  refine ⟨⟨((n13 0 (by decide)).trans (n10 0 (by decide))).trans a0, ((n13 1 (by decide)).trans (n10 1 (by decide))).trans a1, ((n13 3 (by decide)).trans (n10 3 (by decide))).trans a3, (((n13 4 (by decide)).trans (n10 4 (by decide))).trans a4).trans e1, (((n13 5 (by decide)).trans (n10 5 (by decide))).trans a5).trans (by rw [e1])⟩, fun w => ?_, ?_, ?_, ?_⟩
  · show σ13.1 (ztp w) = _
    rw [e13, zsi_ne (fun e => z_tp1 w e.symm)]
    exact w10 w
  · show zIsH _ _ (σ13.1 1 7)
    rw [b7, ← e1]
    exact p2
  · show zIsP _ _ (σ13.1 1 7) (σ13.1 1 6)
    rw [b7, b6, ← e1]
    exact r2
  · rw [← e1]
    exact h9
/-- the reference's load -/
noncomputable def zLdM (μ : zSt) (s0 : Int32) (r : zSt × Int32) : Prop := (¬ r.2 = 0 ∧ r.1.1 1 = μ.1 1 ∧ r.1.1 2 = μ.1 2 ∧ ∀ j, j ∈ [5, 6, 7, 8, 9] → r.1.1 0 j = μ.1 0 j) ∨ (r.2 = 0 ∧ zFin (zgi μ 0 2 - s0) (zBk (zgi μ 0 2 - s0)) (fun j => μ.1 1 (s0.toNatClampNeg + j) &&& 255) r)
theorem p_load26 {μ : zSt} {s0 : Int32} (hr : zr 0 262656 (zgi μ 0 2)) (h0 : zr 0 512 s0) : zpc (fX12_load_26 μ s0) (zLdM μ s0) := by
  unfold fX12_load_26
  refine zpc_bv (fun v e1 => zpc_bv (fun μ2 e2 => ?_))
  have rv : zr (-512) 262656 v := by rw [e1]; exact zr_sub (lo := -512) (hi := 262656) hr h0 (by decide)
  have err : ∀ x : Int32, ¬ x = 0 → zLdM μ s0 (μ2, x) := fun x hx => Or.inl ⟨hx, by rw [e2]; exact zsi_ne (by decide), by rw [e2]; exact zsi_ne (by decide), fun j hj => by rw [e2]; exact zsi_nj (fun r => by subst r; revert hj; decide)⟩
  refine zpc_if (fun q5 => zpc_ck (zpc_if (fun q7 => zpc_if (fun q9 => ?_) (fun _ => zpc_some (err 3 (by decide)))) (fun _ => zpc_some (err 2 (by decide))))) (fun _ => zpc_some (err 1 (by decide)))
  have h6 := zc_ler (8192) q5 (zr_c (lo := 8192) (hi := 8192) (by decide)) rv (by decide)
  have h9 := zc_lel (262144) q9 h6 (zr_c (lo := 262144) (hi := 262144) (by decide)) (by decide)
  refine zpc_bv (fun μ3 e3 => zpc_ck (zpc_bv (fun μ4 e4 => ?_)))
  have t3 : zgi μ3 0 5 = v := by rw [e3]; exact zsi_ej
  rw [t3] at e4
  have a5 : μ4.1 0 5 = v := by rw [e4, zsi_nj (by decide)]; exact t3
  have a6 : μ4.1 0 6 = zBk v := by rw [e4]; exact zsi_ej
  have a1 : μ4.1 1 = μ.1 1 := by rw [e4, zsi_ne (by decide), e3, zsi_ne (by decide), e2]; exact zsi_ne (by decide)
  have c0 : (0 : Int32).toInt = 0 := rfl
  refine zpc_mono (zpc_and (t_load_89 zfuel μ4 s0 0) (d_89 (z := v) (bk := zBk v) (B := fun j => μ.1 1 (s0.toNatClampNeg + j) &&& 255) (T := μ.1 1) (zr_w h9 (by decide)) (fun j => z_byte _) h0 (fun j _ => rfl) (z_bank h9).1 zfuel μ4 0 (zr_c (by decide)) a1 a5 a6 (fun j hj _ => by exfalso; omega))) (fun r p => Or.inr ⟨p.1.1, ?_⟩)
  rw [← e1]
  exact p.2
/-- both loads -/
theorem z2_load {σ μ : zSt} (h : zR6 σ μ) (hr : zr 0 262656 (zgi μ 0 2)) : zp2 (fX11_load σ ) (fX12_load μ ) (fun r r' => r.2 = r'.2 → zR6L 0 r.1 r'.1) := by
  have e12 : zgi σ 1 2 = zgi μ 0 2 := h.1
  have hrC : zr 0 262656 (zgi σ 1 2) := by rw [e12]; exact hr
  have hr1 := hr.1
  have hr2 := hr.2
  -- one offset for both
  obtain ⟨s0, hs0, hC, hM⟩ : ∃ s0, zr 0 512 s0 ∧ zpc (fX2_takeTape σ ) (zTake σ s0) ∧ ∀ μ1, zgi μ1 0 2 = zgi μ 0 2 → zpc (if (zrem (zgi μ1 0 2) 16384) = 512 then fX12_load_26 μ1 512 else fX12_load_26 μ1 0) (zLdM μ1 s0) := by
    unfold fX2_takeTape
    rw [e12]
    by_cases q : (zrem (zgi μ 0 2) 16384) = 512
    · refine ⟨512, zr_c (by decide), zpc_ck (zpc_if (fun _ => p_take21 hrC (zr_c (by decide))) (fun r => absurd q r)), fun μ1 e => ?_⟩
      rw [e]
      exact zpc_if (fun _ => p_load26 (by rw [e]; exact hr) (zr_c (by decide))) (fun r => absurd q r)
    · refine ⟨0, zr_c (by decide), zpc_ck (zpc_if (fun r => absurd r q) (fun _ => p_take21 hrC (zr_c (by decide)))), fun μ1 e => ?_⟩
      rw [e]
      exact zpc_if (fun r => absurd r q) (fun _ => p_load26 (by rw [e]; exact hr) (zr_c (by decide)))
  -- the class behind it
  have PC : zpc (fX11_load σ ) (zTake σ s0) := by
    unfold fX11_load fX11_load_28
    refine zpc_bi hC (fun σ1 v2 p => zpc_if (fun q => ?_) (fun _ => zpc_some p))
    have k1 : zKeC σ1 σ1 := ⟨rfl, rfl, rfl⟩
    refine zpc_bu (w_fX2_clearRam k1) (fun σ3 k3 => zpc_bu (w_fX11_clearAll k3) (fun σ4 k4 => zpc_ck (zpc_bs (zKeC.wi (k := 0) (j := 11) (v := 0) k4 (by decide)) (fun σ5 k5 => zpc_some ?_))))
    rcases p with ⟨p1, _⟩ | ⟨p1, ⟨a0, a1, a3, a4, a5⟩, w, p2, p3, p4⟩
    · exact absurd q p1
    · have r1 : σ5.1 1 = σ1.1 1 := k5.1
      refine Or.inr ⟨q, ⟨?_, ?_, ?_, ?_, ?_⟩, fun x => (k5.row x).trans (w x), ?_, ?_, p4⟩
      · show σ5.1 1 0 = _; rw [r1]; exact a0
      · show σ5.1 1 1 = _; rw [r1]; exact a1
      · show σ5.1 1 3 = _; rw [r1]; exact a3
      · show σ5.1 1 4 = _; rw [r1]; exact a4
      · show σ5.1 1 5 = _; rw [r1]; exact a5
      · show zIsH _ _ (σ5.1 1 7); rw [r1]; exact p2
      · show zIsP _ _ (σ5.1 1 7) (σ5.1 1 6); rw [r1]; exact p3
  have PM : zpc (fX12_load μ ) (zLdM μ s0) := by
    unfold fX12_load
    refine zpc_bv (fun μ1 e1 => zpc_ck ?_)
    have l := z_c02 e1
    have r1 : μ1.1 1 = μ.1 1 := by rw [e1]; exact zsi_ne (by decide)
    have r2 : μ1.1 2 = μ.1 2 := by rw [e1]; exact zsi_ne (by decide)
    refine zpc_mono (hM μ1 l) (fun r p => ?_)
    unfold zLdM at p ⊢
    rw [r1, r2, l] at p
    rcases p with ⟨p1, p2, p3, p4⟩ | p
    · exact Or.inl ⟨p1, p2, p3, fun j hj => (p4 j hj).trans (by rw [e1]; exact zsi_nj (fun r => by subst r; revert hj; decide))⟩
    · exact Or.inr p
  refine zp2_of PC PM (fun r r' p p' ev => ?_)
  obtain ⟨hL, hD, hCt⟩ := h.2
  rcases p with ⟨p1, p2, p3⟩ | ⟨p1, ⟨a0, a1, a3, a4, a5⟩, w, ph, pp, pz⟩
  · rcases p' with ⟨_, q2, q3, q4⟩ | ⟨q1, _⟩
    · refine ⟨fun j hj => by exfalso; omega, ?_, ?_⟩
      · rw [p2 0 (by decide), p2 1 (by decide)]; exact hD
      · exact hCt.keep (fun j hj => p2 j (fun e => by subst e; revert hj; decide)) (p3 _) q4 q3
    · exact absurd (ev.trans q1) p1
  · rcases p' with ⟨q1, _⟩ | ⟨_, ⟨f5, f6, fb⟩, fh, fp, fs⟩
    · exact absurd (ev.symm.trans p1) q1
    · rw [e12] at a4 a5 ph pp pz
      have z0 := pz.1
      have k0 := z_clamp hs0.1
      have ts : (zgi μ 0 2 - s0).toInt = (zgi μ 0 2).toInt - s0.toInt := z_tsub hr hs0 (by decide)
      -- bytes
      have eb : ∀ j : Nat, (j : Int) < (zgi μ 0 2 - s0).toInt → σ.1 (ztp (σ.1 1 0)) (s0.toNatClampNeg + j) = μ.1 1 (s0.toNatClampNeg + j) &&& 255 := fun j hj => hL _ (by have : (zgi μ 0 2).toInt = (μ.1 0 2).toInt := rfl; omega)
      have ph2 := zIsH.cong eb ph
      have hh : r.1.1 1 7 = r'.1.1 0 8 := ph2.one fh
      have pp2 := zIsP.cong eb pp
      rw [hh] at pp2
      have hp : r.1.1 1 6 = r'.1.1 0 7 := pp2.one fp
      obtain ⟨l1, l2⟩ := fh.lt (by omega)
      refine ⟨fun j hj => by exfalso; omega, ?_, ?_⟩
      · rw [a0, a1]; exact fun e => hD e.symm
      · refine ⟨a4.trans f5.symm, a5.trans f6.symm, hp, hh, fun j hj => ?_, fun hq => ?_⟩
        · rw [f5] at hj
          rw [a1, a3, w, eb j hj, fb j hj]
        · rw [f5]
          have l3 := l2 hq
          refine ⟨l3, ?_⟩
          rw [fs hq]
          exact zSum_cong (fun j hj => (fb j hj).symm) hq l3
end ZJN25
section ZJN26
theorem zok_biE {α : Type} {o : Option (zSt × Int32)} {f : zSt → Int32 → Option α} {Q : zSt × Int32 → Prop} {P : α → Prop} (h : zok o Q) (k : ∀ σ v, o = some (σ, v) → Q (σ, v) → zok (f σ v) P) : zok (zbi o f) P := by
  obtain ⟨a, e, q⟩ := h
  subst e
  exact k a.1 a.2 rfl q
theorem zok_bllE {α : Type} {o : Option (zSt × Int64)} {f : zSt → Int64 → Option α} {Q : zSt × Int64 → Prop} {P : α → Prop} (h : zok o Q) (k : ∀ σ v, o = some (σ, v) → Q (σ, v) → zok (f σ v) P) : zok (zbl o f) P := by
  obtain ⟨a, e, q⟩ := h
  subst e
  exact k a.1 a.2 rfl q
theorem zok_buE {α : Type} {o : Option zSt} {f : zSt → Option α} {Q : zSt → Prop} {P : α → Prop} (h : zok o Q) (k : ∀ σ, o = some σ → Q σ → zok (f σ) P) : zok (zbu o f) P := by
  obtain ⟨a, e, q⟩ := h
  subst e
  exact k a rfl q
theorem zok_bhE {α : Type} {q : Option (zHs × Int32)} {f : (Nat → Int64) → zSt → Int32 → Option α} {Q : zHs × Int32 → Prop} {P : α → Prop} (h : zok q Q) (k : ∀ o σ v, q = some ((o, σ), v) → Q ((o, σ), v) → zok (f o σ v) P) : zok (zbh q f) P := by
  obtain ⟨a, e, r⟩ := h
  subst e
  exact k a.1.1 a.1.2 a.2 rfl r
theorem zh2_st {S : Type} {x : S} {k : Nat} {r : S × Int32} (h : zh2 x k = some r) : r.1 = x := by
  unfold zh2 at h
  split at h
  · cases h; rfl
  · split at h
    · cases h; rfl
    · cases h
theorem zh1_st {S : Type} {n : Nat} {x : S} {k : Nat} {r : S × Int32} (h : zh1 n x k = some r) : r.1 = x := by
  unfold zh1 at h
  split at h
  · cases h; rfl
  · cases h
theorem zp2_hi {β : Type} {o : Nat → Int64} {t : zHs → Nat → Option (zHs × Int32)} {q : Option zRi} {p : Option β} {I : zSt → β → Prop} (ht : ∀ (x : zHs) (k : Nat) (r : zHs × Int32), t x k = some r → r.1 = x) (h : zp2 q p (fun r r' => I (zRis r) r')) : zp2 (zbr q (zhi o t)) p (fun r r' => I r.1.2 r') := by
  intro a b ea eb
  cases q with
  | none => cases ea
  | some r =>
    have i := h r b rfl eb
    have ea : zhi o t r = some a := ea
    rcases r with x | x
    · have ea : some ((vp_updL o 0 x.2.toInt64, x.1), (0 : Int32)) = some a := ea
      cases ea
      exact i
    · have ea : t (o, x.1) x.2 = some a := ea
      have e := ht _ _ _ ea
      rw [e]
      exact i
theorem zp2_hl {β : Type} {o : Nat → Int64} {t : zHs → Nat → Option (zHs × Int32)} {q : Option zRl} {p : Option β} {I : zSt → β → Prop} (ht : ∀ (x : zHs) (k : Nat) (r : zHs × Int32), t x k = some r → r.1 = x) (h : zp2 q p (fun r r' => I (zRls r) r')) : zp2 (zbr q (zhl o t)) p (fun r r' => I r.1.2 r') := by
  intro a b ea eb
  cases q with
  | none => cases ea
  | some r =>
    have i := h r b rfl eb
    have ea : zhl o t r = some a := ea
    rcases r with x | x
    · have ea : some ((vp_updL o 0 x.2, x.1), (0 : Int32)) = some a := ea
      cases ea
      exact i
    · have ea : t (o, x.1) x.2 = some a := ea
      have e := ht _ _ _ ea
      rw [e]
      exact i
theorem zp2_hu {β : Type} {t : zSt → Nat → Option (zSt × Int32)} {q : Option zRu} {p : Option β} {I : zSt → β → Prop} (ht : ∀ (x : zSt) (k : Nat) (r : zSt × Int32), t x k = some r → r.1 = x) (h : zp2 q p (fun r r' => I (zRus r) r')) : zp2 (zbr q (zhu t)) p (fun r r' => I r.1 r') := by
  intro a b ea eb
  cases q with
  | none => cases ea
  | some r =>
    have i := h r b rfl eb
    have ea : zhu t r = some a := ea
    rcases r with x | x
    · have ea : some (x, (0 : Int32)) = some a := ea
      cases ea
      exact i
    · have ea : t x.1 x.2 = some a := ea
      have e := ht _ _ _ ea
      rw [e]
      exact i
theorem zKeM_rfl {μ : zSt} : zKeM μ μ := ⟨rfl, rfl, fun _ _ => rfl⟩
section ZR6
variable {K n k s k' n' s' : Int} {σ μ : zSt} {o : Nat → Int64}
theorem zRM.len (h : zRM K n k s μ) : zr 0 262656 (zgi μ 0 2) ∧ (zgi μ 0 2).toInt = n := by
  obtain ⟨c, G, i, a, b, e0, e1, e2⟩ := h
  exact ⟨rM_0 i.sg 2 (by decide), (i.at 0 (by decide)).trans e0⟩
theorem zRC.len (h : zRC n k s σ) : (zgi σ 1 2).toInt = n ∧ zr 0 512 (σ.1 1 3) ∧ zr 0 262144 (σ.1 1 4) := by
  obtain ⟨H, i, e0, e1, e2⟩ := h
  exact ⟨Eq.trans (i.fz 0 (1, 2) rfl) e0, rC_1 i.sg 3 (by decide), rC_2 i.sg 4 (by decide)⟩
theorem zR6.ofL (a : zRM K n k s μ) (b : zRC n k' s' σ) (h : zR6L n σ μ) : zR6 σ μ := by
  have e : σ.1 1 2 = μ.1 0 2 := Int32.toInt_inj.mp (Eq.trans b.len.1 a.len.2.symm)
  refine ⟨e, ?_⟩
  rw [show (μ.1 0 2).toInt = n from a.len.2]
  exact h
end ZR6
theorem z_fresh6 {k : Int32} {σN4 σN5 σN9 σ1 : zSt} {σN6 : Int32 → zSt} {c : Int32} (e : fX12_anew (zsi (zsi (zsi (zsi (zsi zS0 0 8 (-1)) 0 3 c) 3 44 0) 3 45 1) 3 46 1) = some σ1) : zR6 (zC1 k σN4 σN5 σN6 σN9) σ1 := by
  have w := w_fX12_anew zKeM_rfl σ1 e
  obtain ⟨w1, w2, w3⟩ := w
  have m1 : ∀ j, σ1.1 1 j = 0 := fun j => by rw [w1]; rfl
  have a2 : σ1.1 0 2 = 0 := (w3 2 (by decide)).trans rfl
  have a5 : σ1.1 0 5 = 0 := (w3 5 (by decide)).trans rfl
  have a6 : σ1.1 0 6 = 0 := (w3 6 (by decide)).trans rfl
  have a7 : σ1.1 0 7 = 0 := (w3 7 (by decide)).trans rfl
  have a8 : σ1.1 0 8 = -1 := (w3 8 (by decide)).trans rfl
  have c0 : (0 : Int32).toInt = 0 := rfl
  have c1 : (-1 : Int32).toInt = -1 := rfl
  refine ⟨by rw [a2]; rfl, fun j hj => ?_, ?_, ?_⟩
  · rw [a2, c0] at hj
    exfalso
    omega
  · show ¬ ztp (0 : Int32) = ztp (1 : Int32)
    decide
  · refine ⟨by rw [a5]; rfl, by rw [a6]; rfl, by rw [a7]; rfl, by rw [a8]; rfl, fun j hj => ?_, fun hj => ?_⟩
    · rw [a5, c0] at hj
      exfalso
      omega
    · rw [a8, c1] at hj
      exfalso
      omega
/-! masks and shifts as remainders and quotients -/
theorem z_mask {x m : Int32} {k : Nat} (hx : 0 ≤ x.toInt) (hm : m.toBitVec.toNat = 2 ^ k - 1) (hk : k < 31) : (x &&& m).toInt = x.toInt % ((2 ^ k : Nat) : Int) := by
  have nx := z_tN hx
  have p : 2 ^ k < 2147483648 := by
    have : (2 : Nat) ^ k ≤ 2 ^ 30 := Nat.pow_le_pow_right (by decide) (by omega)
    omega
  have p0 : 0 < 2 ^ k := Nat.pow_pos (by decide)
  have e : (x &&& m).toBitVec.toNat = x.toBitVec.toNat % 2 ^ k := by rw [Int32.toBitVec_and, BitVec.toNat_and, hm, Nat.and_two_pow_sub_one_eq_mod]
  have l := Nat.mod_lt x.toBitVec.toNat p0
  rw [z_Nt e (by omega), ← nx]
  exact Int.natCast_emod _ _
theorem z_quo {x s : Int32} {k : Nat} (hx : 0 ≤ x.toInt) (hs : (s.toBitVec.smod 32).toNat = k) : (x >>> s).toInt = x.toInt / ((2 ^ k : Nat) : Int) := by
  have e : (x >>> s).toBitVec = x.toBitVec.sshiftRight (s.toBitVec.smod 32).toNat := rfl
  have e2 : (x >>> s).toInt = ((x >>> s).toBitVec).toInt := rfl
  rw [e2, e, hs, BitVec.toInt_sshiftRight, Int.shiftRight_eq_div_pow]
  rfl
/-! memory of both sides -/
noncomputable def zFil (μ : zSt) : Prop := ∀ j : Nat, (μ.1 0 5).toInt ≤ (j : Int) → (j : Int) < 16384 * (μ.1 0 6).toInt → μ.1 2 j &&& 255 = 255
noncomputable def zMe (σ μ : zSt) : Prop := (∀ j : Nat, j < 8192 → σ.1 15 j = μ.1 5 j &&& 255) ∧ (∀ j : Nat, j < 32768 → σ.1 17 j = μ.1 6 j &&& 255) ∧ (∀ j : Nat, j < 3 → σ.1 19 j = μ.1 3 (29 + j)) ∧ σ.1 19 3 = μ.1 3 32 ∧ zCart σ μ ∧ zFil μ
/-- ranges that reading wants -/
noncomputable def zMr (σ μ : zSt) : Prop := zr 0 512 (σ.1 1 3) ∧ zr 0 262144 (σ.1 1 4) ∧ zr 0 16 (μ.1 0 6) ∧ zr 0 3 (μ.1 0 7) ∧ ((μ.1 0 7).toInt = 0 ∨ 1 ≤ (μ.1 0 6).toInt) ∧ (∀ j : Nat, 29 ≤ j → j ≤ 32 → zr 0 255 (μ.1 3 j))
theorem z_16 {v : Int32} (h : 0 ≤ v.toInt) : (v &&& 16383).toInt = v.toInt % 16384 := z_mask (k := 14) h rfl (by decide)
theorem z_8 {v : Int32} (h : 0 ≤ v.toInt) : (v &&& 8191).toInt = v.toInt % 8192 := z_mask (k := 13) h rfl (by decide)
theorem z2_bank {σ μ : zSt} {v b : Int32} (h : zMe σ μ) (hr : zMr σ μ) (hv : zr 0 49151 v) (hb : zr 0 255 b) (hp : 1 ≤ (μ.1 0 6).toInt) : zp2 (fX2_read_126 σ v b) (fX12_ofBank μ b v) (fun r r' => r.1 = σ ∧ r'.1 = μ ∧ r.2 = r'.2) := by
  obtain ⟨_, _, _, _, hc, hf⟩ := h
  obtain ⟨r3, r4, r6, r7, _, _⟩ := hr
  obtain ⟨c4, c5, c6, c7, cb, _⟩ := hc
  unfold fX2_read_126 fX12_ofBank fX2_read_144 fX2_read_169
  have v0 := hv.1
  have v1 := hv.2
  have g5 : zgi σ 1 5 = μ.1 0 6 := c5
  have b6 := r6.2
  have tr := z_trem (y := μ.1 0 6) (μ.1 0 6).toInt rfl hb ⟨by decide, by omega⟩
  have m0 := Int.emod_nonneg b.toInt (b := (μ.1 0 6).toInt) (by omega)
  have m1 := Int.emod_lt_of_pos b.toInt (b := (μ.1 0 6).toInt) (by omega)
  have rr : zr 0 15 (zrem b (μ.1 0 6)) := ⟨by omega, by omega⟩
  have k4 : (16384 : Int32).toInt = 16384 := rfl
  have q4 : zr 16384 16384 (16384 : Int32) := zr_c (by decide)
  have t1 := z_tmul rr q4 (by decide)
  have t2 := z_tmul q4 rr (by decide)
  have s1 := zr_mul (lo := 0) (hi := 245760) rr q4 (by decide)
  have s2 := zr_mul (lo := 0) (hi := 245760) q4 rr (by decide)
  have e16 := z_16 v0
  have n0 := Int.emod_nonneg v.toInt (b := 16384) (by decide)
  have n1 := Int.emod_lt_of_pos v.toInt (b := 16384) (by decide)
  have ra : zr 0 16383 (v &&& 16383) := ⟨by omega, by omega⟩
  have t3 := z_tadd s1 ra (by decide)
  have tv := z_trem (y := (16384 : Int32)) 16384 rfl hv (by decide)
  have rb : zr 0 16383 (zrem v 16384) := ⟨by omega, by omega⟩
  have t4 := z_tadd s2 rb (by decide)
  have same : ((zrem b (μ.1 0 6)) * 16384) + (v &&& 16383) = (16384 * (zrem b (μ.1 0 6))) + (zrem v 16384) := Int32.toInt_inj.mp (by rw [t3, t4, t1, t2, e16, tv, k4]; omega)
  have pb : ((16384 * (zrem b (μ.1 0 6))) + (zrem v 16384)).toInt < 16384 * (μ.1 0 6).toInt := by
    rw [t4, t2, tv, tr, k4]
    have : 16384 * (b.toInt % (μ.1 0 6).toInt) ≤ 16384 * ((μ.1 0 6).toInt - 1) := Int.mul_le_mul_of_nonneg_left (by omega) (by decide)
    omega
  have p0 : 0 ≤ ((16384 * (zrem b (μ.1 0 6))) + (zrem v 16384)).toInt := by
    rw [t4, t2, tv, tr, k4]
    have : 0 ≤ 16384 * (b.toInt % (μ.1 0 6).toInt) := Int.mul_nonneg (by decide) m0
    omega
  rw [g5]
  refine zp2_ckl (zp2_bvl (fun p ep => zp2_ckr (zp2_ckr (zp2_ckr ?_))))
  rw [same] at ep
  subst ep
  have kp := z_clamp p0
  have g4 : zgi σ 1 4 = μ.1 0 5 := c4
  rw [g4]
  refine zp2_ifl (fun q => zp2_some ⟨rfl, rfl, ?_⟩) (fun q => zp2_ckl (zp2_some ⟨rfl, rfl, ?_⟩))
  · have q1 := Int32.le_iff_toInt_le.mp q
    exact (hf ((16384 * (zrem b (μ.1 0 6))) + (zrem v 16384)).toNatClampNeg (by omega) (by omega)).symm
  · have q1 := Int32.lt_iff_toInt_lt.mp (z_nle q)
    have b0 := r3.1
    have z4 := r4.2
    rw [c4] at z4
    have t5 : (σ.1 1 3 + ((16384 * (zrem b (μ.1 0 6))) + (zrem v 16384))).toInt = (σ.1 1 3).toInt + ((16384 * (zrem b (μ.1 0 6))) + (zrem v 16384)).toInt := z_tadd (c := 0) (d := 262144) r3 ⟨p0, by omega⟩ (by decide)
    have k5 := z_clamp (x := σ.1 1 3 + ((16384 * (zrem b (μ.1 0 6))) + (zrem v 16384))) (by omega)
    have k6 := z_clamp b0
    have e := cb ((16384 * (zrem b (μ.1 0 6))) + (zrem v 16384)).toNatClampNeg (by omega)
    show σ.1 (ztp (σ.1 1 1)) (σ.1 1 3 + ((16384 * (zrem b (μ.1 0 6))) + (zrem v 16384))).toNatClampNeg = μ.1 2 ((16384 * (zrem b (μ.1 0 6))) + (zrem v 16384)).toNatClampNeg &&& 255
    rw [show (σ.1 1 3 + ((16384 * (zrem b (μ.1 0 6))) + (zrem v 16384))).toNatClampNeg = (σ.1 1 3).toNatClampNeg + ((16384 * (zrem b (μ.1 0 6))) + (zrem v 16384)).toNatClampNeg by omega]
    exact e
end ZJN26
section ZJN27
theorem zp2_bir {α β : Type} {o : Option α} {p : Option (zSt × Int32)} {f : zSt → Int32 → Option β} {P : zSt × Int32 → Prop} {Q : α → β → Prop} (h : zpc p P) (k : ∀ σ v, P (σ, v) → zp2 o (f σ v) Q) : zp2 o (zbi p f) Q := by
  cases p with
  | none => exact zp2_nr
  | some a => exact k a.1 a.2 (h a rfl)
theorem zp2_bil {α β : Type} {o : Option (zSt × Int32)} {p : Option β} {f : zSt → Int32 → Option α} {P : zSt × Int32 → Prop} {Q : α → β → Prop} (h : zpc o P) (k : ∀ σ v, P (σ, v) → zp2 (f σ v) p Q) : zp2 (zbi o f) p Q := by
  cases o with
  | none => exact zp2_nl
  | some a => exact k a.1 a.2 (h a rfl)
/-- both call, and go on -/
theorem zp2_bii {α β : Type} {o p : Option (zSt × Int32)} {f : zSt → Int32 → Option α} {g : zSt → Int32 → Option β} {P : zSt × Int32 → zSt × Int32 → Prop} {Q : α → β → Prop} (h : zp2 o p P) (k : ∀ σ v μ w, P (σ, v) (μ, w) → zp2 (f σ v) (g μ w) Q) : zp2 (zbi o f) (zbi p g) Q := by
  cases o with
  | none => exact zp2_nl
  | some a =>
    cases p with
    | none => exact zp2_nr
    | some b => exact k a.1 a.2 b.1 b.2 (h a b rfl rfl)
theorem zp2_buu {α β : Type} {o p : Option zSt} {f : zSt → Option α} {g : zSt → Option β} {P : zSt → zSt → Prop} {Q : α → β → Prop} (h : zp2 o p P) (k : ∀ σ μ, P σ μ → zp2 (f σ) (g μ) Q) : zp2 (zbu o f) (zbu p g) Q := by
  cases o with
  | none => exact zp2_nl
  | some a =>
    cases p with
    | none => exact zp2_nr
    | some b => exact k a b (h a b rfl rfl)
theorem zp2_mono {α β : Type} {o : Option α} {p : Option β} {P Q : α → β → Prop} (h : zp2 o p P) (k : ∀ a b, P a b → Q a b) : zp2 o p Q := fun a b e f => k a b (h a b e f)
/-! the battery -/
noncomputable def zBt (μ : zSt) (v : Int32) : Prop := μ.1 0 7 = 1 ∧ ¬ (μ.1 3 32 &&& 8) = 0 ∧ 32768 ≤ v.toInt ∧ v.toInt < 49152
theorem p_isBat {μ : zSt} {v : Int32} : zpc (fX12_isBattery μ v) (fun r => r.1 = μ ∧ ((zBt μ v ∧ r.2 = 1) ∨ (¬ zBt μ v ∧ r.2 = 0))) := by
  unfold fX12_isBattery fX12_isBattery_37 fX12_isBattery_38
  have c3 : (32768 : Int32).toInt = 32768 := rfl
  have c4 : (49152 : Int32).toInt = 49152 := rfl
  have no : ¬ zBt μ v → zpc (zck (zbo 0) (some (μ, (0 : Int32)))) (fun r => r.1 = μ ∧ ((zBt μ v ∧ r.2 = 1) ∨ (¬ zBt μ v ∧ r.2 = 0))) := fun h => zpc_ck (zpc_some ⟨rfl, Or.inr ⟨h, rfl⟩⟩)
  refine zpc_if (fun q => zpc_ck (zpc_if (fun a => no (fun h => h.2.1 a)) (fun a => zpc_if (fun b => no (fun h => ?_)) (fun b => zpc_if (fun c => no (fun h => ?_)) (fun c => zpc_ck (zpc_some ⟨rfl, Or.inl ⟨⟨q, a, ?_, ?_⟩, rfl⟩⟩)))))) (fun q => no (fun h => q h.1))
  · have := Int32.lt_iff_toInt_lt.mp b; have := h.2.2.1; omega
  · have := Int32.le_iff_toInt_le.mp c; have := h.2.2.2; omega
  · have := Int32.le_iff_toInt_le.mp (z_nlt b); omega
  · have := Int32.lt_iff_toInt_lt.mp (z_nle c); omega
theorem p_batIn {σ : zSt} : zpc (fX2_batteryIsIn σ ) (fun r => r.1 = σ ∧ (((σ.1 1 6 = 1 ∧ ¬ (σ.1 19 3 &&& 8) = 0) ∧ r.2 = 1) ∨ (¬ (σ.1 1 6 = 1 ∧ ¬ (σ.1 19 3 &&& 8) = 0) ∧ r.2 = 0))) := by
  unfold fX2_batteryIsIn fX2_batteryIsIn_24 fX2_batteryIsIn_25
  exact zpc_if (fun q => zpc_ck (zpc_if (fun a => zpc_ck (zpc_some ⟨rfl, Or.inr ⟨fun h => h.2 a, rfl⟩⟩)) (fun a => zpc_ck (zpc_some ⟨rfl, Or.inl ⟨⟨q, a⟩, rfl⟩⟩)))) (fun q => zpc_ck (zpc_some ⟨rfl, Or.inr ⟨fun h => q h.1, rfl⟩⟩))
theorem z_k4 : ∀ i : Fin 256, ((Int32.ofNat i.val &&& 4 = 0 → ((Int32.ofNat i.val) >>> ((2 : Int32) &&& 31)) &&& 1 = 0) ∧ (¬ Int32.ofNat i.val &&& 4 = 0 → ((Int32.ofNat i.val) >>> ((2 : Int32) &&& 31)) &&& 1 = 1)) := by decide +kernel
theorem z_k4' {k : Int32} (h : zr 0 255 k) : (k &&& 4 = 0 → (k >>> ((2 : Int32) &&& 31)) &&& 1 = 0) ∧ (¬ k &&& 4 = 0 → (k >>> ((2 : Int32) &&& 31)) &&& 1 = 1) := by
  obtain ⟨h0, h1⟩ := h
  obtain ⟨i, hi⟩ : ∃ i : Nat, k.toInt = i := ⟨k.toInt.toNat, by omega⟩
  rw [z_ofN hi]
  exact z_k4 ⟨i, by omega⟩
/-- the place of a byte in the battery, on both sides -/
theorem z2_batAt {σ μ : zSt} {v : Int32} (h : zMe σ μ) (hr : zMr σ μ) (h0 : 32768 ≤ v.toInt) (h1 : v.toInt < 49152) : zp2 (fX2_batteryPlace σ v) (fX12_batteryAt μ v) (fun r r' => r.1 = σ ∧ r'.1 = μ ∧ r.2 = r'.2 ∧ zr 0 32767 r.2) := by
  obtain ⟨_, _, _, hk, _, _⟩ := h
  have rk := hr.2.2.2.2.2 32 (by decide) (by decide)
  have kk := z_k4' rk
  unfold fX2_batteryPlace fX12_batteryAt fX12_batteryAt_23
  have e16 := z_16 (v := v) (by omega)
  have g : zgi σ 19 (3 : Int32).toNatClampNeg = μ.1 3 32 := hk
  rw [g]
  have c8 : (32768 : Int32).toInt = 32768 := rfl
  have c6 : (16384 : Int32).toInt = 16384 := rfl
  have ts : (v - 32768).toInt = v.toInt - (32768 : Int32).toInt := z_tsub (a := 32768) (b := 49151) ⟨h0, by omega⟩ (zr_c (lo := 32768) (hi := 32768) (by decide)) (by decide)
  have same : v &&& 16383 = v - 32768 := Int32.toInt_inj.mp (by rw [e16, ts, c8]; omega)
  have rv : zr 0 16383 (v - 32768) := ⟨by omega, by omega⟩
  refine zp2_ckl (zp2_ckr (zp2_ifr (fun q => zp2_some ⟨rfl, rfl, ?_, ?_⟩) (fun q => zp2_some ⟨rfl, rfl, ?_, ?_⟩)))
  · show (v &&& 16383) + (16384 * ((μ.1 3 32 >>> ((2 : Int32) &&& 31)) &&& 1)) = v - 32768 + 0
    rw [kk.1 q, same, show (16384 : Int32) * 0 = 0 by decide]
  · show zr 0 32767 ((v &&& 16383) + (16384 * ((μ.1 3 32 >>> ((2 : Int32) &&& 31)) &&& 1)))
    rw [kk.1 q, same, show (16384 : Int32) * 0 = 0 by decide, Int32.add_zero]
    exact zr_w rv (by decide)
  · show (v &&& 16383) + (16384 * ((μ.1 3 32 >>> ((2 : Int32) &&& 31)) &&& 1)) = v - 32768 + 16384
    rw [kk.2 q, same, show (16384 : Int32) * 1 = 16384 by decide]
  · show zr 0 32767 ((v &&& 16383) + (16384 * ((μ.1 3 32 >>> ((2 : Int32) &&& 31)) &&& 1)))
    rw [kk.2 q, same, show (16384 : Int32) * 1 = 16384 by decide]
    exact zr_add (lo := 0) (hi := 32767) rv (zr_c (lo := 16384) (hi := 16384) (by decide)) (by decide)
theorem z_third {v : Int32} (hv : zr 0 49151 v) : v >>> ((14 : Int32) &&& 31) = v / 16384 ∧ zr 0 2 (v / 16384) ∧ (v / 16384).toInt = v.toInt / 16384 := by
  have v0 := hv.1
  have v1 := hv.2
  have q := z_quo (k := 14) (s := (14 : Int32) &&& 31) v0 rfl
  have d := z_tdiv (y := (16384 : Int32)) 16384 rfl hv (by decide)
  exact ⟨Int32.toInt_inj.mp (by rw [q, d]; rfl), ⟨by omega, by omega⟩, d⟩
/-- a read of both memories -/
theorem z2_read {σ μ : zSt} {x : Int32} (h : zMe σ μ) (hr : zMr σ μ) : zp2 (fX2_read σ x) (fX12_read μ x) (fun r r' => r.1 = σ ∧ r'.1 = μ ∧ r.2 = r'.2) := by
  unfold fX2_read fX12_read
  refine zp2_bvl (fun v ev => zp2_bvr (fun w ew => ?_))
  have e : w = v := by rw [ev, ew]
  subst e
  have hv : zr 0 65535 w := by rw [ew]; exact zr_andr (lo := 0) (hi := 65535) (zr_c (lo := 65535) (hi := 65535) (by decide)) (by decide)
  have v0 := hv.1
  have v1 := hv.2
  have c9 : (49152 : Int32).toInt = 49152 := rfl
  have c8 : (32768 : Int32).toInt = 32768 := rfl
  have c0 : (0 : Int32).toInt = 0 := rfl
  have h' := h
  obtain ⟨hram, hbat, hpg, hk, hc, hf⟩ := h
  have hr' := hr
  obtain ⟨r3, r4, r6, r7, ryp, rpg⟩ := hr
  obtain ⟨d4, d5, d6, d7, db, _⟩ := hc
  refine zp2_if (fun q => ?_) (fun q => ?_)
  · have q1 := Int32.lt_iff_toInt_lt.mp q
    have hw : zr 0 49151 w := ⟨v0, by omega⟩
    obtain ⟨th, tr, td⟩ := z_third hw
    rw [show zgi σ 1 6 = μ.1 0 7 from d6, show zgi σ 1 5 = μ.1 0 6 from d5]
    -- behind the battery
    have bank : 1 ≤ (μ.1 0 6).toInt → ¬ μ.1 0 7 = 0 → zp2 (fX2_read_62 σ w) (if (zgi μ 0 7) = 3 then if 32768 ≤ w then zck (zin 31 1048) (fX12_read_111 μ w (zgi μ 3 (31 : Int32).toNatClampNeg)) else zck (decide (¬ 16384 = 0)) (fX12_read_111 μ w (w / 16384)) else if (zgi μ 0 7) = 1 then if 1024 ≤ w then fX12_read_138 μ w else zbi (fX12_ofBank μ 0 w) (fun σ8 v9 => some (σ8, v9)) else fX12_read_138 μ w) (fun r r' => r.1 = σ ∧ r'.1 = μ ∧ r.2 = r'.2) := fun hb np => by
      have fin : ∀ b : Int32, zr 0 255 b → zp2 (fX2_read_126 σ w b) (zbi (fX12_ofBank μ b w) (fun σ1 v2 => some (σ1, v2))) (fun r r' => r.1 = σ ∧ r'.1 = μ ∧ r.2 = r'.2) := fun b hb2 => by
        intro a c ea ec
        cases q9 : fX12_ofBank μ b w with
        | none => rw [q9] at ec; cases ec
        | some d =>
          rw [q9] at ec
          have ec : some (d.1, d.2) = some c := ec
          cases ec
          exact z2_bank h' hr' hw hb2 hb a d ea q9
      unfold fX2_read_62 fX2_read_86 fX2_read_87 fX2_read_106 fX12_read_111 fX12_read_138
      refine zp2_bvl (fun t et => ?_)
      rw [th] at et
      subst et
      rw [show zgi σ 1 6 = μ.1 0 7 from d6, show zgi μ 0 7 = μ.1 0 7 from rfl]
      have two : (2 : Int32) ≤ w / 16384 ↔ (32768 : Int32) ≤ w := by
        have c2 : (2 : Int32).toInt = 2 := rfl
        constructor
        · intro r; exact Int32.le_iff_toInt_le.mpr (by have := Int32.le_iff_toInt_le.mp r; omega)
        · intro r; exact Int32.le_iff_toInt_le.mpr (by have := Int32.le_iff_toInt_le.mp r; omega)
      have t0 := tr.1
      have t2 := tr.2
      have kt := z_clamp t0
      have pg : zgi σ 19 (w / 16384).toNatClampNeg = zgi μ 3 (29 + w / 16384).toNatClampNeg := by
        have ta : (29 + w / 16384).toInt = (29 : Int32).toInt + (w / 16384).toInt := z_tadd (zr_c (lo := 29) (hi := 29) (by decide)) tr (by decide)
        have c29 : (29 : Int32).toInt = 29 := rfl
        have ka := z_clamp (x := 29 + w / 16384) (by omega)
        show σ.1 19 (w / 16384).toNatClampNeg = μ.1 3 (29 + w / 16384).toNatClampNeg
        rw [hpg _ (by omega), show (29 + w / 16384).toNatClampNeg = 29 + (w / 16384).toNatClampNeg by omega]
      have rpgb : zr 0 255 (zgi μ 3 (29 + w / 16384).toNatClampNeg) := by
        have ta : (29 + w / 16384).toInt = (29 : Int32).toInt + (w / 16384).toInt := z_tadd (zr_c (lo := 29) (hi := 29) (by decide)) tr (by decide)
        have c29 : (29 : Int32).toInt = 29 := rfl
        have ka := z_clamp (x := 29 + w / 16384) (by omega)
        exact rpg _ (by omega) (by omega)
      by_cases p3 : μ.1 0 7 = 3
      · have p1 : ¬ μ.1 0 7 = 1 := fun r => by rw [r] at p3; exact absurd p3 (by decide)
        refine zp2_ifl (fun _ => ?_) (fun r => absurd p3 r)
        refine zp2_ifr (fun _ => ?_) (fun r => absurd p3 r)
        refine zp2_ifl (fun r => zp2_ifr (fun r' => ?_) (fun r' => absurd (two.mp r) r')) (fun r => zp2_ifr (fun r' => absurd (two.mpr r') r) (fun r' => ?_))
        · have e2 : w / 16384 = 2 := Int32.toInt_inj.mp (by have := Int32.le_iff_toInt_le.mp r; have c2 : (2 : Int32).toInt = 2 := rfl; omega)
          refine zp2_ifl (fun _ => zp2_ckl (zp2_ckr (zp2_ifl (fun s => absurd s p1) (fun _ => ?_)))) (fun s => absurd rfl s)
          rw [pg, e2]
          exact fin _ (rpg 31 (by decide) (by decide))
        · refine zp2_ifl (fun s => absurd s (by decide)) (fun _ => zp2_ckr (zp2_ifl (fun s => absurd s p1) (fun _ => ?_)))
          exact fin _ (zr_w tr (by decide))
      · refine zp2_ifl (fun r => absurd r p3) (fun _ => zp2_ifr (fun r => absurd r p3) (fun _ => ?_))
        refine zp2_ifl (fun _ => zp2_ckl ?_) (fun s => absurd rfl s)
        refine zp2_if (fun p1 => ?_) (fun p1 => ?_)
        · refine zp2_if (fun _ => ?_) (fun _ => fin _ (zr_c (by decide)))
          refine zp2_ckr (zp2_ckr ?_)
          rw [pg]
          exact fin _ rpgb
        · refine zp2_ckr (zp2_ckr ?_)
          rw [pg]
          exact fin _ rpgb
    refine zp2_bir p_isBat (fun μ6 v7 p => ?_)
    obtain ⟨p1, p2⟩ := p
    have p1 : μ6 = μ := p1
    subst p1
    by_cases z0 : μ6.1 0 7 = 0
    · -- no paging
      refine zp2_ifl (fun _ => ?_) (fun r => absurd z0 r)
      have nb : v7 = 0 := by
        rcases p2 with ⟨a, _⟩ | ⟨_, b⟩
        · have := a.1; rw [z0] at this; exact absurd this (by decide)
        · exact b
      refine zp2_ifr (fun _ => zp2_ifr (fun _ => ?_) (fun r => absurd z0 r)) (fun r => absurd nb r)
      unfold fX2_read_144 fX2_read_169 fX12_read_80
      rw [show zgi σ 1 4 = zgi μ6 0 5 from d4]
      refine zp2_if (fun _ => zp2_some ⟨rfl, rfl, rfl⟩) (fun r => zp2_ckl (zp2_ckr (zp2_some ⟨rfl, rfl, ?_⟩)))
      have r1 := Int32.lt_iff_toInt_lt.mp (z_nle r)
      have g5 : (zgi μ6 0 5).toInt = (μ6.1 0 5).toInt := rfl
      have b0 := r3.1
      have kw := z_clamp v0
      have t5 : (σ.1 1 3 + w).toInt = (σ.1 1 3).toInt + w.toInt := z_tadd r3 hw (by decide)
      have k5 := z_clamp (x := σ.1 1 3 + w) (by omega)
      have k6 := z_clamp b0
      show σ.1 (ztp (σ.1 1 1)) (σ.1 1 3 + w).toNatClampNeg = μ6.1 2 w.toNatClampNeg &&& 255
      rw [show (σ.1 1 3 + w).toNatClampNeg = (σ.1 1 3).toNatClampNeg + w.toNatClampNeg by omega]
      exact db _ (by omega)
    · have hb1 : 1 ≤ (μ6.1 0 6).toInt := by
        rcases ryp with a | a
        · exact absurd (Int32.toInt_inj.mp (a.trans c0.symm)) z0
        · exact a
      refine zp2_ifl (fun r => absurd r z0) (fun _ => zp2_ifl (fun r => ?_) (fun _ => ?_))
      · have := Int32.le_iff_toInt_le.mp r; exfalso; omega
      · refine zp2_ifl (fun lo => ?_) (fun hi => ?_)
        · have lo1 := Int32.lt_iff_toInt_lt.mp lo
          have nb : v7 = 0 := by
            rcases p2 with ⟨a, _⟩ | ⟨_, b⟩
            · have := a.2.2.1; exfalso; omega
            · exact b
          exact zp2_ifr (fun _ => zp2_ifr (fun r => absurd r z0) (fun _ => bank hb1 z0)) (fun r => absurd nb r)
        · have hi1 := Int32.le_iff_toInt_le.mp (z_nlt hi)
          refine zp2_bil p_batIn (fun σ4 v5 b => ?_)
          obtain ⟨b1, b2⟩ := b
          have b1 : σ4 = σ := b1
          subst b1
          rw [d6, hk] at b2
          rcases p2 with ⟨a, a2⟩ | ⟨a, a2⟩
          · have a2 : v7 = 1 := a2
            have v5e : v5 = 1 := by
              rcases b2 with ⟨_, e⟩ | ⟨n, _⟩
              · exact e
              · exact absurd ⟨a.1, a.2.1⟩ n
            refine zp2_ifl (fun r => absurd (v5e.symm.trans r) (by decide)) (fun _ => zp2_ifr (fun r => absurd (a2.symm.trans r) (by decide)) (fun _ => ?_))
            refine zp2_bii (z2_batAt h' hr' a.2.2.1 a.2.2.2) (fun σ6 v7' μ10 v11 s => ?_)
            obtain ⟨s1, s2, s3, s4⟩ := s
            have s1 : σ6 = σ4 := s1
            have s2 : μ10 = μ6 := s2
            have s3 : v7' = v11 := s3
            subst s1
            subst s2
            subst s3
            refine zp2_ckl (zp2_ckr (zp2_some ⟨rfl, rfl, ?_⟩))
            have k7 := z_clamp (x := v7') s4.1
            have s42 : v7'.toInt ≤ 32767 := s4.2
            exact hbat _ (by omega)
          · have a2 : v7 = 0 := a2
            have v5e : v5 = 0 := by
              rcases b2 with ⟨y, _⟩ | ⟨_, e⟩
              · exact absurd ⟨y.1, y.2, by omega, by omega⟩ a
              · exact e
            exact zp2_ifl (fun _ => zp2_ifr (fun _ => zp2_ifr (fun r => absurd r z0) (fun _ => bank hb1 z0)) (fun r => absurd a2 r)) (fun r => absurd v5e r)
  · have q1 := Int32.le_iff_toInt_le.mp (z_nlt q)
    have e8 := z_8 v0
    have tr := z_trem (y := (8192 : Int32)) 8192 rfl hv (by decide)
    have same : w &&& 8191 = zrem w 8192 := Int32.toInt_inj.mp (by rw [e8, tr])
    have m0 := Int.emod_nonneg w.toInt (b := 8192) (by decide)
    have m1 := Int.emod_lt_of_pos w.toInt (b := 8192) (by decide)
    have kr := z_clamp (x := zrem w 8192) (by omega)
    rw [same]
    refine zp2_ckl (zp2_ckr (zp2_ckr (zp2_some ⟨rfl, rfl, ?_⟩)))
    exact hram _ (by omega)
theorem z_mm {a : Int32} : (a &&& 65535) &&& 65535 = a &&& 65535 := by rw [Int32.and_assoc, show (65535 : Int32) &&& 65535 = 65535 by decide]
theorem z_rdm {μ : zSt} {a : Int32} : fX12_read μ (a &&& 65535) = fX12_read μ a := by
  unfold fX12_read
  rw [z_mm]
theorem z_rdc {σ : zSt} {a : Int32} : fX2_read σ (a &&& 65535) = fX2_read σ a := by
  unfold fX2_read
  rw [z_mm]
theorem z_wrm {μ : zSt} {a v : Int32} : fX12_write μ (a &&& 65535) v = fX12_write μ a v := by
  unfold fX12_write
  rw [z_mm]
theorem z_wrb {μ : zSt} {a v : Int32} : fX12_write μ a (v &&& 255) = fX12_write μ a v := by
  unfold fX12_write
  rw [Int32.and_assoc, show (255 : Int32) &&& 255 = 255 by decide]
theorem z_p1 (a : Int32) : (((a + 1) &&& 65535) + 1) &&& 65535 = (a + 2) &&& 65535 := by
  refine Int32.toBitVec_inj.1 ?_
  rw [Int32.toBitVec_and, Int32.toBitVec_and, Int32.toBitVec_add, Int32.toBitVec_and, Int32.toBitVec_add, Int32.toBitVec_add]
  refine BitVec.eq_of_toNat_eq ?_
  rw [BitVec.toNat_and, BitVec.toNat_and, BitVec.toNat_add, BitVec.toNat_and, BitVec.toNat_add, BitVec.toNat_add]
  rw [show (65535 : Int32).toBitVec.toNat = 2 ^ 16 - 1 from rfl, show (1 : Int32).toBitVec.toNat = 1 from rfl, show (2 : Int32).toBitVec.toNat = 2 from rfl, Nat.and_two_pow_sub_one_eq_mod, Nat.and_two_pow_sub_one_eq_mod, Nat.and_two_pow_sub_one_eq_mod]
  omega
end ZJN27
section ZJN28
/-! a write into both memories -/
noncomputable def zFw (σ σ' : zSt) : Prop := (∀ k, ¬ k = 15 → ¬ k = 17 → ¬ k = 19 → σ'.1 k = σ.1 k) ∧ σ'.2 = σ.2
noncomputable def zFv (μ μ' : zSt) : Prop := (∀ k, ¬ k = 3 → ¬ k = 5 → ¬ k = 6 → μ'.1 k = μ.1 k) ∧ (∀ j, j < 29 ∨ 32 < j → μ'.1 3 j = μ.1 3 j) ∧ μ'.2 = μ.2
theorem zFw.rf {σ : zSt} : zFw σ σ := ⟨fun _ _ _ _ => rfl, rfl⟩
theorem zFv.rf {μ : zSt} : zFv μ μ := ⟨fun _ _ _ _ => rfl, fun _ _ => rfl, rfl⟩
theorem zFw.tr {a b c : zSt} (h : zFw a b) (k : zFw b c) : zFw a c := ⟨fun i x y z => (k.1 i x y z).trans (h.1 i x y z), k.2.trans h.2⟩
theorem zFv.tr {a b c : zSt} (h : zFv a b) (k : zFv b c) : zFv a c := ⟨fun i x y z => (k.1 i x y z).trans (h.1 i x y z), fun j hj => (k.2.1 j hj).trans (h.2.1 j hj), k.2.2.trans h.2.2⟩
theorem zFw.w {σ : zSt} {k j : Nat} {v : Int32} (c : k = 15 ∨ k = 17 ∨ k = 19) : zFw σ (zsi σ k j v) := ⟨fun i x y z => zsi_ne (by omega), rfl⟩
theorem zFv.w5 {μ : zSt} {k j : Nat} {v : Int32} (c : k = 5 ∨ k = 6) : zFv μ (zsi μ k j v) := ⟨fun i x y z => zsi_ne (by omega), fun j hj => by rw [zsi_ne (by omega)], rfl⟩
theorem zFv.w3 {μ : zSt} {j : Nat} {v : Int32} (c : 29 ≤ j ∧ j ≤ 32) : zFv μ (zsi μ 3 j v) := ⟨fun i x y z => zsi_ne x, fun i hi => zsi_nj (by omega), rfl⟩
/-- cartridge: kept by such writes -/
theorem zMe.cart {σ σ' μ μ' : zSt} (h : zCart σ μ ∧ zFil μ) (a : zFw σ σ') (b : zFv μ μ') : zCart σ' μ' ∧ zFil μ' := by
  have r1 : σ'.1 1 = σ.1 1 := a.1 1 (by decide) (by decide) (by decide)
  have m0 : μ'.1 0 = μ.1 0 := b.1 0 (by decide) (by decide) (by decide)
  have m2 : μ'.1 2 = μ.1 2 := b.1 2 (by decide) (by decide) (by decide)
  refine ⟨h.1.keep (fun j _ => by rw [r1]) (a.1 _ ?_ ?_ ?_) (fun j _ => by rw [m0]) m2, ?_⟩
  · rcases z_tp13 (σ.1 1 1) with e | e <;> rw [e] <;> decide
  · rcases z_tp13 (σ.1 1 1) with e | e <;> rw [e] <;> decide
  · rcases z_tp13 (σ.1 1 1) with e | e <;> rw [e] <;> decide
  · unfold zFil
    rw [m0, m2]
    exact h.2
theorem zMe.ram {σ μ : zSt} (h : zMe σ μ) {i : Nat} {x y : Int32} (e : x = y &&& 255) : zMe (zsi σ 15 i x) (zsi μ 5 i y) := by
  obtain ⟨h1, h2, h3, h4, h5⟩ := h
  refine ⟨fun j hj => ?_, fun j hj => ?_, fun j hj => ?_, ?_, zMe.cart h5 (zFw.w (Or.inl rfl)) (zFv.w5 (Or.inl rfl))⟩
  · by_cases q : j = i
    · rw [q, zsi_ej, zsi_ej]; exact e
    · rw [zsi_nj q, zsi_nj q]; exact h1 j hj
  · rw [zsi_ne (by decide), zsi_ne (by decide)]; exact h2 j hj
  · rw [zsi_ne (by decide), zsi_ne (by decide)]; exact h3 j hj
  · rw [zsi_ne (by decide), zsi_ne (by decide)]; exact h4
theorem zMe.bat {σ μ : zSt} (h : zMe σ μ) {i : Nat} {x y : Int32} (e : x = y &&& 255) : zMe (zsi σ 17 i x) (zsi μ 6 i y) := by
  obtain ⟨h1, h2, h3, h4, h5⟩ := h
  refine ⟨fun j hj => ?_, fun j hj => ?_, fun j hj => ?_, ?_, zMe.cart h5 (zFw.w (Or.inr (Or.inl rfl))) (zFv.w5 (Or.inr rfl))⟩
  · rw [zsi_ne (by decide), zsi_ne (by decide)]; exact h1 j hj
  · by_cases q : j = i
    · rw [q, zsi_ej, zsi_ej]; exact e
    · rw [zsi_nj q, zsi_nj q]; exact h2 j hj
  · rw [zsi_ne (by decide), zsi_ne (by decide)]; exact h3 j hj
  · rw [zsi_ne (by decide), zsi_ne (by decide)]; exact h4
theorem zMe.page {σ μ : zSt} (h : zMe σ μ) {i : Nat} {x : Int32} (hi : i ≤ 3) : zMe (zsi σ 19 i x) (zsi μ 3 (29 + i) x) := by
  obtain ⟨h1, h2, h3, h4, h5⟩ := h
  refine ⟨fun j hj => ?_, fun j hj => ?_, fun j hj => ?_, ?_, zMe.cart h5 (zFw.w (Or.inr (Or.inr rfl))) (zFv.w3 (by omega))⟩
  · rw [zsi_ne (by decide), zsi_ne (by decide)]; exact h1 j hj
  · rw [zsi_ne (by decide), zsi_ne (by decide)]; exact h2 j hj
  · by_cases q : j = i
    · rw [q, zsi_ej, zsi_ej]
    · rw [zsi_nj q, zsi_nj (by omega)]; exact h3 j hj
  · by_cases q : (3 : Nat) = i
    · rw [← q, zsi_ej]
      exact zsi_ej.symm
    · rw [zsi_nj q, zsi_nj (by omega)]; exact h4
noncomputable def zWq (σ μ : zSt) (r r' : zSt) : Prop := zMe r r' ∧ zFw σ r ∧ zFv μ r'
theorem z2_w22 {σ μ : zSt} {v x : Int32} (h : zMe σ μ) (hr : zMr σ μ) (hv : zr 0 65535 v) (hx : zr 0 255 x) : zp2 (fX2_write_22 σ x v) (fX12_write_31 μ v x) (zWq σ μ) := by
  have h' := h
  obtain ⟨hram, hbat, hpg, hk, hc, hf⟩ := h
  have hr' := hr
  obtain ⟨r3, r4, r6, r7, ryp, rpg⟩ := hr
  obtain ⟨d4, d5, d6, d7, db, _⟩ := hc
  have v0 := hv.1
  have v1 := hv.2
  have c2 : (65532 : Int32).toInt = 65532 := rfl
  have c3 : (65533 : Int32).toInt = 65533 := rfl
  have c8 : (32768 : Int32).toInt = 32768 := rfl
  have c9 : (49152 : Int32).toInt = 49152 := rfl
  have c0 : (0 : Int32).toInt = 0 := rfl
  have c6 : (16384 : Int32).toInt = 16384 := rfl
  have stay : zWq σ μ σ μ := ⟨h', zFw.rf, zFv.rf⟩
  have hxx : x = vp_nar .byte (x.toInt8.toInt32) &&& 255 := by
    rw [z_nar, z_i8]
    exact Int32.toInt_inj.mp (by rw [z_mask (k := 8) hx.1 rfl (by decide)]; have := hx.1; have := hx.2; show x.toInt = x.toInt % 256; omega)
  unfold fX2_write_22 fX12_write_31
  rw [show zgi σ 1 6 = μ.1 0 7 from d6]
  refine zp2_bir p_isBat (fun μ5 v6 p => ?_)
  obtain ⟨p1, p2⟩ := p
  have p1 : μ5 = μ := p1
  subst p1
  by_cases z1 : μ5.1 0 7 = 1
  · have n2 : ¬ μ5.1 0 7 = 2 := fun r => by rw [r] at z1; exact absurd z1 (by decide)
    have n3 : ¬ μ5.1 0 7 = 3 := fun r => by rw [r] at z1; exact absurd z1 (by decide)
    have done : ∀ (σ1 μ1 : zSt), zWq σ μ5 σ1 μ1 → zp2 (fX2_write_151 σ1 ) (fX12_write_103 μ1 v x) (zWq σ μ5) := fun σ1 μ1 hq => by
      unfold fX2_write_151 fX12_write_103 fX12_write_140 fX12_write_163
      have m : zgi μ1 0 7 = μ5.1 0 7 := congrFun (hq.2.2.1 0 (by decide) (by decide) (by decide)) 7
      rw [m]
      exact zp2_ifr (fun r => absurd r n2) (fun _ => zp2_ifr (fun r => absurd r n3) (fun _ => zp2_some hq))
    have low : v.toInt < 65532 → ∀ (σ1 μ1 : zSt), zWq σ μ5 σ1 μ1 → zp2 (fX2_write_151 σ1 ) (fX12_write_52 μ1 v x) (zWq σ μ5) := fun hl σ1 μ1 hq => by
      unfold fX12_write_52 fX12_write_75
      have m : zgi μ1 0 7 = μ5.1 0 7 := congrFun (hq.2.2.1 0 (by decide) (by decide) (by decide)) 7
      rw [m]
      refine zp2_ifr (fun _ => zp2_ifr (fun r => ?_) (fun _ => zp2_ifr (fun _ => zp2_ifr (fun _ => done σ1 μ1 hq) (fun r => ?_)) (fun r => absurd z1 r))) (fun r => absurd z1 r)
      · rw [r] at hl; exfalso; omega
      · have := Int32.lt_iff_toInt_lt.mp (z_nle r); exfalso; omega
    refine zp2_ifl (fun _ => zp2_ifl (fun q => ?_) (fun q => ?_)) (fun r => absurd z1 r)
    · have q1 := Int32.lt_iff_toInt_lt.mp q
      refine zp2_ifl (fun a => ?_) (fun a => zp2_ifl (fun b => ?_) (fun b => ?_))
      · have a1 := Int32.lt_iff_toInt_lt.mp a
        have nb : v6 = 0 := by
          rcases p2 with ⟨y, _⟩ | ⟨_, e⟩
          · have := y.2.2.1; exfalso; omega
          · exact e
        exact zp2_ifr (fun _ => low (by omega) σ μ5 stay) (fun r => absurd nb r)
      · have b1 := Int32.le_iff_toInt_le.mp b
        have nb : v6 = 0 := by
          rcases p2 with ⟨y, _⟩ | ⟨_, e⟩
          · have := y.2.2.2; exfalso; omega
          · exact e
        exact zp2_ifr (fun _ => low (by omega) σ μ5 stay) (fun r => absurd nb r)
      · have a1 := Int32.le_iff_toInt_le.mp (z_nlt a)
        have b1 := Int32.lt_iff_toInt_lt.mp (z_nle b)
        refine zp2_bil p_batIn (fun σ4 v5 bb => ?_)
        obtain ⟨s1, s2⟩ := bb
        have s1 : σ4 = σ := s1
        subst s1
        rw [d6, hk] at s2
        rcases p2 with ⟨y, y2⟩ | ⟨y, y2⟩
        · have y2 : v6 = 1 := y2
          have v5e : v5 = 1 := by
            rcases s2 with ⟨_, e⟩ | ⟨n, _⟩
            · exact e
            · exact absurd ⟨y.1, y.2.1⟩ n
          refine zp2_ifl (fun r => absurd (v5e.symm.trans r) (by decide)) (fun _ => zp2_ifr (fun r => absurd (y2.symm.trans r) (by decide)) (fun _ => ?_))
          refine zp2_bii (z2_batAt h' hr' y.2.2.1 y.2.2.2) (fun σ6 w7 μ7 w8 s => ?_)
          obtain ⟨t1, t2, t3, t4⟩ := s
          have t1 : σ6 = σ4 := t1
          have t2 : μ7 = μ5 := t2
          have t3 : w7 = w8 := t3
          subst t1
          subst t2
          subst t3
          refine zp2_ckl (zp2_bvl (fun σ8 e8 => zp2_ckr (zp2_bvr (fun μ9 e9 => ?_))))
          exact low (by omega) σ8 μ9 ⟨by rw [e8, e9]; exact h'.bat hxx, by rw [e8]; exact zFw.w (Or.inr (Or.inl rfl)), by rw [e9]; exact zFv.w5 (Or.inr rfl)⟩
        · have y2 : v6 = 0 := y2
          have v5e : v5 = 0 := by
            rcases s2 with ⟨z, _⟩ | ⟨_, e⟩
            · exact absurd ⟨z.1, z.2, by omega, by omega⟩ y
            · exact e
          exact zp2_ifl (fun _ => zp2_ifr (fun _ => low (by omega) σ4 μ5 stay) (fun r => absurd y2 r)) (fun r => absurd v5e r)
    · have q1 := Int32.le_iff_toInt_le.mp (z_nlt q)
      have nb : v6 = 0 := by
        rcases p2 with ⟨y, _⟩ | ⟨_, e⟩
        · have := y.2.2.2; exfalso; omega
        · exact e
      refine zp2_ifr (fun _ => ?_) (fun r => absurd nb r)
      unfold fX2_write_54 fX12_write_52 fX12_write_75
      rw [show zgi μ5 0 7 = μ5.1 0 7 from rfl]
      refine zp2_ifr (fun _ => ?_) (fun r => absurd z1 r)
      refine zp2_if (fun a => ?_) (fun a => ?_)
      · refine zp2_ckl (zp2_bvl (fun σ1 e1 => zp2_ckr (zp2_bvr (fun μ4 e4 => ?_))))
        have hq : zWq σ μ5 σ1 μ4 := ⟨by rw [e1, e4]; exact h'.page (i := 3) (by decide), by rw [e1]; exact zFw.w (Or.inr (Or.inr rfl)), by rw [e4]; exact zFv.w3 (by decide)⟩
        have m : zgi μ4 0 7 = μ5.1 0 7 := congrFun (hq.2.2.1 0 (by decide) (by decide) (by decide)) 7
        rw [m]
        exact zp2_ifr (fun _ => zp2_ifr (fun _ => done σ1 μ4 hq) (fun r => absurd (by rw [a]; decide) r)) (fun r => absurd z1 r)
      · refine zp2_ifr (fun _ => zp2_ifr (fun r => ?_) (fun _ => ?_)) (fun r => absurd z1 r)
        · have := Int32.le_iff_toInt_le.mp r
          exact absurd (Int32.toInt_inj.mp (by omega)) a
        · have a1 : ¬ v.toInt = 65532 := fun r => a (Int32.toInt_inj.mp (r.trans c2.symm))
          have t1 : (v - 65533).toInt = v.toInt - (65533 : Int32).toInt := z_tsub hv (zr_c (lo := 65533) (hi := 65533) (by decide)) (by decide)
          have t2 : (29 + v).toInt = (29 : Int32).toInt + v.toInt := z_tadd (zr_c (lo := 29) (hi := 29) (by decide)) hv (by decide)
          have t3 : ((29 + v) - 65533).toInt = (29 + v).toInt - (65533 : Int32).toInt := z_tsub (zr_add (lo := 29) (hi := 65564) (zr_c (lo := 29) (hi := 29) (by decide)) hv (by decide)) (zr_c (lo := 65533) (hi := 65533) (by decide)) (by decide)
          have c29 : (29 : Int32).toInt = 29 := rfl
          have k1 := z_clamp (x := v - 65533) (by omega)
          have k3 := z_clamp (x := (29 + v) - 65533) (by omega)
          refine zp2_ckl (zp2_bvl (fun σ1 e1 => zp2_ckr (zp2_bvr (fun μ3 e3 => ?_))))
          rw [show ((29 + v) - 65533).toNatClampNeg = 29 + (v - 65533).toNatClampNeg by omega] at e3
          exact done σ1 μ3 ⟨by rw [e1, e3]; exact h'.page (by omega), by rw [e1]; exact zFw.w (Or.inr (Or.inr rfl)), by rw [e3]; exact zFv.w3 (by omega)⟩
  · have nb : v6 = 0 := by
      rcases p2 with ⟨y, _⟩ | ⟨_, e⟩
      · exact absurd y.1 z1
      · exact e
    refine zp2_ifl (fun r => absurd r z1) (fun _ => zp2_ifr (fun _ => ?_) (fun r => absurd nb r))
    unfold fX12_write_52 fX12_write_75
    rw [show zgi μ5 0 7 = μ5.1 0 7 from rfl]
    refine zp2_ifr (fun r => absurd r z1) (fun _ => zp2_ifr (fun r => absurd r z1) (fun _ => ?_))
    -- paging 3 or none
    have last : ∀ (σ1 μ1 : zSt), ¬ μ5.1 0 7 = 3 → zWq σ μ5 σ1 μ1 → zp2 (fX2_write_151 σ1 ) (fX12_write_140 μ1 v x) (zWq σ μ5) := fun σ1 μ1 n3 hq => by
      unfold fX2_write_151 fX12_write_140 fX12_write_163
      have m : zgi μ1 0 7 = μ5.1 0 7 := congrFun (hq.2.2.1 0 (by decide) (by decide) (by decide)) 7
      rw [m]
      exact zp2_ifr (fun r => absurd r n3) (fun _ => zp2_some hq)
    have both : zp2 (fX2_write_130 σ x v) (fX12_write_140 μ5 v x) (zWq σ μ5) := by
      unfold fX2_write_130 fX2_write_151 fX12_write_140 fX12_write_163
      rw [show zgi σ 1 6 = zgi μ5 0 7 from d6]
      refine zp2_if (fun _ => zp2_if (fun _ => zp2_ckl (zp2_bvl (fun σ1 e1 => zp2_ckr (zp2_bvr (fun μ3 e3 => zp2_some ?_))))) (fun _ => zp2_some stay)) (fun _ => zp2_some stay)
      exact ⟨by rw [e1, e3]; exact h'.page (i := 2) (by decide), by rw [e1]; exact zFw.w (Or.inr (Or.inr rfl)), by rw [e3]; exact zFv.w3 (by decide)⟩
    unfold fX12_write_103
    rw [show zgi μ5 0 7 = μ5.1 0 7 from rfl]
    refine zp2_if (fun z2 => ?_) (fun z2 => both)
    have n3 : ¬ μ5.1 0 7 = 3 := fun r => by rw [r] at z2; exact absurd z2 (by decide)
    -- paging 2: one of three places, or none
    have hit : v.toInt < 49152 → v.toInt % 16384 = 0 → zp2 (fX2_write_117 σ x v) (if 49152 ≤ v then fX12_write_140 μ5 v x else zck (decide (¬ 16384 = 0)) (if (zrem v 16384) = 0 then zck (decide (¬ 16384 = 0)) (zck (zin (29 + (v / 16384)) 1048) (zbv (zsi μ5 3 ((29 + (v / 16384)).toNatClampNeg) x) (fun σ2 => fX12_write_140 σ2 v x))) else fX12_write_140 μ5 v x)) (zWq σ μ5) := fun hl hm => by
      obtain ⟨th, tr, td⟩ := z_third (v := v) ⟨v0, by omega⟩
      have rem := z_trem (y := (16384 : Int32)) 16384 rfl hv (by decide)
      have tr0 := tr.1
      have tr2 := tr.2
      have kt := z_clamp tr0
      have ta : (29 + v / 16384).toInt = (29 : Int32).toInt + (v / 16384).toInt := z_tadd (zr_c (lo := 29) (hi := 29) (by decide)) tr (by decide)
      have c29 : (29 : Int32).toInt = 29 := rfl
      have ka := z_clamp (x := 29 + v / 16384) (by omega)
      unfold fX2_write_117
      rw [th]
      refine zp2_ifr (fun r => ?_) (fun _ => zp2_ckr (zp2_ifr (fun _ => ?_) (fun r => ?_)))
      · have := Int32.le_iff_toInt_le.mp r; exfalso; omega
      · refine zp2_ckl (zp2_bvl (fun σ3 e3 => zp2_ckr (zp2_ckr (zp2_bvr (fun μ2 e2 => ?_)))))
        rw [show (29 + v / 16384).toNatClampNeg = 29 + (v / 16384).toNatClampNeg by omega] at e2
        exact last σ3 μ2 n3 ⟨by rw [e3, e2]; exact h'.page (by omega), by rw [e3]; exact zFw.w (Or.inr (Or.inr rfl)), by rw [e2]; exact zFv.w3 (by omega)⟩
      · exact absurd (Int32.toInt_inj.mp (by rw [rem, hm]; rfl)) r
    have miss : (49152 ≤ v.toInt ∨ ¬ v.toInt % 16384 = 0) → zp2 (fX2_write_130 σ x v) (if 49152 ≤ v then fX12_write_140 μ5 v x else zck (decide (¬ 16384 = 0)) (if (zrem v 16384) = 0 then zck (decide (¬ 16384 = 0)) (zck (zin (29 + (v / 16384)) 1048) (zbv (zsi μ5 3 ((29 + (v / 16384)).toNatClampNeg) x) (fun σ2 => fX12_write_140 σ2 v x))) else fX12_write_140 μ5 v x)) (zWq σ μ5) := fun hm => by
      have rem := z_trem (y := (16384 : Int32)) 16384 rfl hv (by decide)
      refine zp2_ifr (fun _ => both) (fun r => zp2_ckr (zp2_ifr (fun s => ?_) (fun _ => both)))
      have r1 := Int32.lt_iff_toInt_lt.mp (z_nle r)
      rw [s, c0] at rem
      exfalso
      omega
    refine zp2_ifl (fun a => ?_) (fun a => zp2_ifl (fun b => ?_) (fun b => zp2_ifl (fun c => ?_) (fun c => ?_)))
    · exact hit (by rw [a, c0]; decide) (by rw [a, c0]; decide)
    · exact hit (by rw [b, c6]; decide) (by rw [b, c6]; decide)
    · exact hit (by rw [c, c8]; decide) (by rw [c, c8]; decide)
    · refine miss ?_
      have a1 : ¬ v.toInt = 0 := fun r => a (Int32.toInt_inj.mp (r.trans c0.symm))
      have b1 : ¬ v.toInt = 16384 := fun r => b (Int32.toInt_inj.mp (r.trans c6.symm))
      have d1 : ¬ v.toInt = 32768 := fun r => c (Int32.toInt_inj.mp (r.trans c8.symm))
      omega
theorem z2_write {σ μ : zSt} {x y : Int32} (h : zMe σ μ) (hr : zMr σ μ) (hy : zr 0 255 y) : zp2 (fX2_write σ x y) (fX12_write μ x y) (zWq σ μ) := by
  unfold fX2_write fX12_write
  refine zp2_bvl (fun v ev => zp2_bvr (fun w ew => zp2_bvr (fun u eu => ?_)))
  have e : w = v := by rw [ev, ew]
  subst e
  have hv : zr 0 65535 w := by rw [ew]; exact zr_andr (lo := 0) (hi := 65535) (zr_c (lo := 65535) (hi := 65535) (by decide)) (by decide)
  have y0 := hy.1
  have y1 := hy.2
  have eu2 : u = y := by
    rw [eu]
    exact Int32.toInt_inj.mp (by rw [z_mask (k := 8) y0 rfl (by decide)]; show y.toInt % 256 = y.toInt; omega)
  subst eu2
  have v0 := hv.1
  refine zp2_if (fun _ => z2_w22 h hr hv hy) (fun _ => ?_)
  have e8 := z_8 v0
  have tr := z_trem (y := (8192 : Int32)) 8192 rfl hv (by decide)
  have same : w &&& 8191 = zrem w 8192 := Int32.toInt_inj.mp (by rw [e8, tr])
  rw [same]
  refine zp2_ckl (zp2_bvl (fun σ1 e1 => zp2_ckr (zp2_ckr (zp2_bvr (fun μ1 f1 => ?_)))))
  have hxx : u = vp_nar .byte (u.toInt8.toInt32) &&& 255 := by
    rw [z_nar, z_i8]
    exact Int32.toInt_inj.mp (by rw [z_mask (k := 8) y0 rfl (by decide)]; show u.toInt = u.toInt % 256; omega)
  have h1 : zMe σ1 μ1 := by rw [e1, f1]; exact h.ram hxx
  have a1 : zFw σ σ1 := by rw [e1]; exact zFw.w (Or.inl rfl)
  have b1 : zFv μ μ1 := by rw [f1]; exact zFv.w5 (Or.inl rfl)
  have r1 : zMr σ1 μ1 := by
    obtain ⟨r3, r4, r6, r7, ryp, rpg⟩ := hr
    have s1 : σ1.1 1 = σ.1 1 := a1.1 1 (by decide) (by decide) (by decide)
    have m0 : μ1.1 0 = μ.1 0 := b1.1 0 (by decide) (by decide) (by decide)
    have m3 : μ1.1 3 = μ.1 3 := by rw [f1]; exact zsi_ne (by decide)
    unfold zMr
    rw [s1, m0, m3]
    exact ⟨r3, r4, r6, r7, ryp, rpg⟩
  exact zp2_mono (z2_w22 h1 r1 hv hy) (fun _ _ q => ⟨q.1, a1.tr q.2.1, b1.tr q.2.2⟩)
end ZJN28
section ZJN29
/-! the processor of both sides -/
noncomputable def zCp (σ μ : zSt) : Prop := (∀ j : Nat, j ≤ 26 → σ.1 36 j = μ.1 3 j) ∧ σ.1 36 27 = μ.1 3 28 ∧ σ.1 36 28 = μ.1 3 27 ∧ (∀ j : Nat, j < 16 → zr 0 255 (σ.1 36 j)) ∧ (∀ j : Nat, 16 ≤ j → j ≤ 20 → zr 0 65535 (σ.1 36 j)) ∧ (∀ j : Nat, 21 ≤ j → j ≤ 22 → zr 0 255 (σ.1 36 j))
/-- what an instruction leaves as it is -/
noncomputable def zFc (σ σ' : zSt) : Prop := (∀ k, ¬ k = 7 → ¬ k = 15 → ¬ k = 17 → ¬ k = 19 → ¬ k = 36 → σ'.1 k = σ.1 k) ∧ σ'.2 = σ.2
noncomputable def zFm (μ μ' : zSt) : Prop := (∀ k, ¬ k = 0 → ¬ k = 3 → ¬ k = 5 → ¬ k = 6 → μ'.1 k = μ.1 k) ∧ (∀ j, 32 < j → μ'.1 3 j = μ.1 3 j) ∧ (∀ j, j < 31 ∨ 33 < j → μ'.1 0 j = μ.1 0 j) ∧ μ'.2 = μ.2
theorem zFc.rf {σ : zSt} : zFc σ σ := ⟨fun _ _ _ _ _ _ => rfl, rfl⟩
theorem zFm.rf {μ : zSt} : zFm μ μ := ⟨fun _ _ _ _ _ => rfl, fun _ _ => rfl, fun _ _ => rfl, rfl⟩
theorem zFc.tr {a b c : zSt} (h : zFc a b) (k : zFc b c) : zFc a c := ⟨fun i x y z w v => (k.1 i x y z w v).trans (h.1 i x y z w v), k.2.trans h.2⟩
theorem zFm.tr {a b c : zSt} (h : zFm a b) (k : zFm b c) : zFm a c := ⟨fun i x y z w => (k.1 i x y z w).trans (h.1 i x y z w), fun j hj => (k.2.1 j hj).trans (h.2.1 j hj), fun j hj => (k.2.2.1 j hj).trans (h.2.2.1 j hj), k.2.2.2.trans h.2.2.2⟩
theorem zFw.c {a b : zSt} (h : zFw a b) : zFc a b := ⟨fun k x y z w v => h.1 k y z w, h.2⟩
theorem zFv.m {a b : zSt} (h : zFv a b) : zFm a b := ⟨fun k x y z w => h.1 k y z w, fun j hj => h.2.1 j (Or.inr hj), fun j _ => by rw [h.1 0 (by decide) (by decide) (by decide)], h.2.2⟩
/-- both sides within an instruction that began at σ0, μ0 -/
noncomputable def zS (σ0 μ0 σ μ : zSt) : Prop := zMe σ μ ∧ zCp σ μ ∧ zMr σ μ ∧ zFc σ0 σ ∧ zFm μ0 μ
section ZS
variable {σ0 μ0 σ μ : zSt}
theorem zS.eq (h : zS σ0 μ0 σ μ) {j : Nat} (hj : j ≤ 26) : σ.1 36 j = μ.1 3 j := h.2.1.1 j hj
theorem zS.b (h : zS σ0 μ0 σ μ) {j : Nat} (hj : j < 16) : zr 0 255 (σ.1 36 j) := h.2.1.2.2.2.1 j hj
theorem zS.w (h : zS σ0 μ0 σ μ) {j : Nat} (h1 : 16 ≤ j) (h2 : j ≤ 20) : zr 0 65535 (σ.1 36 j) := h.2.1.2.2.2.2.1 j h1 h2
theorem zMe.cpu {v w : Int32} {j i : Nat} (h : zMe σ μ) (hi : i ≤ 28) : zMe (zsi σ 36 j v) (zsi μ 3 i w) := by
  obtain ⟨h1, h2, h3, h4, h5, h6⟩ := h
  refine ⟨fun a ha => ?_, fun a ha => ?_, fun a ha => ?_, ?_, ?_, ?_⟩
  · rw [zsi_ne (by decide), zsi_ne (by decide)]; exact h1 a ha
  · rw [zsi_ne (by decide), zsi_ne (by decide)]; exact h2 a ha
  · rw [zsi_ne (by decide), zsi_nj (by omega)]; exact h3 a ha
  · rw [zsi_ne (by decide), zsi_nj (by omega)]; exact h4
  · exact h5.keep (fun a _ => by rw [zsi_ne (by decide)]) (zsi_ne (fun e => by rcases z_tp13 (σ.1 1 1) with q | q <;> rw [q] at e <;> exact absurd e (by decide))) (fun a _ => by rw [zsi_ne (by decide)]) (zsi_ne (by decide))
  · unfold zFil
    rw [zsi_ne (by decide), zsi_ne (by decide)]
    exact h6
theorem zMr.cpu {v w : Int32} {j i : Nat} (h : zMr σ μ) (hi : i ≤ 28) : zMr (zsi σ 36 j v) (zsi μ 3 i w) := by
  obtain ⟨h1, h2, h3, h4, h5, h6⟩ := h
  refine ⟨by rw [zsi_ne (by decide)]; exact h1, by rw [zsi_ne (by decide)]; exact h2, by rw [zsi_ne (by decide)]; exact h3, by rw [zsi_ne (by decide)]; exact h4, by rw [zsi_ne (by decide)]; exact h5, fun a x y => by rw [zsi_nj (by omega)]; exact h6 a x y⟩
/-- a register on both sides -/
theorem zS.set (h : zS σ0 μ0 σ μ) {j : Nat} {v : Int32} (hj : j ≤ 26) (hb : j < 16 → zr 0 255 v) (hw : 16 ≤ j → j ≤ 20 → zr 0 65535 v) (hr : 21 ≤ j → j ≤ 22 → zr 0 255 v) : zS σ0 μ0 (zsi σ 36 j v) (zsi μ 3 j v) := by
  obtain ⟨h1, ⟨c1, c2, c3, c4, c5, c6⟩, h3, h4, h5⟩ := h
  refine ⟨h1.cpu (by omega), ⟨fun a ha => ?_, ?_, ?_, fun a ha => ?_, fun a x y => ?_, fun a x y => ?_⟩, h3.cpu (by omega), h4.tr ⟨fun k _ _ _ _ n => zsi_ne n, rfl⟩, h5.tr ⟨fun k _ n _ _ => zsi_ne n, fun a ha => zsi_nj (by omega), fun a _ => by rw [zsi_ne (by decide)], rfl⟩⟩
  · by_cases q : a = j
    · rw [q, zsi_ej, zsi_ej]
    · rw [zsi_nj q, zsi_nj q]; exact c1 a ha
  · rw [zsi_nj (by omega), zsi_nj (by omega)]; exact c2
  · rw [zsi_nj (by omega), zsi_nj (by omega)]; exact c3
  · by_cases q : a = j
    · rw [q, zsi_ej]; exact hb (by omega)
    · rw [zsi_nj q]; exact c4 a ha
  · by_cases q : a = j
    · rw [q, zsi_ej]; exact hw (by omega) (by omega)
    · rw [zsi_nj q]; exact c5 a x y
  · by_cases q : a = j
    · rw [q, zsi_ej]; exact hr (by omega) (by omega)
    · rw [zsi_nj q]; exact c6 a x y
theorem zp2_andr {α β : Type} {o : Option α} {p : Option β} {Q : α → β → Prop} {P : β → Prop} (h : zp2 o p Q) (k : zpc p P) : zp2 o p (fun a b => Q a b ∧ P b) := fun a b e f => ⟨h a b e f, k b f⟩
theorem p_readr {μ : zSt} {x : Int32} : zpc (fX12_read μ x) (fun r => zr 0 255 r.2) := by
  unfold fX12_read fX12_read_80 fX12_read_111 fX12_read_138
  have ofB : ∀ (ν : zSt) (b v : Int32), zpc (zbi (fX12_ofBank ν b v) (fun σ1 v2 => some (σ1, v2))) (fun r => zr 0 255 r.2) := fun ν b v => zpc_bi (P := fun r => zr 0 255 r.2) (by unfold fX12_ofBank; exact zpc_ck (zpc_ck (zpc_ck (zpc_some (z_byte _))))) (fun σ1 v2 h => zpc_some h)
  exact zpc_bv (fun v _ => zpc_if (fun _ => zpc_bi (P := fun _ => True) (fun _ _ => trivial) (fun μ6 v7 _ => zpc_if (fun _ => zpc_if (fun _ => zpc_if (fun _ => zpc_some (show zr 0 255 (255 : Int32) from zr_c (by decide))) (fun _ => zpc_ck (zpc_some (z_byte _)))) (fun _ => zpc_if (fun _ => zpc_if (fun _ => zpc_ck (ofB _ _ _)) (fun _ => zpc_ck (ofB _ _ _))) (fun _ => zpc_if (fun _ => zpc_if (fun _ => zpc_ck (zpc_ck (ofB _ _ _))) (fun _ => ofB _ _ _)) (fun _ => zpc_ck (zpc_ck (ofB _ _ _)))))) (fun _ => zpc_bi (P := fun _ => True) (fun _ _ => trivial) (fun _ _ _ => zpc_ck (zpc_some (z_byte _)))))) (fun _ => zpc_ck (zpc_ck (zpc_some (z_byte _)))))
theorem zS.read (h : zS σ0 μ0 σ μ) {x y : Int32} (e : y = x) : zp2 (fX2_read σ x) (fX12_read μ y) (fun r r' => r.1 = σ ∧ r'.1 = μ ∧ r'.2 = r.2 ∧ zr 0 255 r.2) := by
  subst e
  exact zp2_mono (zp2_andr (z2_read h.1 h.2.2.1) p_readr) (fun a b q => ⟨q.1.1, q.1.2.1, q.1.2.2.symm, by rw [q.1.2.2]; exact q.2⟩)
theorem zMr.of (h : zMr σ μ) {σ' μ' : zSt} (a : zFw σ σ') (b : zFv μ μ') (pg : ∀ j : Nat, 29 ≤ j → j ≤ 32 → zr 0 255 (μ'.1 3 j)) : zMr σ' μ' := by
  obtain ⟨h1, h2, h3, h4, h5, h6⟩ := h
  have s1 : σ'.1 1 = σ.1 1 := a.1 1 (by decide) (by decide) (by decide)
  have m0 : μ'.1 0 = μ.1 0 := b.1 0 (by decide) (by decide) (by decide)
  unfold zMr
  rw [s1, m0]
  exact ⟨h1, h2, h3, h4, h5, pg⟩
/-- pages keep their range behind a write -/
theorem p_writer {μ : zSt} {x y : Int32} (h : ∀ j : Nat, 29 ≤ j → j ≤ 32 → zr 0 255 (μ.1 3 j)) : zpc (fX12_write μ x y) (fun r => ∀ j : Nat, 29 ≤ j → j ≤ 32 → zr 0 255 (r.1 3 j)) := by
  have w3 : ∀ (ν : zSt) (i : Nat) (v : Int32), (∀ j : Nat, 29 ≤ j → j ≤ 32 → zr 0 255 (ν.1 3 j)) → zr 0 255 v → ∀ j : Nat, 29 ≤ j → j ≤ 32 → zr 0 255 ((zsi ν 3 i v).1 3 j) := fun ν i v hn hv j j1 j2 => by
    by_cases q : j = i
    · rw [q, zsi_ej]; exact hv
    · rw [zsi_nj q]; exact hn j j1 j2
  have w5 : ∀ (ν : zSt) (k i : Nat) (v : Int32), ¬ 3 = k → (∀ j : Nat, 29 ≤ j → j ≤ 32 → zr 0 255 (ν.1 3 j)) → ∀ j : Nat, 29 ≤ j → j ≤ 32 → zr 0 255 ((zsi ν k i v).1 3 j) := fun ν k i v hk hn j j1 j2 => by
    rw [zsi_ne hk]; exact hn j j1 j2
  unfold fX12_write
  refine zpc_bv (fun v _ => zpc_bv (fun w ew => ?_))
  have hw : zr 0 255 w := by rw [ew]; exact z_byte _
  have a140 : ∀ ν : zSt, (∀ j : Nat, 29 ≤ j → j ≤ 32 → zr 0 255 (ν.1 3 j)) → zpc (fX12_write_140 ν v w) (fun r => ∀ j : Nat, 29 ≤ j → j ≤ 32 → zr 0 255 (r.1 3 j)) := fun ν hn => by
    unfold fX12_write_140 fX12_write_163
    exact zpc_if (fun _ => zpc_if (fun _ => zpc_ck (zpc_bv (fun ν1 e1 => zpc_some (by rw [e1]; exact w3 _ _ _ hn hw)))) (fun _ => zpc_some hn)) (fun _ => zpc_some hn)
  have a103 : ∀ ν : zSt, (∀ j : Nat, 29 ≤ j → j ≤ 32 → zr 0 255 (ν.1 3 j)) → zpc (fX12_write_103 ν v w) (fun r => ∀ j : Nat, 29 ≤ j → j ≤ 32 → zr 0 255 (r.1 3 j)) := fun ν hn => by
    unfold fX12_write_103
    exact zpc_if (fun _ => zpc_if (fun _ => a140 _ hn) (fun _ => zpc_ck (zpc_if (fun _ => zpc_ck (zpc_ck (zpc_bv (fun ν1 e1 => a140 _ (by rw [e1]; exact w3 _ _ _ hn hw))))) (fun _ => a140 _ hn)))) (fun _ => a140 _ hn)
  have a75 : ∀ ν : zSt, (∀ j : Nat, 29 ≤ j → j ≤ 32 → zr 0 255 (ν.1 3 j)) → zpc (fX12_write_75 ν v w) (fun r => ∀ j : Nat, 29 ≤ j → j ≤ 32 → zr 0 255 (r.1 3 j)) := fun ν hn => by
    unfold fX12_write_75
    exact zpc_if (fun _ => zpc_if (fun _ => a103 _ hn) (fun _ => zpc_ck (zpc_bv (fun ν1 e1 => a103 _ (by rw [e1]; exact w3 _ _ _ hn hw))))) (fun _ => a103 _ hn)
  have a52 : ∀ ν : zSt, (∀ j : Nat, 29 ≤ j → j ≤ 32 → zr 0 255 (ν.1 3 j)) → zpc (fX12_write_52 ν v w) (fun r => ∀ j : Nat, 29 ≤ j → j ≤ 32 → zr 0 255 (r.1 3 j)) := fun ν hn => by
    unfold fX12_write_52
    exact zpc_if (fun _ => zpc_if (fun _ => zpc_ck (zpc_bv (fun ν1 e1 => a75 _ (by rw [e1]; exact w3 _ _ _ hn hw)))) (fun _ => a75 _ hn)) (fun _ => a75 _ hn)
  have a31 : ∀ ν : zSt, (∀ j : Nat, 29 ≤ j → j ≤ 32 → zr 0 255 (ν.1 3 j)) → zpc (fX12_write_31 ν v w) (fun r => ∀ j : Nat, 29 ≤ j → j ≤ 32 → zr 0 255 (r.1 3 j)) := fun ν hn => by
    unfold fX12_write_31
    refine zpc_bi p_isBat (fun ν5 v6 p => ?_)
    have p1 : ν5 = ν := p.1
    subst p1
    refine zpc_if (fun _ => a52 _ hn) (fun _ => zpc_bi (P := fun r => r.1 = ν5) (by unfold fX12_batteryAt fX12_batteryAt_23; exact zpc_ck (zpc_if (fun _ => zpc_some rfl) (fun _ => zpc_some rfl))) (fun ν7 v8 e7 => zpc_ck (zpc_bv (fun ν9 e9 => a52 _ ?_))))
    have e7 : ν7 = ν5 := e7
    rw [e9, e7]
    exact w5 _ _ _ _ (by decide) hn
  exact zpc_if (fun _ => a31 _ h) (fun _ => zpc_ck (zpc_ck (zpc_bv (fun ν1 e1 => a31 _ (by rw [e1]; exact w5 _ _ _ _ (by decide) h)))))
theorem zS.write (h : zS σ0 μ0 σ μ) {x y v w : Int32} (e : y = x) (f : w = v) (hv : zr 0 255 v) : zp2 (fX2_write σ x v) (fX12_write μ y w) (fun r r' => zS σ0 μ0 r r' ∧ zFw σ r ∧ zFv μ r') := by
  subst e
  subst f
  obtain ⟨h1, h2, h3, h4, h5⟩ := h
  refine zp2_mono (zp2_andr (z2_write h1 h3 hv) (p_writer h3.2.2.2.2.2)) (fun r r' q => ?_)
  obtain ⟨⟨q1, q2, q3⟩, q4⟩ := q
  have s36 : r.1 36 = σ.1 36 := q2.1 36 (by decide) (by decide) (by decide)
  have m3 : ∀ j : Nat, j ≤ 28 → r'.1 3 j = μ.1 3 j := fun j hj => q3.2.1 j (Or.inl (by omega))
  refine ⟨⟨q1, ?_, h3.of q2 q3 q4, h4.tr q2.c, h5.tr q3.m⟩, q2, q3⟩
  obtain ⟨c1, c2, c3, c4, c5, c6⟩ := h2
  unfold zCp
  rw [s36]
  exact ⟨fun j hj => (c1 j hj).trans (m3 j (by omega)).symm, c2.trans (m3 28 (by decide)).symm, c3.trans (m3 27 (by decide)).symm, c4, c5, c6⟩
theorem zsi_comm {ν : zSt} {k i j : Nat} {v w : Int32} (h : ¬ i = j) : zsi (zsi ν k i v) k j w = zsi (zsi ν k j w) k i v := by
  refine Prod.ext (funext fun a => funext fun b => ?_) rfl
  rw [zsi_at, zsi_at, zsi_at, zsi_at]
  by_cases q1 : a = k ∧ b = j
  · rw [if_pos q1, if_neg (fun r => h (r.2.symm.trans q1.2)), if_pos q1]
  · rw [if_neg q1, if_neg q1]
end ZS
end ZJN29
section ZJN30
/-! frames, cell by cell -/
noncomputable def zcv (R : List Nat) (A : List (Nat × Nat × Nat)) (k j : Nat) : Bool := R.any (Nat.beq k) || A.any (fun e => Nat.beq e.1 k && (Nat.ble e.2.1 j && Nat.ble j e.2.2))
noncomputable def zQ (R : List Nat) (A : List (Nat × Nat × Nat)) (S : List Nat) (B : List (Nat × Nat × Nat)) (σ0 σ : zSt) : Prop := (∀ k j, zcv R A k j = false → σ.1 k j = σ0.1 k j) ∧ (∀ k j, zcv S B k j = false → σ.2 k j = σ0.2 k j)
section ZQ
variable {R S : List Nat} {A B : List (Nat × Nat × Nat)} {σ0 σ σ1 : zSt}
theorem zQ.rf : zQ R A S B σ σ := ⟨fun _ _ _ => rfl, fun _ _ _ => rfl⟩
theorem zQ.tr (h : zQ R A S B σ0 σ) (k : zQ R A S B σ σ1) : zQ R A S B σ0 σ1 := ⟨fun i j c => (k.1 i j c).trans (h.1 i j c), fun i j c => (k.2 i j c).trans (h.2 i j c)⟩
theorem zQ.wi (h : zQ R A S B σ0 σ) {k j : Nat} {v : Int32} (c : zcv R A k j = true) : zQ R A S B σ0 (zsi σ k j v) := by
  refine ⟨fun i l q => ?_, h.2⟩
  rw [zsi_off (fun r => by rw [r.1, r.2, c] at q; exact absurd q (by decide))]
  exact h.1 i l q
theorem zQ.wr (h : zQ R A S B σ0 σ) {k a b : Nat} {lo hi : Int} {x v : Int32} (hx : zr lo hi x) (m : A.any (fun e => Nat.beq e.1 k && (Nat.beq e.2.1 a && Nat.beq e.2.2 b)) = true) (c : (a : Int) ≤ lo ∧ hi ≤ (b : Int)) : zQ R A S B σ0 (zsi σ k x.toNatClampNeg v) := by
  refine h.wi ?_
  have h1 := hx.1
  have h2 := hx.2
  have kx := z_clamp (x := x) (by omega)
  unfold zcv
  rw [Bool.or_eq_true]
  right
  rw [List.any_eq_true] at m ⊢
  obtain ⟨e, e1, e2⟩ := m
  rw [Bool.and_eq_true, Bool.and_eq_true] at e2
  refine ⟨e, e1, ?_⟩
  rw [Bool.and_eq_true, Bool.and_eq_true]
  have a1 : e.2.1 = a := Nat.eq_of_beq_eq_true e2.2.1
  have b1 : e.2.2 = b := Nat.eq_of_beq_eq_true e2.2.2
  exact ⟨e2.1, Nat.ble_eq.mpr (by omega), Nat.ble_eq.mpr (by omega)⟩
theorem zr_ge {x c : Int32} {a b k : Int} (h : zr a b x) (hc : c.toInt = k) (q : c ≤ x) : zr k b x := ⟨by have := Int32.le_iff_toInt_le.mp q; omega, h.2⟩
theorem zr_nge {x c : Int32} {a b k m : Int} (h : zr a b x) (hc : c.toInt = k) (q : ¬ c ≤ x) (hm : k - 1 = m) : zr a m x := ⟨h.1, by have := Int32.lt_iff_toInt_lt.mp (z_nle q); omega⟩
theorem zsl_off {k j k1 j1 : Nat} {v : Int64} (h : ¬ (k1 = k ∧ j1 = j)) : (zsl σ k j v).2 k1 j1 = σ.2 k1 j1 := by
  show (bif Nat.beq k1 k then vp_updL (σ.2 k1) j v else σ.2 k1) j1 = _
  cases q : Nat.beq k1 k with
  | false => rfl
  | true =>
    show (if j1 = j then v else σ.2 k1 j1) = _
    rw [if_neg (fun r => h ⟨Nat.eq_of_beq_eq_true q, r⟩)]
theorem zQ.wl (h : zQ R A S B σ0 σ) {k j : Nat} {v : Int64} (c : zcv S B k j = true) : zQ R A S B σ0 (zsl σ k j v) := by
  refine ⟨h.1, fun i l q => ?_⟩
  rw [zsl_off (fun r => by rw [r.1, r.2, c] at q; exact absurd q (by decide))]
  exact h.2 i l q
end ZQ
end ZJN30
section ZJN31

end ZJN31
section ZJN32
theorem fD_fX12_bit {σ0 : zSt} {σ : zSt} {x1 : Int32} {x2 : Int32} (h : (zQ [22, 23, 24, 25, 9] [(3, 62, 62)] [] []) σ0 σ) : zpc (fX12_bit σ x1 x2) (fun r => (zQ [22, 23, 24, 25, 9] [(3, 62, 62)] [] []) σ0 (r.1)) := by
  unfold fX12_bit
  exact zpc_ck (zpc_some h)
theorem fD_fX12_mode_57 {σ0 : zSt} {σ : zSt} {s0 : Int32} (h : (zQ [22, 23, 24, 25, 9] [(3, 62, 62)] [] []) σ0 σ) : zpc (fX12_mode_57 σ s0) (fun r => (zQ [22, 23, 24, 25, 9] [(3, 62, 62)] [] []) σ0 (r.1)) := by
  unfold fX12_mode_57
  exact zpc_some h
theorem fD_fX12_mode {σ0 : zSt} {σ : zSt} (h : (zQ [22, 23, 24, 25, 9] [(3, 62, 62)] [] []) σ0 σ) : zpc (fX12_mode σ) (fun r => (zQ [22, 23, 24, 25, 9] [(3, 62, 62)] [] []) σ0 (r.1)) := by
  unfold fX12_mode
  exact zpc_bi (fD_fX12_bit h) (fun σ1 v2 hσ1 => zpc_if (fun _ => fD_fX12_mode_57 hσ1) (fun _ => zpc_bi (fD_fX12_bit hσ1) (fun σ3 v4 hσ3 => zpc_if (fun _ => fD_fX12_mode_57 hσ3) (fun _ => zpc_bi (fD_fX12_bit hσ3) (fun σ5 v6 hσ5 => zpc_if (fun _ => fD_fX12_mode_57 hσ5) (fun _ => zpc_bi (fD_fX12_bit hσ5) (fun σ7 v8 hσ7 => zpc_if (fun _ => fD_fX12_mode_57 hσ7) (fun _ => fD_fX12_mode_57 hσ7))))))))
theorem fD_fX12_height_32 {σ0 : zSt} {σ : zSt} (h : (zQ [22, 23, 24, 25, 9] [(3, 62, 62)] [] []) σ0 σ) : zpc (fX12_height_32 σ) (fun r => (zQ [22, 23, 24, 25, 9] [(3, 62, 62)] [] []) σ0 (r.1)) := by
  unfold fX12_height_32
  exact zpc_some h
theorem fD_fX12_height_55 {σ0 : zSt} {σ : zSt} {s0 : Int32} (h : (zQ [22, 23, 24, 25, 9] [(3, 62, 62)] [] []) σ0 σ) : zpc (fX12_height_55 σ s0) (fun r => (zQ [22, 23, 24, 25, 9] [(3, 62, 62)] [] []) σ0 (r.1)) := by
  unfold fX12_height_55
  exact zpc_some h
theorem fD_fX12_height {σ0 : zSt} {σ : zSt} (h : (zQ [22, 23, 24, 25, 9] [(3, 62, 62)] [] []) σ0 σ) : zpc (fX12_height σ) (fun r => (zQ [22, 23, 24, 25, 9] [(3, 62, 62)] [] []) σ0 (r.1)) := by
  unfold fX12_height
  exact zpc_bi (fD_fX12_mode h) (fun σ1 v2 hσ1 => zpc_if (fun _ => zpc_bi (fD_fX12_bit hσ1) (fun σ3 v4 hσ3 => zpc_if (fun _ => fD_fX12_height_32 hσ3) (fun _ => zpc_bi (fD_fX12_bit hσ3) (fun σ5 v6 hσ5 => zpc_bi (fD_fX12_bit hσ5) (fun σ7 v8 hσ7 => zpc_if (fun _ => fD_fX12_height_32 hσ7) (fun _ => zpc_bi (fD_fX12_bit hσ7) (fun σ9 v10 hσ9 => zpc_if (fun _ => fD_fX12_height_55 hσ9) (fun _ => fD_fX12_height_55 hσ9)))))))) (fun _ => fD_fX12_height_32 hσ1))
theorem fD_fX12_video8 {σ0 : zSt} {σ : zSt} {x1 : Int32} (h : (zQ [22, 23, 24, 25, 9] [(3, 62, 62)] [] []) σ0 σ) : zpc (fX12_video8 σ x1) (fun r => (zQ [22, 23, 24, 25, 9] [(3, 62, 62)] [] []) σ0 (r.1)) := by
  unfold fX12_video8
  exact zpc_ck (zpc_some h)
theorem fD_fX12_reg {σ0 : zSt} {σ : zSt} {x1 : Int32} (h : (zQ [22, 23, 24, 25, 9] [(3, 62, 62)] [] []) σ0 σ) : zpc (fX12_reg σ x1) (fun r => (zQ [22, 23, 24, 25, 9] [(3, 62, 62)] [] []) σ0 (r.1)) := by
  unfold fX12_reg
  exact zpc_ck (zpc_some h)
theorem fD_fX12_tileDot_6_body {σ0 : zSt} {k6 : zSt → Int32 → Int32 → Int32 → Int32 → Int32 → Option (zSt × Int32)} (hk6 : ∀ (y0 : zSt) (y1 : Int32) (y2 : Int32) (y3 : Int32) (y4 : Int32) (y5 : Int32), (zQ [22, 23, 24, 25, 9] [(3, 62, 62)] [] []) σ0 y0 → zpc (k6 y0 y1 y2 y3 y4 y5) (fun r => (zQ [22, 23, 24, 25, 9] [(3, 62, 62)] [] []) σ0 (r.1))) {σ : zSt} {x1 : Int32} {x2 : Int32} {x3 : Int32} {x4 : Int32} {x5 : Int32} (h : (zQ [22, 23, 24, 25, 9] [(3, 62, 62)] [] []) σ0 σ) : zpc (fX12_tileDot_6_body k6 σ x1 x2 x3 x4 x5) (fun r => (zQ [22, 23, 24, 25, 9] [(3, 62, 62)] [] []) σ0 (r.1)) := by
  unfold fX12_tileDot_6_body
  exact zpc_if (fun _ => zpc_some h) (fun _ => zpc_bi (fD_fX12_video8 h) (fun σ1 v2 hσ1 => zpc_bv (fun v3 _ => zpc_bv (fun v4 _ => hk6 _ _ _ _ _ _ hσ1))))
theorem fD_fX12_tileDot_6 {σ0 : zSt} : ∀ (n : Nat) (y0 : zSt) (y1 : Int32) (y2 : Int32) (y3 : Int32) (y4 : Int32) (y5 : Int32), (zQ [22, 23, 24, 25, 9] [(3, 62, 62)] [] []) σ0 y0 → zpc (fX12_tileDot_6 n y0 y1 y2 y3 y4 y5) (fun r => (zQ [22, 23, 24, 25, 9] [(3, 62, 62)] [] []) σ0 (r.1)) := by
  intro n
  induction n with
  | zero => intro y0 y1 y2 y3 y4 y5 h; exact zpc_none
  | succ n ih => intro y0 y1 y2 y3 y4 y5 h; exact fD_fX12_tileDot_6_body ih h
theorem fD_fX12_tileDot {σ0 : zSt} {σ : zSt} {x1 : Int32} {x2 : Int32} {x3 : Int32} (h : (zQ [22, 23, 24, 25, 9] [(3, 62, 62)] [] []) σ0 σ) : zpc (fX12_tileDot σ x1 x2 x3) (fun r => (zQ [22, 23, 24, 25, 9] [(3, 62, 62)] [] []) σ0 (r.1)) := by
  unfold fX12_tileDot
  exact fD_fX12_tileDot_6 _ _ _ _ _ _ _ h
theorem fD_fX12_tile_302 {σ0 : zSt} {σ : zSt} {s0 : Int32} {s1 : Int32} (h : (zQ [22, 23, 24, 25, 9] [(3, 62, 62)] [] []) σ0 σ) : zpc (fX12_tile_302 σ s0 s1) (fun r => (zQ [22, 23, 24, 25, 9] [(3, 62, 62)] [] []) σ0 (r)) := by
  unfold fX12_tile_302
  exact zpc_ck (zpc_bs (zQ.wi h rfl) (fun σ1 hσ1 => zpc_some hσ1))
theorem fD_fX12_tile_301 {σ0 : zSt} {σ : zSt} {s0 : Int32} (h : (zQ [22, 23, 24, 25, 9] [(3, 62, 62)] [] []) σ0 σ) : zpc (fX12_tile_301 σ s0) (fun r => (zQ [22, 23, 24, 25, 9] [(3, 62, 62)] [] []) σ0 (r)) := by
  unfold fX12_tile_301
  exact fD_fX12_tile_302 h
theorem fD_fX12_tile_276 {σ0 : zSt} {σ : zSt} {x2 : Int32} {x9 : Int32} {x12 : Int32} {s0 : Int32} {s1 : Int32} {s2 : Int32} (h : (zQ [22, 23, 24, 25, 9] [(3, 62, 62)] [] []) σ0 σ) : zpc (fX12_tile_276 σ x2 x9 x12 s0 s1 s2) (fun r => (zQ [22, 23, 24, 25, 9] [(3, 62, 62)] [] []) σ0 (r)) := by
  unfold fX12_tile_276
  exact zpc_ck (zpc_bs (zQ.wi h rfl) (fun σ2 hσ2 => zpc_if (fun _ => fD_fX12_tile_301 hσ2) (fun _ => zpc_if (fun _ => fD_fX12_tile_301 hσ2) (fun _ => fD_fX12_tile_302 hσ2))))
theorem fD_fX12_tile_236 {σ0 : zSt} {σ : zSt} {x2 : Int32} {x9 : Int32} {x10 : Int32} {s0 : Int32} (h : (zQ [22, 23, 24, 25, 9] [(3, 62, 62)] [] []) σ0 σ) : zpc (fX12_tile_236 σ x2 x9 x10 s0) (fun r => (zQ [22, 23, 24, 25, 9] [(3, 62, 62)] [] []) σ0 (r)) := by
  unfold fX12_tile_236
  exact zpc_bi (fD_fX12_tileDot h) (fun σ3 v4 hσ3 => zpc_if (fun _ => fD_fX12_tile_276 hσ3) (fun _ => fD_fX12_tile_276 hσ3))
theorem fD_fX12_tile_209 {σ0 : zSt} {σ : zSt} {x2 : Int32} {x7 : Int32} {x9 : Int32} {s0 : Int32} (h : (zQ [22, 23, 24, 25, 9] [(3, 62, 62)] [] []) σ0 σ) : zpc (fX12_tile_209 σ x2 x7 x9 s0) (fun r => (zQ [22, 23, 24, 25, 9] [(3, 62, 62)] [] []) σ0 (r)) := by
  unfold fX12_tile_209
  exact zpc_if (fun _ => zpc_ck (fD_fX12_tile_236 h)) (fun _ => zpc_ck (fD_fX12_tile_236 h))
theorem fD_fX12_tile_141 {σ0 : zSt} {σ : zSt} {x2 : Int32} {x4 : Int32} {x6 : Int32} {s0 : Int32} (h : (zQ [22, 23, 24, 25, 9] [(3, 62, 62)] [] []) σ0 σ) : zpc (fX12_tile_141 σ x2 x4 x6 s0) (fun r => (zQ [22, 23, 24, 25, 9] [(3, 62, 62)] [] []) σ0 (r)) := by
  unfold fX12_tile_141
  exact zpc_ck (zpc_ck (zpc_bv (fun v5 _ => zpc_bi (fD_fX12_video8 h) (fun σ6 v7 hσ6 => zpc_bi (fD_fX12_video8 hσ6) (fun σ8 v9 hσ8 => zpc_bv (fun v10 _ => zpc_if (fun _ => zpc_ck (fD_fX12_tile_209 hσ8)) (fun _ => zpc_ck (fD_fX12_tile_209 hσ8))))))))
theorem fD_fX12_tile_140 {σ0 : zSt} {σ : zSt} {x2 : Int32} {x4 : Int32} {x6 : Int32} {s0 : Int32} {s1 : Int32} (h : (zQ [22, 23, 24, 25, 9] [(3, 62, 62)] [] []) σ0 σ) : zpc (fX12_tile_140 σ x2 x4 x6 s0 s1) (fun r => (zQ [22, 23, 24, 25, 9] [(3, 62, 62)] [] []) σ0 (r)) := by
  unfold fX12_tile_140
  exact zpc_ck (fD_fX12_tile_141 h)
theorem fD_fX12_tile_118 {σ0 : zSt} {σ : zSt} {x1 : Int32} {x2 : Int32} {x3 : Int32} {x4 : Int32} {x6 : Int32} (h : (zQ [22, 23, 24, 25, 9] [(3, 62, 62)] [] []) σ0 σ) : zpc (fX12_tile_118 σ x1 x2 x3 x4 x6) (fun r => (zQ [22, 23, 24, 25, 9] [(3, 62, 62)] [] []) σ0 (r)) := by
  unfold fX12_tile_118
  exact zpc_ck (zpc_if (fun _ => fD_fX12_tile_140 h) (fun _ => fD_fX12_tile_140 h))
theorem fD_fX12_tile_84 {σ0 : zSt} {σ : zSt} {x1 : Int32} {x2 : Int32} {x3 : Int32} {x4 : Int32} {s0 : Int32} (h : (zQ [22, 23, 24, 25, 9] [(3, 62, 62)] [] []) σ0 σ) : zpc (fX12_tile_84 σ x1 x2 x3 x4 s0) (fun r => (zQ [22, 23, 24, 25, 9] [(3, 62, 62)] [] []) σ0 (r)) := by
  unfold fX12_tile_84
  exact zpc_bv (fun v11 _ => zpc_if (fun _ => fD_fX12_tile_118 h) (fun _ => zpc_bi (fD_fX12_bit h) (fun σ12 v13 hσ12 => zpc_if (fun _ => fD_fX12_tile_141 hσ12) (fun _ => fD_fX12_tile_118 hσ12))))
theorem fD_fX12_tile_78 {σ0 : zSt} {σ : zSt} {x1 : Int32} {x2 : Int32} {x3 : Int32} {x4 : Int32} (h : (zQ [22, 23, 24, 25, 9] [(3, 62, 62)] [] []) σ0 σ) : zpc (fX12_tile_78 σ x1 x2 x3 x4) (fun r => (zQ [22, 23, 24, 25, 9] [(3, 62, 62)] [] []) σ0 (r)) := by
  unfold fX12_tile_78
  exact zpc_bi (fD_fX12_reg h) (fun σ14 v15 hσ14 => fD_fX12_tile_84 hσ14)
theorem fD_fX12_tile_55 {σ0 : zSt} {σ : zSt} {x1 : Int32} {x2 : Int32} {x3 : Int32} {s0 : Int32} (h : (zQ [22, 23, 24, 25, 9] [(3, 62, 62)] [] []) σ0 σ) : zpc (fX12_tile_55 σ x1 x2 x3 s0) (fun r => (zQ [22, 23, 24, 25, 9] [(3, 62, 62)] [] []) σ0 (r)) := by
  unfold fX12_tile_55
  exact zpc_if (fun _ => fD_fX12_tile_78 h) (fun _ => zpc_bi (fD_fX12_bit h) (fun σ16 v17 hσ16 => zpc_if (fun _ => fD_fX12_tile_84 hσ16) (fun _ => fD_fX12_tile_78 hσ16)))
theorem fD_fX12_tile_15 {σ0 : zSt} {σ : zSt} {x1 : Int32} {x2 : Int32} {s0 : Int32} (h : (zQ [22, 23, 24, 25, 9] [(3, 62, 62)] [] []) σ0 σ) : zpc (fX12_tile_15 σ x1 x2 s0) (fun r => (zQ [22, 23, 24, 25, 9] [(3, 62, 62)] [] []) σ0 (r)) := by
  unfold fX12_tile_15
  exact zpc_if (fun _ => zpc_bi (fD_fX12_reg h) (fun σ18 v19 hσ18 => zpc_ck (zpc_ck (fD_fX12_tile_55 hσ18)))) (fun _ => zpc_bi (fD_fX12_reg h) (fun σ20 v21 hσ20 => zpc_ck (fD_fX12_tile_55 hσ20)))
theorem fD_fX12_tile {σ0 : zSt} {σ : zSt} {x1 : Int32} {x2 : Int32} (h : (zQ [22, 23, 24, 25, 9] [(3, 62, 62)] [] []) σ0 σ) : zpc (fX12_tile σ x1 x2) (fun r => (zQ [22, 23, 24, 25, 9] [(3, 62, 62)] [] []) σ0 (r)) := by
  unfold fX12_tile
  exact zpc_bi (fD_fX12_height h) (fun σ22 v23 hσ22 => zpc_if (fun _ => fD_fX12_tile_15 hσ22) (fun _ => fD_fX12_tile_15 hσ22))
theorem fD_fX12_sprites_349 {σ0 : zSt} {k73 : zSt → Int32 → Int32 → Int32 → Int32 → Int32 → Int32 → Int32 → Option (zSt)} (hk73 : ∀ (y0 : zSt) (y1 : Int32) (y2 : Int32) (y3 : Int32) (y4 : Int32) (y5 : Int32) (y6 : Int32) (y7 : Int32), (zQ [22, 23, 24, 25, 9] [(3, 62, 62)] [] []) σ0 y0 → zpc (k73 y0 y1 y2 y3 y4 y5 y6 y7) (fun r => (zQ [22, 23, 24, 25, 9] [(3, 62, 62)] [] []) σ0 (r))) {σ : zSt} {x1 : Int32} {x2 : Int32} {x3 : Int32} {x4 : Int32} {x5 : Int32} {x6 : Int32} {x7 : Int32} (h : (zQ [22, 23, 24, 25, 9] [(3, 62, 62)] [] []) σ0 σ) : zpc (fX12_sprites_349 k73 σ x1 x2 x3 x4 x5 x6 x7) (fun r => (zQ [22, 23, 24, 25, 9] [(3, 62, 62)] [] []) σ0 (r)) := by
  unfold fX12_sprites_349
  exact zpc_bv (fun v1 _ => hk73 _ _ _ _ _ _ _ _ h)
theorem fD_fX12_sprites_343 {σ0 : zSt} {k73 : zSt → Int32 → Int32 → Int32 → Int32 → Int32 → Int32 → Int32 → Option (zSt)} (hk73 : ∀ (y0 : zSt) (y1 : Int32) (y2 : Int32) (y3 : Int32) (y4 : Int32) (y5 : Int32) (y6 : Int32) (y7 : Int32), (zQ [22, 23, 24, 25, 9] [(3, 62, 62)] [] []) σ0 y0 → zpc (k73 y0 y1 y2 y3 y4 y5 y6 y7) (fun r => (zQ [22, 23, 24, 25, 9] [(3, 62, 62)] [] []) σ0 (r))) {k250 : zSt → Int32 → Int32 → Int32 → Int32 → Int32 → Int32 → Int32 → Int32 → Int32 → Int32 → Int32 → Option (zSt)} (hk250 : ∀ (y0 : zSt) (y1 : Int32) (y2 : Int32) (y3 : Int32) (y4 : Int32) (y5 : Int32) (y6 : Int32) (y7 : Int32) (y8 : Int32) (y9 : Int32) (y10 : Int32) (y11 : Int32), (zQ [22, 23, 24, 25, 9] [(3, 62, 62)] [] []) σ0 y0 → zpc (k250 y0 y1 y2 y3 y4 y5 y6 y7 y8 y9 y10 y11) (fun r => (zQ [22, 23, 24, 25, 9] [(3, 62, 62)] [] []) σ0 (r))) {σ : zSt} {x1 : Int32} {x2 : Int32} {x3 : Int32} {x4 : Int32} {x5 : Int32} {x6 : Int32} {x7 : Int32} {x9 : Int32} {x10 : Int32} {x11 : Int32} {x12 : Int32} (h : (zQ [22, 23, 24, 25, 9] [(3, 62, 62)] [] []) σ0 σ) : zpc (fX12_sprites_343 k73 k250 σ x1 x2 x3 x4 x5 x6 x7 x9 x10 x11 x12) (fun r => (zQ [22, 23, 24, 25, 9] [(3, 62, 62)] [] []) σ0 (r)) := by
  unfold fX12_sprites_343
  exact zpc_bv (fun v2 _ => hk250 _ _ _ _ _ _ _ _ _ _ _ _ h)
theorem fD_fX12_sprites_250_body {σ0 : zSt} {k73 : zSt → Int32 → Int32 → Int32 → Int32 → Int32 → Int32 → Int32 → Option (zSt)} (hk73 : ∀ (y0 : zSt) (y1 : Int32) (y2 : Int32) (y3 : Int32) (y4 : Int32) (y5 : Int32) (y6 : Int32) (y7 : Int32), (zQ [22, 23, 24, 25, 9] [(3, 62, 62)] [] []) σ0 y0 → zpc (k73 y0 y1 y2 y3 y4 y5 y6 y7) (fun r => (zQ [22, 23, 24, 25, 9] [(3, 62, 62)] [] []) σ0 (r))) {k250 : zSt → Int32 → Int32 → Int32 → Int32 → Int32 → Int32 → Int32 → Int32 → Int32 → Int32 → Int32 → Option (zSt)} (hk250 : ∀ (y0 : zSt) (y1 : Int32) (y2 : Int32) (y3 : Int32) (y4 : Int32) (y5 : Int32) (y6 : Int32) (y7 : Int32) (y8 : Int32) (y9 : Int32) (y10 : Int32) (y11 : Int32), (zQ [22, 23, 24, 25, 9] [(3, 62, 62)] [] []) σ0 y0 → zpc (k250 y0 y1 y2 y3 y4 y5 y6 y7 y8 y9 y10 y11) (fun r => (zQ [22, 23, 24, 25, 9] [(3, 62, 62)] [] []) σ0 (r))) {σ : zSt} {x1 : Int32} {x2 : Int32} {x3 : Int32} {x4 : Int32} {x5 : Int32} {x6 : Int32} {x7 : Int32} {x9 : Int32} {x10 : Int32} {x11 : Int32} {x12 : Int32} (h : (zQ [22, 23, 24, 25, 9] [(3, 62, 62)] [] []) σ0 σ) : zpc (fX12_sprites_250_body k73 k250 σ x1 x2 x3 x4 x5 x6 x7 x9 x10 x11 x12) (fun r => (zQ [22, 23, 24, 25, 9] [(3, 62, 62)] [] []) σ0 (r)) := by
  unfold fX12_sprites_250_body
  exact zpc_if (fun _ => fD_fX12_sprites_349 hk73 h) (fun _ => zpc_ck (zpc_ck (zpc_ck (zpc_bi (fD_fX12_tileDot h) (fun σ3 v4 hσ3 => zpc_bv (fun v5 _ => zpc_if (fun _ => fD_fX12_sprites_343 hk73 hk250 hσ3) (fun _ => zpc_if (fun _ => fD_fX12_sprites_343 hk73 hk250 hσ3) (fun _ => zpc_if (fun _ => zpc_ck (zpc_if (fun _ => zpc_ck (zpc_bs (zQ.wi hσ3 rfl) (fun σ6 hσ6 => fD_fX12_sprites_343 hk73 hk250 hσ6))) (fun _ => zpc_ck (zpc_ck (zpc_bs (zQ.wi hσ3 rfl) (fun σ7 hσ7 => fD_fX12_sprites_343 hk73 hk250 hσ7)))))) (fun _ => fD_fX12_sprites_343 hk73 hk250 hσ3)))))))))
theorem fD_fX12_sprites_250 {σ0 : zSt} {k73 : zSt → Int32 → Int32 → Int32 → Int32 → Int32 → Int32 → Int32 → Option (zSt)} (hk73 : ∀ (y0 : zSt) (y1 : Int32) (y2 : Int32) (y3 : Int32) (y4 : Int32) (y5 : Int32) (y6 : Int32) (y7 : Int32), (zQ [22, 23, 24, 25, 9] [(3, 62, 62)] [] []) σ0 y0 → zpc (k73 y0 y1 y2 y3 y4 y5 y6 y7) (fun r => (zQ [22, 23, 24, 25, 9] [(3, 62, 62)] [] []) σ0 (r))) : ∀ (n : Nat) (y0 : zSt) (y1 : Int32) (y2 : Int32) (y3 : Int32) (y4 : Int32) (y5 : Int32) (y6 : Int32) (y7 : Int32) (y8 : Int32) (y9 : Int32) (y10 : Int32) (y11 : Int32), (zQ [22, 23, 24, 25, 9] [(3, 62, 62)] [] []) σ0 y0 → zpc (fX12_sprites_250 k73 n y0 y1 y2 y3 y4 y5 y6 y7 y8 y9 y10 y11) (fun r => (zQ [22, 23, 24, 25, 9] [(3, 62, 62)] [] []) σ0 (r)) := by
  intro n
  induction n with
  | zero => intro y0 y1 y2 y3 y4 y5 y6 y7 y8 y9 y10 y11 h; exact zpc_none
  | succ n ih => intro y0 y1 y2 y3 y4 y5 y6 y7 y8 y9 y10 y11 h; exact fD_fX12_sprites_250_body hk73 ih h
theorem fD_fX12_sprites_244 {σ0 : zSt} {k73 : zSt → Int32 → Int32 → Int32 → Int32 → Int32 → Int32 → Int32 → Option (zSt)} (hk73 : ∀ (y0 : zSt) (y1 : Int32) (y2 : Int32) (y3 : Int32) (y4 : Int32) (y5 : Int32) (y6 : Int32) (y7 : Int32), (zQ [22, 23, 24, 25, 9] [(3, 62, 62)] [] []) σ0 y0 → zpc (k73 y0 y1 y2 y3 y4 y5 y6 y7) (fun r => (zQ [22, 23, 24, 25, 9] [(3, 62, 62)] [] []) σ0 (r))) {σ : zSt} {x1 : Int32} {x2 : Int32} {x3 : Int32} {x4 : Int32} {x5 : Int32} {x6 : Int32} {x7 : Int32} {x9 : Int32} {x10 : Int32} {s0 : Int32} {s1 : Int32} (h : (zQ [22, 23, 24, 25, 9] [(3, 62, 62)] [] []) σ0 σ) : zpc (fX12_sprites_244 k73 σ x1 x2 x3 x4 x5 x6 x7 x9 x10 s0 s1) (fun r => (zQ [22, 23, 24, 25, 9] [(3, 62, 62)] [] []) σ0 (r)) := by
  unfold fX12_sprites_244
  exact zpc_bv (fun v8 _ => fD_fX12_sprites_250 hk73 _ _ _ _ _ _ _ _ _ _ _ _ _ h)
theorem fD_fX12_sprites_212 {σ0 : zSt} {k73 : zSt → Int32 → Int32 → Int32 → Int32 → Int32 → Int32 → Int32 → Option (zSt)} (hk73 : ∀ (y0 : zSt) (y1 : Int32) (y2 : Int32) (y3 : Int32) (y4 : Int32) (y5 : Int32) (y6 : Int32) (y7 : Int32), (zQ [22, 23, 24, 25, 9] [(3, 62, 62)] [] []) σ0 y0 → zpc (k73 y0 y1 y2 y3 y4 y5 y6 y7) (fun r => (zQ [22, 23, 24, 25, 9] [(3, 62, 62)] [] []) σ0 (r))) {σ : zSt} {x1 : Int32} {x2 : Int32} {x3 : Int32} {x4 : Int32} {x5 : Int32} {x6 : Int32} {x7 : Int32} {x9 : Int32} {s0 : Int32} (h : (zQ [22, 23, 24, 25, 9] [(3, 62, 62)] [] []) σ0 σ) : zpc (fX12_sprites_212 k73 σ x1 x2 x3 x4 x5 x6 x7 x9 s0) (fun r => (zQ [22, 23, 24, 25, 9] [(3, 62, 62)] [] []) σ0 (r)) := by
  unfold fX12_sprites_212
  exact zpc_bi (fD_fX12_video8 h) (fun σ9 v10 hσ9 => zpc_bi (fD_fX12_bit hσ9) (fun σ11 v12 hσ11 => zpc_if (fun _ => fD_fX12_sprites_244 hk73 hσ11) (fun _ => fD_fX12_sprites_244 hk73 hσ11)))
theorem fD_fX12_sprites_183 {σ0 : zSt} {k73 : zSt → Int32 → Int32 → Int32 → Int32 → Int32 → Int32 → Int32 → Option (zSt)} (hk73 : ∀ (y0 : zSt) (y1 : Int32) (y2 : Int32) (y3 : Int32) (y4 : Int32) (y5 : Int32) (y6 : Int32) (y7 : Int32), (zQ [22, 23, 24, 25, 9] [(3, 62, 62)] [] []) σ0 y0 → zpc (k73 y0 y1 y2 y3 y4 y5 y6 y7) (fun r => (zQ [22, 23, 24, 25, 9] [(3, 62, 62)] [] []) σ0 (r))) {σ : zSt} {x1 : Int32} {x2 : Int32} {x3 : Int32} {x4 : Int32} {x5 : Int32} {x6 : Int32} {x7 : Int32} {x9 : Int32} {s0 : Int32} {s1 : Int32} (h : (zQ [22, 23, 24, 25, 9] [(3, 62, 62)] [] []) σ0 σ) : zpc (fX12_sprites_183 k73 σ x1 x2 x3 x4 x5 x6 x7 x9 s0 s1) (fun r => (zQ [22, 23, 24, 25, 9] [(3, 62, 62)] [] []) σ0 (r)) := by
  unfold fX12_sprites_183
  exact zpc_bv (fun v13 _ => zpc_if (fun _ => zpc_ck (zpc_ck (fD_fX12_sprites_212 hk73 h))) (fun _ => fD_fX12_sprites_212 hk73 h))
theorem fD_fX12_sprites_104 {σ0 : zSt} {k73 : zSt → Int32 → Int32 → Int32 → Int32 → Int32 → Int32 → Int32 → Option (zSt)} (hk73 : ∀ (y0 : zSt) (y1 : Int32) (y2 : Int32) (y3 : Int32) (y4 : Int32) (y5 : Int32) (y6 : Int32) (y7 : Int32), (zQ [22, 23, 24, 25, 9] [(3, 62, 62)] [] []) σ0 y0 → zpc (k73 y0 y1 y2 y3 y4 y5 y6 y7) (fun r => (zQ [22, 23, 24, 25, 9] [(3, 62, 62)] [] []) σ0 (r))) {σ : zSt} {x1 : Int32} {x2 : Int32} {x3 : Int32} {x4 : Int32} {x5 : Int32} {x6 : Int32} {x7 : Int32} {x8 : Int32} (h : (zQ [22, 23, 24, 25, 9] [(3, 62, 62)] [] []) σ0 σ) : zpc (fX12_sprites_104 k73 σ x1 x2 x3 x4 x5 x6 x7 x8) (fun r => (zQ [22, 23, 24, 25, 9] [(3, 62, 62)] [] []) σ0 (r)) := by
  unfold fX12_sprites_104
  exact zpc_bv (fun v14 _ => zpc_if (fun _ => zpc_if (fun _ => zpc_ck (zpc_ck (zpc_bs (zQ.wi h rfl) (fun σ20 hσ20 => zpc_some hσ20)))) (fun _ => zpc_bv (fun v15 _ => zpc_bi (fD_fX12_video8 h) (fun σ16 v17 hσ16 => zpc_bi (fD_fX12_bit hσ16) (fun σ18 v19 hσ18 => zpc_if (fun _ => fD_fX12_sprites_183 hk73 hσ18) (fun _ => fD_fX12_sprites_183 hk73 hσ18)))))) (fun _ => fD_fX12_sprites_349 hk73 h))
theorem fD_fX12_sprites_73_body {σ0 : zSt} {k73 : zSt → Int32 → Int32 → Int32 → Int32 → Int32 → Int32 → Int32 → Option (zSt)} (hk73 : ∀ (y0 : zSt) (y1 : Int32) (y2 : Int32) (y3 : Int32) (y4 : Int32) (y5 : Int32) (y6 : Int32) (y7 : Int32), (zQ [22, 23, 24, 25, 9] [(3, 62, 62)] [] []) σ0 y0 → zpc (k73 y0 y1 y2 y3 y4 y5 y6 y7) (fun r => (zQ [22, 23, 24, 25, 9] [(3, 62, 62)] [] []) σ0 (r))) {σ : zSt} {x1 : Int32} {x2 : Int32} {x3 : Int32} {x4 : Int32} {x5 : Int32} {x6 : Int32} {x7 : Int32} (h : (zQ [22, 23, 24, 25, 9] [(3, 62, 62)] [] []) σ0 σ) : zpc (fX12_sprites_73_body k73 σ x1 x2 x3 x4 x5 x6 x7) (fun r => (zQ [22, 23, 24, 25, 9] [(3, 62, 62)] [] []) σ0 (r)) := by
  unfold fX12_sprites_73_body
  exact zpc_if (fun _ => zpc_some h) (fun _ => zpc_bi (fD_fX12_video8 h) (fun σ21 v22 hσ21 => zpc_if (fun _ => fD_fX12_sprites_104 hk73 hσ21) (fun _ => zpc_if (fun _ => zpc_some hσ21) (fun _ => fD_fX12_sprites_104 hk73 hσ21))))
theorem fD_fX12_sprites_73 {σ0 : zSt} : ∀ (n : Nat) (y0 : zSt) (y1 : Int32) (y2 : Int32) (y3 : Int32) (y4 : Int32) (y5 : Int32) (y6 : Int32) (y7 : Int32), (zQ [22, 23, 24, 25, 9] [(3, 62, 62)] [] []) σ0 y0 → zpc (fX12_sprites_73 n y0 y1 y2 y3 y4 y5 y6 y7) (fun r => (zQ [22, 23, 24, 25, 9] [(3, 62, 62)] [] []) σ0 (r)) := by
  intro n
  induction n with
  | zero => intro y0 y1 y2 y3 y4 y5 y6 y7 h; exact zpc_none
  | succ n ih => intro y0 y1 y2 y3 y4 y5 y6 y7 h; exact fD_fX12_sprites_73_body ih h
theorem fD_fX12_sprites_68 {σ0 : zSt} {σ : zSt} {x1 : Int32} {x2 : Int32} {x3 : Int32} {x4 : Int32} {x5 : Int32} {s0 : Int32} (h : (zQ [22, 23, 24, 25, 9] [(3, 62, 62)] [] []) σ0 σ) : zpc (fX12_sprites_68 σ x1 x2 x3 x4 x5 s0) (fun r => (zQ [22, 23, 24, 25, 9] [(3, 62, 62)] [] []) σ0 (r)) := by
  unfold fX12_sprites_68
  exact fD_fX12_sprites_73 _ _ _ _ _ _ _ _ _ h
theorem fD_fX12_sprites_48 {σ0 : zSt} {σ : zSt} {x1 : Int32} {x2 : Int32} {x3 : Int32} {s0 : Int32} (h : (zQ [22, 23, 24, 25, 9] [(3, 62, 62)] [] []) σ0 σ) : zpc (fX12_sprites_48 σ x1 x2 x3 s0) (fun r => (zQ [22, 23, 24, 25, 9] [(3, 62, 62)] [] []) σ0 (r)) := by
  unfold fX12_sprites_48
  exact zpc_bi (fD_fX12_height h) (fun σ23 v24 hσ23 => zpc_if (fun _ => fD_fX12_sprites_68 hσ23) (fun _ => fD_fX12_sprites_68 hσ23))
theorem fD_fX12_sprites_30 {σ0 : zSt} {σ : zSt} {x1 : Int32} {x2 : Int32} {s0 : Int32} (h : (zQ [22, 23, 24, 25, 9] [(3, 62, 62)] [] []) σ0 σ) : zpc (fX12_sprites_30 σ x1 x2 s0) (fun r => (zQ [22, 23, 24, 25, 9] [(3, 62, 62)] [] []) σ0 (r)) := by
  unfold fX12_sprites_30
  exact zpc_bi (fD_fX12_bit h) (fun σ25 v26 hσ25 => zpc_if (fun _ => fD_fX12_sprites_48 hσ25) (fun _ => fD_fX12_sprites_48 hσ25))
theorem fD_fX12_sprites {σ0 : zSt} {σ : zSt} {x1 : Int32} (h : (zQ [22, 23, 24, 25, 9] [(3, 62, 62)] [] []) σ0 σ) : zpc (fX12_sprites σ x1) (fun r => (zQ [22, 23, 24, 25, 9] [(3, 62, 62)] [] []) σ0 (r)) := by
  unfold fX12_sprites
  exact zpc_bi (fD_fX12_reg h) (fun σ27 v28 hσ27 => zpc_ck (zpc_ck (zpc_bv (fun v29 _ => zpc_bi (fD_fX12_bit hσ27) (fun σ30 v31 hσ30 => zpc_if (fun _ => fD_fX12_sprites_30 hσ30) (fun _ => fD_fX12_sprites_30 hσ30))))))
theorem fD_fX12_colour_62 {σ0 : zSt} {σ : zSt} {s0 : Int32} (h : (zQ [22, 23, 24, 25, 9] [(3, 62, 62)] [] []) σ0 σ) : zpc (fX12_colour_62 σ s0) (fun r => (zQ [22, 23, 24, 25, 9] [(3, 62, 62)] [] []) σ0 (r.1)) := by
  unfold fX12_colour_62
  exact zpc_some h
theorem fD_fX12_colour_252 {σ0 : zSt} {σ : zSt} {s0 : Int32} (h : (zQ [22, 23, 24, 25, 9] [(3, 62, 62)] [] []) σ0 σ) : zpc (fX12_colour_252 σ s0) (fun r => (zQ [22, 23, 24, 25, 9] [(3, 62, 62)] [] []) σ0 (r.1)) := by
  unfold fX12_colour_252
  exact zpc_some h
theorem fD_fX12_colour_217 {σ0 : zSt} {σ : zSt} {x2 : Int32} (h : (zQ [22, 23, 24, 25, 9] [(3, 62, 62)] [] []) σ0 σ) : zpc (fX12_colour_217 σ x2) (fun r => (zQ [22, 23, 24, 25, 9] [(3, 62, 62)] [] []) σ0 (r.1)) := by
  unfold fX12_colour_217
  exact zpc_if (fun _ => zpc_ck (zpc_ck (zpc_ck (zpc_ck (fD_fX12_colour_252 h))))) (fun _ => fD_fX12_colour_252 h)
theorem fD_fX12_colour {σ0 : zSt} {σ : zSt} {x1 : Int32} (h : (zQ [22, 23, 24, 25, 9] [(3, 62, 62)] [] []) σ0 σ) : zpc (fX12_colour σ x1) (fun r => (zQ [22, 23, 24, 25, 9] [(3, 62, 62)] [] []) σ0 (r.1)) := by
  unfold fX12_colour
  exact zpc_bi (fD_fX12_mode h) (fun σ1 v2 hσ1 => zpc_if (fun _ => zpc_if (fun _ => zpc_ck (zpc_ck (zpc_ck (fD_fX12_colour_62 hσ1)))) (fun _ => zpc_ck (fD_fX12_colour_62 hσ1))) (fun _ => zpc_if (fun _ => fD_fX12_colour_217 hσ1) (fun _ => zpc_if (fun _ => fD_fX12_colour_217 hσ1) (fun _ => zpc_if (fun _ => fD_fX12_colour_217 hσ1) (fun _ => zpc_if (fun _ => fD_fX12_colour_217 hσ1) (fun _ => zpc_if (fun _ => fD_fX12_colour_217 hσ1) (fun _ => zpc_if (fun _ => fD_fX12_colour_217 hσ1) (fun _ => zpc_if (fun _ => fD_fX12_colour_217 hσ1) (fun _ => zpc_if (fun _ => fD_fX12_colour_217 hσ1) (fun _ => zpc_if (fun _ => fD_fX12_colour_217 hσ1) (fun _ => zpc_if (fun _ => fD_fX12_colour_217 hσ1) (fun _ => zpc_if (fun _ => fD_fX12_colour_217 hσ1) (fun _ => zpc_if (fun _ => fD_fX12_colour_217 hσ1) (fun _ => zpc_if (fun _ => fD_fX12_colour_217 hσ1) (fun _ => zpc_if (fun _ => fD_fX12_colour_217 hσ1) (fun _ => fD_fX12_colour_217 hσ1))))))))))))))))
theorem fD_fX12_old_48 {σ0 : zSt} {σ : zSt} (h : (zQ [22, 23, 24, 25, 9] [(3, 62, 62)] [] []) σ0 σ) : zpc (fX12_old_48 σ) (fun r => (zQ [22, 23, 24, 25, 9] [(3, 62, 62)] [] []) σ0 (r.1)) := by
  unfold fX12_old_48
  exact zpc_some h
theorem fD_fX12_old_131 {σ0 : zSt} {σ : zSt} {s0 : Int32} (h : (zQ [22, 23, 24, 25, 9] [(3, 62, 62)] [] []) σ0 σ) : zpc (fX12_old_131 σ s0) (fun r => (zQ [22, 23, 24, 25, 9] [(3, 62, 62)] [] []) σ0 (r.1)) := by
  unfold fX12_old_131
  exact zpc_some h
theorem fD_fX12_old_209 {σ0 : zSt} {σ : zSt} {s0 : Int32} (h : (zQ [22, 23, 24, 25, 9] [(3, 62, 62)] [] []) σ0 σ) : zpc (fX12_old_209 σ s0) (fun r => (zQ [22, 23, 24, 25, 9] [(3, 62, 62)] [] []) σ0 (r.1)) := by
  unfold fX12_old_209
  exact zpc_some h
theorem fD_fX12_old_395 {σ0 : zSt} {σ : zSt} {s0 : Int32} (h : (zQ [22, 23, 24, 25, 9] [(3, 62, 62)] [] []) σ0 σ) : zpc (fX12_old_395 σ s0) (fun r => (zQ [22, 23, 24, 25, 9] [(3, 62, 62)] [] []) σ0 (r.1)) := by
  unfold fX12_old_395
  exact zpc_some h
theorem fD_fX12_old_367 {σ0 : zSt} {σ : zSt} {x2 : Int32} {x6 : Int32} {x7 : Int32} (h : (zQ [22, 23, 24, 25, 9] [(3, 62, 62)] [] []) σ0 σ) : zpc (fX12_old_367 σ x2 x6 x7) (fun r => (zQ [22, 23, 24, 25, 9] [(3, 62, 62)] [] []) σ0 (r.1)) := by
  unfold fX12_old_367
  exact zpc_ck (zpc_if (fun _ => fD_fX12_old_395 h) (fun _ => fD_fX12_old_395 h))
theorem fD_fX12_old {σ0 : zSt} {σ : zSt} {x1 : Int32} {x2 : Int32} (h : (zQ [22, 23, 24, 25, 9] [(3, 62, 62)] [] []) σ0 σ) : zpc (fX12_old σ x1 x2) (fun r => (zQ [22, 23, 24, 25, 9] [(3, 62, 62)] [] []) σ0 (r.1)) := by
  unfold fX12_old
  exact zpc_bi (fD_fX12_reg h) (fun σ1 v2 hσ1 => zpc_ck (zpc_bv (fun v3 _ => zpc_bi (fD_fX12_reg hσ1) (fun σ4 v5 hσ4 => zpc_ck (zpc_bv (fun v6 _ => zpc_bi (fD_fX12_mode hσ4) (fun σ7 v8 hσ7 => zpc_if (fun _ => zpc_if (fun _ => fD_fX12_old_48 hσ7) (fun _ => zpc_if (fun _ => zpc_ck (zpc_ck (zpc_bi (fD_fX12_video8 hσ7) (fun σ38 v39 hσ38 => zpc_ck (zpc_bi (fD_fX12_video8 hσ38) (fun σ40 v41 hσ40 => zpc_ck (zpc_bv (fun v42 _ => zpc_if (fun _ => zpc_bi (fD_fX12_reg hσ40) (fun σ45 v46 hσ45 => fD_fX12_old_131 hσ45)) (fun _ => zpc_bi (fD_fX12_reg hσ40) (fun σ43 v44 hσ43 => fD_fX12_old_131 hσ43)))))))))) (fun _ => fD_fX12_old_48 hσ7))) (fun _ => zpc_ck (zpc_ck (zpc_bi (fD_fX12_video8 hσ7) (fun σ9 v10 hσ9 => zpc_bi (fD_fX12_mode hσ9) (fun σ11 v12 hσ11 => zpc_if (fun _ => zpc_ck (zpc_ck (zpc_ck (zpc_ck (zpc_bi (fD_fX12_video8 hσ11) (fun σ36 v37 hσ36 => zpc_ck (zpc_if (fun _ => fD_fX12_old_209 hσ36) (fun _ => fD_fX12_old_209 hσ36)))))))) (fun _ => zpc_bi (fD_fX12_mode hσ11) (fun σ13 v14 hσ13 => zpc_if (fun _ => zpc_ck (zpc_bi (fD_fX12_video8 hσ13) (fun σ30 v31 hσ30 => zpc_bi (fD_fX12_reg hσ30) (fun σ32 v33 hσ32 => zpc_ck (zpc_bi (fD_fX12_video8 hσ32) (fun σ34 v35 hσ34 => fD_fX12_old_367 hσ34)))))) (fun _ => zpc_ck (zpc_bv (fun v15 _ => zpc_bi (fD_fX12_reg hσ13) (fun σ16 v17 hσ16 => zpc_ck (zpc_bv (fun v18 _ => zpc_bi (fD_fX12_reg hσ16) (fun σ19 v20 hσ19 => zpc_ck (zpc_bv (fun v21 _ => zpc_bi (fD_fX12_bit hσ19) (fun σ22 v23 hσ22 => zpc_ck (zpc_bi (fD_fX12_video8 hσ22) (fun σ24 v25 hσ24 => zpc_bi (fD_fX12_bit hσ24) (fun σ26 v27 hσ26 => zpc_ck (zpc_bi (fD_fX12_video8 hσ26) (fun σ28 v29 hσ28 => fD_fX12_old_367 hσ28)))))))))))))))))))))))))))))
theorem fD_fX12_oldSprites_388 {σ0 : zSt} {k40 : zSt → Int32 → Int32 → Int32 → Int32 → Int32 → Option (zSt)} (hk40 : ∀ (y0 : zSt) (y1 : Int32) (y2 : Int32) (y3 : Int32) (y4 : Int32) (y5 : Int32), (zQ [22, 23, 24, 25, 9] [(3, 62, 62)] [] []) σ0 y0 → zpc (k40 y0 y1 y2 y3 y4 y5) (fun r => (zQ [22, 23, 24, 25, 9] [(3, 62, 62)] [] []) σ0 (r))) {σ : zSt} {x1 : Int32} {x2 : Int32} {x3 : Int32} {x4 : Int32} {x5 : Int32} (h : (zQ [22, 23, 24, 25, 9] [(3, 62, 62)] [] []) σ0 σ) : zpc (fX12_oldSprites_388 k40 σ x1 x2 x3 x4 x5) (fun r => (zQ [22, 23, 24, 25, 9] [(3, 62, 62)] [] []) σ0 (r)) := by
  unfold fX12_oldSprites_388
  exact zpc_bv (fun v1 _ => hk40 _ _ _ _ _ _ h)
theorem fD_fX12_oldSprites_150 {σ0 : zSt} {σ : zSt} (h : (zQ [22, 23, 24, 25, 9] [(3, 62, 62)] [] []) σ0 σ) : zpc (fX12_oldSprites_150 σ) (fun r => (zQ [22, 23, 24, 25, 9] [(3, 62, 62)] [] []) σ0 (r)) := by
  unfold fX12_oldSprites_150
  exact zpc_some h
theorem fD_fX12_oldSprites_382 {σ0 : zSt} {k40 : zSt → Int32 → Int32 → Int32 → Int32 → Int32 → Option (zSt)} (hk40 : ∀ (y0 : zSt) (y1 : Int32) (y2 : Int32) (y3 : Int32) (y4 : Int32) (y5 : Int32), (zQ [22, 23, 24, 25, 9] [(3, 62, 62)] [] []) σ0 y0 → zpc (k40 y0 y1 y2 y3 y4 y5) (fun r => (zQ [22, 23, 24, 25, 9] [(3, 62, 62)] [] []) σ0 (r))) {k231 : zSt → Int32 → Int32 → Int32 → Int32 → Int32 → Int32 → Int32 → Int32 → Int32 → Int32 → Option (zSt)} (hk231 : ∀ (y0 : zSt) (y1 : Int32) (y2 : Int32) (y3 : Int32) (y4 : Int32) (y5 : Int32) (y6 : Int32) (y7 : Int32) (y8 : Int32) (y9 : Int32) (y10 : Int32), (zQ [22, 23, 24, 25, 9] [(3, 62, 62)] [] []) σ0 y0 → zpc (k231 y0 y1 y2 y3 y4 y5 y6 y7 y8 y9 y10) (fun r => (zQ [22, 23, 24, 25, 9] [(3, 62, 62)] [] []) σ0 (r))) {σ : zSt} {x1 : Int32} {x2 : Int32} {x3 : Int32} {x4 : Int32} {x5 : Int32} {x8 : Int32} {x9 : Int32} {x10 : Int32} {x11 : Int32} {x12 : Int32} (h : (zQ [22, 23, 24, 25, 9] [(3, 62, 62)] [] []) σ0 σ) : zpc (fX12_oldSprites_382 k40 k231 σ x1 x2 x3 x4 x5 x8 x9 x10 x11 x12) (fun r => (zQ [22, 23, 24, 25, 9] [(3, 62, 62)] [] []) σ0 (r)) := by
  unfold fX12_oldSprites_382
  exact zpc_bv (fun v2 _ => hk231 _ _ _ _ _ _ _ _ _ _ _ h)
theorem fD_fX12_oldSprites_350 {σ0 : zSt} {k40 : zSt → Int32 → Int32 → Int32 → Int32 → Int32 → Option (zSt)} (hk40 : ∀ (y0 : zSt) (y1 : Int32) (y2 : Int32) (y3 : Int32) (y4 : Int32) (y5 : Int32), (zQ [22, 23, 24, 25, 9] [(3, 62, 62)] [] []) σ0 y0 → zpc (k40 y0 y1 y2 y3 y4 y5) (fun r => (zQ [22, 23, 24, 25, 9] [(3, 62, 62)] [] []) σ0 (r))) {k231 : zSt → Int32 → Int32 → Int32 → Int32 → Int32 → Int32 → Int32 → Int32 → Int32 → Int32 → Option (zSt)} (hk231 : ∀ (y0 : zSt) (y1 : Int32) (y2 : Int32) (y3 : Int32) (y4 : Int32) (y5 : Int32) (y6 : Int32) (y7 : Int32) (y8 : Int32) (y9 : Int32) (y10 : Int32), (zQ [22, 23, 24, 25, 9] [(3, 62, 62)] [] []) σ0 y0 → zpc (k231 y0 y1 y2 y3 y4 y5 y6 y7 y8 y9 y10) (fun r => (zQ [22, 23, 24, 25, 9] [(3, 62, 62)] [] []) σ0 (r))) {σ : zSt} {x1 : Int32} {x2 : Int32} {x3 : Int32} {x4 : Int32} {x5 : Int32} {x8 : Int32} {x9 : Int32} {x10 : Int32} {x11 : Int32} {x12 : Int32} {x15 : Int32} (h : (zQ [22, 23, 24, 25, 9] [(3, 62, 62)] [] []) σ0 σ) : zpc (fX12_oldSprites_350 k40 k231 σ x1 x2 x3 x4 x5 x8 x9 x10 x11 x12 x15) (fun r => (zQ [22, 23, 24, 25, 9] [(3, 62, 62)] [] []) σ0 (r)) := by
  unfold fX12_oldSprites_350
  exact zpc_ck (zpc_bs (zQ.wi h rfl) (fun σ3 hσ3 => zpc_if (fun _ => fD_fX12_oldSprites_382 hk40 hk231 hσ3) (fun _ => zpc_ck (zpc_if (fun _ => zpc_ck (zpc_bs (zQ.wi hσ3 rfl) (fun σ4 hσ4 => fD_fX12_oldSprites_382 hk40 hk231 hσ4))) (fun _ => fD_fX12_oldSprites_382 hk40 hk231 hσ3)))))
theorem fD_fX12_oldSprites_283 {σ0 : zSt} {k40 : zSt → Int32 → Int32 → Int32 → Int32 → Int32 → Option (zSt)} (hk40 : ∀ (y0 : zSt) (y1 : Int32) (y2 : Int32) (y3 : Int32) (y4 : Int32) (y5 : Int32), (zQ [22, 23, 24, 25, 9] [(3, 62, 62)] [] []) σ0 y0 → zpc (k40 y0 y1 y2 y3 y4 y5) (fun r => (zQ [22, 23, 24, 25, 9] [(3, 62, 62)] [] []) σ0 (r))) {k231 : zSt → Int32 → Int32 → Int32 → Int32 → Int32 → Int32 → Int32 → Int32 → Int32 → Int32 → Option (zSt)} (hk231 : ∀ (y0 : zSt) (y1 : Int32) (y2 : Int32) (y3 : Int32) (y4 : Int32) (y5 : Int32) (y6 : Int32) (y7 : Int32) (y8 : Int32) (y9 : Int32) (y10 : Int32), (zQ [22, 23, 24, 25, 9] [(3, 62, 62)] [] []) σ0 y0 → zpc (k231 y0 y1 y2 y3 y4 y5 y6 y7 y8 y9 y10) (fun r => (zQ [22, 23, 24, 25, 9] [(3, 62, 62)] [] []) σ0 (r))) {σ : zSt} {x1 : Int32} {x2 : Int32} {x3 : Int32} {x4 : Int32} {x5 : Int32} {x8 : Int32} {x9 : Int32} {x10 : Int32} {x11 : Int32} {x12 : Int32} {x13 : Int32} {s0 : Int32} {s1 : Int32} (h : (zQ [22, 23, 24, 25, 9] [(3, 62, 62)] [] []) σ0 σ) : zpc (fX12_oldSprites_283 k40 k231 σ x1 x2 x3 x4 x5 x8 x9 x10 x11 x12 x13 s0 s1) (fun r => (zQ [22, 23, 24, 25, 9] [(3, 62, 62)] [] []) σ0 (r)) := by
  unfold fX12_oldSprites_283
  exact zpc_bi (fD_fX12_video8 h) (fun σ5 v6 hσ5 => zpc_ck (zpc_bv (fun v7 _ => zpc_bv (fun v8 _ => zpc_if (fun _ => fD_fX12_oldSprites_382 hk40 hk231 hσ5) (fun _ => zpc_if (fun _ => fD_fX12_oldSprites_382 hk40 hk231 hσ5) (fun _ => zpc_if (fun _ => zpc_ck (zpc_if (fun _ => fD_fX12_oldSprites_350 hk40 hk231 hσ5) (fun _ => zpc_ck (zpc_ck (zpc_bs (zQ.wi hσ5 rfl) (fun σ9 hσ9 => fD_fX12_oldSprites_350 hk40 hk231 hσ9)))))) (fun _ => fD_fX12_oldSprites_382 hk40 hk231 hσ5)))))))
theorem fD_fX12_oldSprites_231_body {σ0 : zSt} {k40 : zSt → Int32 → Int32 → Int32 → Int32 → Int32 → Option (zSt)} (hk40 : ∀ (y0 : zSt) (y1 : Int32) (y2 : Int32) (y3 : Int32) (y4 : Int32) (y5 : Int32), (zQ [22, 23, 24, 25, 9] [(3, 62, 62)] [] []) σ0 y0 → zpc (k40 y0 y1 y2 y3 y4 y5) (fun r => (zQ [22, 23, 24, 25, 9] [(3, 62, 62)] [] []) σ0 (r))) {k231 : zSt → Int32 → Int32 → Int32 → Int32 → Int32 → Int32 → Int32 → Int32 → Int32 → Int32 → Option (zSt)} (hk231 : ∀ (y0 : zSt) (y1 : Int32) (y2 : Int32) (y3 : Int32) (y4 : Int32) (y5 : Int32) (y6 : Int32) (y7 : Int32) (y8 : Int32) (y9 : Int32) (y10 : Int32), (zQ [22, 23, 24, 25, 9] [(3, 62, 62)] [] []) σ0 y0 → zpc (k231 y0 y1 y2 y3 y4 y5 y6 y7 y8 y9 y10) (fun r => (zQ [22, 23, 24, 25, 9] [(3, 62, 62)] [] []) σ0 (r))) {σ : zSt} {x1 : Int32} {x2 : Int32} {x3 : Int32} {x4 : Int32} {x5 : Int32} {x8 : Int32} {x9 : Int32} {x10 : Int32} {x11 : Int32} {x12 : Int32} (h : (zQ [22, 23, 24, 25, 9] [(3, 62, 62)] [] []) σ0 σ) : zpc (fX12_oldSprites_231_body k40 k231 σ x1 x2 x3 x4 x5 x8 x9 x10 x11 x12) (fun r => (zQ [22, 23, 24, 25, 9] [(3, 62, 62)] [] []) σ0 (r)) := by
  unfold fX12_oldSprites_231_body
  exact zpc_if (fun _ => fD_fX12_oldSprites_388 hk40 h) (fun _ => zpc_ck (zpc_bv (fun v10 _ => zpc_bi (fD_fX12_reg h) (fun σ11 v12 hσ11 => zpc_ck (zpc_ck (zpc_if (fun _ => fD_fX12_oldSprites_283 hk40 hk231 hσ11) (fun _ => fD_fX12_oldSprites_283 hk40 hk231 hσ11)))))))
theorem fD_fX12_oldSprites_231 {σ0 : zSt} {k40 : zSt → Int32 → Int32 → Int32 → Int32 → Int32 → Option (zSt)} (hk40 : ∀ (y0 : zSt) (y1 : Int32) (y2 : Int32) (y3 : Int32) (y4 : Int32) (y5 : Int32), (zQ [22, 23, 24, 25, 9] [(3, 62, 62)] [] []) σ0 y0 → zpc (k40 y0 y1 y2 y3 y4 y5) (fun r => (zQ [22, 23, 24, 25, 9] [(3, 62, 62)] [] []) σ0 (r))) : ∀ (n : Nat) (y0 : zSt) (y1 : Int32) (y2 : Int32) (y3 : Int32) (y4 : Int32) (y5 : Int32) (y6 : Int32) (y7 : Int32) (y8 : Int32) (y9 : Int32) (y10 : Int32), (zQ [22, 23, 24, 25, 9] [(3, 62, 62)] [] []) σ0 y0 → zpc (fX12_oldSprites_231 k40 n y0 y1 y2 y3 y4 y5 y6 y7 y8 y9 y10) (fun r => (zQ [22, 23, 24, 25, 9] [(3, 62, 62)] [] []) σ0 (r)) := by
  intro n
  induction n with
  | zero => intro y0 y1 y2 y3 y4 y5 y6 y7 y8 y9 y10 h; exact zpc_none
  | succ n ih => intro y0 y1 y2 y3 y4 y5 y6 y7 y8 y9 y10 h; exact fD_fX12_oldSprites_231_body hk40 ih h
theorem fD_fX12_oldSprites_225 {σ0 : zSt} {k40 : zSt → Int32 → Int32 → Int32 → Int32 → Int32 → Option (zSt)} (hk40 : ∀ (y0 : zSt) (y1 : Int32) (y2 : Int32) (y3 : Int32) (y4 : Int32) (y5 : Int32), (zQ [22, 23, 24, 25, 9] [(3, 62, 62)] [] []) σ0 y0 → zpc (k40 y0 y1 y2 y3 y4 y5) (fun r => (zQ [22, 23, 24, 25, 9] [(3, 62, 62)] [] []) σ0 (r))) {σ : zSt} {x1 : Int32} {x2 : Int32} {x3 : Int32} {x4 : Int32} {x5 : Int32} {x8 : Int32} {x9 : Int32} {x10 : Int32} {s0 : Int32} {s1 : Int32} (h : (zQ [22, 23, 24, 25, 9] [(3, 62, 62)] [] []) σ0 σ) : zpc (fX12_oldSprites_225 k40 σ x1 x2 x3 x4 x5 x8 x9 x10 s0 s1) (fun r => (zQ [22, 23, 24, 25, 9] [(3, 62, 62)] [] []) σ0 (r)) := by
  unfold fX12_oldSprites_225
  exact zpc_bv (fun v13 _ => fD_fX12_oldSprites_231 hk40 _ _ _ _ _ _ _ _ _ _ _ _ h)
theorem fD_fX12_oldSprites_183 {σ0 : zSt} {k40 : zSt → Int32 → Int32 → Int32 → Int32 → Int32 → Option (zSt)} (hk40 : ∀ (y0 : zSt) (y1 : Int32) (y2 : Int32) (y3 : Int32) (y4 : Int32) (y5 : Int32), (zQ [22, 23, 24, 25, 9] [(3, 62, 62)] [] []) σ0 y0 → zpc (k40 y0 y1 y2 y3 y4 y5) (fun r => (zQ [22, 23, 24, 25, 9] [(3, 62, 62)] [] []) σ0 (r))) {σ : zSt} {x1 : Int32} {x2 : Int32} {x3 : Int32} {x4 : Int32} {x5 : Int32} {x6 : Int32} {x8 : Int32} {s0 : Int32} (h : (zQ [22, 23, 24, 25, 9] [(3, 62, 62)] [] []) σ0 σ) : zpc (fX12_oldSprites_183 k40 σ x1 x2 x3 x4 x5 x6 x8 s0) (fun r => (zQ [22, 23, 24, 25, 9] [(3, 62, 62)] [] []) σ0 (r)) := by
  unfold fX12_oldSprites_183
  exact zpc_bi (fD_fX12_video8 h) (fun σ14 v15 hσ14 => zpc_bv (fun v16 _ => zpc_bi (fD_fX12_video8 hσ14) (fun σ17 v18 hσ17 => zpc_bi (fD_fX12_video8 hσ17) (fun σ19 v20 hσ19 => zpc_if (fun _ => fD_fX12_oldSprites_225 hk40 hσ19) (fun _ => fD_fX12_oldSprites_225 hk40 hσ19)))))
theorem fD_fX12_oldSprites_40_body {σ0 : zSt} {k40 : zSt → Int32 → Int32 → Int32 → Int32 → Int32 → Option (zSt)} (hk40 : ∀ (y0 : zSt) (y1 : Int32) (y2 : Int32) (y3 : Int32) (y4 : Int32) (y5 : Int32), (zQ [22, 23, 24, 25, 9] [(3, 62, 62)] [] []) σ0 y0 → zpc (k40 y0 y1 y2 y3 y4 y5) (fun r => (zQ [22, 23, 24, 25, 9] [(3, 62, 62)] [] []) σ0 (r))) {σ : zSt} {x1 : Int32} {x2 : Int32} {x3 : Int32} {x4 : Int32} {x5 : Int32} (h : (zQ [22, 23, 24, 25, 9] [(3, 62, 62)] [] []) σ0 σ) : zpc (fX12_oldSprites_40_body k40 σ x1 x2 x3 x4 x5) (fun r => (zQ [22, 23, 24, 25, 9] [(3, 62, 62)] [] []) σ0 (r)) := by
  unfold fX12_oldSprites_40_body
  exact zpc_if (fun _ => zpc_some h) (fun _ => zpc_bi (fD_fX12_reg h) (fun σ21 v22 hσ21 => zpc_ck (zpc_bv (fun v23 _ => zpc_bi (fD_fX12_video8 hσ21) (fun σ24 v25 hσ24 => zpc_if (fun _ => zpc_some hσ24) (fun _ => zpc_bv (fun v26 _ => zpc_if (fun _ => zpc_if (fun _ => zpc_ck (zpc_if (fun _ => zpc_ck (zpc_ck (zpc_bs (zQ.wi hσ24 rfl) (fun σ32 hσ32 => fD_fX12_oldSprites_150 hσ32)))) (fun _ => fD_fX12_oldSprites_150 hσ24))) (fun _ => zpc_bv (fun v27 _ => zpc_if (fun _ => zpc_bi (fD_fX12_video8 hσ24) (fun σ30 v31 hσ30 => fD_fX12_oldSprites_183 hk40 hσ30)) (fun _ => zpc_bi (fD_fX12_video8 hσ24) (fun σ28 v29 hσ28 => fD_fX12_oldSprites_183 hk40 hσ28))))) (fun _ => fD_fX12_oldSprites_388 hk40 hσ24))))))))
theorem fD_fX12_oldSprites_40 {σ0 : zSt} : ∀ (n : Nat) (y0 : zSt) (y1 : Int32) (y2 : Int32) (y3 : Int32) (y4 : Int32) (y5 : Int32), (zQ [22, 23, 24, 25, 9] [(3, 62, 62)] [] []) σ0 y0 → zpc (fX12_oldSprites_40 n y0 y1 y2 y3 y4 y5) (fun r => (zQ [22, 23, 24, 25, 9] [(3, 62, 62)] [] []) σ0 (r)) := by
  intro n
  induction n with
  | zero => intro y0 y1 y2 y3 y4 y5 h; exact zpc_none
  | succ n ih => intro y0 y1 y2 y3 y4 y5 h; exact fD_fX12_oldSprites_40_body ih h
theorem fD_fX12_oldSprites_33 {σ0 : zSt} {σ : zSt} {x1 : Int32} {x2 : Int32} {s0 : Int32} (h : (zQ [22, 23, 24, 25, 9] [(3, 62, 62)] [] []) σ0 σ) : zpc (fX12_oldSprites_33 σ x1 x2 s0) (fun r => (zQ [22, 23, 24, 25, 9] [(3, 62, 62)] [] []) σ0 (r)) := by
  unfold fX12_oldSprites_33
  exact fD_fX12_oldSprites_40 _ _ _ _ _ _ _ h
theorem fD_fX12_oldSprites_15 {σ0 : zSt} {σ : zSt} {x1 : Int32} {s0 : Int32} (h : (zQ [22, 23, 24, 25, 9] [(3, 62, 62)] [] []) σ0 σ) : zpc (fX12_oldSprites_15 σ x1 s0) (fun r => (zQ [22, 23, 24, 25, 9] [(3, 62, 62)] [] []) σ0 (r)) := by
  unfold fX12_oldSprites_15
  exact zpc_bi (fD_fX12_bit h) (fun σ33 v34 hσ33 => zpc_if (fun _ => fD_fX12_oldSprites_33 hσ33) (fun _ => fD_fX12_oldSprites_33 hσ33))
theorem fD_fX12_oldSprites {σ0 : zSt} {σ : zSt} {x1 : Int32} (h : (zQ [22, 23, 24, 25, 9] [(3, 62, 62)] [] []) σ0 σ) : zpc (fX12_oldSprites σ x1) (fun r => (zQ [22, 23, 24, 25, 9] [(3, 62, 62)] [] []) σ0 (r)) := by
  unfold fX12_oldSprites
  exact zpc_bi (fD_fX12_bit h) (fun σ35 v36 hσ35 => zpc_if (fun _ => fD_fX12_oldSprites_15 hσ35) (fun _ => fD_fX12_oldSprites_15 hσ35))
theorem fD_fX12_draws_302_body {σ0 : zSt} {k302 : zSt → Int32 → Int32 → Option (zSt)} (hk302 : ∀ (y0 : zSt) (y1 : Int32) (y2 : Int32), (zQ [22, 23, 24, 25, 9] [(3, 62, 62)] [] []) σ0 y0 → zpc (k302 y0 y1 y2) (fun r => (zQ [22, 23, 24, 25, 9] [(3, 62, 62)] [] []) σ0 (r))) {σ : zSt} {x1 : Int32} {x3 : Int32} (h : (zQ [22, 23, 24, 25, 9] [(3, 62, 62)] [] []) σ0 σ) : zpc (fX12_draws_302_body k302 σ x1 x3) (fun r => (zQ [22, 23, 24, 25, 9] [(3, 62, 62)] [] []) σ0 (r)) := by
  unfold fX12_draws_302_body
  exact zpc_if (fun _ => zpc_some h) (fun _ => zpc_ck (zpc_bi (fD_fX12_colour h) (fun σ1 v2 hσ1 => zpc_ck (zpc_bs (zQ.wi hσ1 rfl) (fun σ3 hσ3 => zpc_bv (fun v4 _ => hk302 _ _ _ hσ3))))))
theorem fD_fX12_draws_302 {σ0 : zSt} : ∀ (n : Nat) (y0 : zSt) (y1 : Int32) (y2 : Int32), (zQ [22, 23, 24, 25, 9] [(3, 62, 62)] [] []) σ0 y0 → zpc (fX12_draws_302 n y0 y1 y2) (fun r => (zQ [22, 23, 24, 25, 9] [(3, 62, 62)] [] []) σ0 (r)) := by
  intro n
  induction n with
  | zero => intro y0 y1 y2 h; exact zpc_none
  | succ n ih => intro y0 y1 y2 h; exact fD_fX12_draws_302_body ih h
theorem fD_fX12_draws_300 {σ0 : zSt} {σ : zSt} {x1 : Int32} (h : (zQ [22, 23, 24, 25, 9] [(3, 62, 62)] [] []) σ0 σ) : zpc (fX12_draws_300 σ x1) (fun r => (zQ [22, 23, 24, 25, 9] [(3, 62, 62)] [] []) σ0 (r)) := by
  unfold fX12_draws_300
  exact fD_fX12_draws_302 _ _ _ _ h
theorem fD_fX12_draws_244 {σ0 : zSt} {k213 : zSt → Int32 → Int32 → Int32 → Option (zSt)} (hk213 : ∀ (y0 : zSt) (y1 : Int32) (y2 : Int32) (y3 : Int32), (zQ [22, 23, 24, 25, 9] [(3, 62, 62)] [] []) σ0 y0 → zpc (k213 y0 y1 y2 y3) (fun r => (zQ [22, 23, 24, 25, 9] [(3, 62, 62)] [] []) σ0 (r))) {σ : zSt} {x1 : Int32} {x2 : Int32} {x3 : Int32} {s0 : Int32} {s1 : Int32} (h : (zQ [22, 23, 24, 25, 9] [(3, 62, 62)] [] []) σ0 σ) : zpc (fX12_draws_244 k213 σ x1 x2 x3 s0 s1) (fun r => (zQ [22, 23, 24, 25, 9] [(3, 62, 62)] [] []) σ0 (r)) := by
  unfold fX12_draws_244
  exact zpc_ck (zpc_bs (zQ.wi h rfl) (fun σ5 hσ5 => zpc_bv (fun v6 _ => hk213 _ _ _ _ hσ5)))
theorem fD_fX12_draws_294 {σ0 : zSt} {k266 : zSt → Int32 → Int32 → Option (zSt)} (hk266 : ∀ (y0 : zSt) (y1 : Int32) (y2 : Int32), (zQ [22, 23, 24, 25, 9] [(3, 62, 62)] [] []) σ0 y0 → zpc (k266 y0 y1 y2) (fun r => (zQ [22, 23, 24, 25, 9] [(3, 62, 62)] [] []) σ0 (r))) {σ : zSt} {x1 : Int32} {x3 : Int32} (h : (zQ [22, 23, 24, 25, 9] [(3, 62, 62)] [] []) σ0 σ) : zpc (fX12_draws_294 k266 σ x1 x3) (fun r => (zQ [22, 23, 24, 25, 9] [(3, 62, 62)] [] []) σ0 (r)) := by
  unfold fX12_draws_294
  exact zpc_bv (fun v7 _ => hk266 _ _ _ h)
theorem fD_fX12_draws_266_body {σ0 : zSt} {k266 : zSt → Int32 → Int32 → Option (zSt)} (hk266 : ∀ (y0 : zSt) (y1 : Int32) (y2 : Int32), (zQ [22, 23, 24, 25, 9] [(3, 62, 62)] [] []) σ0 y0 → zpc (k266 y0 y1 y2) (fun r => (zQ [22, 23, 24, 25, 9] [(3, 62, 62)] [] []) σ0 (r))) {σ : zSt} {x1 : Int32} {x3 : Int32} (h : (zQ [22, 23, 24, 25, 9] [(3, 62, 62)] [] []) σ0 σ) : zpc (fX12_draws_266_body k266 σ x1 x3) (fun r => (zQ [22, 23, 24, 25, 9] [(3, 62, 62)] [] []) σ0 (r)) := by
  unfold fX12_draws_266_body
  exact zpc_if (fun _ => fD_fX12_draws_300 h) (fun _ => zpc_ck (zpc_if (fun _ => fD_fX12_draws_294 hk266 h) (fun _ => zpc_ck (zpc_ck (zpc_bs (zQ.wi h rfl) (fun σ8 hσ8 => fD_fX12_draws_294 hk266 hσ8))))))
theorem fD_fX12_draws_266 {σ0 : zSt} : ∀ (n : Nat) (y0 : zSt) (y1 : Int32) (y2 : Int32), (zQ [22, 23, 24, 25, 9] [(3, 62, 62)] [] []) σ0 y0 → zpc (fX12_draws_266 n y0 y1 y2) (fun r => (zQ [22, 23, 24, 25, 9] [(3, 62, 62)] [] []) σ0 (r)) := by
  intro n
  induction n with
  | zero => intro y0 y1 y2 h; exact zpc_none
  | succ n ih => intro y0 y1 y2 h; exact fD_fX12_draws_266_body ih h
theorem fD_fX12_draws_264 {σ0 : zSt} {σ : zSt} {x1 : Int32} (h : (zQ [22, 23, 24, 25, 9] [(3, 62, 62)] [] []) σ0 σ) : zpc (fX12_draws_264 σ x1) (fun r => (zQ [22, 23, 24, 25, 9] [(3, 62, 62)] [] []) σ0 (r)) := by
  unfold fX12_draws_264
  exact fD_fX12_draws_266 _ _ _ _ h
theorem fD_fX12_draws_213_body {σ0 : zSt} {k213 : zSt → Int32 → Int32 → Int32 → Option (zSt)} (hk213 : ∀ (y0 : zSt) (y1 : Int32) (y2 : Int32) (y3 : Int32), (zQ [22, 23, 24, 25, 9] [(3, 62, 62)] [] []) σ0 y0 → zpc (k213 y0 y1 y2 y3) (fun r => (zQ [22, 23, 24, 25, 9] [(3, 62, 62)] [] []) σ0 (r))) {σ : zSt} {x1 : Int32} {x2 : Int32} {x3 : Int32} (h : (zQ [22, 23, 24, 25, 9] [(3, 62, 62)] [] []) σ0 σ) : zpc (fX12_draws_213_body k213 σ x1 x2 x3) (fun r => (zQ [22, 23, 24, 25, 9] [(3, 62, 62)] [] []) σ0 (r)) := by
  unfold fX12_draws_213_body
  exact zpc_if (fun _ => zpc_bi (fD_fX12_mode h) (fun σ9 v10 hσ9 => zpc_if (fun _ => fD_fX12_draws_264 hσ9) (fun _ => zpc_bu (fD_fX12_oldSprites hσ9) (fun σ11 hσ11 => fD_fX12_draws_264 hσ11)))) (fun _ => zpc_bi (fD_fX12_old h) (fun σ12 v13 hσ12 => zpc_if (fun _ => fD_fX12_draws_244 hk213 hσ12) (fun _ => fD_fX12_draws_244 hk213 hσ12)))
theorem fD_fX12_draws_213 {σ0 : zSt} : ∀ (n : Nat) (y0 : zSt) (y1 : Int32) (y2 : Int32) (y3 : Int32), (zQ [22, 23, 24, 25, 9] [(3, 62, 62)] [] []) σ0 y0 → zpc (fX12_draws_213 n y0 y1 y2 y3) (fun r => (zQ [22, 23, 24, 25, 9] [(3, 62, 62)] [] []) σ0 (r)) := by
  intro n
  induction n with
  | zero => intro y0 y1 y2 y3 h; exact zpc_none
  | succ n ih => intro y0 y1 y2 y3 h; exact fD_fX12_draws_213_body ih h
theorem fD_fX12_draws_200 {σ0 : zSt} {σ : zSt} {x1 : Int32} {x2 : Int32} (h : (zQ [22, 23, 24, 25, 9] [(3, 62, 62)] [] []) σ0 σ) : zpc (fX12_draws_200 σ x1 x2) (fun r => (zQ [22, 23, 24, 25, 9] [(3, 62, 62)] [] []) σ0 (r)) := by
  unfold fX12_draws_200
  exact zpc_bi (fD_fX12_bit h) (fun σ14 v15 hσ14 => zpc_if (fun _ => fD_fX12_draws_213 _ _ _ _ _ hσ14) (fun _ => fD_fX12_draws_300 hσ14))
theorem fD_fX12_draws_160 {σ0 : zSt} {k123 : zSt → Int32 → Int32 → Int32 → Option (zSt)} (hk123 : ∀ (y0 : zSt) (y1 : Int32) (y2 : Int32) (y3 : Int32), (zQ [22, 23, 24, 25, 9] [(3, 62, 62)] [] []) σ0 y0 → zpc (k123 y0 y1 y2 y3) (fun r => (zQ [22, 23, 24, 25, 9] [(3, 62, 62)] [] []) σ0 (r))) {σ : zSt} {x1 : Int32} {x2 : Int32} {x3 : Int32} (h : (zQ [22, 23, 24, 25, 9] [(3, 62, 62)] [] []) σ0 σ) : zpc (fX12_draws_160 k123 σ x1 x2 x3) (fun r => (zQ [22, 23, 24, 25, 9] [(3, 62, 62)] [] []) σ0 (r)) := by
  unfold fX12_draws_160
  exact zpc_bv (fun v16 _ => hk123 _ _ _ _ h)
theorem fD_fX12_draws_197 {σ0 : zSt} {σ : zSt} {x1 : Int32} (h : (zQ [22, 23, 24, 25, 9] [(3, 62, 62)] [] []) σ0 σ) : zpc (fX12_draws_197 σ x1) (fun r => (zQ [22, 23, 24, 25, 9] [(3, 62, 62)] [] []) σ0 (r)) := by
  unfold fX12_draws_197
  exact fD_fX12_draws_300 h
theorem fD_fX12_draws_168_body {σ0 : zSt} {k168 : zSt → Int32 → Int32 → Int32 → Option (zSt)} (hk168 : ∀ (y0 : zSt) (y1 : Int32) (y2 : Int32) (y3 : Int32), (zQ [22, 23, 24, 25, 9] [(3, 62, 62)] [] []) σ0 y0 → zpc (k168 y0 y1 y2 y3) (fun r => (zQ [22, 23, 24, 25, 9] [(3, 62, 62)] [] []) σ0 (r))) {σ : zSt} {x1 : Int32} {x2 : Int32} {x3 : Int32} (h : (zQ [22, 23, 24, 25, 9] [(3, 62, 62)] [] []) σ0 σ) : zpc (fX12_draws_168_body k168 σ x1 x2 x3) (fun r => (zQ [22, 23, 24, 25, 9] [(3, 62, 62)] [] []) σ0 (r)) := by
  unfold fX12_draws_168_body
  exact zpc_if (fun _ => fD_fX12_draws_197 h) (fun _ => zpc_bi (fD_fX12_bit h) (fun σ17 v18 hσ17 => zpc_if (fun _ => zpc_ck (zpc_bs (zQ.wi hσ17 rfl) (fun σ19 hσ19 => zpc_bv (fun v20 _ => hk168 _ _ _ _ hσ19)))) (fun _ => fD_fX12_draws_197 hσ17)))
theorem fD_fX12_draws_168 {σ0 : zSt} : ∀ (n : Nat) (y0 : zSt) (y1 : Int32) (y2 : Int32) (y3 : Int32), (zQ [22, 23, 24, 25, 9] [(3, 62, 62)] [] []) σ0 y0 → zpc (fX12_draws_168 n y0 y1 y2 y3) (fun r => (zQ [22, 23, 24, 25, 9] [(3, 62, 62)] [] []) σ0 (r)) := by
  intro n
  induction n with
  | zero => intro y0 y1 y2 y3 h; exact zpc_none
  | succ n ih => intro y0 y1 y2 y3 h; exact fD_fX12_draws_168_body ih h
theorem fD_fX12_draws_123_body {σ0 : zSt} {k123 : zSt → Int32 → Int32 → Int32 → Option (zSt)} (hk123 : ∀ (y0 : zSt) (y1 : Int32) (y2 : Int32) (y3 : Int32), (zQ [22, 23, 24, 25, 9] [(3, 62, 62)] [] []) σ0 y0 → zpc (k123 y0 y1 y2 y3) (fun r => (zQ [22, 23, 24, 25, 9] [(3, 62, 62)] [] []) σ0 (r))) {σ : zSt} {x1 : Int32} {x2 : Int32} {x3 : Int32} (h : (zQ [22, 23, 24, 25, 9] [(3, 62, 62)] [] []) σ0 σ) : zpc (fX12_draws_123_body k123 σ x1 x2 x3) (fun r => (zQ [22, 23, 24, 25, 9] [(3, 62, 62)] [] []) σ0 (r)) := by
  unfold fX12_draws_123_body
  exact zpc_if (fun _ => fD_fX12_draws_168 _ _ _ _ _ h) (fun _ => zpc_ck (zpc_if (fun _ => fD_fX12_draws_160 hk123 h) (fun _ => zpc_ck (zpc_if (fun _ => zpc_ck (zpc_ck (zpc_bs (zQ.wi h rfl) (fun σ21 hσ21 => fD_fX12_draws_160 hk123 hσ21)))) (fun _ => fD_fX12_draws_160 hk123 h)))))
theorem fD_fX12_draws_123 {σ0 : zSt} : ∀ (n : Nat) (y0 : zSt) (y1 : Int32) (y2 : Int32) (y3 : Int32), (zQ [22, 23, 24, 25, 9] [(3, 62, 62)] [] []) σ0 y0 → zpc (fX12_draws_123 n y0 y1 y2 y3) (fun r => (zQ [22, 23, 24, 25, 9] [(3, 62, 62)] [] []) σ0 (r)) := by
  intro n
  induction n with
  | zero => intro y0 y1 y2 y3 h; exact zpc_none
  | succ n ih => intro y0 y1 y2 y3 h; exact fD_fX12_draws_123_body ih h
theorem fD_fX12_draws_97_body {σ0 : zSt} {k97 : zSt → Int32 → Int32 → Int32 → Option (zSt)} (hk97 : ∀ (y0 : zSt) (y1 : Int32) (y2 : Int32) (y3 : Int32), (zQ [22, 23, 24, 25, 9] [(3, 62, 62)] [] []) σ0 y0 → zpc (k97 y0 y1 y2 y3) (fun r => (zQ [22, 23, 24, 25, 9] [(3, 62, 62)] [] []) σ0 (r))) {σ : zSt} {x1 : Int32} {x2 : Int32} {x3 : Int32} (h : (zQ [22, 23, 24, 25, 9] [(3, 62, 62)] [] []) σ0 σ) : zpc (fX12_draws_97_body k97 σ x1 x2 x3) (fun r => (zQ [22, 23, 24, 25, 9] [(3, 62, 62)] [] []) σ0 (r)) := by
  unfold fX12_draws_97_body
  exact zpc_if (fun _ => zpc_bu (fD_fX12_sprites h) (fun σ22 hσ22 => fD_fX12_draws_123 _ _ _ _ _ hσ22)) (fun _ => zpc_bu (fD_fX12_tile h) (fun σ23 hσ23 => zpc_bv (fun v24 _ => hk97 _ _ _ _ hσ23)))
theorem fD_fX12_draws_97 {σ0 : zSt} : ∀ (n : Nat) (y0 : zSt) (y1 : Int32) (y2 : Int32) (y3 : Int32), (zQ [22, 23, 24, 25, 9] [(3, 62, 62)] [] []) σ0 y0 → zpc (fX12_draws_97 n y0 y1 y2 y3) (fun r => (zQ [22, 23, 24, 25, 9] [(3, 62, 62)] [] []) σ0 (r)) := by
  intro n
  induction n with
  | zero => intro y0 y1 y2 y3 h; exact zpc_none
  | succ n ih => intro y0 y1 y2 y3 h; exact fD_fX12_draws_97_body ih h
theorem fD_fX12_draws_35_body {σ0 : zSt} {k35 : zSt → Int32 → Int32 → Int32 → Option (zSt)} (hk35 : ∀ (y0 : zSt) (y1 : Int32) (y2 : Int32) (y3 : Int32), (zQ [22, 23, 24, 25, 9] [(3, 62, 62)] [] []) σ0 y0 → zpc (k35 y0 y1 y2 y3) (fun r => (zQ [22, 23, 24, 25, 9] [(3, 62, 62)] [] []) σ0 (r))) {σ : zSt} {x1 : Int32} {x2 : Int32} {x3 : Int32} (h : (zQ [22, 23, 24, 25, 9] [(3, 62, 62)] [] []) σ0 σ) : zpc (fX12_draws_35_body k35 σ x1 x2 x3) (fun r => (zQ [22, 23, 24, 25, 9] [(3, 62, 62)] [] []) σ0 (r)) := by
  unfold fX12_draws_35_body
  exact zpc_if (fun _ => zpc_bi (fD_fX12_bit h) (fun σ25 v26 hσ25 => zpc_if (fun _ => zpc_bi (fD_fX12_mode hσ25) (fun σ27 v28 hσ27 => zpc_if (fun _ => fD_fX12_draws_97 _ _ _ _ _ hσ27) (fun _ => fD_fX12_draws_200 hσ27))) (fun _ => fD_fX12_draws_200 hσ25))) (fun _ => zpc_ck (zpc_bs (zQ.wi h rfl) (fun σ29 hσ29 => zpc_ck (zpc_bs (zQ.wi hσ29 rfl) (fun σ30 hσ30 => zpc_ck (zpc_bs (zQ.wi hσ30 rfl) (fun σ31 hσ31 => zpc_ck (zpc_bs (zQ.wi hσ31 rfl) (fun σ32 hσ32 => zpc_bv (fun v33 _ => hk35 _ _ _ _ hσ32))))))))))
theorem fD_fX12_draws_35 {σ0 : zSt} : ∀ (n : Nat) (y0 : zSt) (y1 : Int32) (y2 : Int32) (y3 : Int32), (zQ [22, 23, 24, 25, 9] [(3, 62, 62)] [] []) σ0 y0 → zpc (fX12_draws_35 n y0 y1 y2 y3) (fun r => (zQ [22, 23, 24, 25, 9] [(3, 62, 62)] [] []) σ0 (r)) := by
  intro n
  induction n with
  | zero => intro y0 y1 y2 y3 h; exact zpc_none
  | succ n ih => intro y0 y1 y2 y3 h; exact fD_fX12_draws_35_body ih h
theorem fD_fX12_draws_32 {σ0 : zSt} {σ : zSt} {x1 : Int32} {s0 : Int32} (h : (zQ [22, 23, 24, 25, 9] [(3, 62, 62)] [] []) σ0 σ) : zpc (fX12_draws_32 σ x1 s0) (fun r => (zQ [22, 23, 24, 25, 9] [(3, 62, 62)] [] []) σ0 (r)) := by
  unfold fX12_draws_32
  exact fD_fX12_draws_35 _ _ _ _ _ h
theorem fD_fX12_draws {σ0 : zSt} {σ : zSt} {x1 : Int32} (h : (zQ [22, 23, 24, 25, 9] [(3, 62, 62)] [] []) σ0 σ) : zpc (fX12_draws σ x1) (fun r => (zQ [22, 23, 24, 25, 9] [(3, 62, 62)] [] []) σ0 (r)) := by
  unfold fX12_draws
  exact zpc_bi (fD_fX12_mode h) (fun σ34 v35 hσ34 => zpc_if (fun _ => zpc_bi (fD_fX12_reg hσ34) (fun σ38 v39 hσ38 => zpc_ck (fD_fX12_draws_32 hσ38))) (fun _ => zpc_bi (fD_fX12_reg hσ34) (fun σ36 v37 hσ36 => zpc_ck (fD_fX12_draws_32 hσ36))))
end ZJN32
section ZJN33

end ZJN33
section ZJN34

end ZJN34
section ZJN35

end ZJN35
