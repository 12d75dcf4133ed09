theorem s_X12_three {G : Nat → Int} {σ : zSt} (hσ : zIM G σ) {x1 : Int32} (h_x1 : zr (0) (7) x1) {x2 : Int32} (h_x2 : zr (0) (3) x2) : zok (fX12_three σ x1 x2) (zAi (zIM G) (fun v : Int32 => zr (4) (19) v)) := by
  unfold fX12_three
  refine zok_br (zr_shr (lo := 0) (hi := 3) 1 (by decide) h_x1 (by decide)) (fun v47 e2 h1 => ?_)
  refine zok_if (fun q3 => ?_) (fun q3 => ?_)
  · have h4 := zc_eql (0) (0) q3 h_x2 (zr_c (lo := 0) (hi := 0) (by decide)) (by decide)
    refine zok_pi (s_X12_cc hσ.P h_x1) (fun v53 h5 => ?_)
    refine zok_if (fun q6 => ?_) (fun q6 => ?_)
    · have h7 := zc_eql (0) (0) q6 h5 (zr_c (lo := 0) (hi := 0) (by decide)) (by decide)
      exact zok_sai hσ (zr_w (zr_c (lo := 5) (hi := 5) (by decide)) (by decide))
    have h8 := zc_nel (1) (1) q6 h5 (zr_c (lo := 0) (hi := 0) (by decide)) (by decide)
    refine zok_ai (s_X12_pop hσ) (fun σ54 v55 i9 h10 => ?_)
    refine zok_ck rfl ?_
    refine zok_bs (i9.wi 19 19 (by decide) h10 (by decide +kernel)) (fun σ56 e12 i11 => ?_)
    refine zok_ck rfl ?_
    refine zok_ck rfl ?_
    refine zok_bs (i11.wi 20 20 (by decide) (rM_12 i11.sg _ (by decide)) (by decide +kernel)) (fun σ57 e14 i13 => ?_)
    exact zok_sai i13 (zr_w (zr_c (lo := 11) (hi := 11) (by decide)) (by decide))
  have h15 := zc_nel (1) (3) q3 h_x2 (zr_c (lo := 0) (hi := 0) (by decide)) (by decide)
  refine zok_if (fun q16 => ?_) (fun q16 => ?_)
  · have h17 := zc_eql (1) (1) q16 h15 (zr_c (lo := 1) (hi := 1) (by decide)) (by decide)
    refine zok_ck (by decide) ?_
    refine zok_if (fun q18 => ?_) (fun q18 => ?_)
    · have h19 := zc_eql (0) (0) q18 (zr_rem (lo := 0) (hi := 1) 2 (by decide) h_x1 (by decide)) (zr_c (lo := 0) (hi := 0) (by decide)) (by decide)
      refine zok_ai (s_X12_pop hσ) (fun σ48 v49 i20 h21 => ?_)
      refine zok_if (fun q22 => ?_) (fun q22 => ?_)
      · have h23 := zc_eql (3) (3) q22 h1 (zr_c (lo := 3) (hi := 3) (by decide)) (by decide)
        refine zok_bu (s_X12_pairTo i20 (zr_w (zr_c (lo := 0) (hi := 0) (by decide)) (by decide)) (zr_w h21 (by decide))) (fun σ51 i24 => ?_)
        exact zok_pai i24 (s_X12_three_85 i24.P)
      have h25 := zc_nel (0) (2) q22 h1 (zr_c (lo := 3) (hi := 3) (by decide)) (by decide)
      refine zok_bu (s_X12_rpTo i20 (zr_w h25 (by decide)) (zr_w h21 (by decide))) (fun σ50 i26 => ?_)
      exact zok_pai i26 (s_X12_three_85 i26.P)
    have h27 := zc_nel (1) (1) q18 (zr_rem (lo := 0) (hi := 1) 2 (by decide) h_x1 (by decide)) (zr_c (lo := 0) (hi := 0) (by decide)) (by decide)
    have h28 := z_odd64 h_x1 h27 (by decide)
    exact (s_X12_three_88 hσ h_x1 (zr_w h17 (by decide)) h1)
  have h29 := zc_nel (2) (3) q16 h15 (zr_c (lo := 1) (hi := 1) (by decide)) (by decide)
  exact (s_X12_three_88 hσ h_x1 (zr_w h29 (by decide)) h1)
theorem s_X12_does_343 {σ : zSt} (hσ : zPM σ) : zok (fX12_does_343 σ ) (zPu σ) := by
  unfold fX12_does_343
  exact zok_spu
theorem s_X12_does_314 {G : Nat → Int} {σ : zSt} (hσ : zIM G σ) {x1 : Int32} (h_x1 : zr (0) (7) x1) {x2 : Int32} (h_x2 : zr (0) (255) x2) {x6 : Int32} (h_x6 : zr (-256) (511) x6) {s0 : Int32} (h_s0 : zr (0) (1) s0) {s1 : Int32} (h_s1 : zr (1) (1) s1) : zok (fX12_does_314 σ x1 x2 x6 s0 s1) (zIM G) := by
  unfold fX12_does_314
  refine zok_bu (s_X12_put hσ (zr_w h_s1 (by decide)) h_s0) (fun σ1 i1 => ?_)
  refine zok_if (fun q2 => ?_) (fun q2 => ?_)
  · have h3 := zc_eql (7) (7) q2 h_x1 (zr_c (lo := 7) (hi := 7) (by decide)) (by decide)
    refine zok_bu (s_X12_xy i1 (zr_w h_x2 (by decide))) (fun σ3 i4 => ?_)
    exact zok_pau i4 (s_X12_does_343 i4.P)
  have h5 := zc_nel (0) (6) q2 h_x1 (zr_c (lo := 7) (hi := 7) (by decide)) (by decide)
  refine zok_ck rfl ?_
  refine zok_bs (i1.wi 0 0 (by decide) (zr_andr (lo := 0) (hi := 255) (zr_c (lo := 255) (hi := 255) (by decide)) (by decide)) (by decide +kernel)) (fun σ2 e7 i6 => ?_)
  exact zok_pau i6 (s_X12_does_343 i6.P)
theorem s_X12_does_299 {G : Nat → Int} {σ : zSt} (hσ : zIM G σ) {x1 : Int32} (h_x1 : zr (0) (7) x1) {x2 : Int32} (h_x2 : zr (0) (255) x2) {x5 : Int32} (h_x5 : zr (0) (1) x5) {x6 : Int32} (h_x6 : zr (-256) (511) x6) {s0 : Int32} (h_s0 : zr (0) (1) s0) {s1 : Int32} (h_s1 : zr (2) (2) s1) : zok (fX12_does_299 σ x1 x2 x5 x6 s0 s1) (zIM G) := by
  unfold fX12_does_299
  refine zok_bu (s_X12_put hσ (zr_w h_s1 (by decide)) h_s0) (fun σ4 i1 => ?_)
  refine zok_if (fun q2 => ?_) (fun q2 => ?_)
  · have h3 := zc_eql (0) (0) q2 h_x5 (zr_c (lo := 0) (hi := 0) (by decide)) (by decide)
    exact (s_X12_does_314 i1 h_x1 h_x2 h_x6 (zr_w (zr_c (lo := 1) (hi := 1) (by decide)) (by decide)) (zr_c (lo := 1) (hi := 1) (by decide)))
  have h4 := zc_nel (1) (1) q2 h_x5 (zr_c (lo := 0) (hi := 0) (by decide)) (by decide)
  exact (s_X12_does_314 i1 h_x1 h_x2 h_x6 (zr_w (zr_c (lo := 0) (hi := 0) (by decide)) (by decide)) (zr_c (lo := 1) (hi := 1) (by decide)))
theorem s_X12_does_294 {G : Nat → Int} {σ : zSt} (hσ : zIM G σ) {x1 : Int32} (h_x1 : zr (0) (7) x1) {x2 : Int32} (h_x2 : zr (0) (255) x2) {x5 : Int32} (h_x5 : zr (0) (1) x5) {x6 : Int32} (h_x6 : zr (-256) (511) x6) {s0 : Int32} (h_s0 : zr (2) (2) s0) : zok (fX12_does_294 σ x1 x2 x5 x6 s0) (zIM G) := by
  unfold fX12_does_294
  exact (s_X12_does_299 hσ h_x1 h_x2 h_x5 h_x6 (zr_w (zr_c (lo := 1) (hi := 1) (by decide)) (by decide)) h_s0)
theorem s_X12_does_266 {G : Nat → Int} {σ : zSt} (hσ : zIM G σ) {x1 : Int32} (h_x1 : zr (0) (7) x1) {x2 : Int32} (h_x2 : zr (0) (255) x2) {x5 : Int32} (h_x5 : zr (0) (1) x5) {x6 : Int32} (h_x6 : zr (-256) (511) x6) {s0 : Int32} (h_s0 : zr (-256) (255) s0) : zok (fX12_does_266 σ x1 x2 x5 x6 s0) (zIM G) := by
  unfold fX12_does_266
  refine zok_bu (s_X12_by hσ (zr_andr (lo := 0) (hi := 255) (zr_c (lo := 255) (hi := 255) (by decide)) (by decide))) (fun σ5 i1 => ?_)
  refine zok_if (fun q2 => ?_) (fun q2 => ?_)
  · have h3 := zc_ltl (-129) q2 h_s0 (zr_c (lo := -128) (hi := -128) (by decide)) (by decide)
    exact (s_X12_does_294 i1 h_x1 h_x2 h_x5 h_x6 (zr_c (lo := 2) (hi := 2) (by decide)))
  have h4 := zc_ler (-128) (z_nlt q2) (zr_c (lo := -128) (hi := -128) (by decide)) h_s0 (by decide)
  refine zok_if (fun q5 => ?_) (fun q5 => ?_)
  · have h6 := zc_lel (127) q5 h4 (zr_c (lo := 127) (hi := 127) (by decide)) (by decide)
    exact (s_X12_does_299 i1 h_x1 h_x2 h_x5 h_x6 (zr_w (zr_c (lo := 0) (hi := 0) (by decide)) (by decide)) (zr_c (lo := 2) (hi := 2) (by decide)))
  have h7 := zc_ltr (128) (z_nle q5) (zr_c (lo := 127) (hi := 127) (by decide)) h4 (by decide)
  exact (s_X12_does_294 i1 h_x1 h_x2 h_x5 h_x6 (zr_c (lo := 2) (hi := 2) (by decide)))
theorem s_X12_does_231 {G : Nat → Int} {σ : zSt} (hσ : zIM G σ) {x1 : Int32} (h_x1 : zr (0) (7) x1) {x2 : Int32} (h_x2 : zr (0) (255) x2) {x3 : Int32} (h_x3 : zr (0) (255) x3) {x4 : Int32} (h_x4 : zr (0) (1) x4) {x5 : Int32} (h_x5 : zr (0) (1) x5) {x6 : Int32} (h_x6 : zr (-256) (511) x6) {s0 : Int32} (h_s0 : zr (0) (1) s0) {s1 : Int32} (h_s1 : zr (0) (0) s1) : zok (fX12_does_231 σ x1 x2 x3 x4 x5 x6 s0 s1) (zIM G) := by
  unfold fX12_does_231
  refine zok_bu (s_X12_put hσ (zr_w h_s1 (by decide)) h_s0) (fun σ6 i1 => ?_)
  refine zok_if (fun q2 => ?_) (fun q2 => ?_)
  · have h3 := zc_eql (0) (0) q2 h_x5 (zr_c (lo := 0) (hi := 0) (by decide)) (by decide)
    refine zok_pi (s_X12_signed i1.P h_x3) (fun v8 h4 => ?_)
    refine zok_pi (s_X12_signed i1.P h_x2) (fun v10 h5 => ?_)
    exact (s_X12_does_266 i1 h_x1 h_x2 (zr_w h3 (by decide)) h_x6 (zr_sub (lo := -256) (hi := 255) (zr_sub (lo := -255) (hi := 255) h4 h5 (by decide)) h_x4 (by decide)))
  have h6 := zc_nel (1) (1) q2 h_x5 (zr_c (lo := 0) (hi := 0) (by decide)) (by decide)
  refine zok_pi (s_X12_signed i1.P h_x3) (fun v12 h7 => ?_)
  refine zok_pi (s_X12_signed i1.P h_x2) (fun v14 h8 => ?_)
  exact (s_X12_does_266 i1 h_x1 h_x2 (zr_w h6 (by decide)) h_x6 (zr_add (lo := -256) (hi := 255) (zr_add (lo := -256) (hi := 254) h7 h8 (by decide)) h_x4 (by decide)))
theorem s_X12_does_226 {G : Nat → Int} {σ : zSt} (hσ : zIM G σ) {x1 : Int32} (h_x1 : zr (0) (7) x1) {x2 : Int32} (h_x2 : zr (0) (255) x2) {x3 : Int32} (h_x3 : zr (0) (255) x3) {x4 : Int32} (h_x4 : zr (0) (1) x4) {x5 : Int32} (h_x5 : zr (0) (1) x5) {x6 : Int32} (h_x6 : zr (-256) (511) x6) {s0 : Int32} (h_s0 : zr (0) (0) s0) : zok (fX12_does_226 σ x1 x2 x3 x4 x5 x6 s0) (zIM G) := by
  unfold fX12_does_226
  exact (s_X12_does_231 hσ h_x1 h_x2 h_x3 h_x4 h_x5 h_x6 (zr_w (zr_c (lo := 1) (hi := 1) (by decide)) (by decide)) h_s0)
theorem s_X12_does_208 {G : Nat → Int} {σ : zSt} (hσ : zIM G σ) {x1 : Int32} (h_x1 : zr (0) (7) x1) {x2 : Int32} (h_x2 : zr (0) (255) x2) {x3 : Int32} (h_x3 : zr (0) (255) x3) {x4 : Int32} (h_x4 : zr (0) (1) x4) {x5 : Int32} (h_x5 : zr (0) (1) x5) {x6 : Int32} (h_x6 : zr (-256) (511) x6) {s0 : Int32} (h_s0 : zr (0) (1) s0) {s1 : Int32} (h_s1 : zr (4) (4) s1) : zok (fX12_does_208 σ x1 x2 x3 x4 x5 x6 s0 s1) (zIM G) := by
  unfold fX12_does_208
  refine zok_bu (s_X12_put hσ (zr_w h_s1 (by decide)) h_s0) (fun σ15 i1 => ?_)
  refine zok_if (fun q2 => ?_) (fun q2 => ?_)
  · have h3 := zc_ltl (-1) q2 h_x6 (zr_c (lo := 0) (hi := 0) (by decide)) (by decide)
    exact (s_X12_does_226 i1 h_x1 h_x2 h_x3 h_x4 h_x5 (zr_w h3 (by decide)) (zr_c (lo := 0) (hi := 0) (by decide)))
  have h4 := zc_ler (0) (z_nlt q2) (zr_c (lo := 0) (hi := 0) (by decide)) h_x6 (by decide)
  refine zok_if (fun q5 => ?_) (fun q5 => ?_)
  · have h6 := zc_lel (255) q5 h4 (zr_c (lo := 255) (hi := 255) (by decide)) (by decide)
    exact (s_X12_does_231 i1 h_x1 h_x2 h_x3 h_x4 h_x5 (zr_w h6 (by decide)) (zr_w (zr_c (lo := 0) (hi := 0) (by decide)) (by decide)) (zr_c (lo := 0) (hi := 0) (by decide)))
  have h7 := zc_ltr (256) (z_nle q5) (zr_c (lo := 255) (hi := 255) (by decide)) h4 (by decide)
  exact (s_X12_does_226 i1 h_x1 h_x2 h_x3 h_x4 h_x5 (zr_w h7 (by decide)) (zr_c (lo := 0) (hi := 0) (by decide)))
theorem s_X12_does_154 {G : Nat → Int} {σ : zSt} (hσ : zIM G σ) {x1 : Int32} (h_x1 : zr (0) (7) x1) {x2 : Int32} (h_x2 : zr (0) (255) x2) {x3 : Int32} (h_x3 : zr (0) (255) x3) {x4 : Int32} (h_x4 : zr (0) (1) x4) {x5 : Int32} (h_x5 : zr (0) (1) x5) {s0 : Int32} (h_s0 : zr (-256) (511) s0) : zok (fX12_does_154 σ x1 x2 x3 x4 x5 s0) (zIM G) := by
  unfold fX12_does_154
  refine zok_if (fun q1 => ?_) (fun q1 => ?_)
  · have h2 := zc_eql (0) (0) q1 h_x5 (zr_c (lo := 0) (hi := 0) (by decide)) (by decide)
    refine zok_if (fun q3 => ?_) (fun q3 => ?_)
    · have h4 := zc_ler (0) q3 (zr_c (lo := 0) (hi := 0) (by decide)) (zr_sub (lo := -16) (hi := 15) (zr_sub (lo := -15) (hi := 15) (zr_andr (lo := 0) (hi := 15) (zr_c (lo := 15) (hi := 15) (by decide)) (by decide)) (zr_andr (lo := 0) (hi := 15) (zr_c (lo := 15) (hi := 15) (by decide)) (by decide)) (by decide)) h_x4 (by decide)) (by decide)
      exact (s_X12_does_208 hσ h_x1 h_x2 h_x3 h_x4 (zr_w h2 (by decide)) h_s0 (zr_w (zr_c (lo := 0) (hi := 0) (by decide)) (by decide)) (zr_c (lo := 4) (hi := 4) (by decide)))
    have h5 := zc_ltl (-1) (z_nle q3) (zr_sub (lo := -16) (hi := 15) (zr_sub (lo := -15) (hi := 15) (zr_andr (lo := 0) (hi := 15) (zr_c (lo := 15) (hi := 15) (by decide)) (by decide)) (zr_andr (lo := 0) (hi := 15) (zr_c (lo := 15) (hi := 15) (by decide)) (by decide)) (by decide)) h_x4 (by decide)) (zr_c (lo := 0) (hi := 0) (by decide)) (by decide)
    exact (s_X12_does_208 hσ h_x1 h_x2 h_x3 h_x4 (zr_w h2 (by decide)) h_s0 (zr_w (zr_c (lo := 1) (hi := 1) (by decide)) (by decide)) (zr_c (lo := 4) (hi := 4) (by decide)))
  have h6 := zc_nel (1) (1) q1 h_x5 (zr_c (lo := 0) (hi := 0) (by decide)) (by decide)
  refine zok_if (fun q7 => ?_) (fun q7 => ?_)
  · have h8 := zc_lel (15) q7 (zr_add (lo := 0) (hi := 31) (zr_add (lo := 0) (hi := 30) (zr_andr (lo := 0) (hi := 15) (zr_c (lo := 15) (hi := 15) (by decide)) (by decide)) (zr_andr (lo := 0) (hi := 15) (zr_c (lo := 15) (hi := 15) (by decide)) (by decide)) (by decide)) h_x4 (by decide)) (zr_c (lo := 15) (hi := 15) (by decide)) (by decide)
    exact (s_X12_does_208 hσ h_x1 h_x2 h_x3 h_x4 (zr_w h6 (by decide)) h_s0 (zr_w (zr_c (lo := 0) (hi := 0) (by decide)) (by decide)) (zr_c (lo := 4) (hi := 4) (by decide)))
  have h9 := zc_ltr (16) (z_nle q7) (zr_c (lo := 15) (hi := 15) (by decide)) (zr_add (lo := 0) (hi := 31) (zr_add (lo := 0) (hi := 30) (zr_andr (lo := 0) (hi := 15) (zr_c (lo := 15) (hi := 15) (by decide)) (by decide)) (zr_andr (lo := 0) (hi := 15) (zr_c (lo := 15) (hi := 15) (by decide)) (by decide)) (by decide)) h_x4 (by decide)) (by decide)
  exact (s_X12_does_208 hσ h_x1 h_x2 h_x3 h_x4 (zr_w h6 (by decide)) h_s0 (zr_w (zr_c (lo := 1) (hi := 1) (by decide)) (by decide)) (zr_c (lo := 4) (hi := 4) (by decide)))
theorem s_X12_does_132 {G : Nat → Int} {σ : zSt} (hσ : zIM G σ) {x1 : Int32} (h_x1 : zr (0) (7) x1) {x2 : Int32} (h_x2 : zr (0) (255) x2) {x3 : Int32} (h_x3 : zr (0) (255) x3) {x4 : Int32} (h_x4 : zr (0) (1) x4) {s0 : Int32} (h_s0 : zr (0) (1) s0) : zok (fX12_does_132 σ x1 x2 x3 x4 s0) (zIM G) := by
  unfold fX12_does_132
  refine zok_if (fun q1 => ?_) (fun q1 => ?_)
  · have h2 := zc_eql (0) (0) q1 h_s0 (zr_c (lo := 0) (hi := 0) (by decide)) (by decide)
    exact (s_X12_does_154 hσ h_x1 h_x2 h_x3 h_x4 (zr_w h2 (by decide)) (zr_w (zr_sub (lo := -256) (hi := 255) (zr_sub (lo := -255) (hi := 255) h_x3 h_x2 (by decide)) h_x4 (by decide)) (by decide)))
  have h3 := zc_nel (1) (1) q1 h_s0 (zr_c (lo := 0) (hi := 0) (by decide)) (by decide)
  exact (s_X12_does_154 hσ h_x1 h_x2 h_x3 h_x4 (zr_w h3 (by decide)) (zr_w (zr_add (lo := 0) (hi := 511) (zr_add (lo := 0) (hi := 510) h_x3 h_x2 (by decide)) h_x4 (by decide)) (by decide)))
theorem s_X12_does_120 {G : Nat → Int} {σ : zSt} (hσ : zIM G σ) {x1 : Int32} (h_x1 : zr (0) (7) x1) {x2 : Int32} (h_x2 : zr (0) (255) x2) {x3 : Int32} (h_x3 : zr (0) (255) x3) {s0 : Int32} (h_s0 : zr (0) (1) s0) : zok (fX12_does_120 σ x1 x2 x3 s0) (zIM G) := by
  unfold fX12_does_120
  refine zok_if (fun q1 => ?_) (fun q1 => ?_)
  · have h2 := zc_ler (2) q1 (zr_c (lo := 2) (hi := 2) (by decide)) h_x1 (by decide)
    exact (s_X12_does_132 hσ (zr_w h2 (by decide)) h_x2 h_x3 h_s0 (zr_w (zr_c (lo := 0) (hi := 0) (by decide)) (by decide)))
  have h3 := zc_ltl (1) (z_nle q1) h_x1 (zr_c (lo := 2) (hi := 2) (by decide)) (by decide)
  exact (s_X12_does_132 hσ (zr_w h3 (by decide)) h_x2 h_x3 h_s0 (zr_w (zr_c (lo := 1) (hi := 1) (by decide)) (by decide)))
theorem s_X12_does_111 {G : Nat → Int} {σ : zSt} (hσ : zIM G σ) {x1 : Int32} (h_x1 : zr (1) (3) x1) {x2 : Int32} (h_x2 : zr (0) (255) x2) {x3 : Int32} (h_x3 : zr (0) (255) x3) : zok (fX12_does_111 σ x1 x2 x3) (zIM G) := by
  unfold fX12_does_111
  refine zok_pi (s_X12_flag hσ.P (zr_w (zr_c (lo := 0) (hi := 0) (by decide)) (by decide))) (fun v17 h1 => ?_)
  exact (s_X12_does_120 hσ (zr_w h_x1 (by decide)) h_x2 h_x3 h1)
theorem s_X12_does_101 {G : Nat → Int} {σ : zSt} (hσ : zIM G σ) {x1 : Int32} (h_x1 : zr (0) (7) x1) {x2 : Int32} (h_x2 : zr (0) (255) x2) {x3 : Int32} (h_x3 : zr (0) (255) x3) : zok (fX12_does_101 σ x1 x2 x3) (zIM G) := by
  unfold fX12_does_101
  refine zok_if (fun q1 => ?_) (fun q1 => ?_)
  · have h2 := zc_eql (1) (1) q1 h_x1 (zr_c (lo := 1) (hi := 1) (by decide)) (by decide)
    exact (s_X12_does_111 hσ (zr_w h2 (by decide)) h_x2 h_x3)
  refine zok_if (fun q3 => ?_) (fun q3 => ?_)
  · have h4 := zc_eql (3) (3) q3 h_x1 (zr_c (lo := 3) (hi := 3) (by decide)) (by decide)
    exact (s_X12_does_111 hσ (zr_w h4 (by decide)) h_x2 h_x3)
  exact (s_X12_does_120 hσ h_x1 h_x2 h_x3 (zr_w (zr_c (lo := 0) (hi := 0) (by decide)) (by decide)))
theorem s_X12_does_71 {G : Nat → Int} {σ : zSt} (hσ : zIM G σ) {s0 : Int32} (h_s0 : zr (0) (1) s0) {s1 : Int32} (h_s1 : zr (4) (4) s1) : zok (fX12_does_71 σ s0 s1) (zIM G) := by
  unfold fX12_does_71
  refine zok_bu (s_X12_put hσ (zr_w h_s1 (by decide)) h_s0) (fun σ18 i1 => ?_)
  refine zok_ck rfl ?_
  refine zok_pi (s_X12_isEven i1.P (rM_11 i1.sg _ (by decide))) (fun v20 h2 => ?_)
  refine zok_bu (s_X12_put i1 (zr_w (zr_c (lo := 2) (hi := 2) (by decide)) (by decide)) h2) (fun σ21 i3 => ?_)
  refine zok_bu (s_X12_put i3 (zr_w (zr_c (lo := 1) (hi := 1) (by decide)) (by decide)) (zr_w (zr_c (lo := 0) (hi := 0) (by decide)) (by decide))) (fun σ22 i4 => ?_)
  refine zok_bu (s_X12_put i4 (zr_w (zr_c (lo := 0) (hi := 0) (by decide)) (by decide)) (zr_w (zr_c (lo := 0) (hi := 0) (by decide)) (by decide))) (fun σ23 i5 => ?_)
  exact zok_some i5
theorem s_X12_does_48 {G : Nat → Int} {σ : zSt} (hσ : zIM G σ) {x1 : Int32} (h_x1 : zr (4) (6) x1) {s0 : Int32} (h_s0 : zr (0) (255) s0) {s1 : Int32} (h_s1 : zr (0) (0) s1) : zok (fX12_does_48 σ x1 s0 s1) (zIM G) := by
  unfold fX12_does_48
  refine zok_ck (zin_ok h_s1 (by decide)) ?_
  refine zok_bs (hσ.wi 0 0 (z_ix h_s1 (by decide)) h_s0 (by decide +kernel)) (fun σ24 e2 i1 => ?_)
  refine zok_ck rfl ?_
  refine zok_bu (s_X12_by i1 (rM_11 i1.sg _ (by decide))) (fun σ25 i3 => ?_)
  refine zok_if (fun q4 => ?_) (fun q4 => ?_)
  · have h5 := zc_eql (4) (4) q4 h_x1 (zr_c (lo := 4) (hi := 4) (by decide)) (by decide)
    exact (s_X12_does_71 i3 (zr_w (zr_c (lo := 1) (hi := 1) (by decide)) (by decide)) (zr_c (lo := 4) (hi := 4) (by decide)))
  have h6 := zc_nel (5) (6) q4 h_x1 (zr_c (lo := 4) (hi := 4) (by decide)) (by decide)
  exact (s_X12_does_71 i3 (zr_w (zr_c (lo := 0) (hi := 0) (by decide)) (by decide)) (zr_c (lo := 4) (hi := 4) (by decide)))
theorem s_X12_does {G : Nat → Int} {σ : zSt} (hσ : zIM G σ) {x1 : Int32} (h_x1 : zr (0) (7) x1) {x2 : Int32} (h_x2 : zr (0) (255) x2) : zok (fX12_does σ x1 x2) (zIM G) := by
  unfold fX12_does
  refine zok_ck rfl ?_
  refine zok_br (rM_11 hσ.sg _ (by decide)) (fun v26 e2 h1 => ?_)
  refine zok_if (fun q3 => ?_) (fun q3 => ?_)
  · have h4 := zc_ltl (3) q3 h_x1 (zr_c (lo := 4) (hi := 4) (by decide)) (by decide)
    exact (s_X12_does_101 hσ (zr_w h4 (by decide)) h_x2 h1)
  have h5 := zc_ler (4) (z_nlt q3) (zr_c (lo := 4) (hi := 4) (by decide)) h_x1 (by decide)
  refine zok_if (fun q6 => ?_) (fun q6 => ?_)
  · have h7 := zc_ler (7) q6 (zr_c (lo := 7) (hi := 7) (by decide)) h5 (by decide)
    exact (s_X12_does_101 hσ (zr_w h7 (by decide)) h_x2 h1)
  have h8 := zc_ltl (6) (z_nle q6) h5 (zr_c (lo := 7) (hi := 7) (by decide)) (by decide)
  refine zok_if (fun q9 => ?_) (fun q9 => ?_)
  · have h10 := zc_eql (4) (4) q9 h8 (zr_c (lo := 4) (hi := 4) (by decide)) (by decide)
    exact (s_X12_does_48 hσ (zr_w h10 (by decide)) (zr_andr (lo := 0) (hi := 255) h_x2 (by decide)) (zr_c (lo := 0) (hi := 0) (by decide)))
  have h11 := zc_nel (5) (6) q9 h8 (zr_c (lo := 4) (hi := 4) (by decide)) (by decide)
  refine zok_if (fun q12 => ?_) (fun q12 => ?_)
  · have h13 := zc_eql (5) (5) q12 h11 (zr_c (lo := 5) (hi := 5) (by decide)) (by decide)
    exact (s_X12_does_48 hσ (zr_w h13 (by decide)) (zr_xor (lo := 0) (hi := 255) 8 h1 h_x2 (by decide)) (zr_c (lo := 0) (hi := 0) (by decide)))
  have h14 := zc_nel (6) (6) q12 h11 (zr_c (lo := 5) (hi := 5) (by decide)) (by decide)
  exact (s_X12_does_48 hσ (zr_w h14 (by decide)) (zr_or (lo := 0) (hi := 255) 8 h1 h_x2 (by decide)) (zr_c (lo := 0) (hi := 0) (by decide)))
theorem s_X12_blocks_595 {σ : zSt} (hσ : zPM σ) : zok (fX12_blocks_595 σ ) (zPi σ (fun v : Int32 => zr (16) (21) v)) := by
  unfold fX12_blocks_595
  exact zok_spi (zr_w (zr_c (lo := 16) (hi := 16) (by decide)) (by decide))
theorem s_X12_blocks_641 {σ : zSt} (hσ : zPM σ) : zok (fX12_blocks_641 σ ) (zPi σ (fun v : Int32 => zr (16) (21) v)) := by
  unfold fX12_blocks_641
  exact zok_spi (zr_w (zr_c (lo := 21) (hi := 21) (by decide)) (by decide))
theorem s_X12_blocks_584 {G : Nat → Int} {σ : zSt} (hσ : zIM G σ) {x1 : Int32} (h_x1 : zr (4) (7) x1) {x2 : Int32} (h_x2 : zr (0) (3) x2) {x5 : Int32} (h_x5 : zr (0) (1) x5) : zok (fX12_blocks_584 σ x1 x2 x5) (zAi (zIM G) (fun v : Int32 => zr (16) (21) v)) := by
  unfold fX12_blocks_584
  refine zok_if (fun q1 => ?_) (fun q1 => ?_)
  · have h2 := zc_ltl (5) q1 h_x1 (zr_c (lo := 6) (hi := 6) (by decide)) (by decide)
    exact zok_pai hσ (s_X12_blocks_595 hσ.P)
  have h3 := zc_ler (6) (z_nlt q1) (zr_c (lo := 6) (hi := 6) (by decide)) h_x1 (by decide)
  refine zok_if (fun q4 => ?_) (fun q4 => ?_)
  · have h5 := zc_eql (0) (0) q4 h_x5 (zr_c (lo := 0) (hi := 0) (by decide)) (by decide)
    exact zok_pai hσ (s_X12_blocks_595 hσ.P)
  have h6 := zc_nel (1) (1) q4 h_x5 (zr_c (lo := 0) (hi := 0) (by decide)) (by decide)
  refine zok_ck rfl ?_
  refine zok_ck rfl ?_
  refine zok_bs (hσ.wi 19 19 (by decide) (zr_andr (lo := 0) (hi := 65535) (zr_c (lo := 65535) (hi := 65535) (by decide)) (by decide)) (by decide +kernel)) (fun σ1 e8 i7 => ?_)
  refine zok_if (fun q9 => ?_) (fun q9 => ?_)
  · have h10 := zc_ler (2) q9 (zr_c (lo := 2) (hi := 2) (by decide)) h_x2 (by decide)
    exact zok_pai i7 (s_X12_blocks_641 i7.P)
  have h11 := zc_ltl (1) (z_nle q9) h_x2 (zr_c (lo := 2) (hi := 2) (by decide)) (by decide)
  refine zok_ck rfl ?_
  refine zok_ck rfl ?_
  refine zok_bs (i7.wi 20 20 (by decide) (zr_andr (lo := 0) (hi := 65535) (zr_c (lo := 65535) (hi := 65535) (by decide)) (by decide)) (by decide +kernel)) (fun σ2 e13 i12 => ?_)
  exact zok_pai i12 (s_X12_blocks_641 i12.P)
theorem s_X12_blocks_297 {G : Nat → Int} {σ : zSt} (hσ : zIM G σ) {x1 : Int32} (h_x1 : zr (4) (7) x1) {x2 : Int32} (h_x2 : zr (0) (1) x2) {s0 : Int32} (h_s0 : zr (0) (1) s0) : zok (fX12_blocks_297 σ x1 x2 s0) (zAi (zIM G) (fun v : Int32 => zr (16) (21) v)) := by
  unfold fX12_blocks_297
  exact (s_X12_blocks_584 hσ h_x1 (zr_w h_x2 (by decide)) h_s0)
theorem s_X12_blocks_296 {G : Nat → Int} {σ : zSt} (hσ : zIM G σ) {x1 : Int32} (h_x1 : zr (4) (7) x1) {x2 : Int32} (h_x2 : zr (0) (1) x2) : zok (fX12_blocks_296 σ x1 x2) (zAi (zIM G) (fun v : Int32 => zr (16) (21) v)) := by
  unfold fX12_blocks_296
  exact (s_X12_blocks_297 hσ h_x1 h_x2 (zr_w (zr_c (lo := 0) (hi := 0) (by decide)) (by decide)))
theorem s_X12_blocks_292 {G : Nat → Int} {σ : zSt} (hσ : zIM G σ) {x1 : Int32} (h_x1 : zr (4) (7) x1) {x2 : Int32} (h_x2 : zr (0) (1) x2) : zok (fX12_blocks_292 σ x1 x2) (zAi (zIM G) (fun v : Int32 => zr (16) (21) v)) := by
  unfold fX12_blocks_292
  exact (s_X12_blocks_297 hσ h_x1 h_x2 (zr_w (zr_c (lo := 1) (hi := 1) (by decide)) (by decide)))
theorem s_X12_blocks_267 {G : Nat → Int} {σ : zSt} (hσ : zIM G σ) {x1 : Int32} (h_x1 : zr (4) (7) x1) {x2 : Int32} (h_x2 : zr (0) (1) x2) {s0 : Int32} (h_s0 : zr (0) (1) s0) {s1 : Int32} (h_s1 : zr (2) (2) s1) : zok (fX12_blocks_267 σ x1 x2 s0 s1) (zAi (zIM G) (fun v : Int32 => zr (16) (21) v)) := by
  unfold fX12_blocks_267
  refine zok_bu (s_X12_put hσ (zr_w h_s1 (by decide)) h_s0) (fun σ3 i1 => ?_)
  refine zok_pi (s_X12_flag i1.P (zr_w (zr_c (lo := 2) (hi := 2) (by decide)) (by decide))) (fun v5 h2 => ?_)
  refine zok_if (fun q3 => ?_) (fun q3 => ?_)
  · have h4 := zc_eql (1) (1) q3 h2 (zr_c (lo := 1) (hi := 1) (by decide)) (by decide)
    refine zok_if (fun q5 => ?_) (fun q5 => ?_)
    · have h6 := zc_eql (0) (0) q5 h_x2 (zr_c (lo := 0) (hi := 0) (by decide)) (by decide)
      exact (s_X12_blocks_292 i1 h_x1 (zr_w h6 (by decide)))
    have h7 := zc_nel (1) (1) q5 h_x2 (zr_c (lo := 0) (hi := 0) (by decide)) (by decide)
    refine zok_pi (s_X12_flag i1.P (zr_w (zr_c (lo := 6) (hi := 6) (by decide)) (by decide))) (fun v7 h8 => ?_)
    refine zok_if (fun q9 => ?_) (fun q9 => ?_)
    · have h10 := zc_eql (0) (0) q9 h8 (zr_c (lo := 0) (hi := 0) (by decide)) (by decide)
      exact (s_X12_blocks_292 i1 h_x1 (zr_w h7 (by decide)))
    have h11 := zc_nel (1) (1) q9 h8 (zr_c (lo := 0) (hi := 0) (by decide)) (by decide)
    exact (s_X12_blocks_296 i1 h_x1 (zr_w h7 (by decide)))
  have h12 := zc_nel (0) (0) q3 h2 (zr_c (lo := 1) (hi := 1) (by decide)) (by decide)
  exact (s_X12_blocks_296 i1 h_x1 h_x2)
theorem s_X12_blocks_249 {G : Nat → Int} {σ : zSt} (hσ : zIM G σ) {x1 : Int32} (h_x1 : zr (4) (7) x1) {x2 : Int32} (h_x2 : zr (0) (1) x2) {s0 : Int32} (h_s0 : zr (0) (1) s0) {s1 : Int32} (h_s1 : zr (1) (1) s1) : zok (fX12_blocks_249 σ x1 x2 s0 s1) (zAi (zIM G) (fun v : Int32 => zr (16) (21) v)) := by
  unfold fX12_blocks_249
  refine zok_bu (s_X12_put hσ (zr_w h_s1 (by decide)) h_s0) (fun σ8 i1 => ?_)
  refine zok_pi (s_X12_pair i1.P (zr_w (zr_c (lo := 2) (hi := 2) (by decide)) (by decide))) (fun v10 h2 => ?_)
  refine zok_if (fun q3 => ?_) (fun q3 => ?_)
  · have h4 := zc_eql (0) (0) q3 h2 (zr_c (lo := 0) (hi := 0) (by decide)) (by decide)
    exact (s_X12_blocks_267 i1 h_x1 h_x2 (zr_w (zr_c (lo := 0) (hi := 0) (by decide)) (by decide)) (zr_c (lo := 2) (hi := 2) (by decide)))
  have h5 := zc_nel (1) (65535) q3 h2 (zr_c (lo := 0) (hi := 0) (by decide)) (by decide)
  exact (s_X12_blocks_267 i1 h_x1 h_x2 (zr_w (zr_c (lo := 1) (hi := 1) (by decide)) (by decide)) (zr_c (lo := 2) (hi := 2) (by decide)))
theorem s_X12_blocks_234 {G : Nat → Int} {σ : zSt} (hσ : zIM G σ) {x1 : Int32} (h_x1 : zr (4) (7) x1) {x2 : Int32} (h_x2 : zr (0) (1) x2) {s0 : Int32} (h_s0 : zr (0) (1) s0) {s1 : Int32} (h_s1 : zr (3) (3) s1) : zok (fX12_blocks_234 σ x1 x2 s0 s1) (zAi (zIM G) (fun v : Int32 => zr (16) (21) v)) := by
  unfold fX12_blocks_234
  refine zok_bu (s_X12_put hσ (zr_w h_s1 (by decide)) h_s0) (fun σ11 i1 => ?_)
  refine zok_if (fun q2 => ?_) (fun q2 => ?_)
  · have h3 := zc_eql (1) (1) q2 h_x2 (zr_c (lo := 1) (hi := 1) (by decide)) (by decide)
    exact (s_X12_blocks_249 i1 h_x1 (zr_w h3 (by decide)) (zr_w (zr_c (lo := 1) (hi := 1) (by decide)) (by decide)) (zr_c (lo := 1) (hi := 1) (by decide)))
  have h4 := zc_nel (0) (0) q2 h_x2 (zr_c (lo := 1) (hi := 1) (by decide)) (by decide)
  exact (s_X12_blocks_249 i1 h_x1 (zr_w h4 (by decide)) (zr_w (zr_c (lo := 0) (hi := 0) (by decide)) (by decide)) (zr_c (lo := 1) (hi := 1) (by decide)))
theorem s_X12_blocks_216 {G : Nat → Int} {σ : zSt} (hσ : zIM G σ) {x1 : Int32} (h_x1 : zr (4) (7) x1) {x2 : Int32} (h_x2 : zr (0) (1) x2) {x6 : Int32} (h_x6 : zr (-256) (510) x6) {s0 : Int32} (h_s0 : zr (0) (1) s0) {s1 : Int32} (h_s1 : zr (5) (5) s1) : zok (fX12_blocks_216 σ x1 x2 x6 s0 s1) (zAi (zIM G) (fun v : Int32 => zr (16) (21) v)) := by
  unfold fX12_blocks_216
  refine zok_bu (s_X12_put hσ (zr_w h_s1 (by decide)) h_s0) (fun σ12 i1 => ?_)
  refine zok_if (fun q2 => ?_) (fun q2 => ?_)
  · have h3 := zc_eql (0) (0) q2 (zr_andr (lo := 0) (hi := 8) (zr_c (lo := 8) (hi := 8) (by decide)) (by decide)) (zr_c (lo := 0) (hi := 0) (by decide)) (by decide)
    exact (s_X12_blocks_234 i1 h_x1 h_x2 (zr_w (zr_c (lo := 0) (hi := 0) (by decide)) (by decide)) (zr_c (lo := 3) (hi := 3) (by decide)))
  have h4 := zc_nel (1) (8) q2 (zr_andr (lo := 0) (hi := 8) (zr_c (lo := 8) (hi := 8) (by decide)) (by decide)) (zr_c (lo := 0) (hi := 0) (by decide)) (by decide)
  exact (s_X12_blocks_234 i1 h_x1 h_x2 (zr_w (zr_c (lo := 1) (hi := 1) (by decide)) (by decide)) (zr_c (lo := 3) (hi := 3) (by decide)))
theorem s_X12_blocks_202 {G : Nat → Int} {σ : zSt} (hσ : zIM G σ) {x1 : Int32} (h_x1 : zr (4) (7) x1) {x2 : Int32} (h_x2 : zr (0) (1) x2) {x6 : Int32} (h_x6 : zr (-256) (510) x6) : zok (fX12_blocks_202 σ x1 x2 x6) (zAi (zIM G) (fun v : Int32 => zr (16) (21) v)) := by
  unfold fX12_blocks_202
  refine zok_if (fun q1 => ?_) (fun q1 => ?_)
  · have h2 := zc_eql (0) (0) q1 (zr_andr (lo := 0) (hi := 2) (zr_c (lo := 2) (hi := 2) (by decide)) (by decide)) (zr_c (lo := 0) (hi := 0) (by decide)) (by decide)
    exact (s_X12_blocks_216 hσ h_x1 h_x2 h_x6 (zr_w (zr_c (lo := 0) (hi := 0) (by decide)) (by decide)) (zr_c (lo := 5) (hi := 5) (by decide)))
  have h3 := zc_nel (1) (2) q1 (zr_andr (lo := 0) (hi := 2) (zr_c (lo := 2) (hi := 2) (by decide)) (by decide)) (zr_c (lo := 0) (hi := 0) (by decide)) (by decide)
  exact (s_X12_blocks_216 hσ h_x1 h_x2 h_x6 (zr_w (zr_c (lo := 1) (hi := 1) (by decide)) (by decide)) (zr_c (lo := 5) (hi := 5) (by decide)))
theorem s_X12_blocks_190 {G : Nat → Int} {σ : zSt} (hσ : zIM G σ) {x1 : Int32} (h_x1 : zr (4) (7) x1) {x2 : Int32} (h_x2 : zr (1) (1) x2) {s0 : Int32} (h_s0 : zr (0) (1) s0) {s1 : Int32} (h_s1 : zr (-255) (510) s1) : zok (fX12_blocks_190 σ x1 x2 s0 s1) (zAi (zIM G) (fun v : Int32 => zr (16) (21) v)) := by
  unfold fX12_blocks_190
  refine zok_br (zr_sub (lo := -256) (hi := 510) h_s1 h_s0 (by decide)) (fun v13 e2 h1 => ?_)
  exact (s_X12_blocks_202 hσ h_x1 (zr_w h_x2 (by decide)) h1)
theorem s_X12_blocks_159 {G : Nat → Int} {σ : zSt} (hσ : zIM G σ) {x1 : Int32} (h_x1 : zr (4) (7) x1) {x2 : Int32} (h_x2 : zr (1) (1) x2) {x6 : Int32} (h_x6 : zr (-255) (510) x6) {s0 : Int32} (h_s0 : zr (0) (1) s0) : zok (fX12_blocks_159 σ x1 x2 x6 s0) (zAi (zIM G) (fun v : Int32 => zr (16) (21) v)) := by
  unfold fX12_blocks_159
  refine zok_bu (s_X12_by hσ (zr_andr (lo := 0) (hi := 255) (zr_c (lo := 255) (hi := 255) (by decide)) (by decide))) (fun σ14 i1 => ?_)
  refine zok_bu (s_X12_put i1 (zr_w (zr_c (lo := 4) (hi := 4) (by decide)) (by decide)) h_s0) (fun σ15 i2 => ?_)
  refine zok_if (fun q3 => ?_) (fun q3 => ?_)
  · have h4 := zc_eql (0) (0) q3 h_s0 (zr_c (lo := 0) (hi := 0) (by decide)) (by decide)
    exact (s_X12_blocks_190 i2 h_x1 h_x2 (zr_w (zr_c (lo := 0) (hi := 0) (by decide)) (by decide)) h_x6)
  have h5 := zc_nel (1) (1) q3 h_s0 (zr_c (lo := 0) (hi := 0) (by decide)) (by decide)
  exact (s_X12_blocks_190 i2 h_x1 h_x2 (zr_w (zr_c (lo := 1) (hi := 1) (by decide)) (by decide)) h_x6)
theorem s_X12_blocks_111 {G : Nat → Int} {σ : zSt} (hσ : zIM G σ) {x1 : Int32} (h_x1 : zr (4) (7) x1) {x2 : Int32} (h_x2 : zr (0) (1) x2) {x3 : Int32} (h_x3 : zr (-1) (1) x3) {x4 : Int32} (h_x4 : zr (0) (255) x4) {s0 : Int32} (h_s0 : zr (-255) (510) s0) : zok (fX12_blocks_111 σ x1 x2 x3 x4 s0) (zAi (zIM G) (fun v : Int32 => zr (16) (21) v)) := by
  unfold fX12_blocks_111
  refine zok_if (fun q1 => ?_) (fun q1 => ?_)
  · have h2 := zc_eql (1) (1) q1 h_x2 (zr_c (lo := 1) (hi := 1) (by decide)) (by decide)
    refine zok_ck rfl ?_
    refine zok_ck rfl ?_
    refine zok_bs (hσ.wi 20 20 (by decide) (zr_andr (lo := 0) (hi := 65535) (zr_c (lo := 65535) (hi := 65535) (by decide)) (by decide)) (by decide +kernel)) (fun σ17 e4 i3 => ?_)
    refine zok_ck rfl ?_
    refine zok_if (fun q5 => ?_) (fun q5 => ?_)
    · exact (s_X12_blocks_159 i3 h_x1 h2 h_s0 (zr_w (zr_c (lo := 0) (hi := 0) (by decide)) (by decide)))
    have h6 := zc_ltl (14) (z_nle q5) (zr_andr (lo := 0) (hi := 15) (zr_c (lo := 15) (hi := 15) (by decide)) (by decide)) (zr_andr (lo := 0) (hi := 15) (zr_c (lo := 15) (hi := 15) (by decide)) (by decide)) (by decide)
    have h7 := zc_ltr (1) (z_nle q5) (zr_andr (lo := 0) (hi := 15) (zr_c (lo := 15) (hi := 15) (by decide)) (by decide)) (zr_andr (lo := 0) (hi := 15) (zr_c (lo := 15) (hi := 15) (by decide)) (by decide)) (by decide)
    exact (s_X12_blocks_159 i3 h_x1 h2 h_s0 (zr_w (zr_c (lo := 1) (hi := 1) (by decide)) (by decide)))
  have h8 := zc_nel (0) (0) q1 h_x2 (zr_c (lo := 1) (hi := 1) (by decide)) (by decide)
  refine zok_bu (s_X12_put hσ (zr_w (zr_c (lo := 4) (hi := 4) (by decide)) (by decide)) (zr_w (zr_c (lo := 0) (hi := 0) (by decide)) (by decide))) (fun σ16 i9 => ?_)
  exact (s_X12_blocks_202 i9 h_x1 (zr_w h8 (by decide)) (zr_w h_s0 (by decide)))
theorem s_X12_blocks_74 {G : Nat → Int} {σ : zSt} (hσ : zIM G σ) {x1 : Int32} (h_x1 : zr (4) (7) x1) {x2 : Int32} (h_x2 : zr (0) (1) x2) {x3 : Int32} (h_x3 : zr (-1) (1) x3) {x4 : Int32} (h_x4 : zr (0) (255) x4) : zok (fX12_blocks_74 σ x1 x2 x3 x4) (zAi (zIM G) (fun v : Int32 => zr (16) (21) v)) := by
  unfold fX12_blocks_74
  refine zok_pi (s_X12_pair hσ.P (zr_w (zr_c (lo := 2) (hi := 2) (by decide)) (by decide))) (fun v19 h1 => ?_)
  refine zok_bu (s_X12_pairTo hσ (zr_w (zr_c (lo := 2) (hi := 2) (by decide)) (by decide)) (zr_w (zr_sub (lo := -1) (hi := 65534) h1 (zr_c (lo := 1) (hi := 1) (by decide)) (by decide)) (by decide))) (fun σ20 i2 => ?_)
  refine zok_if (fun q3 => ?_) (fun q3 => ?_)
  · have h4 := zc_eql (0) (0) q3 h_x2 (zr_c (lo := 0) (hi := 0) (by decide)) (by decide)
    refine zok_ck rfl ?_
    exact (s_X12_blocks_111 i2 h_x1 (zr_w h4 (by decide)) h_x3 h_x4 (zr_w (zr_add (lo := 0) (hi := 510) (rM_11 i2.sg _ (by decide)) h_x4 (by decide)) (by decide)))
  have h5 := zc_nel (1) (1) q3 h_x2 (zr_c (lo := 0) (hi := 0) (by decide)) (by decide)
  refine zok_ck rfl ?_
  exact (s_X12_blocks_111 i2 h_x1 (zr_w h5 (by decide)) h_x3 h_x4 (zr_w (zr_sub (lo := -255) (hi := 255) (rM_11 i2.sg _ (by decide)) h_x4 (by decide)) (by decide)))
theorem s_X12_blocks_44 {G : Nat → Int} {σ : zSt} (hσ : zIM G σ) {x1 : Int32} (h_x1 : zr (4) (7) x1) {x2 : Int32} (h_x2 : zr (0) (1) x2) {x3 : Int32} (h_x3 : zr (-1) (1) x3) {x4 : Int32} (h_x4 : zr (0) (255) x4) : zok (fX12_blocks_44 σ x1 x2 x3 x4) (zAi (zIM G) (fun v : Int32 => zr (16) (21) v)) := by
  unfold fX12_blocks_44
  refine zok_pi (s_X12_pair hσ.P (zr_w (zr_c (lo := 6) (hi := 6) (by decide)) (by decide))) (fun v22 h1 => ?_)
  refine zok_bu (s_X12_pairTo hσ (zr_w (zr_c (lo := 6) (hi := 6) (by decide)) (by decide)) (zr_w (zr_add (lo := -1) (hi := 65536) h1 h_x3 (by decide)) (by decide))) (fun σ23 i2 => ?_)
  refine zok_if (fun q3 => ?_) (fun q3 => ?_)
  · have h4 := zc_eql (0) (0) q3 h_x2 (zr_c (lo := 0) (hi := 0) (by decide)) (by decide)
    refine zok_pi (s_X12_pair i2.P (zr_w (zr_c (lo := 4) (hi := 4) (by decide)) (by decide))) (fun v25 h5 => ?_)
    refine zok_bu (s_X12_pairTo i2 (zr_w (zr_c (lo := 4) (hi := 4) (by decide)) (by decide)) (zr_w (zr_add (lo := -1) (hi := 65536) h5 h_x3 (by decide)) (by decide))) (fun σ26 i6 => ?_)
    exact (s_X12_blocks_74 i6 h_x1 (zr_w h4 (by decide)) h_x3 h_x4)
  have h7 := zc_nel (1) (1) q3 h_x2 (zr_c (lo := 0) (hi := 0) (by decide)) (by decide)
  exact (s_X12_blocks_74 i2 h_x1 (zr_w h7 (by decide)) h_x3 h_x4)
theorem s_X12_blocks_582 {G : Nat → Int} {σ : zSt} (hσ : zIM G σ) {x1 : Int32} (h_x1 : zr (4) (7) x1) {x2 : Int32} (h_x2 : zr (2) (3) x2) {s0 : Int32} (h_s0 : zr (0) (1) s0) : zok (fX12_blocks_582 σ x1 x2 s0) (zAi (zIM G) (fun v : Int32 => zr (16) (21) v)) := by
  unfold fX12_blocks_582
  exact (s_X12_blocks_584 hσ h_x1 (zr_w h_x2 (by decide)) h_s0)
theorem s_X12_blocks_545 {G : Nat → Int} {σ : zSt} (hσ : zIM G σ) {x1 : Int32} (h_x1 : zr (4) (7) x1) {x2 : Int32} (h_x2 : zr (2) (3) x2) {x6 : Int32} (h_x6 : zr (0) (510) x6) {s0 : Int32} (h_s0 : zr (0) (1) s0) {s1 : Int32} (h_s1 : zr (0) (0) s1) : zok (fX12_blocks_545 σ x1 x2 x6 s0 s1) (zAi (zIM G) (fun v : Int32 => zr (16) (21) v)) := by
  unfold fX12_blocks_545
  refine zok_bu (s_X12_put hσ (zr_w h_s1 (by decide)) h_s0) (fun σ27 i1 => ?_)
  refine zok_ck rfl ?_
  refine zok_pi (s_X12_isEven i1.P (zr_xor (lo := 0) (hi := 255) 8 (zr_andr (lo := 0) (hi := 7) (zr_c (lo := 7) (hi := 7) (by decide)) (by decide)) (rM_11 i1.sg _ (by decide)) (by decide))) (fun v29 h2 => ?_)
  refine zok_bu (s_X12_put i1 (zr_w (zr_c (lo := 2) (hi := 2) (by decide)) (by decide)) h2) (fun σ30 i3 => ?_)
  refine zok_ck rfl ?_
  refine zok_if (fun q4 => ?_) (fun q4 => ?_)
  · have h5 := zc_eql (0) (0) q4 (rM_11 i3.sg _ (by decide)) (zr_c (lo := 0) (hi := 0) (by decide)) (by decide)
    exact (s_X12_blocks_582 i3 h_x1 h_x2 (zr_w (zr_c (lo := 0) (hi := 0) (by decide)) (by decide)))
  have h6 := zc_nel (1) (255) q4 (rM_11 i3.sg _ (by decide)) (zr_c (lo := 0) (hi := 0) (by decide)) (by decide)
  exact (s_X12_blocks_582 i3 h_x1 h_x2 (zr_w (zr_c (lo := 1) (hi := 1) (by decide)) (by decide)))
theorem s_X12_blocks_527 {G : Nat → Int} {σ : zSt} (hσ : zIM G σ) {x1 : Int32} (h_x1 : zr (4) (7) x1) {x2 : Int32} (h_x2 : zr (2) (3) x2) {x6 : Int32} (h_x6 : zr (0) (510) x6) {s0 : Int32} (h_s0 : zr (0) (1) s0) {s1 : Int32} (h_s1 : zr (4) (4) s1) : zok (fX12_blocks_527 σ x1 x2 x6 s0 s1) (zAi (zIM G) (fun v : Int32 => zr (16) (21) v)) := by
  unfold fX12_blocks_527
  refine zok_bu (s_X12_put hσ (zr_w h_s1 (by decide)) h_s0) (fun σ31 i1 => ?_)
  refine zok_if (fun q2 => ?_) (fun q2 => ?_)
  · have h3 := zc_lel (255) q2 h_x6 (zr_c (lo := 255) (hi := 255) (by decide)) (by decide)
    exact (s_X12_blocks_545 i1 h_x1 h_x2 (zr_w h3 (by decide)) (zr_w (zr_c (lo := 0) (hi := 0) (by decide)) (by decide)) (zr_c (lo := 0) (hi := 0) (by decide)))
  have h4 := zc_ltr (256) (z_nle q2) (zr_c (lo := 255) (hi := 255) (by decide)) h_x6 (by decide)
  exact (s_X12_blocks_545 i1 h_x1 h_x2 (zr_w h4 (by decide)) (zr_w (zr_c (lo := 1) (hi := 1) (by decide)) (by decide)) (zr_c (lo := 0) (hi := 0) (by decide)))
theorem s_X12_blocks_509 {G : Nat → Int} {σ : zSt} (hσ : zIM G σ) {x1 : Int32} (h_x1 : zr (4) (7) x1) {x2 : Int32} (h_x2 : zr (2) (3) x2) {x6 : Int32} (h_x6 : zr (0) (510) x6) {s0 : Int32} (h_s0 : zr (0) (1) s0) {s1 : Int32} (h_s1 : zr (1) (1) s1) : zok (fX12_blocks_509 σ x1 x2 x6 s0 s1) (zAi (zIM G) (fun v : Int32 => zr (16) (21) v)) := by
  unfold fX12_blocks_509
  refine zok_bu (s_X12_put hσ (zr_w h_s1 (by decide)) h_s0) (fun σ32 i1 => ?_)
  refine zok_if (fun q2 => ?_) (fun q2 => ?_)
  · have h3 := zc_lel (255) q2 h_x6 (zr_c (lo := 255) (hi := 255) (by decide)) (by decide)
    exact (s_X12_blocks_527 i1 h_x1 h_x2 (zr_w h3 (by decide)) (zr_w (zr_c (lo := 0) (hi := 0) (by decide)) (by decide)) (zr_c (lo := 4) (hi := 4) (by decide)))
  have h4 := zc_ltr (256) (z_nle q2) (zr_c (lo := 255) (hi := 255) (by decide)) h_x6 (by decide)
  exact (s_X12_blocks_527 i1 h_x1 h_x2 (zr_w h4 (by decide)) (zr_w (zr_c (lo := 1) (hi := 1) (by decide)) (by decide)) (zr_c (lo := 4) (hi := 4) (by decide)))
theorem s_X12_blocks_485 {G : Nat → Int} {σ : zSt} (hσ : zIM G σ) {x1 : Int32} (h_x1 : zr (4) (7) x1) {x2 : Int32} (h_x2 : zr (2) (3) x2) {x4 : Int32} (h_x4 : zr (0) (255) x4) {x6 : Int32} (h_x6 : zr (0) (510) x6) : zok (fX12_blocks_485 σ x1 x2 x4 x6) (zAi (zIM G) (fun v : Int32 => zr (16) (21) v)) := by
  unfold fX12_blocks_485
  refine zok_ck rfl ?_
  refine zok_bu (s_X12_by hσ (rM_11 hσ.sg _ (by decide))) (fun σ33 i1 => ?_)
  refine zok_if (fun q2 => ?_) (fun q2 => ?_)
  · have h3 := zc_lel (127) q2 h_x4 (zr_c (lo := 127) (hi := 127) (by decide)) (by decide)
    exact (s_X12_blocks_509 i1 h_x1 h_x2 h_x6 (zr_w (zr_c (lo := 0) (hi := 0) (by decide)) (by decide)) (zr_c (lo := 1) (hi := 1) (by decide)))
  have h4 := zc_ltr (128) (z_nle q2) (zr_c (lo := 127) (hi := 127) (by decide)) h_x4 (by decide)
  exact (s_X12_blocks_509 i1 h_x1 h_x2 h_x6 (zr_w (zr_c (lo := 1) (hi := 1) (by decide)) (by decide)) (zr_c (lo := 1) (hi := 1) (by decide)))
theorem s_X12_blocks_11 {G : Nat → Int} {σ : zSt} (hσ : zIM G σ) {x1 : Int32} (h_x1 : zr (4) (7) x1) {x2 : Int32} (h_x2 : zr (0) (3) x2) {s0 : Int32} (h_s0 : zr (-1) (1) s0) : zok (fX12_blocks_11 σ x1 x2 s0) (zAi (zIM G) (fun v : Int32 => zr (16) (21) v)) := by
  unfold fX12_blocks_11
  refine zok_if (fun q1 => ?_) (fun q1 => ?_)
  · have h2 := zc_ler (2) q1 (zr_c (lo := 2) (hi := 2) (by decide)) h_x2 (by decide)
    refine zok_if (fun q3 => ?_) (fun q3 => ?_)
    · have h4 := zc_eql (2) (2) q3 h2 (zr_c (lo := 2) (hi := 2) (by decide)) (by decide)
      refine zok_pi (s_X12_pair hσ.P (zr_w (zr_c (lo := 2) (hi := 2) (by decide)) (by decide))) (fun v48 h5 => ?_)
      refine zok_ck rfl ?_
      refine zok_bs (hσ.wi 20 20 (by decide) (zr_andr (lo := 0) (hi := 65535) (zr_c (lo := 65535) (hi := 65535) (by decide)) (by decide)) (by decide +kernel)) (fun σ49 e7 i6 => ?_)
      refine zok_ck rfl ?_
      refine zok_ai (s_X12_port i6 (rM_11 i6.sg _ (by decide))) (fun σ50 v51 i8 h9 => ?_)
      refine zok_ck rfl ?_
      refine zok_ck rfl ?_
      refine zok_bs (i8.wi 2 2 (by decide) (zr_andr (lo := 0) (hi := 255) (zr_c (lo := 255) (hi := 255) (by decide)) (by decide)) (by decide +kernel)) (fun σ52 e11 i10 => ?_)
      refine zok_pi (s_X12_pair i10.P (zr_w (zr_c (lo := 6) (hi := 6) (by decide)) (by decide))) (fun v54 h12 => ?_)
      refine zok_bu (s_X12_write i10) (fun σ55 i13 => ?_)
      refine zok_pi (s_X12_pair i13.P (zr_w (zr_c (lo := 6) (hi := 6) (by decide)) (by decide))) (fun v57 h14 => ?_)
      refine zok_bu (s_X12_pairTo i13 (zr_w (zr_c (lo := 6) (hi := 6) (by decide)) (by decide)) (zr_w (zr_add (lo := -1) (hi := 65536) h14 h_s0 (by decide)) (by decide))) (fun σ58 i15 => ?_)
      refine zok_ck rfl ?_
      refine zok_br (zr_add (lo := 0) (hi := 510) h9 (zr_andr (lo := 0) (hi := 255) (zr_c (lo := 255) (hi := 255) (by decide)) (by decide)) (by decide)) (fun v59 e17 h16 => ?_)
      exact (s_X12_blocks_485 i15 h_x1 (zr_w h4 (by decide)) h9 h16)
    have h18 := zc_nel (3) (3) q3 h2 (zr_c (lo := 2) (hi := 2) (by decide)) (by decide)
    refine zok_pi (s_X12_pair hσ.P (zr_w (zr_c (lo := 6) (hi := 6) (by decide)) (by decide))) (fun v35 h19 => ?_)
    refine zok_pi (s_X12_read hσ.P) (fun v37 h20 => ?_)
    refine zok_ck rfl ?_
    refine zok_ck rfl ?_
    refine zok_bs (hσ.wi 2 2 (by decide) (zr_andr (lo := 0) (hi := 255) (zr_c (lo := 255) (hi := 255) (by decide)) (by decide)) (by decide +kernel)) (fun σ38 e22 i21 => ?_)
    refine zok_ck rfl ?_
    refine zok_bu (s_X12_portTo i21 (rM_11 i21.sg _ (by decide)) h20) (fun σ39 i23 => ?_)
    refine zok_pi (s_X12_pair i23.P (zr_w (zr_c (lo := 6) (hi := 6) (by decide)) (by decide))) (fun v41 h24 => ?_)
    refine zok_bu (s_X12_pairTo i23 (zr_w (zr_c (lo := 6) (hi := 6) (by decide)) (by decide)) (zr_w (zr_add (lo := -1) (hi := 65536) h24 h_s0 (by decide)) (by decide))) (fun σ42 i25 => ?_)
    refine zok_pi (s_X12_pair i25.P (zr_w (zr_c (lo := 2) (hi := 2) (by decide)) (by decide))) (fun v44 h26 => ?_)
    refine zok_ck rfl ?_
    refine zok_bs (i25.wi 20 20 (by decide) (zr_andr (lo := 0) (hi := 65535) (zr_c (lo := 65535) (hi := 65535) (by decide)) (by decide)) (by decide +kernel)) (fun σ45 e28 i27 => ?_)
    refine zok_ck rfl ?_
    refine zok_br (zr_add (lo := 0) (hi := 510) h20 (rM_11 i27.sg _ (by decide)) (by decide)) (fun v46 e30 h29 => ?_)
    exact (s_X12_blocks_485 i27 h_x1 (zr_w h18 (by decide)) h20 h29)
  have h31 := zc_ltl (1) (z_nle q1) h_x2 (zr_c (lo := 2) (hi := 2) (by decide)) (by decide)
  refine zok_pi (s_X12_pair hσ.P (zr_w (zr_c (lo := 6) (hi := 6) (by decide)) (by decide))) (fun v61 h32 => ?_)
  refine zok_pi (s_X12_read hσ.P) (fun v63 h33 => ?_)
  refine zok_if (fun q34 => ?_) (fun q34 => ?_)
  · have h35 := zc_eql (0) (0) q34 h31 (zr_c (lo := 0) (hi := 0) (by decide)) (by decide)
    refine zok_pi (s_X12_pair hσ.P (zr_w (zr_c (lo := 4) (hi := 4) (by decide)) (by decide))) (fun v65 h36 => ?_)
    refine zok_bu (s_X12_write hσ) (fun σ66 i37 => ?_)
    exact (s_X12_blocks_44 i37 h_x1 (zr_w h35 (by decide)) h_s0 h33)
  have h38 := zc_nel (1) (1) q34 h31 (zr_c (lo := 0) (hi := 0) (by decide)) (by decide)
  exact (s_X12_blocks_44 hσ h_x1 (zr_w h38 (by decide)) h_s0 h33)
theorem s_X12_blocks {G : Nat → Int} {σ : zSt} (hσ : zIM G σ) {x1 : Int32} (h_x1 : zr (4) (7) x1) {x2 : Int32} (h_x2 : zr (0) (3) x2) : zok (fX12_blocks σ x1 x2) (zAi (zIM G) (fun v : Int32 => zr (16) (21) v)) := by
  unfold fX12_blocks
  refine zok_ck (by decide) ?_
  refine zok_if (fun q1 => ?_) (fun q1 => ?_)
  · have h2 := zc_eql (0) (0) q1 (zr_rem (lo := 0) (hi := 1) 2 (by decide) h_x1 (by decide)) (zr_c (lo := 0) (hi := 0) (by decide)) (by decide)
    exact (s_X12_blocks_11 hσ h_x1 h_x2 (zr_w (zr_c (lo := 1) (hi := 1) (by decide)) (by decide)))
  have h3 := zc_nel (1) (1) q1 (zr_rem (lo := 0) (hi := 1) 2 (by decide) h_x1 (by decide)) (zr_c (lo := 0) (hi := 0) (by decide)) (by decide)
  have h4 := z_odd64 h_x1 h3 (by decide)
  exact (s_X12_blocks_11 hσ h_x1 h_x2 (zr_w (zr_c (lo := -1) (hi := -1) (by decide)) (by decide)))
theorem s_X12_specials_28 {G : Nat → Int} {σ : zSt} (hσ : zIM G σ) {s0 : Int32} (h_s0 : zr (21) (22) s0) : zok (fX12_specials_28 σ s0) (zAi (zIM G) (fun v : Int32 => zr (8) (18) v)) := by
  unfold fX12_specials_28
  refine zok_ck rfl ?_
  refine zok_ck (zin_ok h_s0 (by decide)) ?_
  refine zok_bs (hσ.wi 21 22 (z_ix h_s0 (by decide)) (rM_11 hσ.sg _ (by decide)) (by decide +kernel)) (fun σ1 e2 i1 => ?_)
  exact zok_sai i1 (zr_w (zr_c (lo := 9) (hi := 9) (by decide)) (by decide))
theorem s_X12_specials_244 {σ : zSt} (hσ : zPM σ) {s0 : Int32} (h_s0 : zr (9) (18) s0) : zok (fX12_specials_244 σ s0) (zPi σ (fun v : Int32 => zr (8) (18) v)) := by
  unfold fX12_specials_244
  exact zok_spi (zr_w h_s0 (by decide))
theorem s_X12_specials_220 {G : Nat → Int} {σ : zSt} (hσ : zIM G σ) {x1 : Int32} (h_x1 : zr (2) (5) x1) : zok (fX12_specials_220 σ x1) (zAi (zIM G) (fun v : Int32 => zr (8) (18) v)) := by
  unfold fX12_specials_220
  refine zok_bu (s_X12_put hσ (zr_w (zr_c (lo := 4) (hi := 4) (by decide)) (by decide)) (zr_w (zr_c (lo := 0) (hi := 0) (by decide)) (by decide))) (fun σ2 i1 => ?_)
  refine zok_bu (s_X12_put i1 (zr_w (zr_c (lo := 1) (hi := 1) (by decide)) (by decide)) (zr_w (zr_c (lo := 0) (hi := 0) (by decide)) (by decide))) (fun σ3 i2 => ?_)
  refine zok_if (fun q3 => ?_) (fun q3 => ?_)
  · have h4 := zc_ler (4) q3 (zr_c (lo := 4) (hi := 4) (by decide)) h_x1 (by decide)
    exact zok_pai i2 (s_X12_specials_244 i2.P (zr_w (zr_c (lo := 18) (hi := 18) (by decide)) (by decide)))
  have h5 := zc_ltl (3) (z_nle q3) h_x1 (zr_c (lo := 4) (hi := 4) (by decide)) (by decide)
  exact zok_pai i2 (s_X12_specials_244 i2.P (zr_w (zr_c (lo := 9) (hi := 9) (by decide)) (by decide)))
theorem s_X12_specials_94 {G : Nat → Int} {σ : zSt} (hσ : zIM G σ) {x1 : Int32} (h_x1 : zr (2) (3) x1) {s0 : Int32} (h_s0 : zr (0) (1) s0) {s1 : Int32} (h_s1 : zr (2) (2) s1) : zok (fX12_specials_94 σ x1 s0 s1) (zAi (zIM G) (fun v : Int32 => zr (8) (18) v)) := by
  unfold fX12_specials_94
  refine zok_bu (s_X12_put hσ (zr_w h_s1 (by decide)) h_s0) (fun σ4 i1 => ?_)
  exact (s_X12_specials_220 i1 (zr_w h_x1 (by decide)))
theorem s_X12_specials_64 {G : Nat → Int} {σ : zSt} (hσ : zIM G σ) {x1 : Int32} (h_x1 : zr (2) (3) x1) {s0 : Int32} (h_s0 : zr (21) (22) s0) {s2 : Int32} (h_s2 : zr (0) (0) s2) : zok (fX12_specials_64 σ x1 s0 s2) (zAi (zIM G) (fun v : Int32 => zr (8) (18) v)) := by
  unfold fX12_specials_64
  refine zok_ck (zin_ok h_s0 (by decide)) ?_
  refine zok_ck (zin_ok h_s2 (by decide)) ?_
  refine zok_bs (hσ.wi 0 0 (z_ix h_s2 (by decide)) (rM_14 hσ.sg _ (z_ix h_s0 (by decide))) (by decide +kernel)) (fun σ5 e2 i1 => ?_)
  refine zok_ck rfl ?_
  refine zok_bu (s_X12_by i1 (rM_11 i1.sg _ (by decide))) (fun σ6 i3 => ?_)
  refine zok_ck rfl ?_
  refine zok_if (fun q4 => ?_) (fun q4 => ?_)
  · have h5 := zc_eql (1) (1) q4 (rM_15 i3.sg _ (by decide)) (zr_c (lo := 1) (hi := 1) (by decide)) (by decide)
    exact (s_X12_specials_94 i3 h_x1 (zr_w (zr_c (lo := 1) (hi := 1) (by decide)) (by decide)) (zr_c (lo := 2) (hi := 2) (by decide)))
  have h6 := zc_nel (0) (0) q4 (rM_15 i3.sg _ (by decide)) (zr_c (lo := 1) (hi := 1) (by decide)) (by decide)
  exact (s_X12_specials_94 i3 h_x1 (zr_w (zr_c (lo := 0) (hi := 0) (by decide)) (by decide)) (zr_c (lo := 2) (hi := 2) (by decide)))
theorem s_X12_specials_194 {G : Nat → Int} {σ : zSt} (hσ : zIM G σ) {x1 : Int32} (h_x1 : zr (4) (5) x1) {s0 : Int32} (h_s0 : zr (0) (15) s0) {s1 : Int32} (h_s1 : zr (0) (240) s1) {s2 : Int32} (h_s2 : zr (0) (0) s2) : zok (fX12_specials_194 σ x1 s0 s1 s2) (zAi (zIM G) (fun v : Int32 => zr (8) (18) v)) := by
  unfold fX12_specials_194
  refine zok_ck (zin_ok h_s2 (by decide)) ?_
  refine zok_bs (hσ.wi 0 0 (z_ix h_s2 (by decide)) (zr_or (lo := 0) (hi := 255) 8 h_s1 h_s0 (by decide)) (by decide +kernel)) (fun σ7 e2 i1 => ?_)
  refine zok_ck rfl ?_
  refine zok_bu (s_X12_by i1 (rM_11 i1.sg _ (by decide))) (fun σ8 i3 => ?_)
  refine zok_ck rfl ?_
  refine zok_pi (s_X12_isEven i3.P (rM_11 i3.sg _ (by decide))) (fun v10 h4 => ?_)
  refine zok_bu (s_X12_put i3 (zr_w (zr_c (lo := 2) (hi := 2) (by decide)) (by decide)) h4) (fun σ11 i5 => ?_)
  exact (s_X12_specials_220 i5 (zr_w h_x1 (by decide)))
theorem s_X12_specials_161 {G : Nat → Int} {σ : zSt} (hσ : zIM G σ) {x1 : Int32} (h_x1 : zr (4) (5) x1) {x3 : Int32} (h_x3 : zr (0) (255) x3) {s0 : Int32} (h_s0 : zr (0) (4095) s0) {s1 : Int32} (h_s1 : zr (0) (65535) s1) : zok (fX12_specials_161 σ x1 x3 s0 s1) (zAi (zIM G) (fun v : Int32 => zr (8) (18) v)) := by
  unfold fX12_specials_161
  refine zok_bu (s_X12_write hσ) (fun σ12 i1 => ?_)
  refine zok_ck rfl ?_
  refine zok_if (fun q2 => ?_) (fun q2 => ?_)
  · have h3 := zc_eql (4) (4) q2 h_x1 (zr_c (lo := 4) (hi := 4) (by decide)) (by decide)
    exact (s_X12_specials_194 i1 (zr_w h3 (by decide)) (zr_andr (lo := 0) (hi := 15) (zr_c (lo := 15) (hi := 15) (by decide)) (by decide)) (zr_andr (lo := 0) (hi := 240) (zr_c (lo := 240) (hi := 240) (by decide)) (by decide)) (zr_c (lo := 0) (hi := 0) (by decide)))
  have h4 := zc_nel (5) (5) q2 h_x1 (zr_c (lo := 4) (hi := 4) (by decide)) (by decide)
  exact (s_X12_specials_194 i1 (zr_w h4 (by decide)) (zr_shr (lo := 0) (hi := 15) 4 (by decide) h_x3 (by decide)) (zr_andr (lo := 0) (hi := 240) (zr_c (lo := 240) (hi := 240) (by decide)) (by decide)) (zr_c (lo := 0) (hi := 0) (by decide)))
theorem s_X12_specials {G : Nat → Int} {σ : zSt} (hσ : zIM G σ) {x1 : Int32} (h_x1 : zr (0) (7) x1) : zok (fX12_specials σ x1) (zAi (zIM G) (fun v : Int32 => zr (8) (18) v)) := by
  unfold fX12_specials
  refine zok_if (fun q1 => ?_) (fun q1 => ?_)
  · have h2 := zc_lel (5) q1 h_x1 (zr_c (lo := 5) (hi := 5) (by decide)) (by decide)
    refine zok_if (fun q3 => ?_) (fun q3 => ?_)
    · have h4 := zc_ler (2) q3 (zr_c (lo := 2) (hi := 2) (by decide)) h2 (by decide)
      refine zok_if (fun q5 => ?_) (fun q5 => ?_)
      · have h6 := zc_ler (4) q5 (zr_c (lo := 4) (hi := 4) (by decide)) h4 (by decide)
        refine zok_pi (s_X12_pair hσ.P (zr_w (zr_c (lo := 6) (hi := 6) (by decide)) (by decide))) (fun v14 h7 => ?_)
        refine zok_ck rfl ?_
        refine zok_bs (hσ.wi 20 20 (by decide) (zr_andr (lo := 0) (hi := 65535) (zr_c (lo := 65535) (hi := 65535) (by decide)) (by decide)) (by decide +kernel)) (fun σ15 e9 i8 => ?_)
        refine zok_pi (s_X12_read i8.P) (fun v17 h10 => ?_)
        refine zok_ck rfl ?_
        refine zok_br (zr_andr (lo := 0) (hi := 15) (zr_c (lo := 15) (hi := 15) (by decide)) (by decide)) (fun v18 e12 h11 => ?_)
        refine zok_if (fun q13 => ?_) (fun q13 => ?_)
        · have h14 := zc_eql (4) (4) q13 h6 (zr_c (lo := 4) (hi := 4) (by decide)) (by decide)
          exact (s_X12_specials_161 i8 (zr_w h14 (by decide)) h10 (zr_w (zr_or (lo := 0) (hi := 255) 8 (zr_shl (lo := 0) (hi := 240) 4 (by decide) h11 (by decide)) (zr_shr (lo := 0) (hi := 15) 4 (by decide) h10 (by decide)) (by decide)) (by decide)) h7)
        have h15 := zc_nel (5) (5) q13 h6 (zr_c (lo := 4) (hi := 4) (by decide)) (by decide)
        exact (s_X12_specials_161 i8 (zr_w h15 (by decide)) h10 (zr_or (lo := 0) (hi := 4095) 12 (zr_shl (lo := 0) (hi := 4080) 4 (by decide) h10 (by decide)) h11 (by decide)) h7)
      have h16 := zc_ltl (3) (z_nle q5) h4 (zr_c (lo := 4) (hi := 4) (by decide)) (by decide)
      refine zok_if (fun q17 => ?_) (fun q17 => ?_)
      · have h18 := zc_eql (2) (2) q17 h16 (zr_c (lo := 2) (hi := 2) (by decide)) (by decide)
        exact (s_X12_specials_64 hσ (zr_w h18 (by decide)) (zr_w (zr_c (lo := 21) (hi := 21) (by decide)) (by decide)) (zr_c (lo := 0) (hi := 0) (by decide)))
      have h19 := zc_nel (3) (3) q17 h16 (zr_c (lo := 2) (hi := 2) (by decide)) (by decide)
      exact (s_X12_specials_64 hσ (zr_w h19 (by decide)) (zr_w (zr_c (lo := 22) (hi := 22) (by decide)) (by decide)) (zr_c (lo := 0) (hi := 0) (by decide)))
    have h20 := zc_ltl (1) (z_nle q3) h2 (zr_c (lo := 2) (hi := 2) (by decide)) (by decide)
    refine zok_if (fun q21 => ?_) (fun q21 => ?_)
    · have h22 := zc_eql (0) (0) q21 h20 (zr_c (lo := 0) (hi := 0) (by decide)) (by decide)
      exact (s_X12_specials_28 hσ (zr_w (zr_c (lo := 21) (hi := 21) (by decide)) (by decide)))
    have h23 := zc_nel (1) (1) q21 h20 (zr_c (lo := 0) (hi := 0) (by decide)) (by decide)
    exact (s_X12_specials_28 hσ (zr_w (zr_c (lo := 22) (hi := 22) (by decide)) (by decide)))
  have h24 := zc_ltr (6) (z_nle q1) (zr_c (lo := 5) (hi := 5) (by decide)) h_x1 (by decide)
  exact zok_sai hσ (zr_w (zr_c (lo := 8) (hi := 8) (by decide)) (by decide))
theorem s_X12_words_255 {G : Nat → Int} {σ : zSt} (hσ : zIM G σ) {s0 : Int32} (h_s0 : zr (0) (1) s0) {s1 : Int32} (h_s1 : zr (1) (1) s1) : zok (fX12_words_255 σ s0 s1) (zIM G) := by
  unfold fX12_words_255
  refine zok_bu (s_X12_put hσ (zr_w h_s1 (by decide)) h_s0) (fun σ1 i1 => ?_)
  exact zok_some i1
theorem s_X12_words_241 {G : Nat → Int} {σ : zSt} (hσ : zIM G σ) {x2 : Int32} (h_x2 : zr (0) (1) x2) {s0 : Int32} (h_s0 : zr (0) (1) s0) {s1 : Int32} (h_s1 : zr (2) (2) s1) : zok (fX12_words_241 σ x2 s0 s1) (zIM G) := by
  unfold fX12_words_241
  refine zok_bu (s_X12_put hσ (zr_w h_s1 (by decide)) h_s0) (fun σ2 i1 => ?_)
  refine zok_if (fun q2 => ?_) (fun q2 => ?_)
  · have h3 := zc_eql (0) (0) q2 h_x2 (zr_c (lo := 0) (hi := 0) (by decide)) (by decide)
    exact (s_X12_words_255 i1 (zr_w (zr_c (lo := 1) (hi := 1) (by decide)) (by decide)) (zr_c (lo := 1) (hi := 1) (by decide)))
  have h4 := zc_nel (1) (1) q2 h_x2 (zr_c (lo := 0) (hi := 0) (by decide)) (by decide)
  exact (s_X12_words_255 i1 (zr_w (zr_c (lo := 0) (hi := 0) (by decide)) (by decide)) (zr_c (lo := 1) (hi := 1) (by decide)))
theorem s_X12_words_236 {G : Nat → Int} {σ : zSt} (hσ : zIM G σ) {x2 : Int32} (h_x2 : zr (0) (1) x2) {s0 : Int32} (h_s0 : zr (2) (2) s0) : zok (fX12_words_236 σ x2 s0) (zIM G) := by
  unfold fX12_words_236
  exact (s_X12_words_241 hσ h_x2 (zr_w (zr_c (lo := 1) (hi := 1) (by decide)) (by decide)) h_s0)
theorem s_X12_words_215 {G : Nat → Int} {σ : zSt} (hσ : zIM G σ) {x2 : Int32} (h_x2 : zr (0) (1) x2) {x7 : Int32} {s0 : Int32} (h_s0 : zr (0) (1) s0) {s1 : Int32} (h_s1 : zr (0) (0) s1) : zok (fX12_words_215 σ x2 x7 s0 s1) (zIM G) := by
  unfold fX12_words_215
  refine zok_bu (s_X12_put hσ (zr_w h_s1 (by decide)) h_s0) (fun σ3 i1 => ?_)
  refine zok_if (fun q2 => ?_) (fun q2 => ?_)
  · have h3 := zc_ltl (-32769) q2 zr_any (zr_c (lo := -32768) (hi := -32768) (by decide)) (by decide)
    exact (s_X12_words_236 i1 h_x2 (zr_c (lo := 2) (hi := 2) (by decide)))
  have h4 := zc_ler (-32768) (z_nlt q2) (zr_c (lo := -32768) (hi := -32768) (by decide)) zr_any (by decide)
  refine zok_if (fun q5 => ?_) (fun q5 => ?_)
  · have h6 := zc_lel (32767) q5 h4 (zr_c (lo := 32767) (hi := 32767) (by decide)) (by decide)
    exact (s_X12_words_241 i1 h_x2 (zr_w (zr_c (lo := 0) (hi := 0) (by decide)) (by decide)) (zr_c (lo := 2) (hi := 2) (by decide)))
  have h7 := zc_ltr (32768) (z_nle q5) (zr_c (lo := 32767) (hi := 32767) (by decide)) h4 (by decide)
  exact (s_X12_words_236 i1 h_x2 (zr_c (lo := 2) (hi := 2) (by decide)))
theorem s_X12_words_210 {G : Nat → Int} {σ : zSt} (hσ : zIM G σ) {x2 : Int32} (h_x2 : zr (0) (1) x2) {x7 : Int32} {s0 : Int32} (h_s0 : zr (0) (0) s0) : zok (fX12_words_210 σ x2 x7 s0) (zIM G) := by
  unfold fX12_words_210
  exact (s_X12_words_215 hσ h_x2 (zr_w (zr_c (lo := 1) (hi := 1) (by decide)) (by decide)) h_s0)
theorem s_X12_words_193 {G : Nat → Int} {σ : zSt} (hσ : zIM G σ) {x2 : Int32} (h_x2 : zr (0) (1) x2) {x6 : Int32} (h_x6 : zr (-65536) (131071) x6) {x7 : Int32} {s0 : Int32} (h_s0 : zr (0) (1) s0) {s1 : Int32} (h_s1 : zr (4) (4) s1) : zok (fX12_words_193 σ x2 x6 x7 s0 s1) (zIM G) := by
  unfold fX12_words_193
  refine zok_bu (s_X12_put hσ (zr_w h_s1 (by decide)) h_s0) (fun σ4 i1 => ?_)
  refine zok_if (fun q2 => ?_) (fun q2 => ?_)
  · have h3 := zc_ltl (-1) q2 h_x6 (zr_c (lo := 0) (hi := 0) (by decide)) (by decide)
    exact (s_X12_words_210 i1 h_x2 (zr_c (lo := 0) (hi := 0) (by decide)))
  have h4 := zc_ler (0) (z_nlt q2) (zr_c (lo := 0) (hi := 0) (by decide)) h_x6 (by decide)
  refine zok_if (fun q5 => ?_) (fun q5 => ?_)
  · have h6 := zc_lel (65535) q5 h4 (zr_c (lo := 65535) (hi := 65535) (by decide)) (by decide)
    exact (s_X12_words_215 i1 h_x2 (zr_w (zr_c (lo := 0) (hi := 0) (by decide)) (by decide)) (zr_c (lo := 0) (hi := 0) (by decide)))
  have h7 := zc_ltr (65536) (z_nle q5) (zr_c (lo := 65535) (hi := 65535) (by decide)) h4 (by decide)
  exact (s_X12_words_210 i1 h_x2 (zr_c (lo := 0) (hi := 0) (by decide)))
theorem s_X12_words_123 {G : Nat → Int} {σ : zSt} (hσ : zIM G σ) {x2 : Int32} (h_x2 : zr (0) (1) x2) {x3 : Int32} (h_x3 : zr (0) (65535) x3) {x4 : Int32} (h_x4 : zr (0) (65535) x4) {x5 : Int32} (h_x5 : zr (0) (1) x5) {x6 : Int32} (h_x6 : zr (-65536) (131071) x6) {x7 : Int32} {s0 : Int32} (h_s0 : zr (0) (1) s0) {s1 : Int32} (h_s1 : zr (6) (6) s1) : zok (fX12_words_123 σ x2 x3 x4 x5 x6 x7 s0 s1) (zIM G) := by
  unfold fX12_words_123
  refine zok_bu (s_X12_put hσ (zr_w h_s1 (by decide)) h_s0) (fun σ5 i1 => ?_)
  refine zok_bu (s_X12_xy i1 (zr_shr (lo := -256) (hi := 511) 8 (by decide) h_x6 (by decide))) (fun σ6 i2 => ?_)
  refine zok_if (fun q3 => ?_) (fun q3 => ?_)
  · have h4 := zc_eql (0) (0) q3 h_x2 (zr_c (lo := 0) (hi := 0) (by decide)) (by decide)
    refine zok_if (fun q5 => ?_) (fun q5 => ?_)
    · have h6 := zc_ler (0) q5 (zr_c (lo := 0) (hi := 0) (by decide)) (zr_sub (lo := -4096) (hi := 4095) (zr_sub (lo := -4095) (hi := 4095) (zr_andr (lo := 0) (hi := 4095) (zr_c (lo := 4095) (hi := 4095) (by decide)) (by decide)) (zr_andr (lo := 0) (hi := 4095) (zr_c (lo := 4095) (hi := 4095) (by decide)) (by decide)) (by decide)) h_x5 (by decide)) (by decide)
      exact (s_X12_words_193 i2 (zr_w h4 (by decide)) h_x6 (zr_w (zr_c (lo := 0) (hi := 0) (by decide)) (by decide)) (zr_c (lo := 4) (hi := 4) (by decide)))
    have h7 := zc_ltl (-1) (z_nle q5) (zr_sub (lo := -4096) (hi := 4095) (zr_sub (lo := -4095) (hi := 4095) (zr_andr (lo := 0) (hi := 4095) (zr_c (lo := 4095) (hi := 4095) (by decide)) (by decide)) (zr_andr (lo := 0) (hi := 4095) (zr_c (lo := 4095) (hi := 4095) (by decide)) (by decide)) (by decide)) h_x5 (by decide)) (zr_c (lo := 0) (hi := 0) (by decide)) (by decide)
    exact (s_X12_words_193 i2 (zr_w h4 (by decide)) h_x6 (zr_w (zr_c (lo := 1) (hi := 1) (by decide)) (by decide)) (zr_c (lo := 4) (hi := 4) (by decide)))
  have h8 := zc_nel (1) (1) q3 h_x2 (zr_c (lo := 0) (hi := 0) (by decide)) (by decide)
  refine zok_if (fun q9 => ?_) (fun q9 => ?_)
  · have h10 := zc_lel (4095) q9 (zr_add (lo := 0) (hi := 8191) (zr_add (lo := 0) (hi := 8190) (zr_andr (lo := 0) (hi := 4095) (zr_c (lo := 4095) (hi := 4095) (by decide)) (by decide)) (zr_andr (lo := 0) (hi := 4095) (zr_c (lo := 4095) (hi := 4095) (by decide)) (by decide)) (by decide)) h_x5 (by decide)) (zr_c (lo := 4095) (hi := 4095) (by decide)) (by decide)
    exact (s_X12_words_193 i2 (zr_w h8 (by decide)) h_x6 (zr_w (zr_c (lo := 0) (hi := 0) (by decide)) (by decide)) (zr_c (lo := 4) (hi := 4) (by decide)))
  have h11 := zc_ltr (4096) (z_nle q9) (zr_c (lo := 4095) (hi := 4095) (by decide)) (zr_add (lo := 0) (hi := 8191) (zr_add (lo := 0) (hi := 8190) (zr_andr (lo := 0) (hi := 4095) (zr_c (lo := 4095) (hi := 4095) (by decide)) (by decide)) (zr_andr (lo := 0) (hi := 4095) (zr_c (lo := 4095) (hi := 4095) (by decide)) (by decide)) (by decide)) h_x5 (by decide)) (by decide)
  exact (s_X12_words_193 i2 (zr_w h8 (by decide)) h_x6 (zr_w (zr_c (lo := 1) (hi := 1) (by decide)) (by decide)) (zr_c (lo := 4) (hi := 4) (by decide)))
theorem s_X12_words_104 {G : Nat → Int} {σ : zSt} (hσ : zIM G σ) {x2 : Int32} (h_x2 : zr (0) (1) x2) {x3 : Int32} (h_x3 : zr (0) (65535) x3) {x4 : Int32} (h_x4 : zr (0) (65535) x4) {x5 : Int32} (h_x5 : zr (0) (1) x5) {x6 : Int32} (h_x6 : zr (-65536) (131071) x6) {x7 : Int32} {s0 : Int32} (h_s0 : zr (0) (1) s0) {s1 : Int32} (h_s1 : zr (7) (7) s1) : zok (fX12_words_104 σ x2 x3 x4 x5 x6 x7 s0 s1) (zIM G) := by
  unfold fX12_words_104
  refine zok_bu (s_X12_put hσ (zr_w h_s1 (by decide)) h_s0) (fun σ7 i1 => ?_)
  refine zok_if (fun q2 => ?_) (fun q2 => ?_)
  · have h3 := zc_eql (0) (0) q2 (zr_andr (lo := 0) (hi := 65535) (zr_c (lo := 65535) (hi := 65535) (by decide)) (by decide)) (zr_c (lo := 0) (hi := 0) (by decide)) (by decide)
    exact (s_X12_words_123 i1 h_x2 h_x3 h_x4 h_x5 h_x6 (zr_w (zr_c (lo := 1) (hi := 1) (by decide)) (by decide)) (zr_c (lo := 6) (hi := 6) (by decide)))
  have h4 := zc_nel (1) (65535) q2 (zr_andr (lo := 0) (hi := 65535) (zr_c (lo := 65535) (hi := 65535) (by decide)) (by decide)) (zr_c (lo := 0) (hi := 0) (by decide)) (by decide)
  exact (s_X12_words_123 i1 h_x2 h_x3 h_x4 h_x5 h_x6 (zr_w (zr_c (lo := 0) (hi := 0) (by decide)) (by decide)) (zr_c (lo := 6) (hi := 6) (by decide)))
theorem s_X12_words_80 {G : Nat → Int} {σ : zSt} (hσ : zIM G σ) {x2 : Int32} (h_x2 : zr (0) (1) x2) {x3 : Int32} (h_x3 : zr (0) (65535) x3) {x4 : Int32} (h_x4 : zr (0) (65535) x4) {x5 : Int32} (h_x5 : zr (0) (1) x5) {x6 : Int32} (h_x6 : zr (-65536) (131071) x6) {s0 : Int32} : zok (fX12_words_80 σ x2 x3 x4 x5 x6 s0) (zIM G) := by
  unfold fX12_words_80
  refine zok_bu (s_X12_hlTo hσ h_x6) (fun σ8 i1 => ?_)
  refine zok_if (fun q2 => ?_) (fun q2 => ?_)
  · have h3 := zc_eql (0) (0) q2 (zr_andr (lo := 0) (hi := 32768) (zr_c (lo := 32768) (hi := 32768) (by decide)) (by decide)) (zr_c (lo := 0) (hi := 0) (by decide)) (by decide)
    exact (s_X12_words_104 i1 h_x2 h_x3 h_x4 h_x5 h_x6 (zr_w (zr_c (lo := 0) (hi := 0) (by decide)) (by decide)) (zr_c (lo := 7) (hi := 7) (by decide)))
  have h4 := zc_nel (1) (32768) q2 (zr_andr (lo := 0) (hi := 32768) (zr_c (lo := 32768) (hi := 32768) (by decide)) (by decide)) (zr_c (lo := 0) (hi := 0) (by decide)) (by decide)
  exact (s_X12_words_104 i1 h_x2 h_x3 h_x4 h_x5 h_x6 (zr_w (zr_c (lo := 1) (hi := 1) (by decide)) (by decide)) (zr_c (lo := 7) (hi := 7) (by decide)))
theorem s_X12_words_53 {G : Nat → Int} {σ : zSt} (hσ : zIM G σ) {x2 : Int32} (h_x2 : zr (0) (1) x2) {x3 : Int32} (h_x3 : zr (0) (65535) x3) {x4 : Int32} (h_x4 : zr (0) (65535) x4) {x5 : Int32} (h_x5 : zr (0) (1) x5) {s0 : Int32} (h_s0 : zr (-65536) (131071) s0) : zok (fX12_words_53 σ x2 x3 x4 x5 s0) (zIM G) := by
  unfold fX12_words_53
  refine zok_if (fun q1 => ?_) (fun q1 => ?_)
  · have h2 := zc_eql (0) (0) q1 h_x2 (zr_c (lo := 0) (hi := 0) (by decide)) (by decide)
    exact (s_X12_words_80 hσ (zr_w h2 (by decide)) h_x3 h_x4 h_x5 h_s0)
  have h3 := zc_nel (1) (1) q1 h_x2 (zr_c (lo := 0) (hi := 0) (by decide)) (by decide)
  exact (s_X12_words_80 hσ (zr_w h3 (by decide)) h_x3 h_x4 h_x5 h_s0)
theorem s_X12_words {G : Nat → Int} {σ : zSt} (hσ : zIM G σ) {x1 : Int32} (h_x1 : zr (0) (3) x1) {x2 : Int32} (h_x2 : zr (0) (1) x2) : zok (fX12_words σ x1 x2) (zIM G) := by
  unfold fX12_words
  refine zok_pi (s_X12_hl hσ.P) (fun v10 h1 => ?_)
  refine zok_pi (s_X12_rp hσ.P h_x1) (fun v12 h2 => ?_)
  refine zok_pi (s_X12_flag hσ.P (zr_w (zr_c (lo := 0) (hi := 0) (by decide)) (by decide))) (fun v14 h3 => ?_)
  refine zok_ck rfl ?_
  refine zok_bs (hσ.wi 20 20 (by decide) (zr_andr (lo := 0) (hi := 65535) (zr_c (lo := 65535) (hi := 65535) (by decide)) (by decide)) (by decide +kernel)) (fun σ15 e5 i4 => ?_)
  refine zok_if (fun q6 => ?_) (fun q6 => ?_)
  · have h7 := zc_eql (0) (0) q6 h_x2 (zr_c (lo := 0) (hi := 0) (by decide)) (by decide)
    exact (s_X12_words_53 i4 (zr_w h7 (by decide)) h1 h2 h3 (zr_w (zr_sub (lo := -65536) (hi := 65535) (zr_sub (lo := -65535) (hi := 65535) h1 h2 (by decide)) h3 (by decide)) (by decide)))
  have h8 := zc_nel (1) (1) q6 h_x2 (zr_c (lo := 0) (hi := 0) (by decide)) (by decide)
  exact (s_X12_words_53 i4 (zr_w h8 (by decide)) h1 h2 h3 (zr_w (zr_add (lo := 0) (hi := 131071) (zr_add (lo := 0) (hi := 131070) h1 h2 (by decide)) h3 (by decide)) (by decide)))
theorem s_X12_more_387 {G : Nat → Int} {σ : zSt} (hσ : zIM G σ) {s0 : Int32} (h_s0 : zr (0) (2) s0) {s1 : Int32} (h_s1 : zr (25) (25) s1) : zok (fX12_more_387 σ s0 s1) (zAi (zIM G) (fun v : Int32 => zr (8) (21) v)) := by
  unfold fX12_more_387
  refine zok_ck (zin_ok h_s1 (by decide)) ?_
  refine zok_bs (hσ.wi 25 25 (z_ix h_s1 (by decide)) h_s0 (by decide +kernel)) (fun σ1 e2 i1 => ?_)
  exact zok_sai i1 (zr_w (zr_c (lo := 8) (hi := 8) (by decide)) (by decide))
theorem s_X12_more_281 {G : Nat → Int} {σ : zSt} (hσ : zIM G σ) {x7 : Int32} (h_x7 : zr (0) (65535) x7) : zok (fX12_more_281 σ x7) (zAi (zIM G) (fun v : Int32 => zr (8) (21) v)) := by
  unfold fX12_more_281
  refine zok_ck rfl ?_
  refine zok_bs (hσ.wi 20 20 (by decide) (zr_andr (lo := 0) (hi := 65535) (zr_c (lo := 65535) (hi := 65535) (by decide)) (by decide)) (by decide +kernel)) (fun σ2 e2 i1 => ?_)
  exact zok_sai i1 (zr_w (zr_c (lo := 20) (hi := 20) (by decide)) (by decide))
theorem s_X12_more_234 {G : Nat → Int} {σ : zSt} (hσ : zIM G σ) {s0 : Int32} (h_s0 : zr (0) (1) s0) {s1 : Int32} (h_s1 : zr (0) (3) s1) : zok (fX12_more_234 σ s0 s1) (zAi (zIM G) (fun v : Int32 => zr (8) (21) v)) := by
  unfold fX12_more_234
  refine zok_bu (s_X12_words hσ h_s1 h_s0) (fun σ3 i1 => ?_)
  exact zok_sai i1 (zr_w (zr_c (lo := 15) (hi := 15) (by decide)) (by decide))
theorem s_X12_more_195 {G : Nat → Int} {σ : zSt} (hσ : zIM G σ) {s0 : Int32} (h_s0 : zr (0) (255) s0) {s1 : Int32} (h_s1 : zr (0) (255) s1) : zok (fX12_more_195 σ s0 s1) (zAi (zIM G) (fun v : Int32 => zr (8) (21) v)) := by
  unfold fX12_more_195
  refine zok_bu (s_X12_portTo hσ h_s1 h_s0) (fun σ4 i1 => ?_)
  refine zok_pi (s_X12_pair i1.P (zr_w (zr_c (lo := 2) (hi := 2) (by decide)) (by decide))) (fun v6 h2 => ?_)
  refine zok_ck rfl ?_
  refine zok_bs (i1.wi 20 20 (by decide) (zr_andr (lo := 0) (hi := 65535) (zr_c (lo := 65535) (hi := 65535) (by decide)) (by decide)) (by decide +kernel)) (fun σ7 e4 i3 => ?_)
  exact zok_sai i3 (zr_w (zr_c (lo := 12) (hi := 12) (by decide)) (by decide))
theorem s_X12_more_133 {G : Nat → Int} {σ : zSt} (hσ : zIM G σ) {x5 : Int32} (h_x5 : zr (0) (65535) x5) {x6 : Int32} (h_x6 : zr (0) (255) x6) : zok (fX12_more_133 σ x5 x6) (zAi (zIM G) (fun v : Int32 => zr (8) (21) v)) := by
  unfold fX12_more_133
  refine zok_bu (s_X12_by hσ h_x6) (fun σ8 i1 => ?_)
  refine zok_pi (s_X12_isEven i1.P h_x6) (fun v10 h2 => ?_)
  refine zok_bu (s_X12_put i1 (zr_w (zr_c (lo := 2) (hi := 2) (by decide)) (by decide)) h2) (fun σ11 i3 => ?_)
  refine zok_bu (s_X12_put i3 (zr_w (zr_c (lo := 4) (hi := 4) (by decide)) (by decide)) (zr_w (zr_c (lo := 0) (hi := 0) (by decide)) (by decide))) (fun σ12 i4 => ?_)
  refine zok_bu (s_X12_put i4 (zr_w (zr_c (lo := 1) (hi := 1) (by decide)) (by decide)) (zr_w (zr_c (lo := 0) (hi := 0) (by decide)) (by decide))) (fun σ13 i5 => ?_)
  refine zok_ck rfl ?_
  refine zok_bs (i5.wi 20 20 (by decide) h_x5 (by decide +kernel)) (fun σ14 e7 i6 => ?_)
  exact zok_sai i6 (zr_w (zr_c (lo := 12) (hi := 12) (by decide)) (by decide))
theorem s_X12_more_42 {G : Nat → Int} {σ : zSt} (hσ : zIM G σ) {x2 : Int32} (h_x2 : zr (0) (3) x2) {x3 : Int32} (h_x3 : zr (0) (7) x3) {x4 : Int32} (h_x4 : zr (0) (7) x4) : zok (fX12_more_42 σ x2 x3 x4) (zAi (zIM G) (fun v : Int32 => zr (8) (21) v)) := by
  unfold fX12_more_42
  refine zok_if (fun q1 => ?_) (fun q1 => ?_)
  · have h2 := zc_eql (1) (1) q1 h_x2 (zr_c (lo := 1) (hi := 1) (by decide)) (by decide)
    refine zok_if (fun q3 => ?_) (fun q3 => ?_)
    · have h4 := zc_eql (0) (0) q3 h_x4 (zr_c (lo := 0) (hi := 0) (by decide)) (by decide)
      refine zok_pi (s_X12_pair hσ.P (zr_w (zr_c (lo := 2) (hi := 2) (by decide)) (by decide))) (fun v16 h5 => ?_)
      refine zok_br (zr_andr (lo := 0) (hi := 65535) (zr_c (lo := 65535) (hi := 65535) (by decide)) (by decide)) (fun v17 e7 h6 => ?_)
      refine zok_ck rfl ?_
      refine zok_ai (s_X12_port hσ (rM_11 hσ.sg _ (by decide))) (fun σ18 v19 i8 h9 => ?_)
      refine zok_if (fun q10 => ?_) (fun q10 => ?_)
      · have h11 := zc_eql (6) (6) q10 h_x3 (zr_c (lo := 6) (hi := 6) (by decide)) (by decide)
        exact (s_X12_more_133 i8 h6 h9)
      refine zok_bu (s_X12_rTo i8 h_x3) (fun σ20 i12 => ?_)
      exact (s_X12_more_133 i12 h6 h9)
    have h13 := zc_nel (1) (7) q3 h_x4 (zr_c (lo := 0) (hi := 0) (by decide)) (by decide)
    refine zok_if (fun q14 => ?_) (fun q14 => ?_)
    · have h15 := zc_eql (1) (1) q14 h13 (zr_c (lo := 1) (hi := 1) (by decide)) (by decide)
      refine zok_ck rfl ?_
      refine zok_if (fun q16 => ?_) (fun q16 => ?_)
      · have h17 := zc_eql (6) (6) q16 h_x3 (zr_c (lo := 6) (hi := 6) (by decide)) (by decide)
        exact (s_X12_more_195 hσ (zr_w (zr_c (lo := 0) (hi := 0) (by decide)) (by decide)) (rM_11 hσ.sg _ (by decide)))
      refine zok_pi (s_X12_r hσ.P h_x3) (fun v22 h18 => ?_)
      exact (s_X12_more_195 hσ h18 (rM_11 hσ.sg _ (by decide)))
    have h19 := zc_nel (2) (7) q14 h13 (zr_c (lo := 1) (hi := 1) (by decide)) (by decide)
    refine zok_if (fun q20 => ?_) (fun q20 => ?_)
    · have h21 := zc_eql (2) (2) q20 h19 (zr_c (lo := 2) (hi := 2) (by decide)) (by decide)
      refine zok_ck (by decide) ?_
      refine zok_if (fun q22 => ?_) (fun q22 => ?_)
      · have h23 := zc_eql (1) (1) q22 (zr_rem (lo := 0) (hi := 1) 2 (by decide) h_x3 (by decide)) (zr_c (lo := 1) (hi := 1) (by decide)) (by decide)
        have h24 := z_odd64 h_x3 h23 (by decide)
        exact (s_X12_more_234 hσ (zr_w (zr_c (lo := 1) (hi := 1) (by decide)) (by decide)) (zr_shr (lo := 0) (hi := 3) 1 (by decide) h_x3 (by decide)))
      have h25 := zc_nel (0) (0) q22 (zr_rem (lo := 0) (hi := 1) 2 (by decide) h_x3 (by decide)) (zr_c (lo := 1) (hi := 1) (by decide)) (by decide)
      exact (s_X12_more_234 hσ (zr_w (zr_c (lo := 0) (hi := 0) (by decide)) (by decide)) (zr_shr (lo := 0) (hi := 3) 1 (by decide) h_x3 (by decide)))
    have h26 := zc_nel (3) (7) q20 h19 (zr_c (lo := 2) (hi := 2) (by decide)) (by decide)
    refine zok_if (fun q27 => ?_) (fun q27 => ?_)
    · have h28 := zc_eql (3) (3) q27 h26 (zr_c (lo := 3) (hi := 3) (by decide)) (by decide)
      refine zok_ai (s_X12_nextWord hσ) (fun σ23 v24 i29 h30 => ?_)
      refine zok_ck (by decide) ?_
      refine zok_if (fun q31 => ?_) (fun q31 => ?_)
      · have h32 := zc_eql (0) (0) q31 (zr_rem (lo := 0) (hi := 1) 2 (by decide) h_x3 (by decide)) (zr_c (lo := 0) (hi := 0) (by decide)) (by decide)
        refine zok_pi (s_X12_rp i29.P (zr_shr (lo := 0) (hi := 3) 1 (by decide) h_x3 (by decide))) (fun v29 h33 => ?_)
        refine zok_bu (s_X12_wordTo i29 h30 h33) (fun σ30 i34 => ?_)
        exact (s_X12_more_281 i34 h30)
      have h35 := zc_nel (1) (1) q31 (zr_rem (lo := 0) (hi := 1) 2 (by decide) h_x3 (by decide)) (zr_c (lo := 0) (hi := 0) (by decide)) (by decide)
      have h36 := z_odd64 h_x3 h35 (by decide)
      refine zok_pi (s_X12_word i29.P h30) (fun v26 h37 => ?_)
      refine zok_bu (s_X12_rpTo i29 (zr_shr (lo := 0) (hi := 3) 1 (by decide) h_x3 (by decide)) (zr_w h37 (by decide))) (fun σ27 i38 => ?_)
      exact (s_X12_more_281 i38 h30)
    have h39 := zc_nel (4) (7) q27 h26 (zr_c (lo := 3) (hi := 3) (by decide)) (by decide)
    refine zok_if (fun q40 => ?_) (fun q40 => ?_)
    · have h41 := zc_eql (4) (4) q40 h39 (zr_c (lo := 4) (hi := 4) (by decide)) (by decide)
      refine zok_ck rfl ?_
      refine zok_br (rM_11 hσ.sg _ (by decide)) (fun v31 e43 h42 => ?_)
      refine zok_ck rfl ?_
      refine zok_bs (hσ.wi 0 0 (by decide) (zr_c (lo := 0) (hi := 0) (by decide)) (by decide +kernel)) (fun σ32 e45 i44 => ?_)
      refine zok_bu (s_X12_does i44 (zr_w (zr_c (lo := 2) (hi := 2) (by decide)) (by decide)) h42) (fun σ33 i46 => ?_)
      exact zok_sai i46 (zr_w (zr_c (lo := 8) (hi := 8) (by decide)) (by decide))
    have h47 := zc_nel (5) (7) q40 h39 (zr_c (lo := 4) (hi := 4) (by decide)) (by decide)
    refine zok_if (fun q48 => ?_) (fun q48 => ?_)
    · have h49 := zc_eql (5) (5) q48 h47 (zr_c (lo := 5) (hi := 5) (by decide)) (by decide)
      refine zok_ai (s_X12_pop hσ) (fun σ34 v35 i50 h51 => ?_)
      refine zok_ck rfl ?_
      refine zok_bs (i50.wi 19 19 (by decide) h51 (by decide +kernel)) (fun σ36 e53 i52 => ?_)
      refine zok_ck rfl ?_
      refine zok_ck rfl ?_
      refine zok_bs (i52.wi 20 20 (by decide) (rM_12 i52.sg _ (by decide)) (by decide +kernel)) (fun σ37 e55 i54 => ?_)
      refine zok_ck rfl ?_
      refine zok_ck rfl ?_
      refine zok_bs (i54.wi 23 23 (by decide) (rM_15 i54.sg _ (by decide)) (by decide +kernel)) (fun σ38 e57 i56 => ?_)
      exact zok_sai i56 (zr_w (zr_c (lo := 14) (hi := 14) (by decide)) (by decide))
    have h58 := zc_nel (6) (7) q48 h47 (zr_c (lo := 5) (hi := 5) (by decide)) (by decide)
    refine zok_if (fun q59 => ?_) (fun q59 => ?_)
    · have h60 := zc_eql (6) (6) q59 h58 (zr_c (lo := 6) (hi := 6) (by decide)) (by decide)
      refine zok_ck (by decide) ?_
      refine zok_if (fun q61 => ?_) (fun q61 => ?_)
      · have h62 := zc_ler (2) q61 (zr_c (lo := 2) (hi := 2) (by decide)) (zr_rem (lo := 0) (hi := 3) 4 (by decide) h_x3 (by decide)) (by decide)
        refine zok_ck (by decide) ?_
        exact (s_X12_more_387 hσ (zr_w (zr_sub (lo := 1) (hi := 2) h62 (zr_c (lo := 1) (hi := 1) (by decide)) (by decide)) (by decide)) (zr_c (lo := 25) (hi := 25) (by decide)))
      have h63 := zc_ltl (1) (z_nle q61) (zr_rem (lo := 0) (hi := 3) 4 (by decide) h_x3 (by decide)) (zr_c (lo := 2) (hi := 2) (by decide)) (by decide)
      exact (s_X12_more_387 hσ (zr_w (zr_c (lo := 0) (hi := 0) (by decide)) (by decide)) (zr_c (lo := 25) (hi := 25) (by decide)))
    have h64 := zc_nel (7) (7) q59 h58 (zr_c (lo := 6) (hi := 6) (by decide)) (by decide)
    refine zok_ai (s_X12_specials hσ h_x3) (fun σ39 v40 i65 h66 => ?_)
    exact zok_sai i65 (zr_w h66 (by decide))
  exact zok_sai hσ (zr_w (zr_c (lo := 8) (hi := 8) (by decide)) (by decide))
theorem s_X12_more {G : Nat → Int} {σ : zSt} (hσ : zIM G σ) {x1 : Int32} (h_x1 : zr (0) (255) x1) : zok (fX12_more σ x1) (zAi (zIM G) (fun v : Int32 => zr (8) (21) v)) := by
  unfold fX12_more
  refine zok_br (zr_shr (lo := 0) (hi := 3) 6 (by decide) h_x1 (by decide)) (fun v41 e2 h1 => ?_)
  refine zok_br (zr_andr (lo := 0) (hi := 7) (zr_c (lo := 7) (hi := 7) (by decide)) (by decide)) (fun v42 e4 h3 => ?_)
  refine zok_br (zr_andr (lo := 0) (hi := 7) (zr_c (lo := 7) (hi := 7) (by decide)) (by decide)) (fun v43 e6 h5 => ?_)
  refine zok_if (fun q7 => ?_) (fun q7 => ?_)
  · have h8 := zc_eql (2) (2) q7 h1 (zr_c (lo := 2) (hi := 2) (by decide)) (by decide)
    refine zok_if (fun q9 => ?_) (fun q9 => ?_)
    · have h10 := zc_lel (3) q9 h3 (zr_c (lo := 3) (hi := 3) (by decide)) (by decide)
      exact (s_X12_more_42 hσ (zr_w h8 (by decide)) (zr_w h10 (by decide)) h5)
    have h11 := zc_ltr (4) (z_nle q9) (zr_c (lo := 3) (hi := 3) (by decide)) h3 (by decide)
    refine zok_if (fun q12 => ?_) (fun q12 => ?_)
    · have h13 := zc_ler (4) q12 (zr_c (lo := 4) (hi := 4) (by decide)) h5 (by decide)
      exact (s_X12_more_42 hσ (zr_w h8 (by decide)) (zr_w h11 (by decide)) (zr_w h13 (by decide)))
    have h14 := zc_ltl (3) (z_nle q12) h5 (zr_c (lo := 4) (hi := 4) (by decide)) (by decide)
    refine zok_ai (s_X12_blocks hσ h11 h14) (fun σ44 v45 i15 h16 => ?_)
    exact zok_sai i15 (zr_w h16 (by decide))
  exact (s_X12_more_42 hσ h1 h3 h5)
theorem s_X12_more3_r1_119 {G : Nat → Int} {σ : zSt} (hσ : zIM G σ) {s0 : Int32} (h_s0 : zr (0) (65535) s0) : zok (fX12_more3_r1_119 σ s0) (zAi (zIM G) (fun v : Int32 => zr (4) (23) v)) := by
  unfold fX12_more3_r1_119
  refine zok_bu (s_X12_push hσ h_s0) (fun σ1 i1 => ?_)
  exact zok_sai i1 (zr_w (zr_c (lo := 11) (hi := 11) (by decide)) (by decide))
theorem s_X12_more3_r1_200 {σ : zSt} (hσ : zPM σ) {s0 : Int32} (h_s0 : zr (4) (23) s0) : zok (fX12_more3_r1_200 σ s0) (zPi σ (fun v : Int32 => zr (4) (23) v)) := by
  unfold fX12_more3_r1_200
  exact zok_spi h_s0
theorem s_X12_more3_r1 {G : Nat → Int} {σ : zSt} (hσ : zIM G σ) {x1 : Int32} (h_x1 : zr (0) (7) x1) {x2 : Int32} (h_x2 : zr (4) (7) x2) (nP : ¬ (x2 = 5 ∧ (x1 = 3 ∨ x1 = 7))) : zok (fX12_more3_r1 σ x1 x2) (zAi (zIM G) (fun v : Int32 => zr (4) (23) v)) := by
  unfold fX12_more3_r1
  refine zok_br (zr_shr (lo := 0) (hi := 3) 1 (by decide) h_x1 (by decide)) (fun v4 e2 h1 => ?_)
  refine zok_if (fun q3 => ?_) (fun q3 => ?_)
  · have h4 := zc_eql (4) (4) q3 h_x2 (zr_c (lo := 4) (hi := 4) (by decide)) (by decide)
    refine zok_ai (s_X12_nextWord hσ) (fun σ22 v23 i5 h6 => ?_)
    refine zok_ck rfl ?_
    refine zok_bs (i5.wi 20 20 (by decide) h6 (by decide +kernel)) (fun σ24 e8 i7 => ?_)
    refine zok_pi (s_X12_cc i7.P h_x1) (fun v26 h9 => ?_)
    refine zok_if (fun q10 => ?_) (fun q10 => ?_)
    · have h11 := zc_eql (0) (0) q10 h9 (zr_c (lo := 0) (hi := 0) (by decide)) (by decide)
      exact zok_sai i7 (zr_w (zr_c (lo := 10) (hi := 10) (by decide)) (by decide))
    have h12 := zc_nel (1) (1) q10 h9 (zr_c (lo := 0) (hi := 0) (by decide)) (by decide)
    refine zok_ck rfl ?_
    refine zok_bu (s_X12_push i7 (rM_12 i7.sg _ (by decide))) (fun σ27 i13 => ?_)
    refine zok_ck rfl ?_
    refine zok_ck rfl ?_
    refine zok_bs (i13.wi 19 19 (by decide) (rM_12 i13.sg _ (by decide)) (by decide +kernel)) (fun σ28 e15 i14 => ?_)
    exact zok_sai i14 (zr_w (zr_c (lo := 17) (hi := 17) (by decide)) (by decide))
  have h16 := zc_nel (5) (7) q3 h_x2 (zr_c (lo := 4) (hi := 4) (by decide)) (by decide)
  refine zok_if (fun q17 => ?_) (fun q17 => ?_)
  · have h18 := zc_eql (6) (6) q17 h16 (zr_c (lo := 6) (hi := 6) (by decide)) (by decide)
    refine zok_ai (s_X12_next hσ) (fun σ19 v20 i19 h20 => ?_)
    refine zok_bu (s_X12_does i19 h_x1 h20) (fun σ21 i21 => ?_)
    exact zok_sai i21 (zr_w (zr_c (lo := 7) (hi := 7) (by decide)) (by decide))
  refine zok_if (fun q22 => ?_) (fun q22 => ?_)
  · have h23 := zc_eql (7) (7) q22 h16 (zr_c (lo := 7) (hi := 7) (by decide)) (by decide)
    refine zok_bu (s_X12_call hσ (zr_w (zr_mul (lo := 0) (hi := 56) (zr_c (lo := 8) (hi := 8) (by decide)) h_x1 (by decide)) (by decide))) (fun σ18 i24 => ?_)
    exact zok_sai i24 (zr_w (zr_c (lo := 11) (hi := 11) (by decide)) (by decide))
  have h25 := zc_nel (5) (6) q22 h16 (zr_c (lo := 7) (hi := 7) (by decide)) (by decide)
  refine zok_ck (by decide) ?_
  refine zok_if (fun q26 => ?_) (fun q26 => ?_)
  · have h27 := zc_eql (0) (0) q26 (zr_rem (lo := 0) (hi := 1) 2 (by decide) h_x1 (by decide)) (zr_c (lo := 0) (hi := 0) (by decide)) (by decide)
    refine zok_if (fun q28 => ?_) (fun q28 => ?_)
    · have h29 := zc_eql (3) (3) q28 h1 (zr_c (lo := 3) (hi := 3) (by decide)) (by decide)
      refine zok_pi (s_X12_pair hσ.P (zr_w (zr_c (lo := 0) (hi := 0) (by decide)) (by decide))) (fun v17 h30 => ?_)
      exact (s_X12_more3_r1_119 hσ h30)
    have h31 := zc_nel (0) (2) q28 h1 (zr_c (lo := 3) (hi := 3) (by decide)) (by decide)
    refine zok_pi (s_X12_rp hσ.P (zr_w h31 (by decide))) (fun v15 h32 => ?_)
    exact (s_X12_more3_r1_119 hσ h32)
  have h33 := zc_nel (1) (1) q26 (zr_rem (lo := 0) (hi := 1) 2 (by decide) h_x1 (by decide)) (zr_c (lo := 0) (hi := 0) (by decide)) (by decide)
  have h34 := z_odd64 h_x1 h33 (by decide)
  refine zok_if (fun q35 => ?_) (fun q35 => ?_)
  · have h36 := zc_eql (0) (0) q35 h1 (zr_c (lo := 0) (hi := 0) (by decide)) (by decide)
    refine zok_ai (s_X12_nextWord hσ) (fun σ9 v10 i37 h38 => ?_)
    refine zok_ck rfl ?_
    refine zok_bs (i37.wi 20 20 (by decide) h38 (by decide +kernel)) (fun σ11 e40 i39 => ?_)
    refine zok_ck rfl ?_
    refine zok_bu (s_X12_push i39 (rM_12 i39.sg _ (by decide))) (fun σ12 i41 => ?_)
    refine zok_ck rfl ?_
    refine zok_ck rfl ?_
    refine zok_bs (i41.wi 19 19 (by decide) (rM_12 i41.sg _ (by decide)) (by decide +kernel)) (fun σ13 e43 i42 => ?_)
    exact zok_sai i42 (zr_w (zr_c (lo := 17) (hi := 17) (by decide)) (by decide))
  have h44 := zc_nel (1) (3) q35 h1 (zr_c (lo := 0) (hi := 0) (by decide)) (by decide)
  refine zok_if (fun q45 => ?_) (fun q45 => ?_)
  · have h46 := zc_eql (2) (2) q45 h44 (zr_c (lo := 2) (hi := 2) (by decide)) (by decide)
    refine zok_ai (s_X12_fetch hσ) (fun σ5 v6 i47 h48 => ?_)
    refine zok_ai (s_X12_more i47 h48) (fun σ7 v8 i49 h50 => ?_)
    exact zok_pai i49 (s_X12_more3_r1_200 i49.P (zr_w h50 (by decide)))
  refine zok_if (fun q51 => ?_) (fun q51 => ?_)
  · have h52 := zc_eql (1) (1) q51 h44 (zr_c (lo := 1) (hi := 1) (by decide)) (by decide)
    exact absurd (z_m3 h_x1 h_x2 e2 q3 q17 q22 q26 q35 q45) nP
  have h53 := zc_nel (2) (3) q51 h44 (zr_c (lo := 1) (hi := 1) (by decide)) (by decide)
  exact absurd (z_m3 h_x1 h_x2 e2 q3 q17 q22 q26 q35 q45) nP
theorem s_X12_jump {G : Nat → Int} {σ : zSt} (hσ : zIM G σ) {x1 : Int32} (h_x1 : zr (-128) (127) x1) : zok (fX12_jump σ x1) (zIM G) := by
  unfold fX12_jump
  refine zok_ck rfl ?_
  refine zok_ck rfl ?_
  refine zok_bs (hσ.wi 19 19 (by decide) (zr_andr (lo := 0) (hi := 65535) (zr_c (lo := 65535) (hi := 65535) (by decide)) (by decide)) (by decide +kernel)) (fun σ1 e2 i1 => ?_)
  refine zok_ck rfl ?_
  refine zok_ck rfl ?_
  refine zok_bs (i1.wi 20 20 (by decide) (rM_12 i1.sg _ (by decide)) (by decide +kernel)) (fun σ2 e4 i3 => ?_)
  exact zok_some i3
theorem s_X12_moves_85 {σ : zSt} (hσ : zPM σ) : zok (fX12_moves_85 σ ) (zPi σ (fun v : Int32 => zr (7) (16) v)) := by
  unfold fX12_moves_85
  exact zok_spi (zr_w (zr_c (lo := 7) (hi := 7) (by decide)) (by decide))
theorem s_X12_moves_15 {G : Nat → Int} {σ : zSt} (hσ : zIM G σ) {x2 : Int32} (h_x2 : zr (0) (1) x2) {s0 : Int32} (h_s0 : zr (2) (4) s0) : zok (fX12_moves_15 σ x2 s0) (zAi (zIM G) (fun v : Int32 => zr (7) (16) v)) := by
  unfold fX12_moves_15
  refine zok_pi (s_X12_pair hσ.P (zr_w h_s0 (by decide))) (fun v2 h1 => ?_)
  refine zok_if (fun q2 => ?_) (fun q2 => ?_)
  · have h3 := zc_eql (0) (0) q2 h_x2 (zr_c (lo := 0) (hi := 0) (by decide)) (by decide)
    refine zok_ck rfl ?_
    refine zok_bu (s_X12_write hσ) (fun σ3 i4 => ?_)
    refine zok_ck rfl ?_
    refine zok_ck rfl ?_
    refine zok_bs (i4.wi 20 20 (by decide) (zr_or (lo := 0) (hi := 65535) 16 (zr_shl (lo := 0) (hi := 65280) 8 (by decide) (rM_11 i4.sg _ (by decide)) (by decide)) (zr_andr (lo := 0) (hi := 255) (zr_c (lo := 255) (hi := 255) (by decide)) (by decide)) (by decide)) (by decide +kernel)) (fun σ4 e6 i5 => ?_)
    exact zok_pai i5 (s_X12_moves_85 i5.P)
  have h7 := zc_nel (1) (1) q2 h_x2 (zr_c (lo := 0) (hi := 0) (by decide)) (by decide)
  refine zok_pi (s_X12_read hσ.P) (fun v6 h8 => ?_)
  refine zok_ck rfl ?_
  refine zok_bs (hσ.wi 0 0 (by decide) h8 (by decide +kernel)) (fun σ7 e10 i9 => ?_)
  refine zok_ck rfl ?_
  refine zok_bs (i9.wi 20 20 (by decide) (zr_andr (lo := 0) (hi := 65535) (zr_c (lo := 65535) (hi := 65535) (by decide)) (by decide)) (by decide +kernel)) (fun σ8 e12 i11 => ?_)
  exact zok_pai i11 (s_X12_moves_85 i11.P)
theorem s_X12_moves_214 {σ : zSt} (hσ : zPM σ) {s0 : Int32} (h_s0 : zr (13) (16) s0) : zok (fX12_moves_214 σ s0) (zPi σ (fun v : Int32 => zr (7) (16) v)) := by
  unfold fX12_moves_214
  exact zok_spi (zr_w h_s0 (by decide))
theorem s_X12_moves_201 {G : Nat → Int} {σ : zSt} (hσ : zIM G σ) {x1 : Int32} (h_x1 : zr (2) (3) x1) {s0 : Int32} (h_s0 : zr (0) (65535) s0) {s1 : Int32} (h_s1 : zr (20) (20) s1) : zok (fX12_moves_201 σ x1 s0 s1) (zAi (zIM G) (fun v : Int32 => zr (7) (16) v)) := by
  unfold fX12_moves_201
  refine zok_ck (zin_ok h_s1 (by decide)) ?_
  refine zok_bs (hσ.wi 20 20 (z_ix h_s1 (by decide)) h_s0 (by decide +kernel)) (fun σ9 e2 i1 => ?_)
  refine zok_if (fun q3 => ?_) (fun q3 => ?_)
  · have h4 := zc_eql (2) (2) q3 h_x1 (zr_c (lo := 2) (hi := 2) (by decide)) (by decide)
    exact zok_pai i1 (s_X12_moves_214 i1.P (zr_w (zr_c (lo := 16) (hi := 16) (by decide)) (by decide)))
  have h5 := zc_nel (3) (3) q3 h_x1 (zr_c (lo := 2) (hi := 2) (by decide)) (by decide)
  exact zok_pai i1 (s_X12_moves_214 i1.P (zr_w (zr_c (lo := 13) (hi := 13) (by decide)) (by decide)))
theorem s_X12_moves_195 {G : Nat → Int} {σ : zSt} (hσ : zIM G σ) {x1 : Int32} (h_x1 : zr (2) (3) x1) {x3 : Int32} (h_x3 : zr (0) (65535) x3) {s0 : Int32} (h_s0 : zr (20) (20) s0) : zok (fX12_moves_195 σ x1 x3 s0) (zAi (zIM G) (fun v : Int32 => zr (7) (16) v)) := by
  unfold fX12_moves_195
  exact (s_X12_moves_201 hσ h_x1 (zr_andr (lo := 0) (hi := 65535) (zr_c (lo := 65535) (hi := 65535) (by decide)) (by decide)) h_s0)
theorem s_X12_moves_160 {G : Nat → Int} {σ : zSt} (hσ : zIM G σ) {x1 : Int32} (h_x1 : zr (2) (3) x1) {x2 : Int32} (h_x2 : zr (0) (1) x2) {x3 : Int32} (h_x3 : zr (0) (65535) x3) : zok (fX12_moves_160 σ x1 x2 x3) (zAi (zIM G) (fun v : Int32 => zr (7) (16) v)) := by
  unfold fX12_moves_160
  refine zok_if (fun q1 => ?_) (fun q1 => ?_)
  · have h2 := zc_eql (3) (3) q1 h_x1 (zr_c (lo := 3) (hi := 3) (by decide)) (by decide)
    refine zok_if (fun q3 => ?_) (fun q3 => ?_)
    · have h4 := zc_eql (0) (0) q3 h_x2 (zr_c (lo := 0) (hi := 0) (by decide)) (by decide)
      refine zok_ck rfl ?_
      exact (s_X12_moves_201 hσ (zr_w h2 (by decide)) (zr_or (lo := 0) (hi := 65535) 16 (zr_shl (lo := 0) (hi := 65280) 8 (by decide) (rM_11 hσ.sg _ (by decide)) (by decide)) (zr_andr (lo := 0) (hi := 255) (zr_c (lo := 255) (hi := 255) (by decide)) (by decide)) (by decide)) (zr_c (lo := 20) (hi := 20) (by decide)))
    have h5 := zc_nel (1) (1) q3 h_x2 (zr_c (lo := 0) (hi := 0) (by decide)) (by decide)
    exact (s_X12_moves_195 hσ (zr_w h2 (by decide)) h_x3 (zr_c (lo := 20) (hi := 20) (by decide)))
  have h6 := zc_nel (2) (2) q1 h_x1 (zr_c (lo := 3) (hi := 3) (by decide)) (by decide)
  exact (s_X12_moves_195 hσ (zr_w h6 (by decide)) h_x3 (zr_c (lo := 20) (hi := 20) (by decide)))
theorem s_X12_moves_114 {G : Nat → Int} {σ : zSt} (hσ : zIM G σ) {x1 : Int32} (h_x1 : zr (2) (3) x1) {x2 : Int32} (h_x2 : zr (0) (1) x2) {x3 : Int32} (h_x3 : zr (0) (65535) x3) : zok (fX12_moves_114 σ x1 x2 x3) (zAi (zIM G) (fun v : Int32 => zr (7) (16) v)) := by
  unfold fX12_moves_114
  refine zok_if (fun q1 => ?_) (fun q1 => ?_)
  · have h2 := zc_eql (2) (2) q1 h_x1 (zr_c (lo := 2) (hi := 2) (by decide)) (by decide)
    refine zok_pi (s_X12_hl hσ.P) (fun v15 h3 => ?_)
    refine zok_bu (s_X12_wordTo hσ h_x3 h3) (fun σ16 i4 => ?_)
    exact (s_X12_moves_160 i4 (zr_w h2 (by decide)) h_x2 h_x3)
  have h5 := zc_nel (3) (3) q1 h_x1 (zr_c (lo := 2) (hi := 2) (by decide)) (by decide)
  refine zok_if (fun q6 => ?_) (fun q6 => ?_)
  · have h7 := zc_eql (0) (0) q6 h_x2 (zr_c (lo := 0) (hi := 0) (by decide)) (by decide)
    refine zok_ck rfl ?_
    refine zok_bu (s_X12_write hσ) (fun σ10 i8 => ?_)
    exact (s_X12_moves_160 i8 (zr_w h5 (by decide)) (zr_w h7 (by decide)) h_x3)
  have h9 := zc_nel (1) (1) q6 h_x2 (zr_c (lo := 0) (hi := 0) (by decide)) (by decide)
  refine zok_pi (s_X12_read hσ.P) (fun v12 h10 => ?_)
  refine zok_ck rfl ?_
  refine zok_bs (hσ.wi 0 0 (by decide) h10 (by decide +kernel)) (fun σ13 e12 i11 => ?_)
  exact (s_X12_moves_160 i11 (zr_w h5 (by decide)) (zr_w h9 (by decide)) h_x3)
theorem s_X12_moves {G : Nat → Int} {σ : zSt} (hσ : zIM G σ) {x1 : Int32} (h_x1 : zr (0) (3) x1) {x2 : Int32} (h_x2 : zr (0) (1) x2) : zok (fX12_moves σ x1 x2) (zAi (zIM G) (fun v : Int32 => zr (7) (16) v)) := by
  unfold fX12_moves
  refine zok_if (fun q1 => ?_) (fun q1 => ?_)
  · have h2 := zc_ler (2) q1 (zr_c (lo := 2) (hi := 2) (by decide)) h_x1 (by decide)
    refine zok_ai (s_X12_nextWord hσ) (fun σ17 v18 i3 h4 => ?_)
    refine zok_if (fun q5 => ?_) (fun q5 => ?_)
    · have h6 := zc_eql (2) (2) q5 h2 (zr_c (lo := 2) (hi := 2) (by decide)) (by decide)
      refine zok_if (fun q7 => ?_) (fun q7 => ?_)
      · have h8 := zc_eql (0) (0) q7 h_x2 (zr_c (lo := 0) (hi := 0) (by decide)) (by decide)
        exact (s_X12_moves_114 i3 (zr_w h6 (by decide)) (zr_w h8 (by decide)) h4)
      have h9 := zc_nel (1) (1) q7 h_x2 (zr_c (lo := 0) (hi := 0) (by decide)) (by decide)
      refine zok_pi (s_X12_word i3.P h4) (fun v20 h10 => ?_)
      refine zok_bu (s_X12_hlTo i3 (zr_w h10 (by decide))) (fun σ21 i11 => ?_)
      exact (s_X12_moves_160 i11 (zr_w h6 (by decide)) (zr_w h9 (by decide)) h4)
    have h12 := zc_nel (3) (3) q5 h2 (zr_c (lo := 2) (hi := 2) (by decide)) (by decide)
    exact (s_X12_moves_114 i3 (zr_w h12 (by decide)) h_x2 h4)
  have h13 := zc_ltl (1) (z_nle q1) h_x1 (zr_c (lo := 2) (hi := 2) (by decide)) (by decide)
  refine zok_if (fun q14 => ?_) (fun q14 => ?_)
  · have h15 := zc_eql (0) (0) q14 h13 (zr_c (lo := 0) (hi := 0) (by decide)) (by decide)
    exact (s_X12_moves_15 hσ h_x2 (zr_w (zr_c (lo := 2) (hi := 2) (by decide)) (by decide)))
  have h16 := zc_nel (1) (1) q14 h13 (zr_c (lo := 0) (hi := 0) (by decide)) (by decide)
  exact (s_X12_moves_15 hσ h_x2 (zr_w (zr_c (lo := 4) (hi := 4) (by decide)) (by decide)))
theorem s_X12_zero_154 {σ : zSt} (hσ : zPM σ) {s0 : Int32} (h_s0 : zr (7) (13) s0) : zok (fX12_zero_154 σ s0) (zPi σ (fun v : Int32 => zr (4) (16) v)) := by
  unfold fX12_zero_154
  exact zok_spi (zr_w h_s0 (by decide))
theorem s_X12_zero_122 {σ : zSt} (hσ : zPM σ) {x1 : Int32} (h_x1 : zr (2) (7) x1) {x5 : Int32} (h_x5 : zr (0) (1) x5) : zok (fX12_zero_122 σ x1 x5) (zPi σ (fun v : Int32 => zr (4) (16) v)) := by
  unfold fX12_zero_122
  refine zok_if (fun q1 => ?_) (fun q1 => ?_)
  · have h2 := zc_eql (2) (2) q1 h_x1 (zr_c (lo := 2) (hi := 2) (by decide)) (by decide)
    refine zok_if (fun q3 => ?_) (fun q3 => ?_)
    · have h4 := zc_eql (0) (0) q3 h_x5 (zr_c (lo := 0) (hi := 0) (by decide)) (by decide)
      exact (s_X12_zero_154 hσ (zr_w (zr_c (lo := 8) (hi := 8) (by decide)) (by decide)))
    have h5 := zc_nel (1) (1) q3 h_x5 (zr_c (lo := 0) (hi := 0) (by decide)) (by decide)
    exact (s_X12_zero_154 hσ (zr_w (zr_c (lo := 13) (hi := 13) (by decide)) (by decide)))
  have h6 := zc_nel (3) (7) q1 h_x1 (zr_c (lo := 2) (hi := 2) (by decide)) (by decide)
  refine zok_if (fun q7 => ?_) (fun q7 => ?_)
  · have h8 := zc_eql (0) (0) q7 h_x5 (zr_c (lo := 0) (hi := 0) (by decide)) (by decide)
    exact (s_X12_zero_154 hσ (zr_w (zr_c (lo := 7) (hi := 7) (by decide)) (by decide)))
  have h9 := zc_nel (1) (1) q7 h_x5 (zr_c (lo := 0) (hi := 0) (by decide)) (by decide)
  exact (s_X12_zero_154 hσ (zr_w (zr_c (lo := 12) (hi := 12) (by decide)) (by decide)))
theorem s_X12_zero_109 {G : Nat → Int} {σ : zSt} (hσ : zIM G σ) {x1 : Int32} (h_x1 : zr (2) (7) x1) {x4 : Int32} (h_x4 : zr (-128) (127) x4) {s0 : Int32} (h_s0 : zr (0) (1) s0) : zok (fX12_zero_109 σ x1 x4 s0) (zAi (zIM G) (fun v : Int32 => zr (4) (16) v)) := by
  unfold fX12_zero_109
  refine zok_if (fun q1 => ?_) (fun q1 => ?_)
  · have h2 := zc_eql (0) (0) q1 h_s0 (zr_c (lo := 0) (hi := 0) (by decide)) (by decide)
    exact zok_pai hσ (s_X12_zero_122 hσ.P h_x1 (zr_w h2 (by decide)))
  have h3 := zc_nel (1) (1) q1 h_s0 (zr_c (lo := 0) (hi := 0) (by decide)) (by decide)
  refine zok_bu (s_X12_jump hσ h_x4) (fun σ1 i4 => ?_)
  exact zok_pai i4 (s_X12_zero_122 i4.P h_x1 (zr_w h3 (by decide)))
theorem s_X12_zero_104 {G : Nat → Int} {σ : zSt} (hσ : zIM G σ) {x1 : Int32} (h_x1 : zr (3) (7) x1) {x4 : Int32} (h_x4 : zr (-128) (127) x4) : zok (fX12_zero_104 σ x1 x4) (zAi (zIM G) (fun v : Int32 => zr (4) (16) v)) := by
  unfold fX12_zero_104
  exact (s_X12_zero_109 hσ (zr_w h_x1 (by decide)) h_x4 (zr_w (zr_c (lo := 1) (hi := 1) (by decide)) (by decide)))
