section ZJN0
theorem s_X12_rTo_104 {G : Nat → Int} {σ : zSt} (hσ : zIM G σ) {x1 : Int32} (h_x1 : zr (0) (6) x1) {x3 : Int32} (h_x3 : zr (0) (255) x3) : zok (fX12_rTo_104 σ x1 x3) (zIM G) := by
  unfold fX12_rTo_104
  refine zok_ck (zin_ok (zr_add (lo := 2) (hi := 8) (zr_c (lo := 2) (hi := 2) (by decide)) h_x1 (by decide)) (by decide)) ?_
  refine zok_bs (hσ.wi 2 8 (z_ix (zr_add (lo := 2) (hi := 8) (zr_c (lo := 2) (hi := 2) (by decide)) h_x1 (by decide)) (by decide)) h_x3 (by decide +kernel)) (fun σ1 e2 i1 => ?_)
  exact zok_pau i1 (s_X12_rTo_113 i1.P)
theorem s_X12_rTo_100 {G : Nat → Int} {σ : zSt} (hσ : zIM G σ) {s0 : Int32} (h_s0 : zr (0) (65535) s0) {s1 : Int32} (h_s1 : zr (16) (17) s1) : zok (fX12_rTo_100 σ s0 s1) (zIM G) := by
  unfold fX12_rTo_100
  refine zok_ck (zin_ok h_s1 (by decide)) ?_
  refine zok_bs (hσ.wi 16 17 (z_ix h_s1 (by decide)) h_s0 (by decide +kernel)) (fun σ2 e2 i1 => ?_)
  exact zok_pau i1 (s_X12_rTo_113 i1.P)
theorem s_X12_rTo {G : Nat → Int} {σ : zSt} (hσ : zIM G σ) {x1 : Int32} (h_x1 : zr (0) (7) x1) {x2 : Int32} : zok (fX12_rTo σ x1 x2) (zIM G) := by
  unfold fX12_rTo
  refine zok_br (zr_andr (lo := 0) (hi := 255) (zr_c (lo := 255) (hi := 255) (by decide)) (by decide)) (fun v3 e2 h1 => ?_)
  refine zok_if (fun q3 => ?_) (fun q3 => ?_)
  · have h4 := zc_eql (6) (6) q3 h_x1 (zr_c (lo := 6) (hi := 6) (by decide)) (by decide)
    refine zok_pi (s_X12_m hσ.P) (fun v6 h5 => ?_)
    refine zok_bu (s_X12_write hσ) (fun σ7 i6 => ?_)
    exact zok_pau i6 (s_X12_rTo_113 i6.P)
  refine zok_if (fun q7 => ?_) (fun q7 => ?_)
  · have h8 := zc_eql (7) (7) q7 h_x1 (zr_c (lo := 7) (hi := 7) (by decide)) (by decide)
    refine zok_ck rfl ?_
    refine zok_bs (hσ.wi 0 0 (by decide) h1 (by decide +kernel)) (fun σ4 e10 i9 => ?_)
    exact zok_pau i9 (s_X12_rTo_113 i9.P)
  have h11 := zc_nel (0) (6) q7 h_x1 (zr_c (lo := 7) (hi := 7) (by decide)) (by decide)
  refine zok_if (fun q12 => ?_) (fun q12 => ?_)
  · have h13 := zc_lel (0) q12 (rM_6 hσ.sg _ (by decide)) (zr_c (lo := 0) (hi := 0) (by decide)) (by decide)
    exact (s_X12_rTo_104 hσ h11 h1)
  have h14 := zc_ltr (1) (z_nle q12) (zr_c (lo := 0) (hi := 0) (by decide)) (rM_6 hσ.sg _ (by decide)) (by decide)
  have h15 := xM_sp hσ.sp h14 (by decide)
  refine zok_if (fun q16 => ?_) (fun q16 => ?_)
  · have h17 := zc_lel (3) q16 h11 (zr_c (lo := 3) (hi := 3) (by decide)) (by decide)
    exact (s_X12_rTo_104 hσ (zr_w h17 (by decide)) h1)
  have h18 := zc_ltr (4) (z_nle q16) (zr_c (lo := 3) (hi := 3) (by decide)) h11 (by decide)
  refine zok_if (fun q19 => ?_) (fun q19 => ?_)
  · have h20 := zc_eql (4) (4) q19 h18 (zr_c (lo := 4) (hi := 4) (by decide)) (by decide)
    refine zok_ck (zin_ok h15 (by decide)) ?_
    exact (s_X12_rTo_100 hσ (zr_or (lo := 0) (hi := 65535) 16 (zr_shl (lo := 0) (hi := 65280) 8 (by decide) h1 (by decide)) (zr_andr (lo := 0) (hi := 255) (zr_c (lo := 255) (hi := 255) (by decide)) (by decide)) (by decide)) h15)
  have h21 := zc_nel (5) (6) q19 h18 (zr_c (lo := 4) (hi := 4) (by decide)) (by decide)
  refine zok_ck (zin_ok h15 (by decide)) ?_
  exact (s_X12_rTo_100 hσ (zr_or (lo := 0) (hi := 65535) 16 (zr_andr (lo := 0) (hi := 65280) (zr_c (lo := 65280) (hi := 65280) (by decide)) (by decide)) h1 (by decide)) h15)
theorem s_X12_put_34 {G : Nat → Int} {σ : zSt} (hσ : zIM G σ) {s0 : Int32} (h_s0 : zr (0) (255) s0) {s1 : Int32} (h_s1 : zr (1) (1) s1) : zok (fX12_put_34 σ s0 s1) (zIM G) := by
  unfold fX12_put_34
  refine zok_ck (zin_ok h_s1 (by decide)) ?_
  refine zok_bs (hσ.wi 1 1 (z_ix h_s1 (by decide)) h_s0 (by decide +kernel)) (fun σ1 e2 i1 => ?_)
  exact zok_some i1
theorem s_X12_put {G : Nat → Int} {σ : zSt} (hσ : zIM G σ) {x1 : Int32} (h_x1 : zr (0) (7) x1) {x2 : Int32} (h_x2 : zr (0) (1) x2) : zok (fX12_put σ x1 x2) (zIM G) := by
  unfold fX12_put
  refine zok_if (fun q1 => ?_) (fun q1 => ?_)
  · have h2 := zc_eql (0) (0) q1 h_x2 (zr_c (lo := 0) (hi := 0) (by decide)) (by decide)
    refine zok_ck rfl ?_
    exact (s_X12_put_34 hσ (zr_andl (lo := 0) (hi := 255) (rM_11 hσ.sg _ (by decide)) (by decide)) (zr_c (lo := 1) (hi := 1) (by decide)))
  have h3 := zc_nel (1) (1) q1 h_x2 (zr_c (lo := 0) (hi := 0) (by decide)) (by decide)
  refine zok_ck rfl ?_
  exact (s_X12_put_34 hσ (zr_or (lo := 0) (hi := 255) 8 (rM_11 hσ.sg _ (by decide)) (zr_shld (lo := 0) (hi := 128) (zr_c (lo := 1) (hi := 1) (by decide)) h_x1 (by decide)) (by decide)) (zr_c (lo := 1) (hi := 1) (by decide)))
theorem s_X12_flag {σ : zSt} (hσ : zPM σ) {x1 : Int32} (h_x1 : zr (0) (7) x1) : zok (fX12_flag σ x1) (zPi σ (fun v : Int32 => zr (0) (1) v)) := by
  unfold fX12_flag
  refine zok_ck rfl ?_
  exact zok_spi (zr_andr (lo := 0) (hi := 1) (zr_c (lo := 1) (hi := 1) (by decide)) (by decide))
theorem s_X12_xy_31 {G : Nat → Int} {σ : zSt} (hσ : zIM G σ) {s0 : Int32} (h_s0 : zr (0) (1) s0) {s1 : Int32} (h_s1 : zr (3) (3) s1) : zok (fX12_xy_31 σ s0 s1) (zIM G) := by
  unfold fX12_xy_31
  refine zok_bu (s_X12_put hσ (zr_w h_s1 (by decide)) h_s0) (fun σ1 i1 => ?_)
  exact zok_some i1
theorem s_X12_xy_14 {G : Nat → Int} {σ : zSt} (hσ : zIM G σ) {x1 : Int32} (h_x1 : zr (-256) (511) x1) {s0 : Int32} (h_s0 : zr (0) (1) s0) {s1 : Int32} (h_s1 : zr (5) (5) s1) : zok (fX12_xy_14 σ x1 s0 s1) (zIM G) := by
  unfold fX12_xy_14
  refine zok_bu (s_X12_put hσ (zr_w h_s1 (by decide)) h_s0) (fun σ2 i1 => ?_)
  refine zok_if (fun q2 => ?_) (fun q2 => ?_)
  · have h3 := zc_eql (0) (0) q2 (zr_andr (lo := 0) (hi := 8) (zr_c (lo := 8) (hi := 8) (by decide)) (by decide)) (zr_c (lo := 0) (hi := 0) (by decide)) (by decide)
    exact (s_X12_xy_31 i1 (zr_w (zr_c (lo := 0) (hi := 0) (by decide)) (by decide)) (zr_c (lo := 3) (hi := 3) (by decide)))
  have h4 := zc_nel (1) (8) q2 (zr_andr (lo := 0) (hi := 8) (zr_c (lo := 8) (hi := 8) (by decide)) (by decide)) (zr_c (lo := 0) (hi := 0) (by decide)) (by decide)
  exact (s_X12_xy_31 i1 (zr_w (zr_c (lo := 1) (hi := 1) (by decide)) (by decide)) (zr_c (lo := 3) (hi := 3) (by decide)))
theorem s_X12_xy {G : Nat → Int} {σ : zSt} (hσ : zIM G σ) {x1 : Int32} (h_x1 : zr (-256) (511) x1) : zok (fX12_xy σ x1) (zIM G) := by
  unfold fX12_xy
  refine zok_if (fun q1 => ?_) (fun q1 => ?_)
  · have h2 := zc_eql (0) (0) q1 (zr_andr (lo := 0) (hi := 32) (zr_c (lo := 32) (hi := 32) (by decide)) (by decide)) (zr_c (lo := 0) (hi := 0) (by decide)) (by decide)
    exact (s_X12_xy_14 hσ h_x1 (zr_w (zr_c (lo := 0) (hi := 0) (by decide)) (by decide)) (zr_c (lo := 5) (hi := 5) (by decide)))
  have h3 := zc_nel (1) (32) q1 (zr_andr (lo := 0) (hi := 32) (zr_c (lo := 32) (hi := 32) (by decide)) (by decide)) (zr_c (lo := 0) (hi := 0) (by decide)) (by decide)
  exact (s_X12_xy_14 hσ h_x1 (zr_w (zr_c (lo := 1) (hi := 1) (by decide)) (by decide)) (zr_c (lo := 5) (hi := 5) (by decide)))
theorem s_X12_by_31 {G : Nat → Int} {σ : zSt} (hσ : zIM G σ) {x1 : Int32} (h_x1 : zr (0) (255) x1) {s0 : Int32} (h_s0 : zr (0) (1) s0) {s1 : Int32} (h_s1 : zr (6) (6) s1) : zok (fX12_by_31 σ x1 s0 s1) (zIM G) := by
  unfold fX12_by_31
  refine zok_bu (s_X12_put hσ (zr_w h_s1 (by decide)) h_s0) (fun σ1 i1 => ?_)
  refine zok_bu (s_X12_xy i1 (zr_w h_x1 (by decide))) (fun σ2 i2 => ?_)
  exact zok_some i2
theorem s_X12_by_16 {G : Nat → Int} {σ : zSt} (hσ : zIM G σ) {x1 : Int32} (h_x1 : zr (0) (255) x1) {s0 : Int32} (h_s0 : zr (0) (1) s0) {s1 : Int32} (h_s1 : zr (7) (7) s1) : zok (fX12_by_16 σ x1 s0 s1) (zIM G) := by
  unfold fX12_by_16
  refine zok_bu (s_X12_put hσ (zr_w h_s1 (by decide)) h_s0) (fun σ3 i1 => ?_)
  refine zok_if (fun q2 => ?_) (fun q2 => ?_)
  · have h3 := zc_eql (0) (0) q2 h_x1 (zr_c (lo := 0) (hi := 0) (by decide)) (by decide)
    exact (s_X12_by_31 i1 (zr_w h3 (by decide)) (zr_w (zr_c (lo := 1) (hi := 1) (by decide)) (by decide)) (zr_c (lo := 6) (hi := 6) (by decide)))
  have h4 := zc_nel (1) (255) q2 h_x1 (zr_c (lo := 0) (hi := 0) (by decide)) (by decide)
  exact (s_X12_by_31 i1 (zr_w h4 (by decide)) (zr_w (zr_c (lo := 0) (hi := 0) (by decide)) (by decide)) (zr_c (lo := 6) (hi := 6) (by decide)))
theorem s_X12_by {G : Nat → Int} {σ : zSt} (hσ : zIM G σ) {x1 : Int32} (h_x1 : zr (0) (255) x1) : zok (fX12_by σ x1) (zIM G) := by
  unfold fX12_by
  refine zok_if (fun q1 => ?_) (fun q1 => ?_)
  · have h2 := zc_eql (0) (0) q1 (zr_andr (lo := 0) (hi := 128) (zr_c (lo := 128) (hi := 128) (by decide)) (by decide)) (zr_c (lo := 0) (hi := 0) (by decide)) (by decide)
    exact (s_X12_by_16 hσ h_x1 (zr_w (zr_c (lo := 0) (hi := 0) (by decide)) (by decide)) (zr_c (lo := 7) (hi := 7) (by decide)))
  have h3 := zc_nel (1) (128) q1 (zr_andr (lo := 0) (hi := 128) (zr_c (lo := 128) (hi := 128) (by decide)) (by decide)) (zr_c (lo := 0) (hi := 0) (by decide)) (by decide)
  exact (s_X12_by_16 hσ h_x1 (zr_w (zr_c (lo := 1) (hi := 1) (by decide)) (by decide)) (zr_c (lo := 7) (hi := 7) (by decide)))
theorem s_X12_isEven_35 {σ : zSt} (hσ : zPM σ) {s0 : Int32} (h_s0 : zr (0) (1) s0) : zok (fX12_isEven_35 σ s0) (zPi σ (fun v : Int32 => zr (0) (1) v)) := by
  unfold fX12_isEven_35
  refine zok_ck (zbo_ok h_s0 (by decide)) ?_
  exact zok_spi h_s0
theorem s_X12_isEven_4_body {σ : zSt} {k4 : zSt → Int32 → Int32 → Int32 → Option (zSt × Int32)} {Mk4 : Int} (hk4 : ∀ (x0 : Int32) (x1 : Int32) (x2 : Int32), zr (0) (255) x0 → zr (0) (8) x2 → (8) - x2.toInt < Mk4 → zok (k4 σ x0 x1 x2) (zPi σ (fun v : Int32 => zr (0) (1) v))) (hσ : zPM σ) {x0 : Int32} (h_x0 : zr (0) (255) x0) {x1 : Int32} {x2 : Int32} (h_x2 : zr (0) (8) x2) (hMk4 : (8) - x2.toInt ≤ Mk4) : zok (fX12_isEven_4_body k4 σ x0 x1 x2) (zPi σ (fun v : Int32 => zr (0) (1) v)) := by
  unfold fX12_isEven_4_body
  refine zok_if (fun q1 => ?_) (fun q1 => ?_)
  · have h2 := zc_ler (8) q1 (zr_c (lo := 8) (hi := 8) (by decide)) h_x2 (by decide)
    refine zok_ck (by decide) ?_
    refine zok_if (fun q3 => ?_) (fun q3 => ?_)
    · have h4 := zc_eql (0) (0) q3 zr_any (zr_c (lo := 0) (hi := 0) (by decide)) (by decide)
      exact (s_X12_isEven_35 hσ (zr_w (zr_c (lo := 1) (hi := 1) (by decide)) (by decide)))
    exact (s_X12_isEven_35 hσ (zr_w (zr_c (lo := 0) (hi := 0) (by decide)) (by decide)))
  have h5 := zc_ltl (7) (z_nle q1) h_x2 (zr_c (lo := 8) (hi := 8) (by decide)) (by decide)
  refine zok_bv (fun v1 e7 => ?_)
  refine zok_br (zr_add (lo := 1) (hi := 8) h5 (zr_c (lo := 1) (hi := 1) (by decide)) (by decide)) (fun v2 e9 h8 => ?_)
  exact hk4 _ _ _  h_x0 (zr_w h8 (by decide)) (by rw [e9]; have := z_tadd (y := (1 : Int32)) h5 (zr_c (lo := 1) (hi := 1) (by decide)) (by decide); have e9 : (1 : Int32).toInt = 1 := rfl; omega) 
theorem s_X12_isEven_4 {σ : zSt} (hσ : zPM σ) : ∀ (n : Nat) {x0 : Int32} (h_x0 : zr (0) (255) x0) {x1 : Int32} {x2 : Int32} (h_x2 : zr (0) (8) x2) (hm : (8) - x2.toInt < n), zok (fX12_isEven_4 n σ x0 x1 x2) (zPi σ (fun v : Int32 => zr (0) (1) v)) := by
  intro n
  induction n with
  | zero => intro x0 h_x0 x1 x2 h_x2 hm ; have h9 := h_x2.1; have h8 := h_x2.2; exfalso; omega
  | succ n ih => intro x0 h_x0 x1 x2 h_x2 hm ; exact s_X12_isEven_4_body (fun x0 x1 x2 h_x0 h_x2 hm1 => ih h_x0 h_x2 (by omega)) hσ h_x0 h_x2 (Int.le_refl _)
theorem s_X12_isEven {σ : zSt} (hσ : zPM σ) {x0 : Int32} (h_x0 : zr (0) (255) x0) : zok (fX12_isEven σ x0) (zPi σ (fun v : Int32 => zr (0) (1) v)) := by
  unfold fX12_isEven
  exact (s_X12_isEven_4 hσ zfuel h_x0 (zr_w (zr_c (lo := 0) (hi := 0) (by decide)) (by decide)) (by decide))
theorem s_X12_cc_64 {σ : zSt} (hσ : zPM σ) {s0 : Int32} (h_s0 : zr (0) (1) s0) : zok (fX12_cc_64 σ s0) (zPi σ (fun v : Int32 => zr (0) (1) v)) := by
  unfold fX12_cc_64
  refine zok_ck (zbo_ok h_s0 (by decide)) ?_
  exact zok_spi h_s0
theorem s_X12_cc_56 {σ : zSt} (hσ : zPM σ) {s0 : Int32} (h_s0 : zr (0) (1) s0) {s1 : Int32} (h_s1 : zr (0) (1) s1) : zok (fX12_cc_56 σ s0 s1) (zPi σ (fun v : Int32 => zr (0) (1) v)) := by
  unfold fX12_cc_56
  refine zok_if (fun q1 => ?_) (fun q1 => ?_)
  · exact (s_X12_cc_64 hσ (zr_w (zr_c (lo := 1) (hi := 1) (by decide)) (by decide)))
  exact (s_X12_cc_64 hσ (zr_w (zr_c (lo := 0) (hi := 0) (by decide)) (by decide)))
theorem s_X12_cc_44 {σ : zSt} (hσ : zPM σ) {x1 : Int32} (h_x1 : zr (0) (7) x1) {s0 : Int32} (h_s0 : zr (0) (1) s0) : zok (fX12_cc_44 σ x1 s0) (zPi σ (fun v : Int32 => zr (0) (1) v)) := by
  unfold fX12_cc_44
  refine zok_ck (by decide) ?_
  refine zok_if (fun q1 => ?_) (fun q1 => ?_)
  · have h2 := zc_eql (1) (1) q1 (zr_rem (lo := 0) (hi := 1) 2 (by decide) h_x1 (by decide)) (zr_c (lo := 1) (hi := 1) (by decide)) (by decide)
    have h3 := z_odd64 h_x1 h2 (by decide)
    exact (s_X12_cc_56 hσ (zr_w (zr_c (lo := 1) (hi := 1) (by decide)) (by decide)) h_s0)
  have h4 := zc_nel (0) (0) q1 (zr_rem (lo := 0) (hi := 1) 2 (by decide) h_x1 (by decide)) (zr_c (lo := 1) (hi := 1) (by decide)) (by decide)
  exact (s_X12_cc_56 hσ (zr_w (zr_c (lo := 0) (hi := 0) (by decide)) (by decide)) h_s0)
theorem s_X12_cc_32 {σ : zSt} (hσ : zPM σ) {x1 : Int32} (h_x1 : zr (0) (7) x1) {s0 : Int32} (h_s0 : zr (0) (7) s0) : zok (fX12_cc_32 σ x1 s0) (zPi σ (fun v : Int32 => zr (0) (1) v)) := by
  unfold fX12_cc_32
  refine zok_pi (s_X12_flag hσ h_s0) (fun v2 h1 => ?_)
  refine zok_if (fun q2 => ?_) (fun q2 => ?_)
  · have h3 := zc_eql (1) (1) q2 h1 (zr_c (lo := 1) (hi := 1) (by decide)) (by decide)
    exact (s_X12_cc_44 hσ h_x1 (zr_w (zr_c (lo := 1) (hi := 1) (by decide)) (by decide)))
  have h4 := zc_nel (0) (0) q2 h1 (zr_c (lo := 1) (hi := 1) (by decide)) (by decide)
  exact (s_X12_cc_44 hσ h_x1 (zr_w (zr_c (lo := 0) (hi := 0) (by decide)) (by decide)))
theorem s_X12_cc {σ : zSt} (hσ : zPM σ) {x1 : Int32} (h_x1 : zr (0) (7) x1) : zok (fX12_cc σ x1) (zPi σ (fun v : Int32 => zr (0) (1) v)) := by
  unfold fX12_cc
  refine zok_if (fun q1 => ?_) (fun q1 => ?_)
  · have h2 := zc_ler (2) q1 (zr_c (lo := 2) (hi := 2) (by decide)) h_x1 (by decide)
    refine zok_if (fun q3 => ?_) (fun q3 => ?_)
    · have h4 := zc_ler (4) q3 (zr_c (lo := 4) (hi := 4) (by decide)) h2 (by decide)
      refine zok_if (fun q5 => ?_) (fun q5 => ?_)
      · have h6 := zc_ler (6) q5 (zr_c (lo := 6) (hi := 6) (by decide)) h4 (by decide)
        exact (s_X12_cc_32 hσ (zr_w h6 (by decide)) (zr_w (zr_c (lo := 7) (hi := 7) (by decide)) (by decide)))
      have h7 := zc_ltl (5) (z_nle q5) h4 (zr_c (lo := 6) (hi := 6) (by decide)) (by decide)
      exact (s_X12_cc_32 hσ (zr_w h7 (by decide)) (zr_w (zr_c (lo := 2) (hi := 2) (by decide)) (by decide)))
    have h8 := zc_ltl (3) (z_nle q3) h2 (zr_c (lo := 4) (hi := 4) (by decide)) (by decide)
    exact (s_X12_cc_32 hσ (zr_w h8 (by decide)) (zr_w (zr_c (lo := 0) (hi := 0) (by decide)) (by decide)))
  have h9 := zc_ltl (1) (z_nle q1) h_x1 (zr_c (lo := 2) (hi := 2) (by decide)) (by decide)
  exact (s_X12_cc_32 hσ (zr_w h9 (by decide)) (zr_w (zr_c (lo := 6) (hi := 6) (by decide)) (by decide)))
theorem s_X12_push {G : Nat → Int} {σ : zSt} (hσ : zIM G σ) {x1 : Int32} (h_x1 : zr (0) (65535) x1) : zok (fX12_push σ x1) (zIM G) := by
  unfold fX12_push
  refine zok_ck rfl ?_
  refine zok_ck rfl ?_
  refine zok_bs (hσ.wi 18 18 (by decide) (zr_andr (lo := 0) (hi := 65535) (zr_c (lo := 65535) (hi := 65535) (by decide)) (by decide)) (by decide +kernel)) (fun σ1 e2 i1 => ?_)
  refine zok_ck rfl ?_
  refine zok_bu (s_X12_write i1) (fun σ2 i3 => ?_)
  refine zok_ck rfl ?_
  refine zok_ck rfl ?_
  refine zok_bs (i3.wi 18 18 (by decide) (zr_andr (lo := 0) (hi := 65535) (zr_c (lo := 65535) (hi := 65535) (by decide)) (by decide)) (by decide +kernel)) (fun σ3 e5 i4 => ?_)
  refine zok_ck rfl ?_
  refine zok_bu (s_X12_write i4) (fun σ4 i6 => ?_)
  exact zok_some i6
theorem s_X12_pop {G : Nat → Int} {σ : zSt} (hσ : zIM G σ) : zok (fX12_pop σ ) (zAi (zIM G) (fun v : Int32 => zr (0) (65535) v)) := by
  unfold fX12_pop
  refine zok_ck rfl ?_
  refine zok_pi (s_X12_read hσ.P) (fun v2 h1 => ?_)
  refine zok_ck rfl ?_
  refine zok_ck rfl ?_
  refine zok_bs (hσ.wi 18 18 (by decide) (zr_andr (lo := 0) (hi := 65535) (zr_c (lo := 65535) (hi := 65535) (by decide)) (by decide)) (by decide +kernel)) (fun σ3 e3 i2 => ?_)
  refine zok_ck rfl ?_
  refine zok_pi (s_X12_read i2.P) (fun v5 h4 => ?_)
  refine zok_br (zr_or (lo := 0) (hi := 65535) 16 h1 (zr_shl (lo := 0) (hi := 65280) 8 (by decide) h4 (by decide)) (by decide)) (fun v6 e6 h5 => ?_)
  refine zok_ck rfl ?_
  refine zok_ck rfl ?_
  refine zok_bs (i2.wi 18 18 (by decide) (zr_andr (lo := 0) (hi := 65535) (zr_c (lo := 65535) (hi := 65535) (by decide)) (by decide)) (by decide +kernel)) (fun σ7 e8 i7 => ?_)
  exact zok_sai i7 h5
theorem s_X12_grows {G : Nat → Int} {σ : zSt} (hσ : zIM G σ) : zok (fX12_grows σ ) (zIM G) := by
  unfold fX12_grows
  refine zok_ck rfl ?_
  refine zok_ck rfl ?_
  refine zok_ck rfl ?_
  refine zok_bs (hσ.wi 22 22 (by decide) (zr_or (lo := 0) (hi := 255) 8 (zr_andr (lo := 0) (hi := 128) (zr_c (lo := 128) (hi := 128) (by decide)) (by decide)) (zr_andr (lo := 0) (hi := 127) (zr_c (lo := 127) (hi := 127) (by decide)) (by decide)) (by decide)) (by decide +kernel)) (fun σ1 e2 i1 => ?_)
  exact zok_some i1
theorem s_X12_next {G : Nat → Int} {σ : zSt} (hσ : zIM G σ) : zok (fX12_next σ ) (zAi (zIM G) (fun v : Int32 => zr (0) (255) v)) := by
  unfold fX12_next
  refine zok_ck rfl ?_
  refine zok_pi (s_X12_read hσ.P) (fun v2 h1 => ?_)
  refine zok_ck rfl ?_
  refine zok_ck rfl ?_
  refine zok_bs (hσ.wi 19 19 (by decide) (zr_andr (lo := 0) (hi := 65535) (zr_c (lo := 65535) (hi := 65535) (by decide)) (by decide)) (by decide +kernel)) (fun σ3 e3 i2 => ?_)
  exact zok_sai i2 h1
theorem s_X12_fetch {G : Nat → Int} {σ : zSt} (hσ : zIM G σ) : zok (fX12_fetch σ ) (zAi (zIM G) (fun v : Int32 => zr (0) (255) v)) := by
  unfold fX12_fetch
  refine zok_ai (s_X12_next hσ) (fun σ1 v2 i1 h2 => ?_)
  refine zok_bu (s_X12_grows i1) (fun σ3 i3 => ?_)
  exact zok_sai i3 h2
theorem s_X12_nextWord {G : Nat → Int} {σ : zSt} (hσ : zIM G σ) : zok (fX12_nextWord σ ) (zAi (zIM G) (fun v : Int32 => zr (0) (65535) v)) := by
  unfold fX12_nextWord
  refine zok_ai (s_X12_next hσ) (fun σ1 v2 i1 h2 => ?_)
  refine zok_ai (s_X12_next i1) (fun σ3 v4 i3 h4 => ?_)
  exact zok_sai i3 (zr_or (lo := 0) (hi := 65535) 16 h2 (zr_shl (lo := 0) (hi := 65280) 8 (by decide) h4 (by decide)) (by decide))
theorem s_X12_signed_16 {σ : zSt} (hσ : zPM σ) {s0 : Int32} (h_s0 : zr (-128) (127) s0) : zok (fX12_signed_16 σ s0) (zPi σ (fun v : Int32 => zr (-128) (127) v)) := by
  unfold fX12_signed_16
  exact zok_spi h_s0
theorem s_X12_signed {σ : zSt} (hσ : zPM σ) {x0 : Int32} (h_x0 : zr (0) (255) x0) : zok (fX12_signed σ x0) (zPi σ (fun v : Int32 => zr (-128) (127) v)) := by
  unfold fX12_signed
  refine zok_if (fun q1 => ?_) (fun q1 => ?_)
  · have h2 := zc_ler (128) q1 (zr_c (lo := 128) (hi := 128) (by decide)) h_x0 (by decide)
    exact (s_X12_signed_16 hσ (zr_w (zr_sub (lo := -128) (hi := -1) h2 (zr_c (lo := 256) (hi := 256) (by decide)) (by decide)) (by decide)))
  have h3 := zc_ltl (127) (z_nle q1) h_x0 (zr_c (lo := 128) (hi := 128) (by decide)) (by decide)
  exact (s_X12_signed_16 hσ (zr_w h3 (by decide)))
theorem s_X12_call {G : Nat → Int} {σ : zSt} (hσ : zIM G σ) {x1 : Int32} (h_x1 : zr (0) (65535) x1) : zok (fX12_call σ x1) (zIM G) := by
  unfold fX12_call
  refine zok_ck rfl ?_
  refine zok_bu (s_X12_push hσ (rM_12 hσ.sg _ (by decide))) (fun σ1 i1 => ?_)
  refine zok_ck rfl ?_
  refine zok_bs (i1.wi 19 19 (by decide) h_x1 (by decide +kernel)) (fun σ2 e3 i2 => ?_)
  refine zok_ck rfl ?_
  refine zok_bs (i2.wi 20 20 (by decide) h_x1 (by decide +kernel)) (fun σ3 e5 i4 => ?_)
  exact zok_some i4
theorem s_X12_change {G : Nat → Int} {σ : zSt} (hσ : zIM G σ) {x1 : Int32} (h_x1 : zr (0) (7) x1) {x2 : Int32} (h_x2 : zr (6) (15) x2) : zok (fX12_change σ x1 x2) (zIM G) := by
  unfold fX12_change
  refine zok_ck (zin_ok h_x1 (by decide)) ?_
  refine zok_br (rM_11 hσ.sg _ (z_ix h_x1 (by decide))) (fun v1 e2 h1 => ?_)
  refine zok_ck (zin_ok h_x2 (by decide)) ?_
  refine zok_ck (zin_ok h_x1 (by decide)) ?_
  refine zok_bs (hσ.wi 0 7 (z_ix h_x1 (by decide)) (rM_11 hσ.sg _ (z_ix h_x2 (by decide))) (by decide +kernel)) (fun σ2 e4 i3 => ?_)
  refine zok_ck (zin_ok h_x2 (by decide)) ?_
  refine zok_bs (i3.wi 6 15 (z_ix h_x2 (by decide)) h1 (by decide +kernel)) (fun σ3 e6 i5 => ?_)
  exact zok_some i5
theorem s_X12_bit {σ : zSt} (hσ : zPM σ) {x1 : Int32} (h_x1 : zr (0) (6) x1) {x2 : Int32} (h_x2 : zr (0) (7) x2) : zok (fX12_bit σ x1 x2) (zPi σ (fun v : Int32 => zr (0) (1) v)) := by
  unfold fX12_bit
  refine zok_ck (zin_ok (zr_add (lo := 47) (hi := 53) (zr_c (lo := 47) (hi := 47) (by decide)) h_x1 (by decide)) (by decide)) ?_
  exact zok_spi (zr_andr (lo := 0) (hi := 1) (zr_c (lo := 1) (hi := 1) (by decide)) (by decide))
theorem s_X12_mode_57 {σ : zSt} (hσ : zPM σ) {s0 : Int32} (h_s0 : zr (0) (4) s0) : zok (fX12_mode_57 σ s0) (zPi σ (fun v : Int32 => zr (0) (4) v)) := by
  unfold fX12_mode_57
  exact zok_spi h_s0
theorem s_X12_mode {σ : zSt} (hσ : zPM σ) : zok (fX12_mode σ ) (zPi σ (fun v : Int32 => zr (0) (4) v)) := by
  unfold fX12_mode
  refine zok_pi (s_X12_bit hσ (zr_w (zr_c (lo := 0) (hi := 0) (by decide)) (by decide)) (zr_w (zr_c (lo := 2) (hi := 2) (by decide)) (by decide))) (fun v2 h1 => ?_)
  refine zok_if (fun q2 => ?_) (fun q2 => ?_)
  · have h3 := zc_eql (1) (1) q2 h1 (zr_c (lo := 1) (hi := 1) (by decide)) (by decide)
    exact (s_X12_mode_57 hσ (zr_w (zr_c (lo := 4) (hi := 4) (by decide)) (by decide)))
  have h4 := zc_nel (0) (0) q2 h1 (zr_c (lo := 1) (hi := 1) (by decide)) (by decide)
  refine zok_pi (s_X12_bit hσ (zr_w (zr_c (lo := 1) (hi := 1) (by decide)) (by decide)) (zr_w (zr_c (lo := 4) (hi := 4) (by decide)) (by decide))) (fun v4 h5 => ?_)
  refine zok_if (fun q6 => ?_) (fun q6 => ?_)
  · have h7 := zc_eql (1) (1) q6 h5 (zr_c (lo := 1) (hi := 1) (by decide)) (by decide)
    exact (s_X12_mode_57 hσ (zr_w (zr_c (lo := 1) (hi := 1) (by decide)) (by decide)))
  have h8 := zc_nel (0) (0) q6 h5 (zr_c (lo := 1) (hi := 1) (by decide)) (by decide)
  refine zok_pi (s_X12_bit hσ (zr_w (zr_c (lo := 1) (hi := 1) (by decide)) (by decide)) (zr_w (zr_c (lo := 3) (hi := 3) (by decide)) (by decide))) (fun v6 h9 => ?_)
  refine zok_if (fun q10 => ?_) (fun q10 => ?_)
  · have h11 := zc_eql (1) (1) q10 h9 (zr_c (lo := 1) (hi := 1) (by decide)) (by decide)
    exact (s_X12_mode_57 hσ (zr_w (zr_c (lo := 3) (hi := 3) (by decide)) (by decide)))
  have h12 := zc_nel (0) (0) q10 h9 (zr_c (lo := 1) (hi := 1) (by decide)) (by decide)
  refine zok_pi (s_X12_bit hσ (zr_w (zr_c (lo := 0) (hi := 0) (by decide)) (by decide)) (zr_w (zr_c (lo := 1) (hi := 1) (by decide)) (by decide))) (fun v8 h13 => ?_)
  refine zok_if (fun q14 => ?_) (fun q14 => ?_)
  · have h15 := zc_eql (1) (1) q14 h13 (zr_c (lo := 1) (hi := 1) (by decide)) (by decide)
    exact (s_X12_mode_57 hσ (zr_w (zr_c (lo := 2) (hi := 2) (by decide)) (by decide)))
  have h16 := zc_nel (0) (0) q14 h13 (zr_c (lo := 1) (hi := 1) (by decide)) (by decide)
  exact (s_X12_mode_57 hσ (zr_w (zr_c (lo := 0) (hi := 0) (by decide)) (by decide)))
theorem s_X12_height_32 {σ : zSt} (hσ : zPM σ) : zok (fX12_height_32 σ ) (zPi σ (fun v : Int32 => zr (192) (240) v)) := by
  unfold fX12_height_32
  exact zok_spi (zr_w (zr_c (lo := 192) (hi := 192) (by decide)) (by decide))
theorem s_X12_height_55 {σ : zSt} (hσ : zPM σ) {s0 : Int32} (h_s0 : zr (224) (240) s0) : zok (fX12_height_55 σ s0) (zPi σ (fun v : Int32 => zr (192) (240) v)) := by
  unfold fX12_height_55
  exact zok_spi (zr_w h_s0 (by decide))
theorem s_X12_height {σ : zSt} (hσ : zPM σ) : zok (fX12_height σ ) (zPi σ (fun v : Int32 => zr (192) (240) v)) := by
  unfold fX12_height
  refine zok_pi (s_X12_mode hσ) (fun v2 h1 => ?_)
  refine zok_if (fun q2 => ?_) (fun q2 => ?_)
  · have h3 := zc_eql (4) (4) q2 h1 (zr_c (lo := 4) (hi := 4) (by decide)) (by decide)
    refine zok_pi (s_X12_bit hσ (zr_w (zr_c (lo := 0) (hi := 0) (by decide)) (by decide)) (zr_w (zr_c (lo := 1) (hi := 1) (by decide)) (by decide))) (fun v4 h4 => ?_)
    refine zok_if (fun q5 => ?_) (fun q5 => ?_)
    · have h6 := zc_eql (0) (0) q5 h4 (zr_c (lo := 0) (hi := 0) (by decide)) (by decide)
      exact (s_X12_height_32 hσ)
    have h7 := zc_nel (1) (1) q5 h4 (zr_c (lo := 0) (hi := 0) (by decide)) (by decide)
    refine zok_pi (s_X12_bit hσ (zr_w (zr_c (lo := 1) (hi := 1) (by decide)) (by decide)) (zr_w (zr_c (lo := 4) (hi := 4) (by decide)) (by decide))) (fun v6 h8 => ?_)
    refine zok_pi (s_X12_bit hσ (zr_w (zr_c (lo := 1) (hi := 1) (by decide)) (by decide)) (zr_w (zr_c (lo := 3) (hi := 3) (by decide)) (by decide))) (fun v8 h9 => ?_)
    refine zok_if (fun q10 => ?_) (fun q10 => ?_)
    · exact (s_X12_height_32 hσ)
    refine zok_pi (s_X12_bit hσ (zr_w (zr_c (lo := 1) (hi := 1) (by decide)) (by decide)) (zr_w (zr_c (lo := 4) (hi := 4) (by decide)) (by decide))) (fun v10 h11 => ?_)
    refine zok_if (fun q12 => ?_) (fun q12 => ?_)
    · have h13 := zc_eql (1) (1) q12 h11 (zr_c (lo := 1) (hi := 1) (by decide)) (by decide)
      exact (s_X12_height_55 hσ (zr_w (zr_c (lo := 224) (hi := 224) (by decide)) (by decide)))
    have h14 := zc_nel (0) (0) q12 h11 (zr_c (lo := 1) (hi := 1) (by decide)) (by decide)
    exact (s_X12_height_55 hσ (zr_w (zr_c (lo := 240) (hi := 240) (by decide)) (by decide)))
  have h15 := zc_nel (0) (3) q2 h1 (zr_c (lo := 4) (hi := 4) (by decide)) (by decide)
  exact (s_X12_height_32 hσ)
theorem s_X12_vCount_109 {σ : zSt} (hσ : zPM σ) {s0 : Int32} (h_s0 : zr (0) (313) s0) : zok (fX12_vCount_109 σ s0) (zPi σ (fun v : Int32 => zr (0) (255) v)) := by
  unfold fX12_vCount_109
  exact zok_spi (zr_andr (lo := 0) (hi := 255) (zr_c (lo := 255) (hi := 255) (by decide)) (by decide))
theorem s_X12_vCount_108 {σ : zSt} (hσ : zPM σ) {s0 : Int32} (h_s0 : zr (6) (57) s0) {s1 : Int32} (h_s1 : zr (219) (313) s1) : zok (fX12_vCount_108 σ s0 s1) (zPi σ (fun v : Int32 => zr (0) (255) v)) := by
  unfold fX12_vCount_108
  exact (s_X12_vCount_109 hσ (zr_w (zr_sub (lo := 162) (hi := 307) h_s1 h_s0 (by decide)) (by decide)))
theorem s_X12_vCount_82 {σ : zSt} (hσ : zPM σ) {x1 : Int32} (h_x1 : zr (0) (313) x1) {s0 : Int32} (h_s0 : zr (219) (1000) s0) : zok (fX12_vCount_82 σ x1 s0) (zPi σ (fun v : Int32 => zr (0) (255) v)) := by
  unfold fX12_vCount_82
  refine zok_if (fun q1 => ?_) (fun q1 => ?_)
  · have h2 := zc_lel (313) q1 h_s0 h_x1 (by decide)
    have h3 := zc_ler (219) q1 h_s0 h_x1 (by decide)
    refine zok_if (fun q4 => ?_) (fun q4 => ?_)
    · have h5 := zc_eql (1) (1) q4 (rM_1 hσ.sg _ (by decide)) (zr_c (lo := 1) (hi := 1) (by decide)) (by decide)
      exact (s_X12_vCount_108 hσ (zr_w (zr_c (lo := 57) (hi := 57) (by decide)) (by decide)) h3)
    exact (s_X12_vCount_108 hσ (zr_w (zr_c (lo := 6) (hi := 6) (by decide)) (by decide)) h3)
  exact (s_X12_vCount_109 hσ h_x1)
theorem s_X12_vCount {σ : zSt} (hσ : zPM σ) : zok (fX12_vCount σ ) (zPi σ (fun v : Int32 => zr (0) (255) v)) := by
  unfold fX12_vCount
  refine zok_ck rfl ?_
  refine zok_br (rM_29 hσ.sg _ (by decide)) (fun v1 e2 h1 => ?_)
  refine zok_pi (s_X12_height hσ) (fun v3 h3 => ?_)
  refine zok_if (fun q4 => ?_) (fun q4 => ?_)
  · have h5 := zc_eql (1) (1) q4 (rM_1 hσ.sg _ (by decide)) (zr_c (lo := 1) (hi := 1) (by decide)) (by decide)
    refine zok_if (fun q6 => ?_) (fun q6 => ?_)
    · have h7 := zc_eql (192) (192) q6 h3 (zr_c (lo := 192) (hi := 192) (by decide)) (by decide)
      exact (s_X12_vCount_82 hσ h1 (zr_w (zr_c (lo := 243) (hi := 243) (by decide)) (by decide)))
    have h8 := zc_nel (193) (240) q6 h3 (zr_c (lo := 192) (hi := 192) (by decide)) (by decide)
    refine zok_if (fun q9 => ?_) (fun q9 => ?_)
    · have h10 := zc_eql (224) (224) q9 h8 (zr_c (lo := 224) (hi := 224) (by decide)) (by decide)
      exact (s_X12_vCount_82 hσ h1 (zr_w (zr_c (lo := 259) (hi := 259) (by decide)) (by decide)))
    exact (s_X12_vCount_82 hσ h1 (zr_w (zr_c (lo := 267) (hi := 267) (by decide)) (by decide)))
  refine zok_if (fun q11 => ?_) (fun q11 => ?_)
  · have h12 := zc_eql (192) (192) q11 h3 (zr_c (lo := 192) (hi := 192) (by decide)) (by decide)
    exact (s_X12_vCount_82 hσ h1 (zr_w (zr_c (lo := 219) (hi := 219) (by decide)) (by decide)))
  have h13 := zc_nel (193) (240) q11 h3 (zr_c (lo := 192) (hi := 192) (by decide)) (by decide)
  refine zok_if (fun q14 => ?_) (fun q14 => ?_)
  · have h15 := zc_eql (224) (224) q14 h13 (zr_c (lo := 224) (hi := 224) (by decide)) (by decide)
    exact (s_X12_vCount_82 hσ h1 (zr_w (zr_c (lo := 235) (hi := 235) (by decide)) (by decide)))
  exact (s_X12_vCount_82 hσ h1 (zr_w (zr_c (lo := 1000) (hi := 1000) (by decide)) (by decide)))
theorem s_X12_status {G : Nat → Int} {σ : zSt} (hσ : zIM G σ) : zok (fX12_status σ ) (zAi (zIM G) (fun v : Int32 => zr (0) (255) v)) := by
  unfold fX12_status
  refine zok_ck rfl ?_
  refine zok_br (rM_26 hσ.sg _ (by decide)) (fun v1 e2 h1 => ?_)
  refine zok_ck rfl ?_
  refine zok_bs (hσ.wi 61 61 (by decide) (zr_c (lo := 0) (hi := 0) (by decide)) (by decide +kernel)) (fun σ2 e4 i3 => ?_)
  refine zok_ck rfl ?_
  refine zok_bs (i3.wi 62 62 (by decide) (zr_c (lo := 0) (hi := 0) (by decide)) (by decide +kernel)) (fun σ3 e6 i5 => ?_)
  refine zok_ck rfl ?_
  refine zok_bs (i5.wi 63 63 (by decide) (zr_c (lo := 0) (hi := 0) (by decide)) (by decide +kernel)) (fun σ4 e8 i7 => ?_)
  exact zok_sai i7 h1
theorem s_X12_video8 {σ : zSt} (hσ : zPM σ) {x1 : Int32} : zok (fX12_video8 σ x1) (zPi σ (fun v : Int32 => zr (0) (255) v)) := by
  unfold fX12_video8
  refine zok_ck (zin_ok (zr_andr (lo := 0) (hi := 16383) (zr_c (lo := 16383) (hi := 16383) (by decide)) (by decide)) (by decide)) ?_
  exact zok_spi (zr_andr (lo := 0) (hi := 255) (zr_c (lo := 255) (hi := 255) (by decide)) (by decide))
theorem s_X12_further {G : Nat → Int} {σ : zSt} (hσ : zIM G σ) : zok (fX12_further σ ) (zIM G) := by
  unfold fX12_further
  refine zok_ck rfl ?_
  refine zok_ck rfl ?_
  refine zok_bs (hσ.wi 58 58 (by decide) (zr_andr (lo := 0) (hi := 16383) (zr_c (lo := 16383) (hi := 16383) (by decide)) (by decide)) (by decide +kernel)) (fun σ1 e2 i1 => ?_)
  exact zok_some i1
theorem s_X12_data {G : Nat → Int} {σ : zSt} (hσ : zIM G σ) : zok (fX12_data σ ) (zAi (zIM G) (fun v : Int32 => zr (0) (255) v)) := by
  unfold fX12_data
  refine zok_ck rfl ?_
  refine zok_br (rM_24 hσ.sg _ (by decide)) (fun v1 e2 h1 => ?_)
  refine zok_ck rfl ?_
  refine zok_bs (hσ.wi 61 61 (by decide) (zr_c (lo := 0) (hi := 0) (by decide)) (by decide +kernel)) (fun σ2 e4 i3 => ?_)
  refine zok_ck rfl ?_
  refine zok_pi (s_X12_video8 i3.P) (fun v4 h5 => ?_)
  refine zok_ck rfl ?_
  refine zok_bs (i3.wi 60 60 (by decide) h5 (by decide +kernel)) (fun σ5 e7 i6 => ?_)
  refine zok_bu (s_X12_further i6) (fun σ6 i8 => ?_)
  exact zok_sai i8 h1
theorem s_X12_lineAt_45 {σ : zSt} (hσ : zPM σ) {s0 : Int32} (h_s0 : zr (0) (1) s0) : zok (fX12_lineAt_45 σ s0) (zPi σ (fun v : Int32 => zr (0) (1) v)) := by
  unfold fX12_lineAt_45
  exact zok_spi h_s0
theorem s_X12_lineAt {σ : zSt} (hσ : zPM σ) {x1 : Int32} (h_x1 : zr (0) (1) x1) : zok (fX12_lineAt σ x1) (zPi σ (fun v : Int32 => zr (0) (1) v)) := by
  unfold fX12_lineAt
  refine zok_ck rfl ?_
  refine zok_if (fun q1 => ?_) (fun q1 => ?_)
  · have h2 := zc_eql (0) (0) q1 (zr_andr (lo := 0) (hi := 1) (zr_c (lo := 1) (hi := 1) (by decide)) (by decide)) (zr_c (lo := 0) (hi := 0) (by decide)) (by decide)
    refine zok_ck rfl ?_
    exact (s_X12_lineAt_45 hσ (zr_andr (lo := 0) (hi := 1) (zr_c (lo := 1) (hi := 1) (by decide)) (by decide)))
  have h3 := zc_nel (1) (1) q1 (zr_andr (lo := 0) (hi := 1) (zr_c (lo := 1) (hi := 1) (by decide)) (by decide)) (zr_c (lo := 0) (hi := 0) (by decide)) (by decide)
  refine zok_ck (zin_ok (zr_add (lo := 45) (hi := 46) (zr_c (lo := 45) (hi := 45) (by decide)) h_x1 (by decide)) (by decide)) ?_
  exact (s_X12_lineAt_45 hσ (rM_20 hσ.sg _ (z_ix (zr_add (lo := 45) (hi := 46) (zr_c (lo := 45) (hi := 45) (by decide)) h_x1 (by decide)) (by decide))))
theorem s_X12_without_20 {σ : zSt} (hσ : zPM σ) {s0 : Int32} (h_s0 : zr (0) (255) s0) : zok (fX12_without_20 σ s0) (zPi σ (fun v : Int32 => zr (0) (255) v)) := by
  unfold fX12_without_20
  exact zok_spi h_s0
theorem s_X12_without {σ : zSt} (hσ : zPM σ) {x1 : Int32} (h_x1 : zr (0) (255) x1) {x2 : Int32} (h_x2 : zr (3) (7) x2) {x3 : Int32} (h_x3 : zr (0) (1) x3) : zok (fX12_without σ x1 x2 x3) (zPi σ (fun v : Int32 => zr (0) (255) v)) := by
  unfold fX12_without
  refine zok_if (fun q1 => ?_) (fun q1 => ?_)
  · have h2 := zc_eql (1) (1) q1 h_x3 (zr_c (lo := 1) (hi := 1) (by decide)) (by decide)
    exact (s_X12_without_20 hσ (zr_or (lo := 0) (hi := 255) 8 h_x1 (zr_shld (lo := 0) (hi := 128) (zr_c (lo := 1) (hi := 1) (by decide)) h_x2 (by decide)) (by decide)))
  have h3 := zc_nel (0) (0) q1 h_x3 (zr_c (lo := 1) (hi := 1) (by decide)) (by decide)
  exact (s_X12_without_20 hσ (zr_andl (lo := 0) (hi := 255) h_x1 (by decide)))
theorem s_X12_port_32 {σ : zSt} (hσ : zPM σ) : zok (fX12_port_32 σ ) (zPi σ (fun v : Int32 => zr (0) (255) v)) := by
  unfold fX12_port_32
  exact zok_spi (zr_w (zr_c (lo := 255) (hi := 255) (by decide)) (by decide))
theorem s_X12_port_73 {σ : zSt} (hσ : zPM σ) {s0 : Int32} (h_s0 : zr (0) (255) s0) : zok (fX12_port_73 σ s0) (zPi σ (fun v : Int32 => zr (0) (255) v)) := by
  unfold fX12_port_73
  exact zok_spi h_s0
theorem s_X12_port_60 {σ : zSt} (hσ : zPM σ) {s0 : Int32} (h_s0 : zr (0) (128) s0) {s1 : Int32} (h_s1 : zr (64) (64) s1) : zok (fX12_port_60 σ s0 s1) (zPi σ (fun v : Int32 => zr (0) (255) v)) := by
  unfold fX12_port_60
  exact (s_X12_port_73 hσ (zr_or (lo := 0) (hi := 255) 8 h_s1 h_s0 (by decide)))
theorem s_X12_port_99 {σ : zSt} (hσ : zPM σ) {s0 : Int32} (h_s0 : zr (0) (255) s0) : zok (fX12_port_99 σ s0) (zPi σ (fun v : Int32 => zr (0) (255) v)) := by
  unfold fX12_port_99
  exact zok_spi h_s0
theorem s_X12_port_122 {σ : zSt} (hσ : zPM σ) {s0 : Int32} (h_s0 : zr (0) (255) s0) : zok (fX12_port_122 σ s0) (zPi σ (fun v : Int32 => zr (0) (255) v)) := by
  unfold fX12_port_122
  exact zok_spi h_s0
theorem s_X12_port_230 {σ : zSt} (hσ : zPM σ) {s0 : Int32} (h_s0 : zr (0) (255) s0) : zok (fX12_port_230 σ s0) (zPi σ (fun v : Int32 => zr (0) (255) v)) := by
  unfold fX12_port_230
  exact zok_spi h_s0
theorem s_X12_port_289 {σ : zSt} (hσ : zPM σ) {s0 : Int32} (h_s0 : zr (0) (255) s0) : zok (fX12_port_289 σ s0) (zPi σ (fun v : Int32 => zr (0) (255) v)) := by
  unfold fX12_port_289
  exact zok_spi h_s0
theorem s_X12_port_147 {σ : zSt} (hσ : zPM σ) {x2 : Int32} (h_x2 : zr (0) (1) x2) : zok (fX12_port_147 σ x2) (zPi σ (fun v : Int32 => zr (0) (255) v)) := by
  unfold fX12_port_147
  refine zok_if (fun q1 => ?_) (fun q1 => ?_)
  · have h2 := zc_eql (0) (0) q1 h_x2 (zr_c (lo := 0) (hi := 0) (by decide)) (by decide)
    refine zok_ck rfl ?_
    refine zok_ck rfl ?_
    refine zok_br (zr_andl (lo := 0) (hi := 255) (zr_c (lo := 255) (hi := 255) (by decide)) (by decide)) (fun v1 e4 h3 => ?_)
    refine zok_ck rfl ?_
    refine zok_if (fun q5 => ?_) (fun q5 => ?_)
    · have h6 := zc_eql (0) (0) q5 (zr_andr (lo := 0) (hi := 1) (zr_c (lo := 1) (hi := 1) (by decide)) (by decide)) (zr_c (lo := 0) (hi := 0) (by decide)) (by decide)
      refine zok_ck rfl ?_
      refine zok_pi (s_X12_without hσ h3 (zr_w (zr_c (lo := 5) (hi := 5) (by decide)) (by decide)) (zr_andr (lo := 0) (hi := 1) (zr_c (lo := 1) (hi := 1) (by decide)) (by decide))) (fun v3 h7 => ?_)
      exact (s_X12_port_289 hσ h7)
    have h8 := zc_nel (1) (1) q5 (zr_andr (lo := 0) (hi := 1) (zr_c (lo := 1) (hi := 1) (by decide)) (by decide)) (zr_c (lo := 0) (hi := 0) (by decide)) (by decide)
    exact (s_X12_port_289 hσ h3)
  have h9 := zc_nel (1) (1) q1 h_x2 (zr_c (lo := 0) (hi := 0) (by decide)) (by decide)
  refine zok_ck rfl ?_
  refine zok_br (zr_or (lo := 0) (hi := 255) 8 (zr_andl (lo := 0) (hi := 255) (zr_c (lo := 255) (hi := 255) (by decide)) (by decide)) (zr_c (lo := 48) (hi := 48) (by decide)) (by decide)) (fun v4 e11 h10 => ?_)
  refine zok_pi (s_X12_lineAt hσ (zr_w (zr_c (lo := 0) (hi := 0) (by decide)) (by decide))) (fun v6 h12 => ?_)
  refine zok_pi (s_X12_without hσ h10 (zr_w (zr_c (lo := 6) (hi := 6) (by decide)) (by decide)) h12) (fun v8 h13 => ?_)
  refine zok_pi (s_X12_lineAt hσ (zr_w (zr_c (lo := 1) (hi := 1) (by decide)) (by decide))) (fun v10 h14 => ?_)
  refine zok_pi (s_X12_without hσ h13 (zr_w (zr_c (lo := 7) (hi := 7) (by decide)) (by decide)) h14) (fun v12 h15 => ?_)
  refine zok_ck rfl ?_
  refine zok_if (fun q16 => ?_) (fun q16 => ?_)
  · have h17 := zc_eql (0) (0) q16 (zr_andr (lo := 0) (hi := 4) (zr_c (lo := 4) (hi := 4) (by decide)) (by decide)) (zr_c (lo := 0) (hi := 0) (by decide)) (by decide)
    refine zok_ck rfl ?_
    refine zok_pi (s_X12_without hσ h15 (zr_w (zr_c (lo := 3) (hi := 3) (by decide)) (by decide)) (zr_andr (lo := 0) (hi := 1) (zr_c (lo := 1) (hi := 1) (by decide)) (by decide))) (fun v14 h18 => ?_)
    exact (s_X12_port_230 hσ h18)
  have h19 := zc_nel (1) (4) q16 (zr_andr (lo := 0) (hi := 4) (zr_c (lo := 4) (hi := 4) (by decide)) (by decide)) (zr_c (lo := 0) (hi := 0) (by decide)) (by decide)
  exact (s_X12_port_230 hσ h15)
theorem s_X12_port_12 {G : Nat → Int} {σ : zSt} (hσ : zIM G σ) {x1 : Int32} (h_x1 : zr (0) (255) x1) {s0 : Int32} (h_s0 : zr (0) (1) s0) : zok (fX12_port_12 σ x1 s0) (zAi (zIM G) (fun v : Int32 => zr (0) (255) v)) := by
  unfold fX12_port_12
  refine zok_if (fun q1 => ?_) (fun q1 => ?_)
  · have h2 := zc_ler (64) q1 (zr_c (lo := 64) (hi := 64) (by decide)) h_x1 (by decide)
    refine zok_if (fun q3 => ?_) (fun q3 => ?_)
    · have h4 := zc_ler (128) q3 (zr_c (lo := 128) (hi := 128) (by decide)) h2 (by decide)
      refine zok_if (fun q5 => ?_) (fun q5 => ?_)
      · have h6 := zc_ler (192) q5 (zr_c (lo := 192) (hi := 192) (by decide)) h4 (by decide)
        refine zok_if (fun q7 => ?_) (fun q7 => ?_)
        · have h8 := zc_eql (242) (242) q7 h6 (zr_c (lo := 242) (hi := 242) (by decide)) (by decide)
          refine zok_if (fun q9 => ?_) (fun q9 => ?_)
          · have h10 := zc_eql (2) (2) q9 (rM_1 hσ.sg _ (by decide)) (zr_c (lo := 2) (hi := 2) (by decide)) (by decide)
            exact zok_pai hσ (s_X12_port_147 hσ.P h_s0)
          have h11 := zc_nel (0) (1) q9 (rM_1 hσ.sg _ (by decide)) (zr_c (lo := 2) (hi := 2) (by decide)) (by decide)
          refine zok_ck rfl ?_
          exact zok_sai hσ (zr_w (rM_42 hσ.sg _ (by decide)) (by decide))
        exact zok_pai hσ (s_X12_port_147 hσ.P h_s0)
      have h12 := zc_ltl (191) (z_nle q5) h4 (zr_c (lo := 192) (hi := 192) (by decide)) (by decide)
      refine zok_if (fun q13 => ?_) (fun q13 => ?_)
      · have h14 := zc_eql (0) (0) q13 h_s0 (zr_c (lo := 0) (hi := 0) (by decide)) (by decide)
        refine zok_ai (s_X12_data hσ) (fun σ15 v16 i15 h16 => ?_)
        exact zok_pai i15 (s_X12_port_122 i15.P h16)
      have h17 := zc_nel (1) (1) q13 h_s0 (zr_c (lo := 0) (hi := 0) (by decide)) (by decide)
      refine zok_ai (s_X12_status hσ) (fun σ17 v18 i18 h19 => ?_)
      exact zok_pai i18 (s_X12_port_122 i18.P h19)
    have h20 := zc_ltl (127) (z_nle q3) h2 (zr_c (lo := 128) (hi := 128) (by decide)) (by decide)
    refine zok_if (fun q21 => ?_) (fun q21 => ?_)
    · have h22 := zc_eql (0) (0) q21 h_s0 (zr_c (lo := 0) (hi := 0) (by decide)) (by decide)
      refine zok_pi (s_X12_vCount hσ.P) (fun v20 h23 => ?_)
      exact zok_pai hσ (s_X12_port_99 hσ.P h23)
    have h24 := zc_nel (1) (1) q21 h_s0 (zr_c (lo := 0) (hi := 0) (by decide)) (by decide)
    refine zok_ck rfl ?_
    exact zok_pai hσ (s_X12_port_99 hσ.P (rM_18 hσ.sg _ (by decide)))
  have h25 := zc_ltl (63) (z_nle q1) h_x1 (zr_c (lo := 64) (hi := 64) (by decide)) (by decide)
  refine zok_if (fun q26 => ?_) (fun q26 => ?_)
  · have h27 := zc_eql (2) (2) q26 (rM_1 hσ.sg _ (by decide)) (zr_c (lo := 2) (hi := 2) (by decide)) (by decide)
    refine zok_if (fun q28 => ?_) (fun q28 => ?_)
    · have h29 := zc_lel (5) q28 h25 (zr_c (lo := 5) (hi := 5) (by decide)) (by decide)
      refine zok_if (fun q30 => ?_) (fun q30 => ?_)
      · have h31 := zc_eql (0) (0) q30 h29 (zr_c (lo := 0) (hi := 0) (by decide)) (by decide)
        refine zok_ck rfl ?_
        refine zok_if (fun q32 => ?_) (fun q32 => ?_)
        · have h33 := zc_eql (1) (1) q32 (rM_20 hσ.sg _ (by decide)) (zr_c (lo := 1) (hi := 1) (by decide)) (by decide)
          exact zok_pai hσ (s_X12_port_60 hσ.P (zr_w (zr_c (lo := 0) (hi := 0) (by decide)) (by decide)) (zr_c (lo := 64) (hi := 64) (by decide)))
        have h34 := zc_nel (0) (0) q32 (rM_20 hσ.sg _ (by decide)) (zr_c (lo := 1) (hi := 1) (by decide)) (by decide)
        exact zok_pai hσ (s_X12_port_60 hσ.P (zr_w (zr_c (lo := 128) (hi := 128) (by decide)) (by decide)) (zr_c (lo := 64) (hi := 64) (by decide)))
      have h35 := zc_nel (1) (5) q30 h29 (zr_c (lo := 0) (hi := 0) (by decide)) (by decide)
      refine zok_ck (zin_ok (zr_add (lo := 37) (hi := 41) (zr_c (lo := 36) (hi := 36) (by decide)) h35 (by decide)) (by decide)) ?_
      exact zok_pai hσ (s_X12_port_73 hσ.P (rM_19 hσ.sg _ (z_ix (zr_add (lo := 37) (hi := 41) (zr_c (lo := 36) (hi := 36) (by decide)) h35 (by decide)) (by decide))))
    have h36 := zc_ltr (6) (z_nle q28) (zr_c (lo := 5) (hi := 5) (by decide)) h25 (by decide)
    exact zok_pai hσ (s_X12_port_32 hσ.P)
  have h37 := zc_nel (0) (1) q26 (rM_1 hσ.sg _ (by decide)) (zr_c (lo := 2) (hi := 2) (by decide)) (by decide)
  exact zok_pai hσ (s_X12_port_32 hσ.P)
theorem s_X12_port {G : Nat → Int} {σ : zSt} (hσ : zIM G σ) {x1 : Int32} (h_x1 : zr (0) (255) x1) : zok (fX12_port σ x1) (zAi (zIM G) (fun v : Int32 => zr (0) (255) v)) := by
  unfold fX12_port
  refine zok_ck (by decide) ?_
  refine zok_if (fun q1 => ?_) (fun q1 => ?_)
  · have h2 := zc_eql (1) (1) q1 (zr_rem (lo := 0) (hi := 1) 2 (by decide) h_x1 (by decide)) (zr_c (lo := 1) (hi := 1) (by decide)) (by decide)
    have h3 := z_odd64 h_x1 h2 (by decide)
    exact (s_X12_port_12 hσ h_x1 (zr_w (zr_c (lo := 1) (hi := 1) (by decide)) (by decide)))
  have h4 := zc_nel (0) (0) q1 (zr_rem (lo := 0) (hi := 1) 2 (by decide) h_x1 (by decide)) (zr_c (lo := 1) (hi := 1) (by decide)) (by decide)
  exact (s_X12_port_12 hσ h_x1 (zr_w (zr_c (lo := 0) (hi := 0) (by decide)) (by decide)))
theorem s_X12_hCount_27 {σ : zSt} (hσ : zPM σ) {s0 : Int32} (h_s0 : zr (0) (255) s0) : zok (fX12_hCount_27 σ s0) (zPi σ (fun v : Int32 => zr (0) (255) v)) := by
  unfold fX12_hCount_27
  exact zok_spi h_s0
theorem s_X12_hCount {σ : zSt} (hσ : zPM σ) : zok (fX12_hCount σ ) (zPi σ (fun v : Int32 => zr (0) (255) v)) := by
  unfold fX12_hCount
  refine zok_ck rfl ?_
  refine zok_ck (by decide) ?_
  refine zok_br (zr_div (lo := 0) (hi := 170) 4 (by decide) (zr_mul (lo := 0) (hi := 681) (rM_30 hσ.sg _ (by decide)) (zr_c (lo := 3) (hi := 3) (by decide)) (by decide)) (by decide)) (fun v1 e2 h1 => ?_)
  refine zok_if (fun q3 => ?_) (fun q3 => ?_)
  · have h4 := zc_ler (148) q3 (zr_c (lo := 148) (hi := 148) (by decide)) h1 (by decide)
    exact (s_X12_hCount_27 hσ (zr_w (zr_add (lo := 233) (hi := 255) h4 (zr_c (lo := 85) (hi := 85) (by decide)) (by decide)) (by decide)))
  have h5 := zc_ltl (147) (z_nle q3) h1 (zr_c (lo := 148) (hi := 148) (by decide)) (by decide)
  exact (s_X12_hCount_27 hσ (zr_w h5 (by decide)))
theorem s_X12_noise_141 {σ : zSt} (hσ : zPM σ) : zok (fX12_noise_141 σ ) (zPu σ) := by
  unfold fX12_noise_141
  exact zok_spu
theorem s_X12_noise_140 {G : Nat → Int} {σ : zSt} (hσ : zIM G σ) {s0 : Int32} (h_s0 : zr (0) (1023) s0) {s1 : Int32} (h_s1 : zr (69) (71) s1) : zok (fX12_noise_140 σ s0 s1) (zIM G) := by
  unfold fX12_noise_140
  refine zok_ck (zin_ok h_s1 (by decide)) ?_
  refine zok_bs (hσ.wi 69 71 (z_ix h_s1 (by decide)) h_s0 (by decide +kernel)) (fun σ1 e2 i1 => ?_)
  exact zok_pau i1 (s_X12_noise_141 i1.P)
theorem s_X12_noise_19 {G : Nat → Int} {σ : zSt} (hσ : zIM G σ) {x1 : Int32} (h_x1 : zr (0) (255) x1) : zok (fX12_noise_19 σ x1) (zIM G) := by
  unfold fX12_noise_19
  refine zok_ck rfl ?_
  refine zok_ck (by decide) ?_
  refine zok_br (zr_div (lo := 0) (hi := 3) 2 (by decide) (rM_36 hσ.sg _ (by decide)) (by decide)) (fun v2 e2 h1 => ?_)
  refine zok_ck rfl ?_
  refine zok_ck (by decide) ?_
  refine zok_if (fun q3 => ?_) (fun q3 => ?_)
  · have h4 := zc_eql (1) (1) q3 (zr_rem (lo := 0) (hi := 1) 2 (by decide) (rM_36 hσ.sg _ (by decide)) (by decide)) (zr_c (lo := 1) (hi := 1) (by decide)) (by decide)
    have h5 := z_odd64 (rM_36 hσ.sg _ (by decide)) h4 (by decide)
    refine zok_ck (zin_ok (zr_add (lo := 78) (hi := 81) (zr_c (lo := 78) (hi := 78) (by decide)) h1 (by decide)) (by decide)) ?_
    refine zok_bs (hσ.wi 78 81 (z_ix (zr_add (lo := 78) (hi := 81) (zr_c (lo := 78) (hi := 78) (by decide)) h1 (by decide)) (by decide)) (zr_andr (lo := 0) (hi := 15) (zr_c (lo := 15) (hi := 15) (by decide)) (by decide)) (by decide +kernel)) (fun σ5 e7 i6 => ?_)
    exact zok_pau i6 (s_X12_noise_141 i6.P)
  have h8 := zc_nel (0) (0) q3 (zr_rem (lo := 0) (hi := 1) 2 (by decide) (rM_36 hσ.sg _ (by decide)) (by decide)) (zr_c (lo := 1) (hi := 1) (by decide)) (by decide)
  refine zok_if (fun q9 => ?_) (fun q9 => ?_)
  · have h10 := zc_eql (3) (3) q9 h1 (zr_c (lo := 3) (hi := 3) (by decide)) (by decide)
    refine zok_ck rfl ?_
    refine zok_bs (hσ.wi 82 82 (by decide) (zr_andr (lo := 0) (hi := 7) (zr_c (lo := 7) (hi := 7) (by decide)) (by decide)) (by decide +kernel)) (fun σ3 e12 i11 => ?_)
    refine zok_ck rfl ?_
    refine zok_bs (i11.wi 85 85 (by decide) (zr_c (lo := 32768) (hi := 32768) (by decide)) (by decide +kernel)) (fun σ4 e14 i13 => ?_)
    exact zok_pau i13 (s_X12_noise_141 i13.P)
  have h15 := zc_nel (0) (2) q9 h1 (zr_c (lo := 3) (hi := 3) (by decide)) (by decide)
  refine zok_if (fun q16 => ?_) (fun q16 => ?_)
  · have h17 := zc_lel (127) q16 h_x1 (zr_c (lo := 127) (hi := 127) (by decide)) (by decide)
    refine zok_ck (zin_ok (zr_add (lo := 69) (hi := 71) (zr_c (lo := 69) (hi := 69) (by decide)) h15 (by decide)) (by decide)) ?_
    exact (s_X12_noise_140 hσ (zr_or (lo := 0) (hi := 1023) 10 (zr_andr (lo := 0) (hi := 15) (zr_c (lo := 15) (hi := 15) (by decide)) (by decide)) (zr_shl (lo := 0) (hi := 1008) 4 (by decide) (zr_andr (lo := 0) (hi := 63) (zr_c (lo := 63) (hi := 63) (by decide)) (by decide)) (by decide)) (by decide)) (zr_add (lo := 69) (hi := 71) (zr_c (lo := 69) (hi := 69) (by decide)) h15 (by decide)))
  have h18 := zc_ltr (128) (z_nle q16) (zr_c (lo := 127) (hi := 127) (by decide)) h_x1 (by decide)
  refine zok_ck (zin_ok (zr_add (lo := 69) (hi := 71) (zr_c (lo := 69) (hi := 69) (by decide)) h15 (by decide)) (by decide)) ?_
  exact (s_X12_noise_140 hσ (zr_or (lo := 0) (hi := 1023) 10 (zr_andr (lo := 0) (hi := 1008) (zr_c (lo := 1008) (hi := 1008) (by decide)) (by decide)) (zr_andr (lo := 0) (hi := 15) (zr_c (lo := 15) (hi := 15) (by decide)) (by decide)) (by decide)) (zr_add (lo := 69) (hi := 71) (zr_c (lo := 69) (hi := 69) (by decide)) h15 (by decide)))
theorem s_X12_noise {G : Nat → Int} {σ : zSt} (hσ : zIM G σ) {x1 : Int32} (h_x1 : zr (0) (255) x1) : zok (fX12_noise σ x1) (zIM G) := by
  unfold fX12_noise
  refine zok_if (fun q1 => ?_) (fun q1 => ?_)
  · have h2 := zc_lel (127) q1 h_x1 (zr_c (lo := 127) (hi := 127) (by decide)) (by decide)
    exact (s_X12_noise_19 hσ (zr_w h2 (by decide)))
  have h3 := zc_ltr (128) (z_nle q1) (zr_c (lo := 127) (hi := 127) (by decide)) h_x1 (by decide)
  refine zok_ck rfl ?_
  refine zok_bs (hσ.wi 86 86 (by decide) (zr_andr (lo := 0) (hi := 7) (zr_c (lo := 7) (hi := 7) (by decide)) (by decide)) (by decide +kernel)) (fun σ6 e5 i4 => ?_)
  exact (s_X12_noise_19 i4 (zr_w h3 (by decide)))
theorem s_X12_control_162 {σ : zSt} (hσ : zPM σ) : zok (fX12_control_162 σ ) (zPu σ) := by
  unfold fX12_control_162
  exact zok_spu
theorem s_X12_control {G : Nat → Int} {σ : zSt} (hσ : zIM G σ) {x1 : Int32} (h_x1 : zr (0) (255) x1) : zok (fX12_control σ x1) (zIM G) := by
  unfold fX12_control
  refine zok_ck rfl ?_
  refine zok_if (fun q1 => ?_) (fun q1 => ?_)
  · have h2 := zc_eql (0) (0) q1 (rM_25 hσ.sg _ (by decide)) (zr_c (lo := 0) (hi := 0) (by decide)) (by decide)
    refine zok_ck rfl ?_
    refine zok_ck rfl ?_
    refine zok_bs (hσ.wi 58 58 (by decide) (zr_or (lo := 0) (hi := 16383) 14 (zr_andr (lo := 0) (hi := 16128) (zr_c (lo := 16128) (hi := 16128) (by decide)) (by decide)) h_x1 (by decide)) (by decide +kernel)) (fun σ9 e4 i3 => ?_)
    refine zok_ck rfl ?_
    refine zok_bs (i3.wi 61 61 (by decide) (zr_c (lo := 1) (hi := 1) (by decide)) (by decide +kernel)) (fun σ10 e6 i5 => ?_)
    exact zok_some i5
  have h7 := zc_nel (1) (1) q1 (rM_25 hσ.sg _ (by decide)) (zr_c (lo := 0) (hi := 0) (by decide)) (by decide)
  refine zok_ck rfl ?_
  refine zok_bs (hσ.wi 61 61 (by decide) (zr_c (lo := 0) (hi := 0) (by decide)) (by decide +kernel)) (fun σ1 e9 i8 => ?_)
  refine zok_ck rfl ?_
  refine zok_ck rfl ?_
  refine zok_bs (i8.wi 58 58 (by decide) (zr_or (lo := 0) (hi := 16383) 14 (zr_shl (lo := 0) (hi := 16128) 8 (by decide) (zr_andr (lo := 0) (hi := 63) (zr_c (lo := 63) (hi := 63) (by decide)) (by decide)) (by decide)) (zr_andr (lo := 0) (hi := 255) (zr_c (lo := 255) (hi := 255) (by decide)) (by decide)) (by decide)) (by decide +kernel)) (fun σ2 e11 i10 => ?_)
  refine zok_ck rfl ?_
  refine zok_bs (i10.wi 59 59 (by decide) (zr_shr (lo := 0) (hi := 3) 6 (by decide) h_x1 (by decide)) (by decide +kernel)) (fun σ3 e13 i12 => ?_)
  refine zok_ck rfl ?_
  refine zok_if (fun q14 => ?_) (fun q14 => ?_)
  · have h15 := zc_eql (0) (0) q14 (rM_23 i12.sg _ (by decide)) (zr_c (lo := 0) (hi := 0) (by decide)) (by decide)
    refine zok_ck rfl ?_
    refine zok_pi (s_X12_video8 i12.P) (fun v6 h16 => ?_)
    refine zok_ck rfl ?_
    refine zok_bs (i12.wi 60 60 (by decide) h16 (by decide +kernel)) (fun σ7 e18 i17 => ?_)
    refine zok_bu (s_X12_further i17) (fun σ8 i19 => ?_)
    exact zok_pau i19 (s_X12_control_162 i19.P)
  have h20 := zc_nel (1) (3) q14 (rM_23 i12.sg _ (by decide)) (zr_c (lo := 0) (hi := 0) (by decide)) (by decide)
  refine zok_ck rfl ?_
  refine zok_if (fun q21 => ?_) (fun q21 => ?_)
  · have h22 := zc_eql (2) (2) q21 h20 (zr_c (lo := 2) (hi := 2) (by decide)) (by decide)
    refine zok_ck (by decide) ?_
    refine zok_if (fun q23 => ?_) (fun q23 => ?_)
    · have h24 := zc_ler (11) q23 (zr_c (lo := 11) (hi := 11) (by decide)) (zr_rem (lo := 0) (hi := 15) 16 (by decide) h_x1 (by decide)) (by decide)
      exact zok_pau i12 (s_X12_control_162 i12.P)
    have h25 := zc_ltl (10) (z_nle q23) (zr_rem (lo := 0) (hi := 15) 16 (by decide) h_x1 (by decide)) (zr_c (lo := 11) (hi := 11) (by decide)) (by decide)
    refine zok_ck (by decide) ?_
    refine zok_ck rfl ?_
    refine zok_ck (zin_ok (zr_add (lo := 47) (hi := 57) (zr_c (lo := 47) (hi := 47) (by decide)) h25 (by decide)) (by decide)) ?_
    refine zok_bs (i12.wi 47 57 (z_ix (zr_add (lo := 47) (hi := 57) (zr_c (lo := 47) (hi := 47) (by decide)) h25 (by decide)) (by decide)) (zr_andr (lo := 0) (hi := 255) (zr_c (lo := 255) (hi := 255) (by decide)) (by decide)) (by decide +kernel)) (fun σ4 e27 i26 => ?_)
    exact zok_pau i26 (s_X12_control_162 i26.P)
  exact zok_pau i12 (s_X12_control_162 i12.P)
theorem s_X12_dataTo_115 {G : Nat → Int} {σ : zSt} (hσ : zIM G σ) : zok (fX12_dataTo_115 σ ) (zIM G) := by
  unfold fX12_dataTo_115
  refine zok_bu (s_X12_further hσ) (fun σ1 i1 => ?_)
  exact zok_some i1
theorem s_X12_dataTo {G : Nat → Int} {σ : zSt} (hσ : zIM G σ) {x1 : Int32} (h_x1 : zr (0) (255) x1) : zok (fX12_dataTo σ x1) (zIM G) := by
  unfold fX12_dataTo
  refine zok_ck rfl ?_
  refine zok_bs (hσ.wi 61 61 (by decide) (zr_c (lo := 0) (hi := 0) (by decide)) (by decide +kernel)) (fun σ2 e2 i1 => ?_)
  refine zok_ck rfl ?_
  refine zok_bs (i1.wi 60 60 (by decide) h_x1 (by decide +kernel)) (fun σ3 e4 i3 => ?_)
  refine zok_ck rfl ?_
  refine zok_br (rM_22 i3.sg _ (by decide)) (fun v4 e6 h5 => ?_)
  refine zok_ck rfl ?_
  refine zok_if (fun q7 => ?_) (fun q7 => ?_)
  · have h8 := zc_eql (3) (3) q7 (rM_23 i3.sg _ (by decide)) (zr_c (lo := 3) (hi := 3) (by decide)) (by decide)
    refine zok_if (fun q9 => ?_) (fun q9 => ?_)
    · have h10 := zc_eql (2) (2) q9 (rM_1 i3.sg _ (by decide)) (zr_c (lo := 2) (hi := 2) (by decide)) (by decide)
      refine zok_ck (by decide) ?_
      refine zok_if (fun q11 => ?_) (fun q11 => ?_)
      · have h12 := zc_eql (0) (0) q11 (zr_rem (lo := 0) (hi := 1) 2 (by decide) h5 (by decide)) (zr_c (lo := 0) (hi := 0) (by decide)) (by decide)
        refine zok_ck rfl ?_
        refine zok_bs (i3.wi 68 68 (by decide) h_x1 (by decide +kernel)) (fun σ7 e14 i13 => ?_)
        exact (s_X12_dataTo_115 i13)
      have h15 := zc_nel (1) (1) q11 (zr_rem (lo := 0) (hi := 1) 2 (by decide) h5 (by decide)) (zr_c (lo := 0) (hi := 0) (by decide)) (by decide)
      have h16 := z_odd64 h5 h15 (by decide)
      refine zok_ck (by decide) ?_
      refine zok_ck rfl ?_
      refine zok_ck (zin_ok (zr_sub (lo := 0) (hi := 62) h16 (zr_c (lo := 1) (hi := 1) (by decide)) (by decide)) (by decide)) ?_
      refine zok_bs (i3.wk (by decide)) (fun σ5 e18 i17 => ?_)
      refine zok_ck (by decide) ?_
      refine zok_ck (zin_ok h16 (by decide)) ?_
      refine zok_bs (i17.wk (by decide)) (fun σ6 e20 i19 => ?_)
      exact (s_X12_dataTo_115 i19)
    have h21 := zc_nel (0) (1) q9 (rM_1 i3.sg _ (by decide)) (zr_c (lo := 2) (hi := 2) (by decide)) (by decide)
    refine zok_ck (by decide) ?_
    refine zok_ck (zin_ok (zr_rem (lo := 0) (hi := 31) 32 (by decide) h5 (by decide)) (by decide)) ?_
    refine zok_bs (i3.wk (by decide)) (fun σ8 e23 i22 => ?_)
    exact (s_X12_dataTo_115 i22)
  have h24 := zc_nel (0) (2) q7 (rM_23 i3.sg _ (by decide)) (zr_c (lo := 3) (hi := 3) (by decide)) (by decide)
  refine zok_ck (zin_ok h5 (by decide)) ?_
  refine zok_bs (i3.wk (by decide)) (fun σ9 e26 i25 => ?_)
  exact (s_X12_dataTo_115 i25)
theorem s_X12_portTo_267 {σ : zSt} (hσ : zPM σ) : zok (fX12_portTo_267 σ ) (zPu σ) := by
  unfold fX12_portTo_267
  exact zok_spu
theorem s_X12_portTo_140 {σ : zSt} (hσ : zPM σ) : zok (fX12_portTo_140 σ ) (zPu σ) := by
  unfold fX12_portTo_140
  exact (s_X12_portTo_267 hσ)
theorem s_X12_portTo_129 {G : Nat → Int} {σ : zSt} (hσ : zIM G σ) : zok (fX12_portTo_129 σ ) (zIM G) := by
  unfold fX12_portTo_129
  refine zok_pi (s_X12_hCount hσ.P) (fun v2 h1 => ?_)
  refine zok_ck rfl ?_
  refine zok_bs (hσ.wi 35 35 (by decide) h1 (by decide +kernel)) (fun σ3 e3 i2 => ?_)
  exact zok_pau i2 (s_X12_portTo_140 i2.P)
theorem s_X12_portTo_115 {G : Nat → Int} {σ : zSt} (hσ : zIM G σ) {x5 : Int32} (h_x5 : zr (0) (1) x5) : zok (fX12_portTo_115 σ x5) (zIM G) := by
  unfold fX12_portTo_115
  refine zok_if (fun q1 => ?_) (fun q1 => ?_)
  · have h2 := zc_eql (0) (0) q1 h_x5 (zr_c (lo := 0) (hi := 0) (by decide)) (by decide)
    refine zok_pi (s_X12_lineAt hσ.P (zr_w (zr_c (lo := 1) (hi := 1) (by decide)) (by decide))) (fun v5 h3 => ?_)
    refine zok_if (fun q4 => ?_) (fun q4 => ?_)
    · have h5 := zc_eql (1) (1) q4 h3 (zr_c (lo := 1) (hi := 1) (by decide)) (by decide)
      exact (s_X12_portTo_129 hσ)
    have h6 := zc_nel (0) (0) q4 h3 (zr_c (lo := 1) (hi := 1) (by decide)) (by decide)
    exact zok_pau hσ (s_X12_portTo_140 hσ.P)
  have h7 := zc_nel (1) (1) q1 h_x5 (zr_c (lo := 0) (hi := 0) (by decide)) (by decide)
  exact zok_pau hσ (s_X12_portTo_140 hσ.P)
theorem s_X12_portTo_75 {G : Nat → Int} {σ : zSt} (hσ : zIM G σ) {x2 : Int32} (h_x2 : zr (0) (255) x2) {x3 : Int32} (h_x3 : zr (0) (1) x3) : zok (fX12_portTo_75 σ x2 x3) (zIM G) := by
  unfold fX12_portTo_75
  refine zok_if (fun q1 => ?_) (fun q1 => ?_)
  · have h2 := zc_eql (0) (0) q1 h_x3 (zr_c (lo := 0) (hi := 0) (by decide)) (by decide)
    exact zok_pau hσ (s_X12_portTo_267 hσ.P)
  have h3 := zc_nel (1) (1) q1 h_x3 (zr_c (lo := 0) (hi := 0) (by decide)) (by decide)
  refine zok_pi (s_X12_lineAt hσ.P (zr_w (zr_c (lo := 0) (hi := 0) (by decide)) (by decide))) (fun v7 h4 => ?_)
  refine zok_pi (s_X12_lineAt hσ.P (zr_w (zr_c (lo := 1) (hi := 1) (by decide)) (by decide))) (fun v9 h5 => ?_)
  refine zok_ck rfl ?_
  refine zok_bs (hσ.wi 33 33 (by decide) h_x2 (by decide +kernel)) (fun σ10 e7 i6 => ?_)
  refine zok_if (fun q8 => ?_) (fun q8 => ?_)
  · have h9 := zc_eql (0) (0) q8 h4 (zr_c (lo := 0) (hi := 0) (by decide)) (by decide)
    refine zok_pi (s_X12_lineAt i6.P (zr_w (zr_c (lo := 0) (hi := 0) (by decide)) (by decide))) (fun v12 h10 => ?_)
    refine zok_if (fun q11 => ?_) (fun q11 => ?_)
    · have h12 := zc_eql (1) (1) q11 h10 (zr_c (lo := 1) (hi := 1) (by decide)) (by decide)
      exact (s_X12_portTo_129 i6)
    have h13 := zc_nel (0) (0) q11 h10 (zr_c (lo := 1) (hi := 1) (by decide)) (by decide)
    exact (s_X12_portTo_115 i6 h5)
  have h14 := zc_nel (1) (1) q8 h4 (zr_c (lo := 0) (hi := 0) (by decide)) (by decide)
  exact (s_X12_portTo_115 i6 h5)
theorem s_X12_portTo_50 {G : Nat → Int} {σ : zSt} (hσ : zIM G σ) {x1 : Int32} (h_x1 : zr (0) (63) x1) {x2 : Int32} (h_x2 : zr (0) (255) x2) {x3 : Int32} (h_x3 : zr (0) (1) x3) : zok (fX12_portTo_50 σ x1 x2 x3) (zIM G) := by
  unfold fX12_portTo_50
  refine zok_if (fun q1 => ?_) (fun q1 => ?_)
  · have h2 := zc_eql (2) (2) q1 (rM_1 hσ.sg _ (by decide)) (zr_c (lo := 2) (hi := 2) (by decide)) (by decide)
    refine zok_if (fun q3 => ?_) (fun q3 => ?_)
    · have h4 := zc_eql (6) (6) q3 h_x1 (zr_c (lo := 6) (hi := 6) (by decide)) (by decide)
      refine zok_ck rfl ?_
      refine zok_bs (hσ.wi 34 34 (by decide) h_x2 (by decide +kernel)) (fun σ13 e6 i5 => ?_)
      exact zok_pau i5 (s_X12_portTo_267 i5.P)
    exact (s_X12_portTo_75 hσ h_x2 h_x3)
  have h7 := zc_nel (0) (1) q1 (rM_1 hσ.sg _ (by decide)) (zr_c (lo := 2) (hi := 2) (by decide)) (by decide)
  exact (s_X12_portTo_75 hσ h_x2 h_x3)
theorem s_X12_portTo_12 {G : Nat → Int} {σ : zSt} (hσ : zIM G σ) {x1 : Int32} (h_x1 : zr (0) (255) x1) {x2 : Int32} (h_x2 : zr (0) (255) x2) {s0 : Int32} (h_s0 : zr (0) (1) s0) : zok (fX12_portTo_12 σ x1 x2 s0) (zIM G) := by
  unfold fX12_portTo_12
  refine zok_if (fun q1 => ?_) (fun q1 => ?_)
  · have h2 := zc_ler (64) q1 (zr_c (lo := 64) (hi := 64) (by decide)) h_x1 (by decide)
    refine zok_if (fun q3 => ?_) (fun q3 => ?_)
    · have h4 := zc_ler (128) q3 (zr_c (lo := 128) (hi := 128) (by decide)) h2 (by decide)
      refine zok_if (fun q5 => ?_) (fun q5 => ?_)
      · have h6 := zc_ler (192) q5 (zr_c (lo := 192) (hi := 192) (by decide)) h4 (by decide)
        refine zok_if (fun q7 => ?_) (fun q7 => ?_)
        · have h8 := zc_eql (2) (2) q7 (rM_1 hσ.sg _ (by decide)) (zr_c (lo := 2) (hi := 2) (by decide)) (by decide)
          exact zok_pau hσ (s_X12_portTo_267 hσ.P)
        have h9 := zc_nel (0) (1) q7 (rM_1 hσ.sg _ (by decide)) (zr_c (lo := 2) (hi := 2) (by decide)) (by decide)
        refine zok_if (fun q10 => ?_) (fun q10 => ?_)
        · have h11 := zc_ltl (239) q10 h6 (zr_c (lo := 240) (hi := 240) (by decide)) (by decide)
          exact zok_pau hσ (s_X12_portTo_267 hσ.P)
        have h12 := zc_ler (240) (z_nlt q10) (zr_c (lo := 240) (hi := 240) (by decide)) h6 (by decide)
        refine zok_if (fun q13 => ?_) (fun q13 => ?_)
        · have h14 := zc_ltr (243) q13 (zr_c (lo := 242) (hi := 242) (by decide)) h12 (by decide)
          exact zok_pau hσ (s_X12_portTo_267 hσ.P)
        have h15 := zc_lel (242) (z_nlt q13) h12 (zr_c (lo := 242) (hi := 242) (by decide)) (by decide)
        refine zok_if (fun q16 => ?_) (fun q16 => ?_)
        · have h17 := zc_eql (240) (240) q16 h15 (zr_c (lo := 240) (hi := 240) (by decide)) (by decide)
          refine zok_ck (by decide) ?_
          refine zok_ck rfl ?_
          refine zok_bs (hσ.wi 162 162 (by decide) (zr_rem (lo := 0) (hi := 63) 64 (by decide) h_x2 (by decide)) (by decide +kernel)) (fun σ16 e19 i18 => ?_)
          exact zok_pau i18 (s_X12_portTo_267 i18.P)
        have h20 := zc_nel (241) (242) q16 h15 (zr_c (lo := 240) (hi := 240) (by decide)) (by decide)
        refine zok_if (fun q21 => ?_) (fun q21 => ?_)
        · have h22 := zc_eql (241) (241) q21 h20 (zr_c (lo := 241) (hi := 241) (by decide)) (by decide)
          refine zok_ck rfl ?_
          refine zok_ck (zin_ok (zr_add (lo := 98) (hi := 161) (zr_c (lo := 98) (hi := 98) (by decide)) (rM_41 hσ.sg _ (by decide)) (by decide)) (by decide)) ?_
          refine zok_bs (hσ.wi 98 161 (z_ix (zr_add (lo := 98) (hi := 161) (zr_c (lo := 98) (hi := 98) (by decide)) (rM_41 hσ.sg _ (by decide)) (by decide)) (by decide)) h_x2 (by decide +kernel)) (fun σ15 e24 i23 => ?_)
          exact zok_pau i23 (s_X12_portTo_267 i23.P)
        have h25 := zc_nel (242) (242) q21 h20 (zr_c (lo := 241) (hi := 241) (by decide)) (by decide)
        refine zok_ck (by decide) ?_
        refine zok_ck rfl ?_
        refine zok_bs (hσ.wi 163 163 (by decide) (zr_rem (lo := 0) (hi := 3) 4 (by decide) h_x2 (by decide)) (by decide +kernel)) (fun σ14 e27 i26 => ?_)
        exact zok_pau i26 (s_X12_portTo_267 i26.P)
      have h28 := zc_ltl (191) (z_nle q5) h4 (zr_c (lo := 192) (hi := 192) (by decide)) (by decide)
      refine zok_if (fun q29 => ?_) (fun q29 => ?_)
      · have h30 := zc_eql (0) (0) q29 h_s0 (zr_c (lo := 0) (hi := 0) (by decide)) (by decide)
        refine zok_bu (s_X12_dataTo hσ h_x2) (fun σ17 i31 => ?_)
        exact zok_pau i31 (s_X12_portTo_267 i31.P)
      have h32 := zc_nel (1) (1) q29 h_s0 (zr_c (lo := 0) (hi := 0) (by decide)) (by decide)
      refine zok_bu (s_X12_control hσ h_x2) (fun σ18 i33 => ?_)
      exact zok_pau i33 (s_X12_portTo_267 i33.P)
    have h34 := zc_ltl (127) (z_nle q3) h2 (zr_c (lo := 128) (hi := 128) (by decide)) (by decide)
    refine zok_bu (s_X12_noise hσ h_x2) (fun σ19 i35 => ?_)
    exact zok_pau i35 (s_X12_portTo_267 i35.P)
  have h36 := zc_ltl (63) (z_nle q1) h_x1 (zr_c (lo := 64) (hi := 64) (by decide)) (by decide)
  refine zok_if (fun q37 => ?_) (fun q37 => ?_)
  · have h38 := zc_eql (2) (2) q37 (rM_1 hσ.sg _ (by decide)) (zr_c (lo := 2) (hi := 2) (by decide)) (by decide)
    refine zok_if (fun q39 => ?_) (fun q39 => ?_)
    · have h40 := zc_lel (0) q39 h36 (zr_c (lo := 0) (hi := 0) (by decide)) (by decide)
      exact (s_X12_portTo_50 hσ (zr_w h40 (by decide)) h_x2 h_s0)
    have h41 := zc_ltr (1) (z_nle q39) (zr_c (lo := 0) (hi := 0) (by decide)) h36 (by decide)
    refine zok_if (fun q42 => ?_) (fun q42 => ?_)
    · have h43 := zc_ler (6) q42 (zr_c (lo := 6) (hi := 6) (by decide)) h41 (by decide)
      exact (s_X12_portTo_50 hσ (zr_w h43 (by decide)) h_x2 h_s0)
    have h44 := zc_ltl (5) (z_nle q42) h41 (zr_c (lo := 6) (hi := 6) (by decide)) (by decide)
    refine zok_ck (zin_ok (zr_add (lo := 37) (hi := 41) (zr_c (lo := 36) (hi := 36) (by decide)) h44 (by decide)) (by decide)) ?_
    refine zok_bs (hσ.wi 37 41 (z_ix (zr_add (lo := 37) (hi := 41) (zr_c (lo := 36) (hi := 36) (by decide)) h44 (by decide)) (by decide)) h_x2 (by decide +kernel)) (fun σ20 e46 i45 => ?_)
    exact zok_pau i45 (s_X12_portTo_267 i45.P)
  have h47 := zc_nel (0) (1) q37 (rM_1 hσ.sg _ (by decide)) (zr_c (lo := 2) (hi := 2) (by decide)) (by decide)
  exact (s_X12_portTo_50 hσ h36 h_x2 h_s0)
theorem s_X12_portTo {G : Nat → Int} {σ : zSt} (hσ : zIM G σ) {x1 : Int32} (h_x1 : zr (0) (255) x1) {x2 : Int32} (h_x2 : zr (0) (255) x2) : zok (fX12_portTo σ x1 x2) (zIM G) := by
  unfold fX12_portTo
  refine zok_ck (by decide) ?_
  refine zok_if (fun q1 => ?_) (fun q1 => ?_)
  · have h2 := zc_eql (1) (1) q1 (zr_rem (lo := 0) (hi := 1) 2 (by decide) h_x1 (by decide)) (zr_c (lo := 1) (hi := 1) (by decide)) (by decide)
    have h3 := z_odd64 h_x1 h2 (by decide)
    exact (s_X12_portTo_12 hσ h_x1 h_x2 (zr_w (zr_c (lo := 1) (hi := 1) (by decide)) (by decide)))
  have h4 := zc_nel (0) (0) q1 (zr_rem (lo := 0) (hi := 1) 2 (by decide) h_x1 (by decide)) (zr_c (lo := 1) (hi := 1) (by decide)) (by decide)
  exact (s_X12_portTo_12 hσ h_x1 h_x2 (zr_w (zr_c (lo := 0) (hi := 0) (by decide)) (by decide)))
theorem s_X12_turned_118 {σ : zSt} (hσ : zPM σ) {s0 : Int32} (h_s0 : zr (0) (255) s0) : zok (fX12_turned_118 σ s0) (zPi σ (fun v : Int32 => zr (0) (255) v)) := by
  unfold fX12_turned_118
  exact zok_spi h_s0
theorem s_X12_turned_89 {G : Nat → Int} {σ : zSt} (hσ : zIM G σ) {x2 : Int32} (h_x2 : zr (0) (255) x2) {x3 : Int32} (h_x3 : zr (0) (1) x3) {x5 : Int32} (h_x5 : zr (0) (1) x5) {s0 : Int32} (h_s0 : zr (0) (1) s0) {s1 : Int32} (h_s1 : zr (0) (0) s1) : zok (fX12_turned_89 σ x2 x3 x5 s0 s1) (zAi (zIM G) (fun v : Int32 => zr (0) (255) v)) := by
  unfold fX12_turned_89
  refine zok_bu (s_X12_put hσ (zr_w h_s1 (by decide)) h_s0) (fun σ1 i1 => ?_)
  refine zok_if (fun q2 => ?_) (fun q2 => ?_)
  · have h3 := zc_eql (0) (0) q2 h_x3 (zr_c (lo := 0) (hi := 0) (by decide)) (by decide)
    exact zok_pai i1 (s_X12_turned_118 i1.P (zr_or (lo := 0) (hi := 255) 8 (zr_shr (lo := 0) (hi := 127) 1 (by decide) h_x2 (by decide)) (zr_shl (lo := 0) (hi := 128) 7 (by decide) h_x5 (by decide)) (by decide)))
  have h4 := zc_nel (1) (1) q2 h_x3 (zr_c (lo := 0) (hi := 0) (by decide)) (by decide)
  exact zok_pai i1 (s_X12_turned_118 i1.P (zr_or (lo := 0) (hi := 255) 8 (zr_andr (lo := 0) (hi := 255) (zr_c (lo := 255) (hi := 255) (by decide)) (by decide)) h_x5 (by decide)))
theorem s_X12_turned_74 {G : Nat → Int} {σ : zSt} (hσ : zIM G σ) {x2 : Int32} (h_x2 : zr (0) (255) x2) {x3 : Int32} (h_x3 : zr (0) (1) x3) {x4 : Int32} (h_x4 : zr (0) (1) x4) {s0 : Int32} (h_s0 : zr (0) (1) s0) : zok (fX12_turned_74 σ x2 x3 x4 s0) (zAi (zIM G) (fun v : Int32 => zr (0) (255) v)) := by
  unfold fX12_turned_74
  refine zok_if (fun q1 => ?_) (fun q1 => ?_)
  · have h2 := zc_eql (1) (1) q1 h_x4 (zr_c (lo := 1) (hi := 1) (by decide)) (by decide)
    exact (s_X12_turned_89 hσ h_x2 h_x3 h_s0 (zr_w (zr_c (lo := 1) (hi := 1) (by decide)) (by decide)) (zr_c (lo := 0) (hi := 0) (by decide)))
  have h3 := zc_nel (0) (0) q1 h_x4 (zr_c (lo := 1) (hi := 1) (by decide)) (by decide)
  exact (s_X12_turned_89 hσ h_x2 h_x3 h_s0 (zr_w (zr_c (lo := 0) (hi := 0) (by decide)) (by decide)) (zr_c (lo := 0) (hi := 0) (by decide)))
theorem s_X12_turned_26 {G : Nat → Int} {σ : zSt} (hσ : zIM G σ) {x1 : Int32} (h_x1 : zr (0) (7) x1) {x2 : Int32} (h_x2 : zr (0) (255) x2) {x3 : Int32} (h_x3 : zr (0) (1) x3) {s0 : Int32} (h_s0 : zr (0) (1) s0) : zok (fX12_turned_26 σ x1 x2 x3 s0) (zAi (zIM G) (fun v : Int32 => zr (0) (255) v)) := by
  unfold fX12_turned_26
  refine zok_if (fun q1 => ?_) (fun q1 => ?_)
  · have h2 := zc_ler (2) q1 (zr_c (lo := 2) (hi := 2) (by decide)) h_x1 (by decide)
    refine zok_if (fun q3 => ?_) (fun q3 => ?_)
    · have h4 := zc_ler (4) q3 (zr_c (lo := 4) (hi := 4) (by decide)) h2 (by decide)
      refine zok_if (fun q5 => ?_) (fun q5 => ?_)
      · have h6 := zc_eql (5) (5) q5 h4 (zr_c (lo := 5) (hi := 5) (by decide)) (by decide)
        exact (s_X12_turned_74 hσ h_x2 h_x3 h_s0 (zr_shr (lo := 0) (hi := 1) 7 (by decide) h_x2 (by decide)))
      refine zok_if (fun q7 => ?_) (fun q7 => ?_)
      · have h8 := zc_eql (6) (6) q7 h4 (zr_c (lo := 6) (hi := 6) (by decide)) (by decide)
        exact (s_X12_turned_74 hσ h_x2 h_x3 h_s0 (zr_w (zr_c (lo := 1) (hi := 1) (by decide)) (by decide)))
      exact (s_X12_turned_74 hσ h_x2 h_x3 h_s0 (zr_w (zr_c (lo := 0) (hi := 0) (by decide)) (by decide)))
    have h9 := zc_ltl (3) (z_nle q3) h2 (zr_c (lo := 4) (hi := 4) (by decide)) (by decide)
    refine zok_pi (s_X12_flag hσ.P (zr_w (zr_c (lo := 0) (hi := 0) (by decide)) (by decide))) (fun v3 h10 => ?_)
    exact (s_X12_turned_74 hσ h_x2 h_x3 h_s0 h10)
  have h11 := zc_ltl (1) (z_nle q1) h_x1 (zr_c (lo := 2) (hi := 2) (by decide)) (by decide)
  exact (s_X12_turned_74 hσ h_x2 h_x3 h_s0 h_s0)
theorem s_X12_turned_11 {G : Nat → Int} {σ : zSt} (hσ : zIM G σ) {x1 : Int32} (h_x1 : zr (0) (7) x1) {x2 : Int32} (h_x2 : zr (0) (255) x2) {s0 : Int32} (h_s0 : zr (0) (1) s0) : zok (fX12_turned_11 σ x1 x2 s0) (zAi (zIM G) (fun v : Int32 => zr (0) (255) v)) := by
  unfold fX12_turned_11
  refine zok_if (fun q1 => ?_) (fun q1 => ?_)
  · have h2 := zc_eql (0) (0) q1 h_s0 (zr_c (lo := 0) (hi := 0) (by decide)) (by decide)
    exact (s_X12_turned_26 hσ h_x1 h_x2 (zr_w h2 (by decide)) (zr_andr (lo := 0) (hi := 1) (zr_c (lo := 1) (hi := 1) (by decide)) (by decide)))
  have h3 := zc_nel (1) (1) q1 h_s0 (zr_c (lo := 0) (hi := 0) (by decide)) (by decide)
  exact (s_X12_turned_26 hσ h_x1 h_x2 (zr_w h3 (by decide)) (zr_shr (lo := 0) (hi := 1) 7 (by decide) h_x2 (by decide)))
theorem s_X12_turned {G : Nat → Int} {σ : zSt} (hσ : zIM G σ) {x1 : Int32} (h_x1 : zr (0) (7) x1) {x2 : Int32} (h_x2 : zr (0) (255) x2) : zok (fX12_turned σ x1 x2) (zAi (zIM G) (fun v : Int32 => zr (0) (255) v)) := by
  unfold fX12_turned
  refine zok_ck (by decide) ?_
  refine zok_if (fun q1 => ?_) (fun q1 => ?_)
  · have h2 := zc_eql (0) (0) q1 (zr_rem (lo := 0) (hi := 1) 2 (by decide) h_x1 (by decide)) (zr_c (lo := 0) (hi := 0) (by decide)) (by decide)
    exact (s_X12_turned_11 hσ h_x1 h_x2 (zr_w (zr_c (lo := 1) (hi := 1) (by decide)) (by decide)))
  have h3 := zc_nel (1) (1) q1 (zr_rem (lo := 0) (hi := 1) 2 (by decide) h_x1 (by decide)) (zr_c (lo := 0) (hi := 0) (by decide)) (by decide)
  have h4 := z_odd64 h_x1 h3 (by decide)
  exact (s_X12_turned_11 hσ h_x1 h_x2 (zr_w (zr_c (lo := 0) (hi := 0) (by decide)) (by decide)))
theorem s_X12_turn_122 {σ : zSt} (hσ : zPM σ) {s0 : Int32} (h_s0 : zr (8) (12) s0) : zok (fX12_turn_122 σ s0) (zPi σ (fun v : Int32 => zr (8) (15) v)) := by
  unfold fX12_turn_122
  exact zok_spi (zr_w h_s0 (by decide))
theorem s_X12_turn_106 {G : Nat → Int} {σ : zSt} (hσ : zIM G σ) {x3 : Int32} (h_x3 : zr (0) (7) x3) {s0 : Int32} (h_s0 : zr (0) (255) s0) : zok (fX12_turn_106 σ x3 s0) (zAi (zIM G) (fun v : Int32 => zr (8) (15) v)) := by
  unfold fX12_turn_106
  refine zok_bu (s_X12_xy hσ (zr_w h_s0 (by decide))) (fun σ1 i1 => ?_)
  refine zok_if (fun q2 => ?_) (fun q2 => ?_)
  · have h3 := zc_eql (6) (6) q2 h_x3 (zr_c (lo := 6) (hi := 6) (by decide)) (by decide)
    exact zok_pai i1 (s_X12_turn_122 i1.P (zr_w (zr_c (lo := 12) (hi := 12) (by decide)) (by decide)))
  exact zok_pai i1 (s_X12_turn_122 i1.P (zr_w (zr_c (lo := 8) (hi := 8) (by decide)) (by decide)))
theorem s_X12_turn_69 {G : Nat → Int} {σ : zSt} (hσ : zIM G σ) {x3 : Int32} (h_x3 : zr (0) (7) x3) {x4 : Int32} (h_x4 : zr (0) (255) x4) {s0 : Int32} (h_s0 : zr (0) (1) s0) {s1 : Int32} (h_s1 : zr (2) (2) s1) : zok (fX12_turn_69 σ x3 x4 s0 s1) (zAi (zIM G) (fun v : Int32 => zr (8) (15) v)) := by
  unfold fX12_turn_69
  refine zok_bu (s_X12_put hσ (zr_w h_s1 (by decide)) h_s0) (fun σ2 i1 => ?_)
  refine zok_bu (s_X12_put i1 (zr_w (zr_c (lo := 4) (hi := 4) (by decide)) (by decide)) (zr_w (zr_c (lo := 1) (hi := 1) (by decide)) (by decide))) (fun σ3 i2 => ?_)
  refine zok_bu (s_X12_put i2 (zr_w (zr_c (lo := 1) (hi := 1) (by decide)) (by decide)) (zr_w (zr_c (lo := 0) (hi := 0) (by decide)) (by decide))) (fun σ4 i3 => ?_)
  refine zok_if (fun q4 => ?_) (fun q4 => ?_)
  · have h5 := zc_eql (6) (6) q4 h_x3 (zr_c (lo := 6) (hi := 6) (by decide)) (by decide)
    refine zok_ck rfl ?_
    exact (s_X12_turn_106 i3 (zr_w h5 (by decide)) (zr_shr (lo := 0) (hi := 255) 8 (by decide) (rM_12 i3.sg _ (by decide)) (by decide)))
  exact (s_X12_turn_106 i3 h_x3 h_x4)
theorem s_X12_turn_219 {σ : zSt} (hσ : zPM σ) {s0 : Int32} (h_s0 : zr (8) (15) s0) : zok (fX12_turn_219 σ s0) (zPi σ (fun v : Int32 => zr (8) (15) v)) := by
  unfold fX12_turn_219
  exact zok_spi h_s0
theorem s_X12_turn_193 {G : Nat → Int} {σ : zSt} (hσ : zIM G σ) {x3 : Int32} (h_x3 : zr (0) (7) x3) {x4 : Int32} (h_x4 : zr (0) (255) x4) : zok (fX12_turn_193 σ x3 x4) (zAi (zIM G) (fun v : Int32 => zr (8) (15) v)) := by
  unfold fX12_turn_193
  refine zok_bu (s_X12_rTo hσ h_x3) (fun σ5 i1 => ?_)
  refine zok_bs (i1.wi 33 33 (by decide) h_x4 (by decide +kernel)) (fun σ6 e3 i2 => ?_)
  refine zok_if (fun q4 => ?_) (fun q4 => ?_)
  · have h5 := zc_eql (6) (6) q4 h_x3 (zr_c (lo := 6) (hi := 6) (by decide)) (by decide)
    exact zok_pai i2 (s_X12_turn_219 i2.P (zr_w (zr_c (lo := 15) (hi := 15) (by decide)) (by decide)))
  exact zok_pai i2 (s_X12_turn_219 i2.P (zr_w (zr_c (lo := 8) (hi := 8) (by decide)) (by decide)))
theorem s_X12_turn_191 {G : Nat → Int} {σ : zSt} (hσ : zIM G σ) {x3 : Int32} (h_x3 : zr (0) (7) x3) {s0 : Int32} (h_s0 : zr (0) (255) s0) : zok (fX12_turn_191 σ x3 s0) (zAi (zIM G) (fun v : Int32 => zr (8) (15) v)) := by
  unfold fX12_turn_191
  exact (s_X12_turn_193 hσ h_x3 h_s0)
theorem s_X12_turn_23 {G : Nat → Int} {σ : zSt} (hσ : zIM G σ) {x1 : Int32} (h_x1 : zr (0) (255) x1) {x2 : Int32} (h_x2 : zr (0) (7) x2) {s0 : Int32} (h_s0 : zr (0) (7) s0) : zok (fX12_turn_23 σ x1 x2 s0) (zAi (zIM G) (fun v : Int32 => zr (8) (15) v)) := by
  unfold fX12_turn_23
  refine zok_pi (s_X12_r hσ.P h_s0) (fun v8 h1 => ?_)
  refine zok_br (zr_shr (lo := 0) (hi := 3) 6 (by decide) h_x1 (by decide)) (fun v9 e3 h2 => ?_)
  refine zok_if (fun q4 => ?_) (fun q4 => ?_)
  · have h5 := zc_eql (1) (1) q4 h2 (zr_c (lo := 1) (hi := 1) (by decide)) (by decide)
    refine zok_br (zr_andr (lo := 0) (hi := 128) (zr_shld (lo := 0) (hi := 128) (zr_c (lo := 1) (hi := 1) (by decide)) h_x2 (by decide)) (by decide)) (fun v18 e7 h6 => ?_)
    refine zok_bu (s_X12_by hσ (zr_w h6 (by decide))) (fun σ19 i8 => ?_)
    refine zok_if (fun q9 => ?_) (fun q9 => ?_)
    · have h10 := zc_eql (0) (0) q9 h6 (zr_c (lo := 0) (hi := 0) (by decide)) (by decide)
      exact (s_X12_turn_69 i8 h_s0 h1 (zr_w (zr_c (lo := 1) (hi := 1) (by decide)) (by decide)) (zr_c (lo := 2) (hi := 2) (by decide)))
    have h11 := zc_nel (1) (128) q9 h6 (zr_c (lo := 0) (hi := 0) (by decide)) (by decide)
    exact (s_X12_turn_69 i8 h_s0 h1 (zr_w (zr_c (lo := 0) (hi := 0) (by decide)) (by decide)) (zr_c (lo := 2) (hi := 2) (by decide)))
  refine zok_if (fun q12 => ?_) (fun q12 => ?_)
  · have h13 := zc_eql (0) (0) q12 h2 (zr_c (lo := 0) (hi := 0) (by decide)) (by decide)
    refine zok_ai (s_X12_turned hσ h_x2 h1) (fun σ10 v11 i14 h15 => ?_)
    refine zok_bu (s_X12_by i14 h15) (fun σ12 i16 => ?_)
    refine zok_pi (s_X12_isEven i16.P h15) (fun v14 h17 => ?_)
    refine zok_bu (s_X12_put i16 (zr_w (zr_c (lo := 2) (hi := 2) (by decide)) (by decide)) h17) (fun σ15 i18 => ?_)
    refine zok_bu (s_X12_put i18 (zr_w (zr_c (lo := 4) (hi := 4) (by decide)) (by decide)) (zr_w (zr_c (lo := 0) (hi := 0) (by decide)) (by decide))) (fun σ16 i19 => ?_)
    refine zok_bu (s_X12_put i19 (zr_w (zr_c (lo := 1) (hi := 1) (by decide)) (by decide)) (zr_w (zr_c (lo := 0) (hi := 0) (by decide)) (by decide))) (fun σ17 i20 => ?_)
    exact (s_X12_turn_193 i20 h_s0 h15)
  have h21 := zc_nel (1) (3) q12 h2 (zr_c (lo := 0) (hi := 0) (by decide)) (by decide)
  refine zok_if (fun q22 => ?_) (fun q22 => ?_)
  · have h23 := zc_eql (2) (2) q22 h21 (zr_c (lo := 2) (hi := 2) (by decide)) (by decide)
    exact (s_X12_turn_191 hσ h_s0 (zr_andl (lo := 0) (hi := 255) h1 (by decide)))
  exact (s_X12_turn_191 hσ h_s0 (zr_or (lo := 0) (hi := 255) 8 h1 (zr_shld (lo := 0) (hi := 128) (zr_c (lo := 1) (hi := 1) (by decide)) h_x2 (by decide)) (by decide)))
theorem s_X12_turn {G : Nat → Int} {σ : zSt} (hσ : zIM G σ) {x1 : Int32} (h_x1 : zr (0) (255) x1) : zok (fX12_turn σ x1) (zAi (zIM G) (fun v : Int32 => zr (8) (15) v)) := by
  unfold fX12_turn
  refine zok_br (zr_andr (lo := 0) (hi := 7) (zr_c (lo := 7) (hi := 7) (by decide)) (by decide)) (fun v20 e2 h1 => ?_)
  refine zok_if (fun q3 => ?_) (fun q3 => ?_)
  · have h4 := zc_eql (0) (0) q3 (rM_7 hσ.sg _ (by decide)) (zr_c (lo := 0) (hi := 0) (by decide)) (by decide)
    exact (s_X12_turn_23 hσ h_x1 h1 (zr_andr (lo := 0) (hi := 7) (zr_c (lo := 7) (hi := 7) (by decide)) (by decide)))
  have h5 := zc_nel (1) (1) q3 (rM_7 hσ.sg _ (by decide)) (zr_c (lo := 0) (hi := 0) (by decide)) (by decide)
  exact (s_X12_turn_23 hσ h_x1 h1 (zr_w (zr_c (lo := 6) (hi := 6) (by decide)) (by decide)))
theorem s_X12_turns {G : Nat → Int} {σ : zSt} (hσ : zIM G σ) : zok (fX12_turns σ ) (zAi (zIM G) (fun v : Int32 => zr (8) (15) v)) := by
  unfold fX12_turns
  refine zok_ai (s_X12_fetch hσ) (fun σ1 v2 i1 h2 => ?_)
  refine zok_ai (s_X12_turn i1 h2) (fun σ3 v4 i3 h4 => ?_)
  exact zok_sai i3 h4
theorem s_X12_three_200 {σ : zSt} (hσ : zPM σ) {s0 : Int32} (h_s0 : zr (4) (6) s0) : zok (fX12_three_200 σ s0) (zPi σ (fun v : Int32 => zr (4) (19) v)) := by
  unfold fX12_three_200
  exact zok_spi (zr_w h_s0 (by decide))
theorem s_X12_three_189 {σ : zSt} (hσ : zPM σ) {x3 : Int32} (h_x3 : zr (1) (3) x3) : zok (fX12_three_189 σ x3) (zPi σ (fun v : Int32 => zr (4) (19) v)) := by
  unfold fX12_three_189
  refine zok_if (fun q1 => ?_) (fun q1 => ?_)
  · have h2 := zc_eql (3) (3) q1 h_x3 (zr_c (lo := 3) (hi := 3) (by decide)) (by decide)
    exact (s_X12_three_200 hσ (zr_w (zr_c (lo := 6) (hi := 6) (by decide)) (by decide)))
  have h3 := zc_nel (1) (2) q1 h_x3 (zr_c (lo := 3) (hi := 3) (by decide)) (by decide)
  exact (s_X12_three_200 hσ (zr_w (zr_c (lo := 4) (hi := 4) (by decide)) (by decide)))
theorem s_X12_three_173 {G : Nat → Int} {σ : zSt} (hσ : zIM G σ) {x3 : Int32} (h_x3 : zr (1) (3) x3) : zok (fX12_three_173 σ x3) (zAi (zIM G) (fun v : Int32 => zr (4) (19) v)) := by
  unfold fX12_three_173
  refine zok_if (fun q1 => ?_) (fun q1 => ?_)
  · have h2 := zc_eql (3) (3) q1 h_x3 (zr_c (lo := 3) (hi := 3) (by decide)) (by decide)
    refine zok_pi (s_X12_hl hσ.P) (fun v2 h3 => ?_)
    refine zok_ck rfl ?_
    refine zok_bs (hσ.wi 18 18 (by decide) h3 (by decide +kernel)) (fun σ3 e5 i4 => ?_)
    exact zok_pai i4 (s_X12_three_189 i4.P (zr_w h2 (by decide)))
  have h6 := zc_nel (1) (2) q1 h_x3 (zr_c (lo := 3) (hi := 3) (by decide)) (by decide)
  exact zok_pai hσ (s_X12_three_189 hσ.P (zr_w h6 (by decide)))
theorem s_X12_three_157 {G : Nat → Int} {σ : zSt} (hσ : zIM G σ) {x3 : Int32} (h_x3 : zr (1) (3) x3) : zok (fX12_three_157 σ x3) (zAi (zIM G) (fun v : Int32 => zr (4) (19) v)) := by
  unfold fX12_three_157
  refine zok_if (fun q1 => ?_) (fun q1 => ?_)
  · have h2 := zc_eql (2) (2) q1 h_x3 (zr_c (lo := 2) (hi := 2) (by decide)) (by decide)
    refine zok_pi (s_X12_hl hσ.P) (fun v5 h3 => ?_)
    refine zok_ck rfl ?_
    refine zok_bs (hσ.wi 19 19 (by decide) h3 (by decide +kernel)) (fun σ6 e5 i4 => ?_)
    exact (s_X12_three_173 i4 (zr_w h2 (by decide)))
  exact (s_X12_three_173 hσ h_x3)
theorem s_X12_three_128_body {G : Nat → Int} {σ : zSt} {k128 : zSt → Int32 → Int32 → Option (zSt × Int32)} {Mk128 : Int} (hk128 : ∀ (σ : zSt) (x3 : Int32) (x4 : Int32), zIM G σ → zr (1) (3) x3 → zr (2) (8) x4 → (8) - x4.toInt < Mk128 → zok (k128 σ x3 x4) (zAi (zIM G) (fun v : Int32 => zr (4) (19) v))) (hσ : zIM G σ) {x3 : Int32} (h_x3 : zr (1) (3) x3) {x4 : Int32} (h_x4 : zr (2) (8) x4) (hMk128 : (8) - x4.toInt ≤ Mk128) : zok (fX12_three_128_body k128 σ x3 x4) (zAi (zIM G) (fun v : Int32 => zr (4) (19) v)) := by
  unfold fX12_three_128_body
  refine zok_if (fun q1 => ?_) (fun q1 => ?_)
  · have h2 := zc_eql (1) (1) q1 h_x3 (zr_c (lo := 1) (hi := 1) (by decide)) (by decide)
    refine zok_if (fun q3 => ?_) (fun q3 => ?_)
    · have h4 := zc_ltr (8) q3 (zr_c (lo := 7) (hi := 7) (by decide)) h_x4 (by decide)
      exact (s_X12_three_157 hσ (zr_w h2 (by decide)))
    have h5 := zc_lel (7) (z_nlt q3) h_x4 (zr_c (lo := 7) (hi := 7) (by decide)) (by decide)
    refine zok_bu (s_X12_change hσ (zr_w h5 (by decide)) (zr_w (zr_add (lo := 10) (hi := 15) h5 (zr_c (lo := 8) (hi := 8) (by decide)) (by decide)) (by decide))) (fun σ7 i6 => ?_)
    refine zok_br (zr_add (lo := 3) (hi := 8) h5 (zr_c (lo := 1) (hi := 1) (by decide)) (by decide)) (fun v8 e8 h7 => ?_)
    exact hk128 _ _ _ i6 (zr_w h2 (by decide)) (zr_w h7 (by decide)) (by rw [e8]; have := z_tadd (y := (1 : Int32)) h5 (zr_c (lo := 1) (hi := 1) (by decide)) (by decide); have e9 : (1 : Int32).toInt = 1 := rfl; omega) 
  have h9 := zc_nel (2) (3) q1 h_x3 (zr_c (lo := 1) (hi := 1) (by decide)) (by decide)
  exact (s_X12_three_157 hσ (zr_w h9 (by decide)))
theorem s_X12_three_128 {G : Nat → Int} : ∀ (n : Nat) {σ : zSt} (hσ : zIM G σ) {x3 : Int32} (h_x3 : zr (1) (3) x3) {x4 : Int32} (h_x4 : zr (2) (8) x4) (hm : (8) - x4.toInt < n), zok (fX12_three_128 n σ x3 x4) (zAi (zIM G) (fun v : Int32 => zr (4) (19) v)) := by
  intro n
  induction n with
  | zero => intro σ hσ x3 h_x3 x4 h_x4 hm ; have h9 := h_x4.1; have h8 := h_x4.2; exfalso; omega
  | succ n ih => intro σ hσ x3 h_x3 x4 h_x4 hm ; exact s_X12_three_128_body (fun σ x3 x4 hσ h_x3 h_x4 hm1 => ih hσ h_x3 h_x4 (by omega)) hσ h_x3 h_x4 (Int.le_refl _)
theorem s_X12_three_239 {σ : zSt} (hσ : zPM σ) : zok (fX12_three_239 σ ) (zPi σ (fun v : Int32 => zr (4) (19) v)) := by
  unfold fX12_three_239
  exact zok_spi (zr_w (zr_c (lo := 10) (hi := 10) (by decide)) (by decide))
theorem s_X12_three_502 {σ : zSt} (hσ : zPM σ) : zok (fX12_three_502 σ ) (zPi σ (fun v : Int32 => zr (4) (19) v)) := by
  unfold fX12_three_502
  exact zok_spi (zr_w (zr_c (lo := 4) (hi := 4) (by decide)) (by decide))
theorem s_X12_three_88 {G : Nat → Int} {σ : zSt} (hσ : zIM G σ) {x1 : Int32} (h_x1 : zr (0) (7) x1) {x2 : Int32} (h_x2 : zr (1) (3) x2) {x3 : Int32} (h_x3 : zr (0) (3) x3) : zok (fX12_three_88 σ x1 x2 x3) (zAi (zIM G) (fun v : Int32 => zr (4) (19) v)) := by
  unfold fX12_three_88
  refine zok_if (fun q1 => ?_) (fun q1 => ?_)
  · have h2 := zc_eql (1) (1) q1 h_x2 (zr_c (lo := 1) (hi := 1) (by decide)) (by decide)
    refine zok_if (fun q3 => ?_) (fun q3 => ?_)
    · have h4 := zc_eql (0) (0) q3 h_x3 (zr_c (lo := 0) (hi := 0) (by decide)) (by decide)
      refine zok_ai (s_X12_pop hσ) (fun σ43 v44 i5 h6 => ?_)
      refine zok_ck rfl ?_
      refine zok_bs (i5.wi 19 19 (by decide) h6 (by decide +kernel)) (fun σ45 e8 i7 => ?_)
      refine zok_ck rfl ?_
      refine zok_ck rfl ?_
      refine zok_bs (i7.wi 20 20 (by decide) (rM_12 i7.sg _ (by decide)) (by decide +kernel)) (fun σ46 e10 i9 => ?_)
      exact zok_sai i9 (zr_w (zr_c (lo := 10) (hi := 10) (by decide)) (by decide))
    have h11 := zc_nel (1) (3) q3 h_x3 (zr_c (lo := 0) (hi := 0) (by decide)) (by decide)
    exact (s_X12_three_128 zfuel hσ h11 (zr_w (zr_c (lo := 2) (hi := 2) (by decide)) (by decide)) (by decide))
  have h12 := zc_nel (2) (3) q1 h_x2 (zr_c (lo := 1) (hi := 1) (by decide)) (by decide)
  refine zok_if (fun q13 => ?_) (fun q13 => ?_)
  · have h14 := zc_eql (2) (2) q13 h12 (zr_c (lo := 2) (hi := 2) (by decide)) (by decide)
    refine zok_ai (s_X12_nextWord hσ) (fun σ37 v38 i15 h16 => ?_)
    refine zok_ck rfl ?_
    refine zok_bs (i15.wi 20 20 (by decide) h16 (by decide +kernel)) (fun σ39 e18 i17 => ?_)
    refine zok_pi (s_X12_cc i17.P h_x1) (fun v41 h19 => ?_)
    refine zok_if (fun q20 => ?_) (fun q20 => ?_)
    · have h21 := zc_eql (0) (0) q20 h19 (zr_c (lo := 0) (hi := 0) (by decide)) (by decide)
      exact zok_pai i17 (s_X12_three_239 i17.P)
    have h22 := zc_nel (1) (1) q20 h19 (zr_c (lo := 0) (hi := 0) (by decide)) (by decide)
    refine zok_ck rfl ?_
    refine zok_ck rfl ?_
    refine zok_bs (i17.wi 19 19 (by decide) (rM_12 i17.sg _ (by decide)) (by decide +kernel)) (fun σ42 e24 i23 => ?_)
    exact zok_pai i23 (s_X12_three_239 i23.P)
  have h25 := zc_nel (3) (3) q13 h12 (zr_c (lo := 2) (hi := 2) (by decide)) (by decide)
  refine zok_if (fun q26 => ?_) (fun q26 => ?_)
  · have h27 := zc_eql (0) (0) q26 h_x1 (zr_c (lo := 0) (hi := 0) (by decide)) (by decide)
    refine zok_ai (s_X12_nextWord hσ) (fun σ9 v10 i28 h29 => ?_)
    refine zok_ck rfl ?_
    refine zok_bs (i28.wi 20 20 (by decide) h29 (by decide +kernel)) (fun σ11 e31 i30 => ?_)
    refine zok_ck rfl ?_
    refine zok_ck rfl ?_
    refine zok_bs (i30.wi 19 19 (by decide) (rM_12 i30.sg _ (by decide)) (by decide +kernel)) (fun σ12 e33 i32 => ?_)
    exact zok_sai i32 (zr_w (zr_c (lo := 10) (hi := 10) (by decide)) (by decide))
  have h34 := zc_nel (1) (7) q26 h_x1 (zr_c (lo := 0) (hi := 0) (by decide)) (by decide)
  refine zok_if (fun q35 => ?_) (fun q35 => ?_)
  · have h36 := zc_eql (1) (1) q35 h34 (zr_c (lo := 1) (hi := 1) (by decide)) (by decide)
    refine zok_ai (s_X12_turns hσ) (fun σ13 v14 i37 h38 => ?_)
    exact zok_sai i37 (zr_w h38 (by decide))
  have h39 := zc_nel (2) (7) q35 h34 (zr_c (lo := 1) (hi := 1) (by decide)) (by decide)
  refine zok_if (fun q40 => ?_) (fun q40 => ?_)
  · have h41 := zc_eql (2) (2) q40 h39 (zr_c (lo := 2) (hi := 2) (by decide)) (by decide)
    refine zok_ai (s_X12_next hσ) (fun σ15 v16 i42 h43 => ?_)
    refine zok_ck rfl ?_
    refine zok_bu (s_X12_portTo i42 h43 (rM_11 i42.sg _ (by decide))) (fun σ17 i44 => ?_)
    refine zok_ck rfl ?_
    refine zok_ck rfl ?_
    refine zok_bs (i44.wi 20 20 (by decide) (zr_or (lo := 0) (hi := 65535) 16 (zr_shl (lo := 0) (hi := 65280) 8 (by decide) (rM_11 i44.sg _ (by decide)) (by decide)) (zr_andr (lo := 0) (hi := 255) (zr_c (lo := 255) (hi := 255) (by decide)) (by decide)) (by decide)) (by decide +kernel)) (fun σ18 e46 i45 => ?_)
    exact zok_sai i45 (zr_w (zr_c (lo := 11) (hi := 11) (by decide)) (by decide))
  have h47 := zc_nel (3) (7) q40 h39 (zr_c (lo := 2) (hi := 2) (by decide)) (by decide)
  refine zok_if (fun q48 => ?_) (fun q48 => ?_)
  · have h49 := zc_eql (3) (3) q48 h47 (zr_c (lo := 3) (hi := 3) (by decide)) (by decide)
    refine zok_ai (s_X12_next hσ) (fun σ19 v20 i50 h51 => ?_)
    refine zok_ck rfl ?_
    refine zok_ck rfl ?_
    refine zok_bs (i50.wi 20 20 (by decide) (zr_andr (lo := 0) (hi := 65535) (zr_c (lo := 65535) (hi := 65535) (by decide)) (by decide)) (by decide +kernel)) (fun σ21 e53 i52 => ?_)
    refine zok_ai (s_X12_port i52 h51) (fun σ22 v23 i54 h55 => ?_)
    refine zok_ck rfl ?_
    refine zok_bs (i54.wi 0 0 (by decide) h55 (by decide +kernel)) (fun σ24 e57 i56 => ?_)
    exact zok_sai i56 (zr_w (zr_c (lo := 11) (hi := 11) (by decide)) (by decide))
  have h58 := zc_nel (4) (7) q48 h47 (zr_c (lo := 3) (hi := 3) (by decide)) (by decide)
  refine zok_if (fun q59 => ?_) (fun q59 => ?_)
  · have h60 := zc_eql (4) (4) q59 h58 (zr_c (lo := 4) (hi := 4) (by decide)) (by decide)
    refine zok_ck rfl ?_
    refine zok_pi (s_X12_word hσ.P (rM_12 hσ.sg _ (by decide))) (fun v26 h61 => ?_)
    refine zok_ck rfl ?_
    refine zok_pi (s_X12_hl hσ.P) (fun v28 h62 => ?_)
    refine zok_bu (s_X12_wordTo hσ (rM_12 hσ.sg _ (by decide)) h62) (fun σ29 i63 => ?_)
    refine zok_bu (s_X12_hlTo i63 (zr_w h61 (by decide))) (fun σ30 i64 => ?_)
    refine zok_ck rfl ?_
    refine zok_bs (i64.wi 20 20 (by decide) h61 (by decide +kernel)) (fun σ31 e66 i65 => ?_)
    exact zok_sai i65 (zr_w (zr_c (lo := 19) (hi := 19) (by decide)) (by decide))
  have h67 := zc_nel (5) (7) q59 h58 (zr_c (lo := 4) (hi := 4) (by decide)) (by decide)
  refine zok_if (fun q68 => ?_) (fun q68 => ?_)
  · have h69 := zc_eql (5) (5) q68 h67 (zr_c (lo := 5) (hi := 5) (by decide)) (by decide)
    refine zok_bu (s_X12_change hσ (zr_w (zr_c (lo := 4) (hi := 4) (by decide)) (by decide)) (zr_w (zr_c (lo := 6) (hi := 6) (by decide)) (by decide))) (fun σ32 i70 => ?_)
    refine zok_bu (s_X12_change i70 (zr_w (zr_c (lo := 5) (hi := 5) (by decide)) (by decide)) (zr_w (zr_c (lo := 7) (hi := 7) (by decide)) (by decide))) (fun σ33 i71 => ?_)
    exact zok_sai i71 (zr_w (zr_c (lo := 4) (hi := 4) (by decide)) (by decide))
  have h72 := zc_nel (6) (7) q68 h67 (zr_c (lo := 5) (hi := 5) (by decide)) (by decide)
  refine zok_ck rfl ?_
  refine zok_bs (hσ.wi 23 23 (by decide) (zr_sub (lo := 0) (hi := 1) h72 (zr_c (lo := 6) (hi := 6) (by decide)) (by decide)) (by decide +kernel)) (fun σ34 e74 i73 => ?_)
  refine zok_ck rfl ?_
  refine zok_bs (i73.wi 24 24 (by decide) (zr_sub (lo := 0) (hi := 1) h72 (zr_c (lo := 6) (hi := 6) (by decide)) (by decide)) (by decide +kernel)) (fun σ35 e76 i75 => ?_)
  refine zok_if (fun q77 => ?_) (fun q77 => ?_)
  · have h78 := zc_eql (7) (7) q77 h72 (zr_c (lo := 7) (hi := 7) (by decide)) (by decide)
    refine zok_ck rfl ?_
    refine zok_bs (i75.wi 27 27 (by decide) (zr_c (lo := 1) (hi := 1) (by decide)) (by decide +kernel)) (fun σ36 e80 i79 => ?_)
    exact zok_pai i79 (s_X12_three_502 i79.P)
  have h81 := zc_nel (6) (6) q77 h72 (zr_c (lo := 7) (hi := 7) (by decide)) (by decide)
  exact zok_pai i75 (s_X12_three_502 i75.P)
theorem s_X12_three_85 {σ : zSt} (hσ : zPM σ) : zok (fX12_three_85 σ ) (zPi σ (fun v : Int32 => zr (4) (19) v)) := by
  unfold fX12_three_85
  exact zok_spi (zr_w (zr_c (lo := 10) (hi := 10) (by decide)) (by decide))
end ZJN0
section ZJN1
theorem s_X12_three {G : Nat → Int} {σ : zSt} (hσ : zIM G σ) {x1 : Int32} (h_x1 : zr (0) (7) x1) {x2 : Int32} (h_x2 : zr (0) (3) x2) : zok (fX12_three σ x1 x2) (zAi (zIM G) (fun v : Int32 => zr (4) (19) v)) := by
  unfold fX12_three
  refine zok_br (zr_shr (lo := 0) (hi := 3) 1 (by decide) h_x1 (by decide)) (fun v47 e2 h1 => ?_)
  refine zok_if (fun q3 => ?_) (fun q3 => ?_)
  · have h4 := zc_eql (0) (0) q3 h_x2 (zr_c (lo := 0) (hi := 0) (by decide)) (by decide)
    refine zok_pi (s_X12_cc hσ.P h_x1) (fun v53 h5 => ?_)
    refine zok_if (fun q6 => ?_) (fun q6 => ?_)
    · have h7 := zc_eql (0) (0) q6 h5 (zr_c (lo := 0) (hi := 0) (by decide)) (by decide)
      exact zok_sai hσ (zr_w (zr_c (lo := 5) (hi := 5) (by decide)) (by decide))
    have h8 := zc_nel (1) (1) q6 h5 (zr_c (lo := 0) (hi := 0) (by decide)) (by decide)
    refine zok_ai (s_X12_pop hσ) (fun σ54 v55 i9 h10 => ?_)
    refine zok_ck rfl ?_
    refine zok_bs (i9.wi 19 19 (by decide) h10 (by decide +kernel)) (fun σ56 e12 i11 => ?_)
    refine zok_ck rfl ?_
    refine zok_ck rfl ?_
    refine zok_bs (i11.wi 20 20 (by decide) (rM_12 i11.sg _ (by decide)) (by decide +kernel)) (fun σ57 e14 i13 => ?_)
    exact zok_sai i13 (zr_w (zr_c (lo := 11) (hi := 11) (by decide)) (by decide))
  have h15 := zc_nel (1) (3) q3 h_x2 (zr_c (lo := 0) (hi := 0) (by decide)) (by decide)
  refine zok_if (fun q16 => ?_) (fun q16 => ?_)
  · have h17 := zc_eql (1) (1) q16 h15 (zr_c (lo := 1) (hi := 1) (by decide)) (by decide)
    refine zok_ck (by decide) ?_
    refine zok_if (fun q18 => ?_) (fun q18 => ?_)
    · have h19 := zc_eql (0) (0) q18 (zr_rem (lo := 0) (hi := 1) 2 (by decide) h_x1 (by decide)) (zr_c (lo := 0) (hi := 0) (by decide)) (by decide)
      refine zok_ai (s_X12_pop hσ) (fun σ48 v49 i20 h21 => ?_)
      refine zok_if (fun q22 => ?_) (fun q22 => ?_)
      · have h23 := zc_eql (3) (3) q22 h1 (zr_c (lo := 3) (hi := 3) (by decide)) (by decide)
        refine zok_bu (s_X12_pairTo i20 (zr_w (zr_c (lo := 0) (hi := 0) (by decide)) (by decide)) (zr_w h21 (by decide))) (fun σ51 i24 => ?_)
        exact zok_pai i24 (s_X12_three_85 i24.P)
      have h25 := zc_nel (0) (2) q22 h1 (zr_c (lo := 3) (hi := 3) (by decide)) (by decide)
      refine zok_bu (s_X12_rpTo i20 (zr_w h25 (by decide)) (zr_w h21 (by decide))) (fun σ50 i26 => ?_)
      exact zok_pai i26 (s_X12_three_85 i26.P)
    have h27 := zc_nel (1) (1) q18 (zr_rem (lo := 0) (hi := 1) 2 (by decide) h_x1 (by decide)) (zr_c (lo := 0) (hi := 0) (by decide)) (by decide)
    have h28 := z_odd64 h_x1 h27 (by decide)
    exact (s_X12_three_88 hσ h_x1 (zr_w h17 (by decide)) h1)
  have h29 := zc_nel (2) (3) q16 h15 (zr_c (lo := 1) (hi := 1) (by decide)) (by decide)
  exact (s_X12_three_88 hσ h_x1 (zr_w h29 (by decide)) h1)
theorem s_X12_does_343 {σ : zSt} (hσ : zPM σ) : zok (fX12_does_343 σ ) (zPu σ) := by
  unfold fX12_does_343
  exact zok_spu
theorem s_X12_does_314 {G : Nat → Int} {σ : zSt} (hσ : zIM G σ) {x1 : Int32} (h_x1 : zr (0) (7) x1) {x2 : Int32} (h_x2 : zr (0) (255) x2) {x6 : Int32} (h_x6 : zr (-256) (511) x6) {s0 : Int32} (h_s0 : zr (0) (1) s0) {s1 : Int32} (h_s1 : zr (1) (1) s1) : zok (fX12_does_314 σ x1 x2 x6 s0 s1) (zIM G) := by
  unfold fX12_does_314
  refine zok_bu (s_X12_put hσ (zr_w h_s1 (by decide)) h_s0) (fun σ1 i1 => ?_)
  refine zok_if (fun q2 => ?_) (fun q2 => ?_)
  · have h3 := zc_eql (7) (7) q2 h_x1 (zr_c (lo := 7) (hi := 7) (by decide)) (by decide)
    refine zok_bu (s_X12_xy i1 (zr_w h_x2 (by decide))) (fun σ3 i4 => ?_)
    exact zok_pau i4 (s_X12_does_343 i4.P)
  have h5 := zc_nel (0) (6) q2 h_x1 (zr_c (lo := 7) (hi := 7) (by decide)) (by decide)
  refine zok_ck rfl ?_
  refine zok_bs (i1.wi 0 0 (by decide) (zr_andr (lo := 0) (hi := 255) (zr_c (lo := 255) (hi := 255) (by decide)) (by decide)) (by decide +kernel)) (fun σ2 e7 i6 => ?_)
  exact zok_pau i6 (s_X12_does_343 i6.P)
theorem s_X12_does_299 {G : Nat → Int} {σ : zSt} (hσ : zIM G σ) {x1 : Int32} (h_x1 : zr (0) (7) x1) {x2 : Int32} (h_x2 : zr (0) (255) x2) {x5 : Int32} (h_x5 : zr (0) (1) x5) {x6 : Int32} (h_x6 : zr (-256) (511) x6) {s0 : Int32} (h_s0 : zr (0) (1) s0) {s1 : Int32} (h_s1 : zr (2) (2) s1) : zok (fX12_does_299 σ x1 x2 x5 x6 s0 s1) (zIM G) := by
  unfold fX12_does_299
  refine zok_bu (s_X12_put hσ (zr_w h_s1 (by decide)) h_s0) (fun σ4 i1 => ?_)
  refine zok_if (fun q2 => ?_) (fun q2 => ?_)
  · have h3 := zc_eql (0) (0) q2 h_x5 (zr_c (lo := 0) (hi := 0) (by decide)) (by decide)
    exact (s_X12_does_314 i1 h_x1 h_x2 h_x6 (zr_w (zr_c (lo := 1) (hi := 1) (by decide)) (by decide)) (zr_c (lo := 1) (hi := 1) (by decide)))
  have h4 := zc_nel (1) (1) q2 h_x5 (zr_c (lo := 0) (hi := 0) (by decide)) (by decide)
  exact (s_X12_does_314 i1 h_x1 h_x2 h_x6 (zr_w (zr_c (lo := 0) (hi := 0) (by decide)) (by decide)) (zr_c (lo := 1) (hi := 1) (by decide)))
theorem s_X12_does_294 {G : Nat → Int} {σ : zSt} (hσ : zIM G σ) {x1 : Int32} (h_x1 : zr (0) (7) x1) {x2 : Int32} (h_x2 : zr (0) (255) x2) {x5 : Int32} (h_x5 : zr (0) (1) x5) {x6 : Int32} (h_x6 : zr (-256) (511) x6) {s0 : Int32} (h_s0 : zr (2) (2) s0) : zok (fX12_does_294 σ x1 x2 x5 x6 s0) (zIM G) := by
  unfold fX12_does_294
  exact (s_X12_does_299 hσ h_x1 h_x2 h_x5 h_x6 (zr_w (zr_c (lo := 1) (hi := 1) (by decide)) (by decide)) h_s0)
theorem s_X12_does_266 {G : Nat → Int} {σ : zSt} (hσ : zIM G σ) {x1 : Int32} (h_x1 : zr (0) (7) x1) {x2 : Int32} (h_x2 : zr (0) (255) x2) {x5 : Int32} (h_x5 : zr (0) (1) x5) {x6 : Int32} (h_x6 : zr (-256) (511) x6) {s0 : Int32} (h_s0 : zr (-256) (255) s0) : zok (fX12_does_266 σ x1 x2 x5 x6 s0) (zIM G) := by
  unfold fX12_does_266
  refine zok_bu (s_X12_by hσ (zr_andr (lo := 0) (hi := 255) (zr_c (lo := 255) (hi := 255) (by decide)) (by decide))) (fun σ5 i1 => ?_)
  refine zok_if (fun q2 => ?_) (fun q2 => ?_)
  · have h3 := zc_ltl (-129) q2 h_s0 (zr_c (lo := -128) (hi := -128) (by decide)) (by decide)
    exact (s_X12_does_294 i1 h_x1 h_x2 h_x5 h_x6 (zr_c (lo := 2) (hi := 2) (by decide)))
  have h4 := zc_ler (-128) (z_nlt q2) (zr_c (lo := -128) (hi := -128) (by decide)) h_s0 (by decide)
  refine zok_if (fun q5 => ?_) (fun q5 => ?_)
  · have h6 := zc_lel (127) q5 h4 (zr_c (lo := 127) (hi := 127) (by decide)) (by decide)
    exact (s_X12_does_299 i1 h_x1 h_x2 h_x5 h_x6 (zr_w (zr_c (lo := 0) (hi := 0) (by decide)) (by decide)) (zr_c (lo := 2) (hi := 2) (by decide)))
  have h7 := zc_ltr (128) (z_nle q5) (zr_c (lo := 127) (hi := 127) (by decide)) h4 (by decide)
  exact (s_X12_does_294 i1 h_x1 h_x2 h_x5 h_x6 (zr_c (lo := 2) (hi := 2) (by decide)))
theorem s_X12_does_231 {G : Nat → Int} {σ : zSt} (hσ : zIM G σ) {x1 : Int32} (h_x1 : zr (0) (7) x1) {x2 : Int32} (h_x2 : zr (0) (255) x2) {x3 : Int32} (h_x3 : zr (0) (255) x3) {x4 : Int32} (h_x4 : zr (0) (1) x4) {x5 : Int32} (h_x5 : zr (0) (1) x5) {x6 : Int32} (h_x6 : zr (-256) (511) x6) {s0 : Int32} (h_s0 : zr (0) (1) s0) {s1 : Int32} (h_s1 : zr (0) (0) s1) : zok (fX12_does_231 σ x1 x2 x3 x4 x5 x6 s0 s1) (zIM G) := by
  unfold fX12_does_231
  refine zok_bu (s_X12_put hσ (zr_w h_s1 (by decide)) h_s0) (fun σ6 i1 => ?_)
  refine zok_if (fun q2 => ?_) (fun q2 => ?_)
  · have h3 := zc_eql (0) (0) q2 h_x5 (zr_c (lo := 0) (hi := 0) (by decide)) (by decide)
    refine zok_pi (s_X12_signed i1.P h_x3) (fun v8 h4 => ?_)
    refine zok_pi (s_X12_signed i1.P h_x2) (fun v10 h5 => ?_)
    exact (s_X12_does_266 i1 h_x1 h_x2 (zr_w h3 (by decide)) h_x6 (zr_sub (lo := -256) (hi := 255) (zr_sub (lo := -255) (hi := 255) h4 h5 (by decide)) h_x4 (by decide)))
  have h6 := zc_nel (1) (1) q2 h_x5 (zr_c (lo := 0) (hi := 0) (by decide)) (by decide)
  refine zok_pi (s_X12_signed i1.P h_x3) (fun v12 h7 => ?_)
  refine zok_pi (s_X12_signed i1.P h_x2) (fun v14 h8 => ?_)
  exact (s_X12_does_266 i1 h_x1 h_x2 (zr_w h6 (by decide)) h_x6 (zr_add (lo := -256) (hi := 255) (zr_add (lo := -256) (hi := 254) h7 h8 (by decide)) h_x4 (by decide)))
theorem s_X12_does_226 {G : Nat → Int} {σ : zSt} (hσ : zIM G σ) {x1 : Int32} (h_x1 : zr (0) (7) x1) {x2 : Int32} (h_x2 : zr (0) (255) x2) {x3 : Int32} (h_x3 : zr (0) (255) x3) {x4 : Int32} (h_x4 : zr (0) (1) x4) {x5 : Int32} (h_x5 : zr (0) (1) x5) {x6 : Int32} (h_x6 : zr (-256) (511) x6) {s0 : Int32} (h_s0 : zr (0) (0) s0) : zok (fX12_does_226 σ x1 x2 x3 x4 x5 x6 s0) (zIM G) := by
  unfold fX12_does_226
  exact (s_X12_does_231 hσ h_x1 h_x2 h_x3 h_x4 h_x5 h_x6 (zr_w (zr_c (lo := 1) (hi := 1) (by decide)) (by decide)) h_s0)
theorem s_X12_does_208 {G : Nat → Int} {σ : zSt} (hσ : zIM G σ) {x1 : Int32} (h_x1 : zr (0) (7) x1) {x2 : Int32} (h_x2 : zr (0) (255) x2) {x3 : Int32} (h_x3 : zr (0) (255) x3) {x4 : Int32} (h_x4 : zr (0) (1) x4) {x5 : Int32} (h_x5 : zr (0) (1) x5) {x6 : Int32} (h_x6 : zr (-256) (511) x6) {s0 : Int32} (h_s0 : zr (0) (1) s0) {s1 : Int32} (h_s1 : zr (4) (4) s1) : zok (fX12_does_208 σ x1 x2 x3 x4 x5 x6 s0 s1) (zIM G) := by
  unfold fX12_does_208
  refine zok_bu (s_X12_put hσ (zr_w h_s1 (by decide)) h_s0) (fun σ15 i1 => ?_)
  refine zok_if (fun q2 => ?_) (fun q2 => ?_)
  · have h3 := zc_ltl (-1) q2 h_x6 (zr_c (lo := 0) (hi := 0) (by decide)) (by decide)
    exact (s_X12_does_226 i1 h_x1 h_x2 h_x3 h_x4 h_x5 (zr_w h3 (by decide)) (zr_c (lo := 0) (hi := 0) (by decide)))
  have h4 := zc_ler (0) (z_nlt q2) (zr_c (lo := 0) (hi := 0) (by decide)) h_x6 (by decide)
  refine zok_if (fun q5 => ?_) (fun q5 => ?_)
  · have h6 := zc_lel (255) q5 h4 (zr_c (lo := 255) (hi := 255) (by decide)) (by decide)
    exact (s_X12_does_231 i1 h_x1 h_x2 h_x3 h_x4 h_x5 (zr_w h6 (by decide)) (zr_w (zr_c (lo := 0) (hi := 0) (by decide)) (by decide)) (zr_c (lo := 0) (hi := 0) (by decide)))
  have h7 := zc_ltr (256) (z_nle q5) (zr_c (lo := 255) (hi := 255) (by decide)) h4 (by decide)
  exact (s_X12_does_226 i1 h_x1 h_x2 h_x3 h_x4 h_x5 (zr_w h7 (by decide)) (zr_c (lo := 0) (hi := 0) (by decide)))
theorem s_X12_does_154 {G : Nat → Int} {σ : zSt} (hσ : zIM G σ) {x1 : Int32} (h_x1 : zr (0) (7) x1) {x2 : Int32} (h_x2 : zr (0) (255) x2) {x3 : Int32} (h_x3 : zr (0) (255) x3) {x4 : Int32} (h_x4 : zr (0) (1) x4) {x5 : Int32} (h_x5 : zr (0) (1) x5) {s0 : Int32} (h_s0 : zr (-256) (511) s0) : zok (fX12_does_154 σ x1 x2 x3 x4 x5 s0) (zIM G) := by
  unfold fX12_does_154
  refine zok_if (fun q1 => ?_) (fun q1 => ?_)
  · have h2 := zc_eql (0) (0) q1 h_x5 (zr_c (lo := 0) (hi := 0) (by decide)) (by decide)
    refine zok_if (fun q3 => ?_) (fun q3 => ?_)
    · have h4 := zc_ler (0) q3 (zr_c (lo := 0) (hi := 0) (by decide)) (zr_sub (lo := -16) (hi := 15) (zr_sub (lo := -15) (hi := 15) (zr_andr (lo := 0) (hi := 15) (zr_c (lo := 15) (hi := 15) (by decide)) (by decide)) (zr_andr (lo := 0) (hi := 15) (zr_c (lo := 15) (hi := 15) (by decide)) (by decide)) (by decide)) h_x4 (by decide)) (by decide)
      exact (s_X12_does_208 hσ h_x1 h_x2 h_x3 h_x4 (zr_w h2 (by decide)) h_s0 (zr_w (zr_c (lo := 0) (hi := 0) (by decide)) (by decide)) (zr_c (lo := 4) (hi := 4) (by decide)))
    have h5 := zc_ltl (-1) (z_nle q3) (zr_sub (lo := -16) (hi := 15) (zr_sub (lo := -15) (hi := 15) (zr_andr (lo := 0) (hi := 15) (zr_c (lo := 15) (hi := 15) (by decide)) (by decide)) (zr_andr (lo := 0) (hi := 15) (zr_c (lo := 15) (hi := 15) (by decide)) (by decide)) (by decide)) h_x4 (by decide)) (zr_c (lo := 0) (hi := 0) (by decide)) (by decide)
    exact (s_X12_does_208 hσ h_x1 h_x2 h_x3 h_x4 (zr_w h2 (by decide)) h_s0 (zr_w (zr_c (lo := 1) (hi := 1) (by decide)) (by decide)) (zr_c (lo := 4) (hi := 4) (by decide)))
  have h6 := zc_nel (1) (1) q1 h_x5 (zr_c (lo := 0) (hi := 0) (by decide)) (by decide)
  refine zok_if (fun q7 => ?_) (fun q7 => ?_)
  · have h8 := zc_lel (15) q7 (zr_add (lo := 0) (hi := 31) (zr_add (lo := 0) (hi := 30) (zr_andr (lo := 0) (hi := 15) (zr_c (lo := 15) (hi := 15) (by decide)) (by decide)) (zr_andr (lo := 0) (hi := 15) (zr_c (lo := 15) (hi := 15) (by decide)) (by decide)) (by decide)) h_x4 (by decide)) (zr_c (lo := 15) (hi := 15) (by decide)) (by decide)
    exact (s_X12_does_208 hσ h_x1 h_x2 h_x3 h_x4 (zr_w h6 (by decide)) h_s0 (zr_w (zr_c (lo := 0) (hi := 0) (by decide)) (by decide)) (zr_c (lo := 4) (hi := 4) (by decide)))
  have h9 := zc_ltr (16) (z_nle q7) (zr_c (lo := 15) (hi := 15) (by decide)) (zr_add (lo := 0) (hi := 31) (zr_add (lo := 0) (hi := 30) (zr_andr (lo := 0) (hi := 15) (zr_c (lo := 15) (hi := 15) (by decide)) (by decide)) (zr_andr (lo := 0) (hi := 15) (zr_c (lo := 15) (hi := 15) (by decide)) (by decide)) (by decide)) h_x4 (by decide)) (by decide)
  exact (s_X12_does_208 hσ h_x1 h_x2 h_x3 h_x4 (zr_w h6 (by decide)) h_s0 (zr_w (zr_c (lo := 1) (hi := 1) (by decide)) (by decide)) (zr_c (lo := 4) (hi := 4) (by decide)))
theorem s_X12_does_132 {G : Nat → Int} {σ : zSt} (hσ : zIM G σ) {x1 : Int32} (h_x1 : zr (0) (7) x1) {x2 : Int32} (h_x2 : zr (0) (255) x2) {x3 : Int32} (h_x3 : zr (0) (255) x3) {x4 : Int32} (h_x4 : zr (0) (1) x4) {s0 : Int32} (h_s0 : zr (0) (1) s0) : zok (fX12_does_132 σ x1 x2 x3 x4 s0) (zIM G) := by
  unfold fX12_does_132
  refine zok_if (fun q1 => ?_) (fun q1 => ?_)
  · have h2 := zc_eql (0) (0) q1 h_s0 (zr_c (lo := 0) (hi := 0) (by decide)) (by decide)
    exact (s_X12_does_154 hσ h_x1 h_x2 h_x3 h_x4 (zr_w h2 (by decide)) (zr_w (zr_sub (lo := -256) (hi := 255) (zr_sub (lo := -255) (hi := 255) h_x3 h_x2 (by decide)) h_x4 (by decide)) (by decide)))
  have h3 := zc_nel (1) (1) q1 h_s0 (zr_c (lo := 0) (hi := 0) (by decide)) (by decide)
  exact (s_X12_does_154 hσ h_x1 h_x2 h_x3 h_x4 (zr_w h3 (by decide)) (zr_w (zr_add (lo := 0) (hi := 511) (zr_add (lo := 0) (hi := 510) h_x3 h_x2 (by decide)) h_x4 (by decide)) (by decide)))
theorem s_X12_does_120 {G : Nat → Int} {σ : zSt} (hσ : zIM G σ) {x1 : Int32} (h_x1 : zr (0) (7) x1) {x2 : Int32} (h_x2 : zr (0) (255) x2) {x3 : Int32} (h_x3 : zr (0) (255) x3) {s0 : Int32} (h_s0 : zr (0) (1) s0) : zok (fX12_does_120 σ x1 x2 x3 s0) (zIM G) := by
  unfold fX12_does_120
  refine zok_if (fun q1 => ?_) (fun q1 => ?_)
  · have h2 := zc_ler (2) q1 (zr_c (lo := 2) (hi := 2) (by decide)) h_x1 (by decide)
    exact (s_X12_does_132 hσ (zr_w h2 (by decide)) h_x2 h_x3 h_s0 (zr_w (zr_c (lo := 0) (hi := 0) (by decide)) (by decide)))
  have h3 := zc_ltl (1) (z_nle q1) h_x1 (zr_c (lo := 2) (hi := 2) (by decide)) (by decide)
  exact (s_X12_does_132 hσ (zr_w h3 (by decide)) h_x2 h_x3 h_s0 (zr_w (zr_c (lo := 1) (hi := 1) (by decide)) (by decide)))
theorem s_X12_does_111 {G : Nat → Int} {σ : zSt} (hσ : zIM G σ) {x1 : Int32} (h_x1 : zr (1) (3) x1) {x2 : Int32} (h_x2 : zr (0) (255) x2) {x3 : Int32} (h_x3 : zr (0) (255) x3) : zok (fX12_does_111 σ x1 x2 x3) (zIM G) := by
  unfold fX12_does_111
  refine zok_pi (s_X12_flag hσ.P (zr_w (zr_c (lo := 0) (hi := 0) (by decide)) (by decide))) (fun v17 h1 => ?_)
  exact (s_X12_does_120 hσ (zr_w h_x1 (by decide)) h_x2 h_x3 h1)
theorem s_X12_does_101 {G : Nat → Int} {σ : zSt} (hσ : zIM G σ) {x1 : Int32} (h_x1 : zr (0) (7) x1) {x2 : Int32} (h_x2 : zr (0) (255) x2) {x3 : Int32} (h_x3 : zr (0) (255) x3) : zok (fX12_does_101 σ x1 x2 x3) (zIM G) := by
  unfold fX12_does_101
  refine zok_if (fun q1 => ?_) (fun q1 => ?_)
  · have h2 := zc_eql (1) (1) q1 h_x1 (zr_c (lo := 1) (hi := 1) (by decide)) (by decide)
    exact (s_X12_does_111 hσ (zr_w h2 (by decide)) h_x2 h_x3)
  refine zok_if (fun q3 => ?_) (fun q3 => ?_)
  · have h4 := zc_eql (3) (3) q3 h_x1 (zr_c (lo := 3) (hi := 3) (by decide)) (by decide)
    exact (s_X12_does_111 hσ (zr_w h4 (by decide)) h_x2 h_x3)
  exact (s_X12_does_120 hσ h_x1 h_x2 h_x3 (zr_w (zr_c (lo := 0) (hi := 0) (by decide)) (by decide)))
theorem s_X12_does_71 {G : Nat → Int} {σ : zSt} (hσ : zIM G σ) {s0 : Int32} (h_s0 : zr (0) (1) s0) {s1 : Int32} (h_s1 : zr (4) (4) s1) : zok (fX12_does_71 σ s0 s1) (zIM G) := by
  unfold fX12_does_71
  refine zok_bu (s_X12_put hσ (zr_w h_s1 (by decide)) h_s0) (fun σ18 i1 => ?_)
  refine zok_ck rfl ?_
  refine zok_pi (s_X12_isEven i1.P (rM_11 i1.sg _ (by decide))) (fun v20 h2 => ?_)
  refine zok_bu (s_X12_put i1 (zr_w (zr_c (lo := 2) (hi := 2) (by decide)) (by decide)) h2) (fun σ21 i3 => ?_)
  refine zok_bu (s_X12_put i3 (zr_w (zr_c (lo := 1) (hi := 1) (by decide)) (by decide)) (zr_w (zr_c (lo := 0) (hi := 0) (by decide)) (by decide))) (fun σ22 i4 => ?_)
  refine zok_bu (s_X12_put i4 (zr_w (zr_c (lo := 0) (hi := 0) (by decide)) (by decide)) (zr_w (zr_c (lo := 0) (hi := 0) (by decide)) (by decide))) (fun σ23 i5 => ?_)
  exact zok_some i5
theorem s_X12_does_48 {G : Nat → Int} {σ : zSt} (hσ : zIM G σ) {x1 : Int32} (h_x1 : zr (4) (6) x1) {s0 : Int32} (h_s0 : zr (0) (255) s0) {s1 : Int32} (h_s1 : zr (0) (0) s1) : zok (fX12_does_48 σ x1 s0 s1) (zIM G) := by
  unfold fX12_does_48
  refine zok_ck (zin_ok h_s1 (by decide)) ?_
  refine zok_bs (hσ.wi 0 0 (z_ix h_s1 (by decide)) h_s0 (by decide +kernel)) (fun σ24 e2 i1 => ?_)
  refine zok_ck rfl ?_
  refine zok_bu (s_X12_by i1 (rM_11 i1.sg _ (by decide))) (fun σ25 i3 => ?_)
  refine zok_if (fun q4 => ?_) (fun q4 => ?_)
  · have h5 := zc_eql (4) (4) q4 h_x1 (zr_c (lo := 4) (hi := 4) (by decide)) (by decide)
    exact (s_X12_does_71 i3 (zr_w (zr_c (lo := 1) (hi := 1) (by decide)) (by decide)) (zr_c (lo := 4) (hi := 4) (by decide)))
  have h6 := zc_nel (5) (6) q4 h_x1 (zr_c (lo := 4) (hi := 4) (by decide)) (by decide)
  exact (s_X12_does_71 i3 (zr_w (zr_c (lo := 0) (hi := 0) (by decide)) (by decide)) (zr_c (lo := 4) (hi := 4) (by decide)))
theorem s_X12_does {G : Nat → Int} {σ : zSt} (hσ : zIM G σ) {x1 : Int32} (h_x1 : zr (0) (7) x1) {x2 : Int32} (h_x2 : zr (0) (255) x2) : zok (fX12_does σ x1 x2) (zIM G) := by
  unfold fX12_does
  refine zok_ck rfl ?_
  refine zok_br (rM_11 hσ.sg _ (by decide)) (fun v26 e2 h1 => ?_)
  refine zok_if (fun q3 => ?_) (fun q3 => ?_)
  · have h4 := zc_ltl (3) q3 h_x1 (zr_c (lo := 4) (hi := 4) (by decide)) (by decide)
    exact (s_X12_does_101 hσ (zr_w h4 (by decide)) h_x2 h1)
  have h5 := zc_ler (4) (z_nlt q3) (zr_c (lo := 4) (hi := 4) (by decide)) h_x1 (by decide)
  refine zok_if (fun q6 => ?_) (fun q6 => ?_)
  · have h7 := zc_ler (7) q6 (zr_c (lo := 7) (hi := 7) (by decide)) h5 (by decide)
    exact (s_X12_does_101 hσ (zr_w h7 (by decide)) h_x2 h1)
  have h8 := zc_ltl (6) (z_nle q6) h5 (zr_c (lo := 7) (hi := 7) (by decide)) (by decide)
  refine zok_if (fun q9 => ?_) (fun q9 => ?_)
  · have h10 := zc_eql (4) (4) q9 h8 (zr_c (lo := 4) (hi := 4) (by decide)) (by decide)
    exact (s_X12_does_48 hσ (zr_w h10 (by decide)) (zr_andr (lo := 0) (hi := 255) h_x2 (by decide)) (zr_c (lo := 0) (hi := 0) (by decide)))
  have h11 := zc_nel (5) (6) q9 h8 (zr_c (lo := 4) (hi := 4) (by decide)) (by decide)
  refine zok_if (fun q12 => ?_) (fun q12 => ?_)
  · have h13 := zc_eql (5) (5) q12 h11 (zr_c (lo := 5) (hi := 5) (by decide)) (by decide)
    exact (s_X12_does_48 hσ (zr_w h13 (by decide)) (zr_xor (lo := 0) (hi := 255) 8 h1 h_x2 (by decide)) (zr_c (lo := 0) (hi := 0) (by decide)))
  have h14 := zc_nel (6) (6) q12 h11 (zr_c (lo := 5) (hi := 5) (by decide)) (by decide)
  exact (s_X12_does_48 hσ (zr_w h14 (by decide)) (zr_or (lo := 0) (hi := 255) 8 h1 h_x2 (by decide)) (zr_c (lo := 0) (hi := 0) (by decide)))
theorem s_X12_blocks_595 {σ : zSt} (hσ : zPM σ) : zok (fX12_blocks_595 σ ) (zPi σ (fun v : Int32 => zr (16) (21) v)) := by
  unfold fX12_blocks_595
  exact zok_spi (zr_w (zr_c (lo := 16) (hi := 16) (by decide)) (by decide))
theorem s_X12_blocks_641 {σ : zSt} (hσ : zPM σ) : zok (fX12_blocks_641 σ ) (zPi σ (fun v : Int32 => zr (16) (21) v)) := by
  unfold fX12_blocks_641
  exact zok_spi (zr_w (zr_c (lo := 21) (hi := 21) (by decide)) (by decide))
theorem s_X12_blocks_584 {G : Nat → Int} {σ : zSt} (hσ : zIM G σ) {x1 : Int32} (h_x1 : zr (4) (7) x1) {x2 : Int32} (h_x2 : zr (0) (3) x2) {x5 : Int32} (h_x5 : zr (0) (1) x5) : zok (fX12_blocks_584 σ x1 x2 x5) (zAi (zIM G) (fun v : Int32 => zr (16) (21) v)) := by
  unfold fX12_blocks_584
  refine zok_if (fun q1 => ?_) (fun q1 => ?_)
  · have h2 := zc_ltl (5) q1 h_x1 (zr_c (lo := 6) (hi := 6) (by decide)) (by decide)
    exact zok_pai hσ (s_X12_blocks_595 hσ.P)
  have h3 := zc_ler (6) (z_nlt q1) (zr_c (lo := 6) (hi := 6) (by decide)) h_x1 (by decide)
  refine zok_if (fun q4 => ?_) (fun q4 => ?_)
  · have h5 := zc_eql (0) (0) q4 h_x5 (zr_c (lo := 0) (hi := 0) (by decide)) (by decide)
    exact zok_pai hσ (s_X12_blocks_595 hσ.P)
  have h6 := zc_nel (1) (1) q4 h_x5 (zr_c (lo := 0) (hi := 0) (by decide)) (by decide)
  refine zok_ck rfl ?_
  refine zok_ck rfl ?_
  refine zok_bs (hσ.wi 19 19 (by decide) (zr_andr (lo := 0) (hi := 65535) (zr_c (lo := 65535) (hi := 65535) (by decide)) (by decide)) (by decide +kernel)) (fun σ1 e8 i7 => ?_)
  refine zok_if (fun q9 => ?_) (fun q9 => ?_)
  · have h10 := zc_ler (2) q9 (zr_c (lo := 2) (hi := 2) (by decide)) h_x2 (by decide)
    exact zok_pai i7 (s_X12_blocks_641 i7.P)
  have h11 := zc_ltl (1) (z_nle q9) h_x2 (zr_c (lo := 2) (hi := 2) (by decide)) (by decide)
  refine zok_ck rfl ?_
  refine zok_ck rfl ?_
  refine zok_bs (i7.wi 20 20 (by decide) (zr_andr (lo := 0) (hi := 65535) (zr_c (lo := 65535) (hi := 65535) (by decide)) (by decide)) (by decide +kernel)) (fun σ2 e13 i12 => ?_)
  exact zok_pai i12 (s_X12_blocks_641 i12.P)
theorem s_X12_blocks_297 {G : Nat → Int} {σ : zSt} (hσ : zIM G σ) {x1 : Int32} (h_x1 : zr (4) (7) x1) {x2 : Int32} (h_x2 : zr (0) (1) x2) {s0 : Int32} (h_s0 : zr (0) (1) s0) : zok (fX12_blocks_297 σ x1 x2 s0) (zAi (zIM G) (fun v : Int32 => zr (16) (21) v)) := by
  unfold fX12_blocks_297
  exact (s_X12_blocks_584 hσ h_x1 (zr_w h_x2 (by decide)) h_s0)
theorem s_X12_blocks_296 {G : Nat → Int} {σ : zSt} (hσ : zIM G σ) {x1 : Int32} (h_x1 : zr (4) (7) x1) {x2 : Int32} (h_x2 : zr (0) (1) x2) : zok (fX12_blocks_296 σ x1 x2) (zAi (zIM G) (fun v : Int32 => zr (16) (21) v)) := by
  unfold fX12_blocks_296
  exact (s_X12_blocks_297 hσ h_x1 h_x2 (zr_w (zr_c (lo := 0) (hi := 0) (by decide)) (by decide)))
theorem s_X12_blocks_292 {G : Nat → Int} {σ : zSt} (hσ : zIM G σ) {x1 : Int32} (h_x1 : zr (4) (7) x1) {x2 : Int32} (h_x2 : zr (0) (1) x2) : zok (fX12_blocks_292 σ x1 x2) (zAi (zIM G) (fun v : Int32 => zr (16) (21) v)) := by
  unfold fX12_blocks_292
  exact (s_X12_blocks_297 hσ h_x1 h_x2 (zr_w (zr_c (lo := 1) (hi := 1) (by decide)) (by decide)))
theorem s_X12_blocks_267 {G : Nat → Int} {σ : zSt} (hσ : zIM G σ) {x1 : Int32} (h_x1 : zr (4) (7) x1) {x2 : Int32} (h_x2 : zr (0) (1) x2) {s0 : Int32} (h_s0 : zr (0) (1) s0) {s1 : Int32} (h_s1 : zr (2) (2) s1) : zok (fX12_blocks_267 σ x1 x2 s0 s1) (zAi (zIM G) (fun v : Int32 => zr (16) (21) v)) := by
  unfold fX12_blocks_267
  refine zok_bu (s_X12_put hσ (zr_w h_s1 (by decide)) h_s0) (fun σ3 i1 => ?_)
  refine zok_pi (s_X12_flag i1.P (zr_w (zr_c (lo := 2) (hi := 2) (by decide)) (by decide))) (fun v5 h2 => ?_)
  refine zok_if (fun q3 => ?_) (fun q3 => ?_)
  · have h4 := zc_eql (1) (1) q3 h2 (zr_c (lo := 1) (hi := 1) (by decide)) (by decide)
    refine zok_if (fun q5 => ?_) (fun q5 => ?_)
    · have h6 := zc_eql (0) (0) q5 h_x2 (zr_c (lo := 0) (hi := 0) (by decide)) (by decide)
      exact (s_X12_blocks_292 i1 h_x1 (zr_w h6 (by decide)))
    have h7 := zc_nel (1) (1) q5 h_x2 (zr_c (lo := 0) (hi := 0) (by decide)) (by decide)
    refine zok_pi (s_X12_flag i1.P (zr_w (zr_c (lo := 6) (hi := 6) (by decide)) (by decide))) (fun v7 h8 => ?_)
    refine zok_if (fun q9 => ?_) (fun q9 => ?_)
    · have h10 := zc_eql (0) (0) q9 h8 (zr_c (lo := 0) (hi := 0) (by decide)) (by decide)
      exact (s_X12_blocks_292 i1 h_x1 (zr_w h7 (by decide)))
    have h11 := zc_nel (1) (1) q9 h8 (zr_c (lo := 0) (hi := 0) (by decide)) (by decide)
    exact (s_X12_blocks_296 i1 h_x1 (zr_w h7 (by decide)))
  have h12 := zc_nel (0) (0) q3 h2 (zr_c (lo := 1) (hi := 1) (by decide)) (by decide)
  exact (s_X12_blocks_296 i1 h_x1 h_x2)
theorem s_X12_blocks_249 {G : Nat → Int} {σ : zSt} (hσ : zIM G σ) {x1 : Int32} (h_x1 : zr (4) (7) x1) {x2 : Int32} (h_x2 : zr (0) (1) x2) {s0 : Int32} (h_s0 : zr (0) (1) s0) {s1 : Int32} (h_s1 : zr (1) (1) s1) : zok (fX12_blocks_249 σ x1 x2 s0 s1) (zAi (zIM G) (fun v : Int32 => zr (16) (21) v)) := by
  unfold fX12_blocks_249
  refine zok_bu (s_X12_put hσ (zr_w h_s1 (by decide)) h_s0) (fun σ8 i1 => ?_)
  refine zok_pi (s_X12_pair i1.P (zr_w (zr_c (lo := 2) (hi := 2) (by decide)) (by decide))) (fun v10 h2 => ?_)
  refine zok_if (fun q3 => ?_) (fun q3 => ?_)
  · have h4 := zc_eql (0) (0) q3 h2 (zr_c (lo := 0) (hi := 0) (by decide)) (by decide)
    exact (s_X12_blocks_267 i1 h_x1 h_x2 (zr_w (zr_c (lo := 0) (hi := 0) (by decide)) (by decide)) (zr_c (lo := 2) (hi := 2) (by decide)))
  have h5 := zc_nel (1) (65535) q3 h2 (zr_c (lo := 0) (hi := 0) (by decide)) (by decide)
  exact (s_X12_blocks_267 i1 h_x1 h_x2 (zr_w (zr_c (lo := 1) (hi := 1) (by decide)) (by decide)) (zr_c (lo := 2) (hi := 2) (by decide)))
theorem s_X12_blocks_234 {G : Nat → Int} {σ : zSt} (hσ : zIM G σ) {x1 : Int32} (h_x1 : zr (4) (7) x1) {x2 : Int32} (h_x2 : zr (0) (1) x2) {s0 : Int32} (h_s0 : zr (0) (1) s0) {s1 : Int32} (h_s1 : zr (3) (3) s1) : zok (fX12_blocks_234 σ x1 x2 s0 s1) (zAi (zIM G) (fun v : Int32 => zr (16) (21) v)) := by
  unfold fX12_blocks_234
  refine zok_bu (s_X12_put hσ (zr_w h_s1 (by decide)) h_s0) (fun σ11 i1 => ?_)
  refine zok_if (fun q2 => ?_) (fun q2 => ?_)
  · have h3 := zc_eql (1) (1) q2 h_x2 (zr_c (lo := 1) (hi := 1) (by decide)) (by decide)
    exact (s_X12_blocks_249 i1 h_x1 (zr_w h3 (by decide)) (zr_w (zr_c (lo := 1) (hi := 1) (by decide)) (by decide)) (zr_c (lo := 1) (hi := 1) (by decide)))
  have h4 := zc_nel (0) (0) q2 h_x2 (zr_c (lo := 1) (hi := 1) (by decide)) (by decide)
  exact (s_X12_blocks_249 i1 h_x1 (zr_w h4 (by decide)) (zr_w (zr_c (lo := 0) (hi := 0) (by decide)) (by decide)) (zr_c (lo := 1) (hi := 1) (by decide)))
theorem s_X12_blocks_216 {G : Nat → Int} {σ : zSt} (hσ : zIM G σ) {x1 : Int32} (h_x1 : zr (4) (7) x1) {x2 : Int32} (h_x2 : zr (0) (1) x2) {x6 : Int32} (h_x6 : zr (-256) (510) x6) {s0 : Int32} (h_s0 : zr (0) (1) s0) {s1 : Int32} (h_s1 : zr (5) (5) s1) : zok (fX12_blocks_216 σ x1 x2 x6 s0 s1) (zAi (zIM G) (fun v : Int32 => zr (16) (21) v)) := by
  unfold fX12_blocks_216
  refine zok_bu (s_X12_put hσ (zr_w h_s1 (by decide)) h_s0) (fun σ12 i1 => ?_)
  refine zok_if (fun q2 => ?_) (fun q2 => ?_)
  · have h3 := zc_eql (0) (0) q2 (zr_andr (lo := 0) (hi := 8) (zr_c (lo := 8) (hi := 8) (by decide)) (by decide)) (zr_c (lo := 0) (hi := 0) (by decide)) (by decide)
    exact (s_X12_blocks_234 i1 h_x1 h_x2 (zr_w (zr_c (lo := 0) (hi := 0) (by decide)) (by decide)) (zr_c (lo := 3) (hi := 3) (by decide)))
  have h4 := zc_nel (1) (8) q2 (zr_andr (lo := 0) (hi := 8) (zr_c (lo := 8) (hi := 8) (by decide)) (by decide)) (zr_c (lo := 0) (hi := 0) (by decide)) (by decide)
  exact (s_X12_blocks_234 i1 h_x1 h_x2 (zr_w (zr_c (lo := 1) (hi := 1) (by decide)) (by decide)) (zr_c (lo := 3) (hi := 3) (by decide)))
theorem s_X12_blocks_202 {G : Nat → Int} {σ : zSt} (hσ : zIM G σ) {x1 : Int32} (h_x1 : zr (4) (7) x1) {x2 : Int32} (h_x2 : zr (0) (1) x2) {x6 : Int32} (h_x6 : zr (-256) (510) x6) : zok (fX12_blocks_202 σ x1 x2 x6) (zAi (zIM G) (fun v : Int32 => zr (16) (21) v)) := by
  unfold fX12_blocks_202
  refine zok_if (fun q1 => ?_) (fun q1 => ?_)
  · have h2 := zc_eql (0) (0) q1 (zr_andr (lo := 0) (hi := 2) (zr_c (lo := 2) (hi := 2) (by decide)) (by decide)) (zr_c (lo := 0) (hi := 0) (by decide)) (by decide)
    exact (s_X12_blocks_216 hσ h_x1 h_x2 h_x6 (zr_w (zr_c (lo := 0) (hi := 0) (by decide)) (by decide)) (zr_c (lo := 5) (hi := 5) (by decide)))
  have h3 := zc_nel (1) (2) q1 (zr_andr (lo := 0) (hi := 2) (zr_c (lo := 2) (hi := 2) (by decide)) (by decide)) (zr_c (lo := 0) (hi := 0) (by decide)) (by decide)
  exact (s_X12_blocks_216 hσ h_x1 h_x2 h_x6 (zr_w (zr_c (lo := 1) (hi := 1) (by decide)) (by decide)) (zr_c (lo := 5) (hi := 5) (by decide)))
theorem s_X12_blocks_190 {G : Nat → Int} {σ : zSt} (hσ : zIM G σ) {x1 : Int32} (h_x1 : zr (4) (7) x1) {x2 : Int32} (h_x2 : zr (1) (1) x2) {s0 : Int32} (h_s0 : zr (0) (1) s0) {s1 : Int32} (h_s1 : zr (-255) (510) s1) : zok (fX12_blocks_190 σ x1 x2 s0 s1) (zAi (zIM G) (fun v : Int32 => zr (16) (21) v)) := by
  unfold fX12_blocks_190
  refine zok_br (zr_sub (lo := -256) (hi := 510) h_s1 h_s0 (by decide)) (fun v13 e2 h1 => ?_)
  exact (s_X12_blocks_202 hσ h_x1 (zr_w h_x2 (by decide)) h1)
theorem s_X12_blocks_159 {G : Nat → Int} {σ : zSt} (hσ : zIM G σ) {x1 : Int32} (h_x1 : zr (4) (7) x1) {x2 : Int32} (h_x2 : zr (1) (1) x2) {x6 : Int32} (h_x6 : zr (-255) (510) x6) {s0 : Int32} (h_s0 : zr (0) (1) s0) : zok (fX12_blocks_159 σ x1 x2 x6 s0) (zAi (zIM G) (fun v : Int32 => zr (16) (21) v)) := by
  unfold fX12_blocks_159
  refine zok_bu (s_X12_by hσ (zr_andr (lo := 0) (hi := 255) (zr_c (lo := 255) (hi := 255) (by decide)) (by decide))) (fun σ14 i1 => ?_)
  refine zok_bu (s_X12_put i1 (zr_w (zr_c (lo := 4) (hi := 4) (by decide)) (by decide)) h_s0) (fun σ15 i2 => ?_)
  refine zok_if (fun q3 => ?_) (fun q3 => ?_)
  · have h4 := zc_eql (0) (0) q3 h_s0 (zr_c (lo := 0) (hi := 0) (by decide)) (by decide)
    exact (s_X12_blocks_190 i2 h_x1 h_x2 (zr_w (zr_c (lo := 0) (hi := 0) (by decide)) (by decide)) h_x6)
  have h5 := zc_nel (1) (1) q3 h_s0 (zr_c (lo := 0) (hi := 0) (by decide)) (by decide)
  exact (s_X12_blocks_190 i2 h_x1 h_x2 (zr_w (zr_c (lo := 1) (hi := 1) (by decide)) (by decide)) h_x6)
theorem s_X12_blocks_111 {G : Nat → Int} {σ : zSt} (hσ : zIM G σ) {x1 : Int32} (h_x1 : zr (4) (7) x1) {x2 : Int32} (h_x2 : zr (0) (1) x2) {x3 : Int32} (h_x3 : zr (-1) (1) x3) {x4 : Int32} (h_x4 : zr (0) (255) x4) {s0 : Int32} (h_s0 : zr (-255) (510) s0) : zok (fX12_blocks_111 σ x1 x2 x3 x4 s0) (zAi (zIM G) (fun v : Int32 => zr (16) (21) v)) := by
  unfold fX12_blocks_111
  refine zok_if (fun q1 => ?_) (fun q1 => ?_)
  · have h2 := zc_eql (1) (1) q1 h_x2 (zr_c (lo := 1) (hi := 1) (by decide)) (by decide)
    refine zok_ck rfl ?_
    refine zok_ck rfl ?_
    refine zok_bs (hσ.wi 20 20 (by decide) (zr_andr (lo := 0) (hi := 65535) (zr_c (lo := 65535) (hi := 65535) (by decide)) (by decide)) (by decide +kernel)) (fun σ17 e4 i3 => ?_)
    refine zok_ck rfl ?_
    refine zok_if (fun q5 => ?_) (fun q5 => ?_)
    · exact (s_X12_blocks_159 i3 h_x1 h2 h_s0 (zr_w (zr_c (lo := 0) (hi := 0) (by decide)) (by decide)))
    have h6 := zc_ltl (14) (z_nle q5) (zr_andr (lo := 0) (hi := 15) (zr_c (lo := 15) (hi := 15) (by decide)) (by decide)) (zr_andr (lo := 0) (hi := 15) (zr_c (lo := 15) (hi := 15) (by decide)) (by decide)) (by decide)
    have h7 := zc_ltr (1) (z_nle q5) (zr_andr (lo := 0) (hi := 15) (zr_c (lo := 15) (hi := 15) (by decide)) (by decide)) (zr_andr (lo := 0) (hi := 15) (zr_c (lo := 15) (hi := 15) (by decide)) (by decide)) (by decide)
    exact (s_X12_blocks_159 i3 h_x1 h2 h_s0 (zr_w (zr_c (lo := 1) (hi := 1) (by decide)) (by decide)))
  have h8 := zc_nel (0) (0) q1 h_x2 (zr_c (lo := 1) (hi := 1) (by decide)) (by decide)
  refine zok_bu (s_X12_put hσ (zr_w (zr_c (lo := 4) (hi := 4) (by decide)) (by decide)) (zr_w (zr_c (lo := 0) (hi := 0) (by decide)) (by decide))) (fun σ16 i9 => ?_)
  exact (s_X12_blocks_202 i9 h_x1 (zr_w h8 (by decide)) (zr_w h_s0 (by decide)))
theorem s_X12_blocks_74 {G : Nat → Int} {σ : zSt} (hσ : zIM G σ) {x1 : Int32} (h_x1 : zr (4) (7) x1) {x2 : Int32} (h_x2 : zr (0) (1) x2) {x3 : Int32} (h_x3 : zr (-1) (1) x3) {x4 : Int32} (h_x4 : zr (0) (255) x4) : zok (fX12_blocks_74 σ x1 x2 x3 x4) (zAi (zIM G) (fun v : Int32 => zr (16) (21) v)) := by
  unfold fX12_blocks_74
  refine zok_pi (s_X12_pair hσ.P (zr_w (zr_c (lo := 2) (hi := 2) (by decide)) (by decide))) (fun v19 h1 => ?_)
  refine zok_bu (s_X12_pairTo hσ (zr_w (zr_c (lo := 2) (hi := 2) (by decide)) (by decide)) (zr_w (zr_sub (lo := -1) (hi := 65534) h1 (zr_c (lo := 1) (hi := 1) (by decide)) (by decide)) (by decide))) (fun σ20 i2 => ?_)
  refine zok_if (fun q3 => ?_) (fun q3 => ?_)
  · have h4 := zc_eql (0) (0) q3 h_x2 (zr_c (lo := 0) (hi := 0) (by decide)) (by decide)
    refine zok_ck rfl ?_
    exact (s_X12_blocks_111 i2 h_x1 (zr_w h4 (by decide)) h_x3 h_x4 (zr_w (zr_add (lo := 0) (hi := 510) (rM_11 i2.sg _ (by decide)) h_x4 (by decide)) (by decide)))
  have h5 := zc_nel (1) (1) q3 h_x2 (zr_c (lo := 0) (hi := 0) (by decide)) (by decide)
  refine zok_ck rfl ?_
  exact (s_X12_blocks_111 i2 h_x1 (zr_w h5 (by decide)) h_x3 h_x4 (zr_w (zr_sub (lo := -255) (hi := 255) (rM_11 i2.sg _ (by decide)) h_x4 (by decide)) (by decide)))
theorem s_X12_blocks_44 {G : Nat → Int} {σ : zSt} (hσ : zIM G σ) {x1 : Int32} (h_x1 : zr (4) (7) x1) {x2 : Int32} (h_x2 : zr (0) (1) x2) {x3 : Int32} (h_x3 : zr (-1) (1) x3) {x4 : Int32} (h_x4 : zr (0) (255) x4) : zok (fX12_blocks_44 σ x1 x2 x3 x4) (zAi (zIM G) (fun v : Int32 => zr (16) (21) v)) := by
  unfold fX12_blocks_44
  refine zok_pi (s_X12_pair hσ.P (zr_w (zr_c (lo := 6) (hi := 6) (by decide)) (by decide))) (fun v22 h1 => ?_)
  refine zok_bu (s_X12_pairTo hσ (zr_w (zr_c (lo := 6) (hi := 6) (by decide)) (by decide)) (zr_w (zr_add (lo := -1) (hi := 65536) h1 h_x3 (by decide)) (by decide))) (fun σ23 i2 => ?_)
  refine zok_if (fun q3 => ?_) (fun q3 => ?_)
  · have h4 := zc_eql (0) (0) q3 h_x2 (zr_c (lo := 0) (hi := 0) (by decide)) (by decide)
    refine zok_pi (s_X12_pair i2.P (zr_w (zr_c (lo := 4) (hi := 4) (by decide)) (by decide))) (fun v25 h5 => ?_)
    refine zok_bu (s_X12_pairTo i2 (zr_w (zr_c (lo := 4) (hi := 4) (by decide)) (by decide)) (zr_w (zr_add (lo := -1) (hi := 65536) h5 h_x3 (by decide)) (by decide))) (fun σ26 i6 => ?_)
    exact (s_X12_blocks_74 i6 h_x1 (zr_w h4 (by decide)) h_x3 h_x4)
  have h7 := zc_nel (1) (1) q3 h_x2 (zr_c (lo := 0) (hi := 0) (by decide)) (by decide)
  exact (s_X12_blocks_74 i2 h_x1 (zr_w h7 (by decide)) h_x3 h_x4)
theorem s_X12_blocks_582 {G : Nat → Int} {σ : zSt} (hσ : zIM G σ) {x1 : Int32} (h_x1 : zr (4) (7) x1) {x2 : Int32} (h_x2 : zr (2) (3) x2) {s0 : Int32} (h_s0 : zr (0) (1) s0) : zok (fX12_blocks_582 σ x1 x2 s0) (zAi (zIM G) (fun v : Int32 => zr (16) (21) v)) := by
  unfold fX12_blocks_582
  exact (s_X12_blocks_584 hσ h_x1 (zr_w h_x2 (by decide)) h_s0)
theorem s_X12_blocks_545 {G : Nat → Int} {σ : zSt} (hσ : zIM G σ) {x1 : Int32} (h_x1 : zr (4) (7) x1) {x2 : Int32} (h_x2 : zr (2) (3) x2) {x6 : Int32} (h_x6 : zr (0) (510) x6) {s0 : Int32} (h_s0 : zr (0) (1) s0) {s1 : Int32} (h_s1 : zr (0) (0) s1) : zok (fX12_blocks_545 σ x1 x2 x6 s0 s1) (zAi (zIM G) (fun v : Int32 => zr (16) (21) v)) := by
  unfold fX12_blocks_545
  refine zok_bu (s_X12_put hσ (zr_w h_s1 (by decide)) h_s0) (fun σ27 i1 => ?_)
  refine zok_ck rfl ?_
  refine zok_pi (s_X12_isEven i1.P (zr_xor (lo := 0) (hi := 255) 8 (zr_andr (lo := 0) (hi := 7) (zr_c (lo := 7) (hi := 7) (by decide)) (by decide)) (rM_11 i1.sg _ (by decide)) (by decide))) (fun v29 h2 => ?_)
  refine zok_bu (s_X12_put i1 (zr_w (zr_c (lo := 2) (hi := 2) (by decide)) (by decide)) h2) (fun σ30 i3 => ?_)
  refine zok_ck rfl ?_
  refine zok_if (fun q4 => ?_) (fun q4 => ?_)
  · have h5 := zc_eql (0) (0) q4 (rM_11 i3.sg _ (by decide)) (zr_c (lo := 0) (hi := 0) (by decide)) (by decide)
    exact (s_X12_blocks_582 i3 h_x1 h_x2 (zr_w (zr_c (lo := 0) (hi := 0) (by decide)) (by decide)))
  have h6 := zc_nel (1) (255) q4 (rM_11 i3.sg _ (by decide)) (zr_c (lo := 0) (hi := 0) (by decide)) (by decide)
  exact (s_X12_blocks_582 i3 h_x1 h_x2 (zr_w (zr_c (lo := 1) (hi := 1) (by decide)) (by decide)))
theorem s_X12_blocks_527 {G : Nat → Int} {σ : zSt} (hσ : zIM G σ) {x1 : Int32} (h_x1 : zr (4) (7) x1) {x2 : Int32} (h_x2 : zr (2) (3) x2) {x6 : Int32} (h_x6 : zr (0) (510) x6) {s0 : Int32} (h_s0 : zr (0) (1) s0) {s1 : Int32} (h_s1 : zr (4) (4) s1) : zok (fX12_blocks_527 σ x1 x2 x6 s0 s1) (zAi (zIM G) (fun v : Int32 => zr (16) (21) v)) := by
  unfold fX12_blocks_527
  refine zok_bu (s_X12_put hσ (zr_w h_s1 (by decide)) h_s0) (fun σ31 i1 => ?_)
  refine zok_if (fun q2 => ?_) (fun q2 => ?_)
  · have h3 := zc_lel (255) q2 h_x6 (zr_c (lo := 255) (hi := 255) (by decide)) (by decide)
    exact (s_X12_blocks_545 i1 h_x1 h_x2 (zr_w h3 (by decide)) (zr_w (zr_c (lo := 0) (hi := 0) (by decide)) (by decide)) (zr_c (lo := 0) (hi := 0) (by decide)))
  have h4 := zc_ltr (256) (z_nle q2) (zr_c (lo := 255) (hi := 255) (by decide)) h_x6 (by decide)
  exact (s_X12_blocks_545 i1 h_x1 h_x2 (zr_w h4 (by decide)) (zr_w (zr_c (lo := 1) (hi := 1) (by decide)) (by decide)) (zr_c (lo := 0) (hi := 0) (by decide)))
theorem s_X12_blocks_509 {G : Nat → Int} {σ : zSt} (hσ : zIM G σ) {x1 : Int32} (h_x1 : zr (4) (7) x1) {x2 : Int32} (h_x2 : zr (2) (3) x2) {x6 : Int32} (h_x6 : zr (0) (510) x6) {s0 : Int32} (h_s0 : zr (0) (1) s0) {s1 : Int32} (h_s1 : zr (1) (1) s1) : zok (fX12_blocks_509 σ x1 x2 x6 s0 s1) (zAi (zIM G) (fun v : Int32 => zr (16) (21) v)) := by
  unfold fX12_blocks_509
  refine zok_bu (s_X12_put hσ (zr_w h_s1 (by decide)) h_s0) (fun σ32 i1 => ?_)
  refine zok_if (fun q2 => ?_) (fun q2 => ?_)
  · have h3 := zc_lel (255) q2 h_x6 (zr_c (lo := 255) (hi := 255) (by decide)) (by decide)
    exact (s_X12_blocks_527 i1 h_x1 h_x2 (zr_w h3 (by decide)) (zr_w (zr_c (lo := 0) (hi := 0) (by decide)) (by decide)) (zr_c (lo := 4) (hi := 4) (by decide)))
  have h4 := zc_ltr (256) (z_nle q2) (zr_c (lo := 255) (hi := 255) (by decide)) h_x6 (by decide)
  exact (s_X12_blocks_527 i1 h_x1 h_x2 (zr_w h4 (by decide)) (zr_w (zr_c (lo := 1) (hi := 1) (by decide)) (by decide)) (zr_c (lo := 4) (hi := 4) (by decide)))
theorem s_X12_blocks_485 {G : Nat → Int} {σ : zSt} (hσ : zIM G σ) {x1 : Int32} (h_x1 : zr (4) (7) x1) {x2 : Int32} (h_x2 : zr (2) (3) x2) {x4 : Int32} (h_x4 : zr (0) (255) x4) {x6 : Int32} (h_x6 : zr (0) (510) x6) : zok (fX12_blocks_485 σ x1 x2 x4 x6) (zAi (zIM G) (fun v : Int32 => zr (16) (21) v)) := by
  unfold fX12_blocks_485
  refine zok_ck rfl ?_
  refine zok_bu (s_X12_by hσ (rM_11 hσ.sg _ (by decide))) (fun σ33 i1 => ?_)
  refine zok_if (fun q2 => ?_) (fun q2 => ?_)
  · have h3 := zc_lel (127) q2 h_x4 (zr_c (lo := 127) (hi := 127) (by decide)) (by decide)
    exact (s_X12_blocks_509 i1 h_x1 h_x2 h_x6 (zr_w (zr_c (lo := 0) (hi := 0) (by decide)) (by decide)) (zr_c (lo := 1) (hi := 1) (by decide)))
  have h4 := zc_ltr (128) (z_nle q2) (zr_c (lo := 127) (hi := 127) (by decide)) h_x4 (by decide)
  exact (s_X12_blocks_509 i1 h_x1 h_x2 h_x6 (zr_w (zr_c (lo := 1) (hi := 1) (by decide)) (by decide)) (zr_c (lo := 1) (hi := 1) (by decide)))
theorem s_X12_blocks_11 {G : Nat → Int} {σ : zSt} (hσ : zIM G σ) {x1 : Int32} (h_x1 : zr (4) (7) x1) {x2 : Int32} (h_x2 : zr (0) (3) x2) {s0 : Int32} (h_s0 : zr (-1) (1) s0) : zok (fX12_blocks_11 σ x1 x2 s0) (zAi (zIM G) (fun v : Int32 => zr (16) (21) v)) := by
  unfold fX12_blocks_11
  refine zok_if (fun q1 => ?_) (fun q1 => ?_)
  · have h2 := zc_ler (2) q1 (zr_c (lo := 2) (hi := 2) (by decide)) h_x2 (by decide)
    refine zok_if (fun q3 => ?_) (fun q3 => ?_)
    · have h4 := zc_eql (2) (2) q3 h2 (zr_c (lo := 2) (hi := 2) (by decide)) (by decide)
      refine zok_pi (s_X12_pair hσ.P (zr_w (zr_c (lo := 2) (hi := 2) (by decide)) (by decide))) (fun v48 h5 => ?_)
      refine zok_ck rfl ?_
      refine zok_bs (hσ.wi 20 20 (by decide) (zr_andr (lo := 0) (hi := 65535) (zr_c (lo := 65535) (hi := 65535) (by decide)) (by decide)) (by decide +kernel)) (fun σ49 e7 i6 => ?_)
      refine zok_ck rfl ?_
      refine zok_ai (s_X12_port i6 (rM_11 i6.sg _ (by decide))) (fun σ50 v51 i8 h9 => ?_)
      refine zok_ck rfl ?_
      refine zok_ck rfl ?_
      refine zok_bs (i8.wi 2 2 (by decide) (zr_andr (lo := 0) (hi := 255) (zr_c (lo := 255) (hi := 255) (by decide)) (by decide)) (by decide +kernel)) (fun σ52 e11 i10 => ?_)
      refine zok_pi (s_X12_pair i10.P (zr_w (zr_c (lo := 6) (hi := 6) (by decide)) (by decide))) (fun v54 h12 => ?_)
      refine zok_bu (s_X12_write i10) (fun σ55 i13 => ?_)
      refine zok_pi (s_X12_pair i13.P (zr_w (zr_c (lo := 6) (hi := 6) (by decide)) (by decide))) (fun v57 h14 => ?_)
      refine zok_bu (s_X12_pairTo i13 (zr_w (zr_c (lo := 6) (hi := 6) (by decide)) (by decide)) (zr_w (zr_add (lo := -1) (hi := 65536) h14 h_s0 (by decide)) (by decide))) (fun σ58 i15 => ?_)
      refine zok_ck rfl ?_
      refine zok_br (zr_add (lo := 0) (hi := 510) h9 (zr_andr (lo := 0) (hi := 255) (zr_c (lo := 255) (hi := 255) (by decide)) (by decide)) (by decide)) (fun v59 e17 h16 => ?_)
      exact (s_X12_blocks_485 i15 h_x1 (zr_w h4 (by decide)) h9 h16)
    have h18 := zc_nel (3) (3) q3 h2 (zr_c (lo := 2) (hi := 2) (by decide)) (by decide)
    refine zok_pi (s_X12_pair hσ.P (zr_w (zr_c (lo := 6) (hi := 6) (by decide)) (by decide))) (fun v35 h19 => ?_)
    refine zok_pi (s_X12_read hσ.P) (fun v37 h20 => ?_)
    refine zok_ck rfl ?_
    refine zok_ck rfl ?_
    refine zok_bs (hσ.wi 2 2 (by decide) (zr_andr (lo := 0) (hi := 255) (zr_c (lo := 255) (hi := 255) (by decide)) (by decide)) (by decide +kernel)) (fun σ38 e22 i21 => ?_)
    refine zok_ck rfl ?_
    refine zok_bu (s_X12_portTo i21 (rM_11 i21.sg _ (by decide)) h20) (fun σ39 i23 => ?_)
    refine zok_pi (s_X12_pair i23.P (zr_w (zr_c (lo := 6) (hi := 6) (by decide)) (by decide))) (fun v41 h24 => ?_)
    refine zok_bu (s_X12_pairTo i23 (zr_w (zr_c (lo := 6) (hi := 6) (by decide)) (by decide)) (zr_w (zr_add (lo := -1) (hi := 65536) h24 h_s0 (by decide)) (by decide))) (fun σ42 i25 => ?_)
    refine zok_pi (s_X12_pair i25.P (zr_w (zr_c (lo := 2) (hi := 2) (by decide)) (by decide))) (fun v44 h26 => ?_)
    refine zok_ck rfl ?_
    refine zok_bs (i25.wi 20 20 (by decide) (zr_andr (lo := 0) (hi := 65535) (zr_c (lo := 65535) (hi := 65535) (by decide)) (by decide)) (by decide +kernel)) (fun σ45 e28 i27 => ?_)
    refine zok_ck rfl ?_
    refine zok_br (zr_add (lo := 0) (hi := 510) h20 (rM_11 i27.sg _ (by decide)) (by decide)) (fun v46 e30 h29 => ?_)
    exact (s_X12_blocks_485 i27 h_x1 (zr_w h18 (by decide)) h20 h29)
  have h31 := zc_ltl (1) (z_nle q1) h_x2 (zr_c (lo := 2) (hi := 2) (by decide)) (by decide)
  refine zok_pi (s_X12_pair hσ.P (zr_w (zr_c (lo := 6) (hi := 6) (by decide)) (by decide))) (fun v61 h32 => ?_)
  refine zok_pi (s_X12_read hσ.P) (fun v63 h33 => ?_)
  refine zok_if (fun q34 => ?_) (fun q34 => ?_)
  · have h35 := zc_eql (0) (0) q34 h31 (zr_c (lo := 0) (hi := 0) (by decide)) (by decide)
    refine zok_pi (s_X12_pair hσ.P (zr_w (zr_c (lo := 4) (hi := 4) (by decide)) (by decide))) (fun v65 h36 => ?_)
    refine zok_bu (s_X12_write hσ) (fun σ66 i37 => ?_)
    exact (s_X12_blocks_44 i37 h_x1 (zr_w h35 (by decide)) h_s0 h33)
  have h38 := zc_nel (1) (1) q34 h31 (zr_c (lo := 0) (hi := 0) (by decide)) (by decide)
  exact (s_X12_blocks_44 hσ h_x1 (zr_w h38 (by decide)) h_s0 h33)
theorem s_X12_blocks {G : Nat → Int} {σ : zSt} (hσ : zIM G σ) {x1 : Int32} (h_x1 : zr (4) (7) x1) {x2 : Int32} (h_x2 : zr (0) (3) x2) : zok (fX12_blocks σ x1 x2) (zAi (zIM G) (fun v : Int32 => zr (16) (21) v)) := by
  unfold fX12_blocks
  refine zok_ck (by decide) ?_
  refine zok_if (fun q1 => ?_) (fun q1 => ?_)
  · have h2 := zc_eql (0) (0) q1 (zr_rem (lo := 0) (hi := 1) 2 (by decide) h_x1 (by decide)) (zr_c (lo := 0) (hi := 0) (by decide)) (by decide)
    exact (s_X12_blocks_11 hσ h_x1 h_x2 (zr_w (zr_c (lo := 1) (hi := 1) (by decide)) (by decide)))
  have h3 := zc_nel (1) (1) q1 (zr_rem (lo := 0) (hi := 1) 2 (by decide) h_x1 (by decide)) (zr_c (lo := 0) (hi := 0) (by decide)) (by decide)
  have h4 := z_odd64 h_x1 h3 (by decide)
  exact (s_X12_blocks_11 hσ h_x1 h_x2 (zr_w (zr_c (lo := -1) (hi := -1) (by decide)) (by decide)))
theorem s_X12_specials_28 {G : Nat → Int} {σ : zSt} (hσ : zIM G σ) {s0 : Int32} (h_s0 : zr (21) (22) s0) : zok (fX12_specials_28 σ s0) (zAi (zIM G) (fun v : Int32 => zr (8) (18) v)) := by
  unfold fX12_specials_28
  refine zok_ck rfl ?_
  refine zok_ck (zin_ok h_s0 (by decide)) ?_
  refine zok_bs (hσ.wi 21 22 (z_ix h_s0 (by decide)) (rM_11 hσ.sg _ (by decide)) (by decide +kernel)) (fun σ1 e2 i1 => ?_)
  exact zok_sai i1 (zr_w (zr_c (lo := 9) (hi := 9) (by decide)) (by decide))
theorem s_X12_specials_244 {σ : zSt} (hσ : zPM σ) {s0 : Int32} (h_s0 : zr (9) (18) s0) : zok (fX12_specials_244 σ s0) (zPi σ (fun v : Int32 => zr (8) (18) v)) := by
  unfold fX12_specials_244
  exact zok_spi (zr_w h_s0 (by decide))
theorem s_X12_specials_220 {G : Nat → Int} {σ : zSt} (hσ : zIM G σ) {x1 : Int32} (h_x1 : zr (2) (5) x1) : zok (fX12_specials_220 σ x1) (zAi (zIM G) (fun v : Int32 => zr (8) (18) v)) := by
  unfold fX12_specials_220
  refine zok_bu (s_X12_put hσ (zr_w (zr_c (lo := 4) (hi := 4) (by decide)) (by decide)) (zr_w (zr_c (lo := 0) (hi := 0) (by decide)) (by decide))) (fun σ2 i1 => ?_)
  refine zok_bu (s_X12_put i1 (zr_w (zr_c (lo := 1) (hi := 1) (by decide)) (by decide)) (zr_w (zr_c (lo := 0) (hi := 0) (by decide)) (by decide))) (fun σ3 i2 => ?_)
  refine zok_if (fun q3 => ?_) (fun q3 => ?_)
  · have h4 := zc_ler (4) q3 (zr_c (lo := 4) (hi := 4) (by decide)) h_x1 (by decide)
    exact zok_pai i2 (s_X12_specials_244 i2.P (zr_w (zr_c (lo := 18) (hi := 18) (by decide)) (by decide)))
  have h5 := zc_ltl (3) (z_nle q3) h_x1 (zr_c (lo := 4) (hi := 4) (by decide)) (by decide)
  exact zok_pai i2 (s_X12_specials_244 i2.P (zr_w (zr_c (lo := 9) (hi := 9) (by decide)) (by decide)))
theorem s_X12_specials_94 {G : Nat → Int} {σ : zSt} (hσ : zIM G σ) {x1 : Int32} (h_x1 : zr (2) (3) x1) {s0 : Int32} (h_s0 : zr (0) (1) s0) {s1 : Int32} (h_s1 : zr (2) (2) s1) : zok (fX12_specials_94 σ x1 s0 s1) (zAi (zIM G) (fun v : Int32 => zr (8) (18) v)) := by
  unfold fX12_specials_94
  refine zok_bu (s_X12_put hσ (zr_w h_s1 (by decide)) h_s0) (fun σ4 i1 => ?_)
  exact (s_X12_specials_220 i1 (zr_w h_x1 (by decide)))
theorem s_X12_specials_64 {G : Nat → Int} {σ : zSt} (hσ : zIM G σ) {x1 : Int32} (h_x1 : zr (2) (3) x1) {s0 : Int32} (h_s0 : zr (21) (22) s0) {s2 : Int32} (h_s2 : zr (0) (0) s2) : zok (fX12_specials_64 σ x1 s0 s2) (zAi (zIM G) (fun v : Int32 => zr (8) (18) v)) := by
  unfold fX12_specials_64
  refine zok_ck (zin_ok h_s0 (by decide)) ?_
  refine zok_ck (zin_ok h_s2 (by decide)) ?_
  refine zok_bs (hσ.wi 0 0 (z_ix h_s2 (by decide)) (rM_14 hσ.sg _ (z_ix h_s0 (by decide))) (by decide +kernel)) (fun σ5 e2 i1 => ?_)
  refine zok_ck rfl ?_
  refine zok_bu (s_X12_by i1 (rM_11 i1.sg _ (by decide))) (fun σ6 i3 => ?_)
  refine zok_ck rfl ?_
  refine zok_if (fun q4 => ?_) (fun q4 => ?_)
  · have h5 := zc_eql (1) (1) q4 (rM_15 i3.sg _ (by decide)) (zr_c (lo := 1) (hi := 1) (by decide)) (by decide)
    exact (s_X12_specials_94 i3 h_x1 (zr_w (zr_c (lo := 1) (hi := 1) (by decide)) (by decide)) (zr_c (lo := 2) (hi := 2) (by decide)))
  have h6 := zc_nel (0) (0) q4 (rM_15 i3.sg _ (by decide)) (zr_c (lo := 1) (hi := 1) (by decide)) (by decide)
  exact (s_X12_specials_94 i3 h_x1 (zr_w (zr_c (lo := 0) (hi := 0) (by decide)) (by decide)) (zr_c (lo := 2) (hi := 2) (by decide)))
theorem s_X12_specials_194 {G : Nat → Int} {σ : zSt} (hσ : zIM G σ) {x1 : Int32} (h_x1 : zr (4) (5) x1) {s0 : Int32} (h_s0 : zr (0) (15) s0) {s1 : Int32} (h_s1 : zr (0) (240) s1) {s2 : Int32} (h_s2 : zr (0) (0) s2) : zok (fX12_specials_194 σ x1 s0 s1 s2) (zAi (zIM G) (fun v : Int32 => zr (8) (18) v)) := by
  unfold fX12_specials_194
  refine zok_ck (zin_ok h_s2 (by decide)) ?_
  refine zok_bs (hσ.wi 0 0 (z_ix h_s2 (by decide)) (zr_or (lo := 0) (hi := 255) 8 h_s1 h_s0 (by decide)) (by decide +kernel)) (fun σ7 e2 i1 => ?_)
  refine zok_ck rfl ?_
  refine zok_bu (s_X12_by i1 (rM_11 i1.sg _ (by decide))) (fun σ8 i3 => ?_)
  refine zok_ck rfl ?_
  refine zok_pi (s_X12_isEven i3.P (rM_11 i3.sg _ (by decide))) (fun v10 h4 => ?_)
  refine zok_bu (s_X12_put i3 (zr_w (zr_c (lo := 2) (hi := 2) (by decide)) (by decide)) h4) (fun σ11 i5 => ?_)
  exact (s_X12_specials_220 i5 (zr_w h_x1 (by decide)))
theorem s_X12_specials_161 {G : Nat → Int} {σ : zSt} (hσ : zIM G σ) {x1 : Int32} (h_x1 : zr (4) (5) x1) {x3 : Int32} (h_x3 : zr (0) (255) x3) {s0 : Int32} (h_s0 : zr (0) (4095) s0) {s1 : Int32} (h_s1 : zr (0) (65535) s1) : zok (fX12_specials_161 σ x1 x3 s0 s1) (zAi (zIM G) (fun v : Int32 => zr (8) (18) v)) := by
  unfold fX12_specials_161
  refine zok_bu (s_X12_write hσ) (fun σ12 i1 => ?_)
  refine zok_ck rfl ?_
  refine zok_if (fun q2 => ?_) (fun q2 => ?_)
  · have h3 := zc_eql (4) (4) q2 h_x1 (zr_c (lo := 4) (hi := 4) (by decide)) (by decide)
    exact (s_X12_specials_194 i1 (zr_w h3 (by decide)) (zr_andr (lo := 0) (hi := 15) (zr_c (lo := 15) (hi := 15) (by decide)) (by decide)) (zr_andr (lo := 0) (hi := 240) (zr_c (lo := 240) (hi := 240) (by decide)) (by decide)) (zr_c (lo := 0) (hi := 0) (by decide)))
  have h4 := zc_nel (5) (5) q2 h_x1 (zr_c (lo := 4) (hi := 4) (by decide)) (by decide)
  exact (s_X12_specials_194 i1 (zr_w h4 (by decide)) (zr_shr (lo := 0) (hi := 15) 4 (by decide) h_x3 (by decide)) (zr_andr (lo := 0) (hi := 240) (zr_c (lo := 240) (hi := 240) (by decide)) (by decide)) (zr_c (lo := 0) (hi := 0) (by decide)))
theorem s_X12_specials {G : Nat → Int} {σ : zSt} (hσ : zIM G σ) {x1 : Int32} (h_x1 : zr (0) (7) x1) : zok (fX12_specials σ x1) (zAi (zIM G) (fun v : Int32 => zr (8) (18) v)) := by
  unfold fX12_specials
  refine zok_if (fun q1 => ?_) (fun q1 => ?_)
  · have h2 := zc_lel (5) q1 h_x1 (zr_c (lo := 5) (hi := 5) (by decide)) (by decide)
    refine zok_if (fun q3 => ?_) (fun q3 => ?_)
    · have h4 := zc_ler (2) q3 (zr_c (lo := 2) (hi := 2) (by decide)) h2 (by decide)
      refine zok_if (fun q5 => ?_) (fun q5 => ?_)
      · have h6 := zc_ler (4) q5 (zr_c (lo := 4) (hi := 4) (by decide)) h4 (by decide)
        refine zok_pi (s_X12_pair hσ.P (zr_w (zr_c (lo := 6) (hi := 6) (by decide)) (by decide))) (fun v14 h7 => ?_)
        refine zok_ck rfl ?_
        refine zok_bs (hσ.wi 20 20 (by decide) (zr_andr (lo := 0) (hi := 65535) (zr_c (lo := 65535) (hi := 65535) (by decide)) (by decide)) (by decide +kernel)) (fun σ15 e9 i8 => ?_)
        refine zok_pi (s_X12_read i8.P) (fun v17 h10 => ?_)
        refine zok_ck rfl ?_
        refine zok_br (zr_andr (lo := 0) (hi := 15) (zr_c (lo := 15) (hi := 15) (by decide)) (by decide)) (fun v18 e12 h11 => ?_)
        refine zok_if (fun q13 => ?_) (fun q13 => ?_)
        · have h14 := zc_eql (4) (4) q13 h6 (zr_c (lo := 4) (hi := 4) (by decide)) (by decide)
          exact (s_X12_specials_161 i8 (zr_w h14 (by decide)) h10 (zr_w (zr_or (lo := 0) (hi := 255) 8 (zr_shl (lo := 0) (hi := 240) 4 (by decide) h11 (by decide)) (zr_shr (lo := 0) (hi := 15) 4 (by decide) h10 (by decide)) (by decide)) (by decide)) h7)
        have h15 := zc_nel (5) (5) q13 h6 (zr_c (lo := 4) (hi := 4) (by decide)) (by decide)
        exact (s_X12_specials_161 i8 (zr_w h15 (by decide)) h10 (zr_or (lo := 0) (hi := 4095) 12 (zr_shl (lo := 0) (hi := 4080) 4 (by decide) h10 (by decide)) h11 (by decide)) h7)
      have h16 := zc_ltl (3) (z_nle q5) h4 (zr_c (lo := 4) (hi := 4) (by decide)) (by decide)
      refine zok_if (fun q17 => ?_) (fun q17 => ?_)
      · have h18 := zc_eql (2) (2) q17 h16 (zr_c (lo := 2) (hi := 2) (by decide)) (by decide)
        exact (s_X12_specials_64 hσ (zr_w h18 (by decide)) (zr_w (zr_c (lo := 21) (hi := 21) (by decide)) (by decide)) (zr_c (lo := 0) (hi := 0) (by decide)))
      have h19 := zc_nel (3) (3) q17 h16 (zr_c (lo := 2) (hi := 2) (by decide)) (by decide)
      exact (s_X12_specials_64 hσ (zr_w h19 (by decide)) (zr_w (zr_c (lo := 22) (hi := 22) (by decide)) (by decide)) (zr_c (lo := 0) (hi := 0) (by decide)))
    have h20 := zc_ltl (1) (z_nle q3) h2 (zr_c (lo := 2) (hi := 2) (by decide)) (by decide)
    refine zok_if (fun q21 => ?_) (fun q21 => ?_)
    · have h22 := zc_eql (0) (0) q21 h20 (zr_c (lo := 0) (hi := 0) (by decide)) (by decide)
      exact (s_X12_specials_28 hσ (zr_w (zr_c (lo := 21) (hi := 21) (by decide)) (by decide)))
    have h23 := zc_nel (1) (1) q21 h20 (zr_c (lo := 0) (hi := 0) (by decide)) (by decide)
    exact (s_X12_specials_28 hσ (zr_w (zr_c (lo := 22) (hi := 22) (by decide)) (by decide)))
  have h24 := zc_ltr (6) (z_nle q1) (zr_c (lo := 5) (hi := 5) (by decide)) h_x1 (by decide)
  exact zok_sai hσ (zr_w (zr_c (lo := 8) (hi := 8) (by decide)) (by decide))
theorem s_X12_words_255 {G : Nat → Int} {σ : zSt} (hσ : zIM G σ) {s0 : Int32} (h_s0 : zr (0) (1) s0) {s1 : Int32} (h_s1 : zr (1) (1) s1) : zok (fX12_words_255 σ s0 s1) (zIM G) := by
  unfold fX12_words_255
  refine zok_bu (s_X12_put hσ (zr_w h_s1 (by decide)) h_s0) (fun σ1 i1 => ?_)
  exact zok_some i1
theorem s_X12_words_241 {G : Nat → Int} {σ : zSt} (hσ : zIM G σ) {x2 : Int32} (h_x2 : zr (0) (1) x2) {s0 : Int32} (h_s0 : zr (0) (1) s0) {s1 : Int32} (h_s1 : zr (2) (2) s1) : zok (fX12_words_241 σ x2 s0 s1) (zIM G) := by
  unfold fX12_words_241
  refine zok_bu (s_X12_put hσ (zr_w h_s1 (by decide)) h_s0) (fun σ2 i1 => ?_)
  refine zok_if (fun q2 => ?_) (fun q2 => ?_)
  · have h3 := zc_eql (0) (0) q2 h_x2 (zr_c (lo := 0) (hi := 0) (by decide)) (by decide)
    exact (s_X12_words_255 i1 (zr_w (zr_c (lo := 1) (hi := 1) (by decide)) (by decide)) (zr_c (lo := 1) (hi := 1) (by decide)))
  have h4 := zc_nel (1) (1) q2 h_x2 (zr_c (lo := 0) (hi := 0) (by decide)) (by decide)
  exact (s_X12_words_255 i1 (zr_w (zr_c (lo := 0) (hi := 0) (by decide)) (by decide)) (zr_c (lo := 1) (hi := 1) (by decide)))
theorem s_X12_words_236 {G : Nat → Int} {σ : zSt} (hσ : zIM G σ) {x2 : Int32} (h_x2 : zr (0) (1) x2) {s0 : Int32} (h_s0 : zr (2) (2) s0) : zok (fX12_words_236 σ x2 s0) (zIM G) := by
  unfold fX12_words_236
  exact (s_X12_words_241 hσ h_x2 (zr_w (zr_c (lo := 1) (hi := 1) (by decide)) (by decide)) h_s0)
theorem s_X12_words_215 {G : Nat → Int} {σ : zSt} (hσ : zIM G σ) {x2 : Int32} (h_x2 : zr (0) (1) x2) {x7 : Int32} {s0 : Int32} (h_s0 : zr (0) (1) s0) {s1 : Int32} (h_s1 : zr (0) (0) s1) : zok (fX12_words_215 σ x2 x7 s0 s1) (zIM G) := by
  unfold fX12_words_215
  refine zok_bu (s_X12_put hσ (zr_w h_s1 (by decide)) h_s0) (fun σ3 i1 => ?_)
  refine zok_if (fun q2 => ?_) (fun q2 => ?_)
  · have h3 := zc_ltl (-32769) q2 zr_any (zr_c (lo := -32768) (hi := -32768) (by decide)) (by decide)
    exact (s_X12_words_236 i1 h_x2 (zr_c (lo := 2) (hi := 2) (by decide)))
  have h4 := zc_ler (-32768) (z_nlt q2) (zr_c (lo := -32768) (hi := -32768) (by decide)) zr_any (by decide)
  refine zok_if (fun q5 => ?_) (fun q5 => ?_)
  · have h6 := zc_lel (32767) q5 h4 (zr_c (lo := 32767) (hi := 32767) (by decide)) (by decide)
    exact (s_X12_words_241 i1 h_x2 (zr_w (zr_c (lo := 0) (hi := 0) (by decide)) (by decide)) (zr_c (lo := 2) (hi := 2) (by decide)))
  have h7 := zc_ltr (32768) (z_nle q5) (zr_c (lo := 32767) (hi := 32767) (by decide)) h4 (by decide)
  exact (s_X12_words_236 i1 h_x2 (zr_c (lo := 2) (hi := 2) (by decide)))
theorem s_X12_words_210 {G : Nat → Int} {σ : zSt} (hσ : zIM G σ) {x2 : Int32} (h_x2 : zr (0) (1) x2) {x7 : Int32} {s0 : Int32} (h_s0 : zr (0) (0) s0) : zok (fX12_words_210 σ x2 x7 s0) (zIM G) := by
  unfold fX12_words_210
  exact (s_X12_words_215 hσ h_x2 (zr_w (zr_c (lo := 1) (hi := 1) (by decide)) (by decide)) h_s0)
theorem s_X12_words_193 {G : Nat → Int} {σ : zSt} (hσ : zIM G σ) {x2 : Int32} (h_x2 : zr (0) (1) x2) {x6 : Int32} (h_x6 : zr (-65536) (131071) x6) {x7 : Int32} {s0 : Int32} (h_s0 : zr (0) (1) s0) {s1 : Int32} (h_s1 : zr (4) (4) s1) : zok (fX12_words_193 σ x2 x6 x7 s0 s1) (zIM G) := by
  unfold fX12_words_193
  refine zok_bu (s_X12_put hσ (zr_w h_s1 (by decide)) h_s0) (fun σ4 i1 => ?_)
  refine zok_if (fun q2 => ?_) (fun q2 => ?_)
  · have h3 := zc_ltl (-1) q2 h_x6 (zr_c (lo := 0) (hi := 0) (by decide)) (by decide)
    exact (s_X12_words_210 i1 h_x2 (zr_c (lo := 0) (hi := 0) (by decide)))
  have h4 := zc_ler (0) (z_nlt q2) (zr_c (lo := 0) (hi := 0) (by decide)) h_x6 (by decide)
  refine zok_if (fun q5 => ?_) (fun q5 => ?_)
  · have h6 := zc_lel (65535) q5 h4 (zr_c (lo := 65535) (hi := 65535) (by decide)) (by decide)
    exact (s_X12_words_215 i1 h_x2 (zr_w (zr_c (lo := 0) (hi := 0) (by decide)) (by decide)) (zr_c (lo := 0) (hi := 0) (by decide)))
  have h7 := zc_ltr (65536) (z_nle q5) (zr_c (lo := 65535) (hi := 65535) (by decide)) h4 (by decide)
  exact (s_X12_words_210 i1 h_x2 (zr_c (lo := 0) (hi := 0) (by decide)))
theorem s_X12_words_123 {G : Nat → Int} {σ : zSt} (hσ : zIM G σ) {x2 : Int32} (h_x2 : zr (0) (1) x2) {x3 : Int32} (h_x3 : zr (0) (65535) x3) {x4 : Int32} (h_x4 : zr (0) (65535) x4) {x5 : Int32} (h_x5 : zr (0) (1) x5) {x6 : Int32} (h_x6 : zr (-65536) (131071) x6) {x7 : Int32} {s0 : Int32} (h_s0 : zr (0) (1) s0) {s1 : Int32} (h_s1 : zr (6) (6) s1) : zok (fX12_words_123 σ x2 x3 x4 x5 x6 x7 s0 s1) (zIM G) := by
  unfold fX12_words_123
  refine zok_bu (s_X12_put hσ (zr_w h_s1 (by decide)) h_s0) (fun σ5 i1 => ?_)
  refine zok_bu (s_X12_xy i1 (zr_shr (lo := -256) (hi := 511) 8 (by decide) h_x6 (by decide))) (fun σ6 i2 => ?_)
  refine zok_if (fun q3 => ?_) (fun q3 => ?_)
  · have h4 := zc_eql (0) (0) q3 h_x2 (zr_c (lo := 0) (hi := 0) (by decide)) (by decide)
    refine zok_if (fun q5 => ?_) (fun q5 => ?_)
    · have h6 := zc_ler (0) q5 (zr_c (lo := 0) (hi := 0) (by decide)) (zr_sub (lo := -4096) (hi := 4095) (zr_sub (lo := -4095) (hi := 4095) (zr_andr (lo := 0) (hi := 4095) (zr_c (lo := 4095) (hi := 4095) (by decide)) (by decide)) (zr_andr (lo := 0) (hi := 4095) (zr_c (lo := 4095) (hi := 4095) (by decide)) (by decide)) (by decide)) h_x5 (by decide)) (by decide)
      exact (s_X12_words_193 i2 (zr_w h4 (by decide)) h_x6 (zr_w (zr_c (lo := 0) (hi := 0) (by decide)) (by decide)) (zr_c (lo := 4) (hi := 4) (by decide)))
    have h7 := zc_ltl (-1) (z_nle q5) (zr_sub (lo := -4096) (hi := 4095) (zr_sub (lo := -4095) (hi := 4095) (zr_andr (lo := 0) (hi := 4095) (zr_c (lo := 4095) (hi := 4095) (by decide)) (by decide)) (zr_andr (lo := 0) (hi := 4095) (zr_c (lo := 4095) (hi := 4095) (by decide)) (by decide)) (by decide)) h_x5 (by decide)) (zr_c (lo := 0) (hi := 0) (by decide)) (by decide)
    exact (s_X12_words_193 i2 (zr_w h4 (by decide)) h_x6 (zr_w (zr_c (lo := 1) (hi := 1) (by decide)) (by decide)) (zr_c (lo := 4) (hi := 4) (by decide)))
  have h8 := zc_nel (1) (1) q3 h_x2 (zr_c (lo := 0) (hi := 0) (by decide)) (by decide)
  refine zok_if (fun q9 => ?_) (fun q9 => ?_)
  · have h10 := zc_lel (4095) q9 (zr_add (lo := 0) (hi := 8191) (zr_add (lo := 0) (hi := 8190) (zr_andr (lo := 0) (hi := 4095) (zr_c (lo := 4095) (hi := 4095) (by decide)) (by decide)) (zr_andr (lo := 0) (hi := 4095) (zr_c (lo := 4095) (hi := 4095) (by decide)) (by decide)) (by decide)) h_x5 (by decide)) (zr_c (lo := 4095) (hi := 4095) (by decide)) (by decide)
    exact (s_X12_words_193 i2 (zr_w h8 (by decide)) h_x6 (zr_w (zr_c (lo := 0) (hi := 0) (by decide)) (by decide)) (zr_c (lo := 4) (hi := 4) (by decide)))
  have h11 := zc_ltr (4096) (z_nle q9) (zr_c (lo := 4095) (hi := 4095) (by decide)) (zr_add (lo := 0) (hi := 8191) (zr_add (lo := 0) (hi := 8190) (zr_andr (lo := 0) (hi := 4095) (zr_c (lo := 4095) (hi := 4095) (by decide)) (by decide)) (zr_andr (lo := 0) (hi := 4095) (zr_c (lo := 4095) (hi := 4095) (by decide)) (by decide)) (by decide)) h_x5 (by decide)) (by decide)
  exact (s_X12_words_193 i2 (zr_w h8 (by decide)) h_x6 (zr_w (zr_c (lo := 1) (hi := 1) (by decide)) (by decide)) (zr_c (lo := 4) (hi := 4) (by decide)))
theorem s_X12_words_104 {G : Nat → Int} {σ : zSt} (hσ : zIM G σ) {x2 : Int32} (h_x2 : zr (0) (1) x2) {x3 : Int32} (h_x3 : zr (0) (65535) x3) {x4 : Int32} (h_x4 : zr (0) (65535) x4) {x5 : Int32} (h_x5 : zr (0) (1) x5) {x6 : Int32} (h_x6 : zr (-65536) (131071) x6) {x7 : Int32} {s0 : Int32} (h_s0 : zr (0) (1) s0) {s1 : Int32} (h_s1 : zr (7) (7) s1) : zok (fX12_words_104 σ x2 x3 x4 x5 x6 x7 s0 s1) (zIM G) := by
  unfold fX12_words_104
  refine zok_bu (s_X12_put hσ (zr_w h_s1 (by decide)) h_s0) (fun σ7 i1 => ?_)
  refine zok_if (fun q2 => ?_) (fun q2 => ?_)
  · have h3 := zc_eql (0) (0) q2 (zr_andr (lo := 0) (hi := 65535) (zr_c (lo := 65535) (hi := 65535) (by decide)) (by decide)) (zr_c (lo := 0) (hi := 0) (by decide)) (by decide)
    exact (s_X12_words_123 i1 h_x2 h_x3 h_x4 h_x5 h_x6 (zr_w (zr_c (lo := 1) (hi := 1) (by decide)) (by decide)) (zr_c (lo := 6) (hi := 6) (by decide)))
  have h4 := zc_nel (1) (65535) q2 (zr_andr (lo := 0) (hi := 65535) (zr_c (lo := 65535) (hi := 65535) (by decide)) (by decide)) (zr_c (lo := 0) (hi := 0) (by decide)) (by decide)
  exact (s_X12_words_123 i1 h_x2 h_x3 h_x4 h_x5 h_x6 (zr_w (zr_c (lo := 0) (hi := 0) (by decide)) (by decide)) (zr_c (lo := 6) (hi := 6) (by decide)))
theorem s_X12_words_80 {G : Nat → Int} {σ : zSt} (hσ : zIM G σ) {x2 : Int32} (h_x2 : zr (0) (1) x2) {x3 : Int32} (h_x3 : zr (0) (65535) x3) {x4 : Int32} (h_x4 : zr (0) (65535) x4) {x5 : Int32} (h_x5 : zr (0) (1) x5) {x6 : Int32} (h_x6 : zr (-65536) (131071) x6) {s0 : Int32} : zok (fX12_words_80 σ x2 x3 x4 x5 x6 s0) (zIM G) := by
  unfold fX12_words_80
  refine zok_bu (s_X12_hlTo hσ h_x6) (fun σ8 i1 => ?_)
  refine zok_if (fun q2 => ?_) (fun q2 => ?_)
  · have h3 := zc_eql (0) (0) q2 (zr_andr (lo := 0) (hi := 32768) (zr_c (lo := 32768) (hi := 32768) (by decide)) (by decide)) (zr_c (lo := 0) (hi := 0) (by decide)) (by decide)
    exact (s_X12_words_104 i1 h_x2 h_x3 h_x4 h_x5 h_x6 (zr_w (zr_c (lo := 0) (hi := 0) (by decide)) (by decide)) (zr_c (lo := 7) (hi := 7) (by decide)))
  have h4 := zc_nel (1) (32768) q2 (zr_andr (lo := 0) (hi := 32768) (zr_c (lo := 32768) (hi := 32768) (by decide)) (by decide)) (zr_c (lo := 0) (hi := 0) (by decide)) (by decide)
  exact (s_X12_words_104 i1 h_x2 h_x3 h_x4 h_x5 h_x6 (zr_w (zr_c (lo := 1) (hi := 1) (by decide)) (by decide)) (zr_c (lo := 7) (hi := 7) (by decide)))
theorem s_X12_words_53 {G : Nat → Int} {σ : zSt} (hσ : zIM G σ) {x2 : Int32} (h_x2 : zr (0) (1) x2) {x3 : Int32} (h_x3 : zr (0) (65535) x3) {x4 : Int32} (h_x4 : zr (0) (65535) x4) {x5 : Int32} (h_x5 : zr (0) (1) x5) {s0 : Int32} (h_s0 : zr (-65536) (131071) s0) : zok (fX12_words_53 σ x2 x3 x4 x5 s0) (zIM G) := by
  unfold fX12_words_53
  refine zok_if (fun q1 => ?_) (fun q1 => ?_)
  · have h2 := zc_eql (0) (0) q1 h_x2 (zr_c (lo := 0) (hi := 0) (by decide)) (by decide)
    exact (s_X12_words_80 hσ (zr_w h2 (by decide)) h_x3 h_x4 h_x5 h_s0)
  have h3 := zc_nel (1) (1) q1 h_x2 (zr_c (lo := 0) (hi := 0) (by decide)) (by decide)
  exact (s_X12_words_80 hσ (zr_w h3 (by decide)) h_x3 h_x4 h_x5 h_s0)
theorem s_X12_words {G : Nat → Int} {σ : zSt} (hσ : zIM G σ) {x1 : Int32} (h_x1 : zr (0) (3) x1) {x2 : Int32} (h_x2 : zr (0) (1) x2) : zok (fX12_words σ x1 x2) (zIM G) := by
  unfold fX12_words
  refine zok_pi (s_X12_hl hσ.P) (fun v10 h1 => ?_)
  refine zok_pi (s_X12_rp hσ.P h_x1) (fun v12 h2 => ?_)
  refine zok_pi (s_X12_flag hσ.P (zr_w (zr_c (lo := 0) (hi := 0) (by decide)) (by decide))) (fun v14 h3 => ?_)
  refine zok_ck rfl ?_
  refine zok_bs (hσ.wi 20 20 (by decide) (zr_andr (lo := 0) (hi := 65535) (zr_c (lo := 65535) (hi := 65535) (by decide)) (by decide)) (by decide +kernel)) (fun σ15 e5 i4 => ?_)
  refine zok_if (fun q6 => ?_) (fun q6 => ?_)
  · have h7 := zc_eql (0) (0) q6 h_x2 (zr_c (lo := 0) (hi := 0) (by decide)) (by decide)
    exact (s_X12_words_53 i4 (zr_w h7 (by decide)) h1 h2 h3 (zr_w (zr_sub (lo := -65536) (hi := 65535) (zr_sub (lo := -65535) (hi := 65535) h1 h2 (by decide)) h3 (by decide)) (by decide)))
  have h8 := zc_nel (1) (1) q6 h_x2 (zr_c (lo := 0) (hi := 0) (by decide)) (by decide)
  exact (s_X12_words_53 i4 (zr_w h8 (by decide)) h1 h2 h3 (zr_w (zr_add (lo := 0) (hi := 131071) (zr_add (lo := 0) (hi := 131070) h1 h2 (by decide)) h3 (by decide)) (by decide)))
theorem s_X12_more_387 {G : Nat → Int} {σ : zSt} (hσ : zIM G σ) {s0 : Int32} (h_s0 : zr (0) (2) s0) {s1 : Int32} (h_s1 : zr (25) (25) s1) : zok (fX12_more_387 σ s0 s1) (zAi (zIM G) (fun v : Int32 => zr (8) (21) v)) := by
  unfold fX12_more_387
  refine zok_ck (zin_ok h_s1 (by decide)) ?_
  refine zok_bs (hσ.wi 25 25 (z_ix h_s1 (by decide)) h_s0 (by decide +kernel)) (fun σ1 e2 i1 => ?_)
  exact zok_sai i1 (zr_w (zr_c (lo := 8) (hi := 8) (by decide)) (by decide))
theorem s_X12_more_281 {G : Nat → Int} {σ : zSt} (hσ : zIM G σ) {x7 : Int32} (h_x7 : zr (0) (65535) x7) : zok (fX12_more_281 σ x7) (zAi (zIM G) (fun v : Int32 => zr (8) (21) v)) := by
  unfold fX12_more_281
  refine zok_ck rfl ?_
  refine zok_bs (hσ.wi 20 20 (by decide) (zr_andr (lo := 0) (hi := 65535) (zr_c (lo := 65535) (hi := 65535) (by decide)) (by decide)) (by decide +kernel)) (fun σ2 e2 i1 => ?_)
  exact zok_sai i1 (zr_w (zr_c (lo := 20) (hi := 20) (by decide)) (by decide))
theorem s_X12_more_234 {G : Nat → Int} {σ : zSt} (hσ : zIM G σ) {s0 : Int32} (h_s0 : zr (0) (1) s0) {s1 : Int32} (h_s1 : zr (0) (3) s1) : zok (fX12_more_234 σ s0 s1) (zAi (zIM G) (fun v : Int32 => zr (8) (21) v)) := by
  unfold fX12_more_234
  refine zok_bu (s_X12_words hσ h_s1 h_s0) (fun σ3 i1 => ?_)
  exact zok_sai i1 (zr_w (zr_c (lo := 15) (hi := 15) (by decide)) (by decide))
theorem s_X12_more_195 {G : Nat → Int} {σ : zSt} (hσ : zIM G σ) {s0 : Int32} (h_s0 : zr (0) (255) s0) {s1 : Int32} (h_s1 : zr (0) (255) s1) : zok (fX12_more_195 σ s0 s1) (zAi (zIM G) (fun v : Int32 => zr (8) (21) v)) := by
  unfold fX12_more_195
  refine zok_bu (s_X12_portTo hσ h_s1 h_s0) (fun σ4 i1 => ?_)
  refine zok_pi (s_X12_pair i1.P (zr_w (zr_c (lo := 2) (hi := 2) (by decide)) (by decide))) (fun v6 h2 => ?_)
  refine zok_ck rfl ?_
  refine zok_bs (i1.wi 20 20 (by decide) (zr_andr (lo := 0) (hi := 65535) (zr_c (lo := 65535) (hi := 65535) (by decide)) (by decide)) (by decide +kernel)) (fun σ7 e4 i3 => ?_)
  exact zok_sai i3 (zr_w (zr_c (lo := 12) (hi := 12) (by decide)) (by decide))
theorem s_X12_more_133 {G : Nat → Int} {σ : zSt} (hσ : zIM G σ) {x5 : Int32} (h_x5 : zr (0) (65535) x5) {x6 : Int32} (h_x6 : zr (0) (255) x6) : zok (fX12_more_133 σ x5 x6) (zAi (zIM G) (fun v : Int32 => zr (8) (21) v)) := by
  unfold fX12_more_133
  refine zok_bu (s_X12_by hσ h_x6) (fun σ8 i1 => ?_)
  refine zok_pi (s_X12_isEven i1.P h_x6) (fun v10 h2 => ?_)
  refine zok_bu (s_X12_put i1 (zr_w (zr_c (lo := 2) (hi := 2) (by decide)) (by decide)) h2) (fun σ11 i3 => ?_)
  refine zok_bu (s_X12_put i3 (zr_w (zr_c (lo := 4) (hi := 4) (by decide)) (by decide)) (zr_w (zr_c (lo := 0) (hi := 0) (by decide)) (by decide))) (fun σ12 i4 => ?_)
  refine zok_bu (s_X12_put i4 (zr_w (zr_c (lo := 1) (hi := 1) (by decide)) (by decide)) (zr_w (zr_c (lo := 0) (hi := 0) (by decide)) (by decide))) (fun σ13 i5 => ?_)
  refine zok_ck rfl ?_
  refine zok_bs (i5.wi 20 20 (by decide) h_x5 (by decide +kernel)) (fun σ14 e7 i6 => ?_)
  exact zok_sai i6 (zr_w (zr_c (lo := 12) (hi := 12) (by decide)) (by decide))
theorem s_X12_more_42 {G : Nat → Int} {σ : zSt} (hσ : zIM G σ) {x2 : Int32} (h_x2 : zr (0) (3) x2) {x3 : Int32} (h_x3 : zr (0) (7) x3) {x4 : Int32} (h_x4 : zr (0) (7) x4) : zok (fX12_more_42 σ x2 x3 x4) (zAi (zIM G) (fun v : Int32 => zr (8) (21) v)) := by
  unfold fX12_more_42
  refine zok_if (fun q1 => ?_) (fun q1 => ?_)
  · have h2 := zc_eql (1) (1) q1 h_x2 (zr_c (lo := 1) (hi := 1) (by decide)) (by decide)
    refine zok_if (fun q3 => ?_) (fun q3 => ?_)
    · have h4 := zc_eql (0) (0) q3 h_x4 (zr_c (lo := 0) (hi := 0) (by decide)) (by decide)
      refine zok_pi (s_X12_pair hσ.P (zr_w (zr_c (lo := 2) (hi := 2) (by decide)) (by decide))) (fun v16 h5 => ?_)
      refine zok_br (zr_andr (lo := 0) (hi := 65535) (zr_c (lo := 65535) (hi := 65535) (by decide)) (by decide)) (fun v17 e7 h6 => ?_)
      refine zok_ck rfl ?_
      refine zok_ai (s_X12_port hσ (rM_11 hσ.sg _ (by decide))) (fun σ18 v19 i8 h9 => ?_)
      refine zok_if (fun q10 => ?_) (fun q10 => ?_)
      · have h11 := zc_eql (6) (6) q10 h_x3 (zr_c (lo := 6) (hi := 6) (by decide)) (by decide)
        exact (s_X12_more_133 i8 h6 h9)
      refine zok_bu (s_X12_rTo i8 h_x3) (fun σ20 i12 => ?_)
      exact (s_X12_more_133 i12 h6 h9)
    have h13 := zc_nel (1) (7) q3 h_x4 (zr_c (lo := 0) (hi := 0) (by decide)) (by decide)
    refine zok_if (fun q14 => ?_) (fun q14 => ?_)
    · have h15 := zc_eql (1) (1) q14 h13 (zr_c (lo := 1) (hi := 1) (by decide)) (by decide)
      refine zok_ck rfl ?_
      refine zok_if (fun q16 => ?_) (fun q16 => ?_)
      · have h17 := zc_eql (6) (6) q16 h_x3 (zr_c (lo := 6) (hi := 6) (by decide)) (by decide)
        exact (s_X12_more_195 hσ (zr_w (zr_c (lo := 0) (hi := 0) (by decide)) (by decide)) (rM_11 hσ.sg _ (by decide)))
      refine zok_pi (s_X12_r hσ.P h_x3) (fun v22 h18 => ?_)
      exact (s_X12_more_195 hσ h18 (rM_11 hσ.sg _ (by decide)))
    have h19 := zc_nel (2) (7) q14 h13 (zr_c (lo := 1) (hi := 1) (by decide)) (by decide)
    refine zok_if (fun q20 => ?_) (fun q20 => ?_)
    · have h21 := zc_eql (2) (2) q20 h19 (zr_c (lo := 2) (hi := 2) (by decide)) (by decide)
      refine zok_ck (by decide) ?_
      refine zok_if (fun q22 => ?_) (fun q22 => ?_)
      · have h23 := zc_eql (1) (1) q22 (zr_rem (lo := 0) (hi := 1) 2 (by decide) h_x3 (by decide)) (zr_c (lo := 1) (hi := 1) (by decide)) (by decide)
        have h24 := z_odd64 h_x3 h23 (by decide)
        exact (s_X12_more_234 hσ (zr_w (zr_c (lo := 1) (hi := 1) (by decide)) (by decide)) (zr_shr (lo := 0) (hi := 3) 1 (by decide) h_x3 (by decide)))
      have h25 := zc_nel (0) (0) q22 (zr_rem (lo := 0) (hi := 1) 2 (by decide) h_x3 (by decide)) (zr_c (lo := 1) (hi := 1) (by decide)) (by decide)
      exact (s_X12_more_234 hσ (zr_w (zr_c (lo := 0) (hi := 0) (by decide)) (by decide)) (zr_shr (lo := 0) (hi := 3) 1 (by decide) h_x3 (by decide)))
    have h26 := zc_nel (3) (7) q20 h19 (zr_c (lo := 2) (hi := 2) (by decide)) (by decide)
    refine zok_if (fun q27 => ?_) (fun q27 => ?_)
    · have h28 := zc_eql (3) (3) q27 h26 (zr_c (lo := 3) (hi := 3) (by decide)) (by decide)
      refine zok_ai (s_X12_nextWord hσ) (fun σ23 v24 i29 h30 => ?_)
      refine zok_ck (by decide) ?_
      refine zok_if (fun q31 => ?_) (fun q31 => ?_)
      · have h32 := zc_eql (0) (0) q31 (zr_rem (lo := 0) (hi := 1) 2 (by decide) h_x3 (by decide)) (zr_c (lo := 0) (hi := 0) (by decide)) (by decide)
        refine zok_pi (s_X12_rp i29.P (zr_shr (lo := 0) (hi := 3) 1 (by decide) h_x3 (by decide))) (fun v29 h33 => ?_)
        refine zok_bu (s_X12_wordTo i29 h30 h33) (fun σ30 i34 => ?_)
        exact (s_X12_more_281 i34 h30)
      have h35 := zc_nel (1) (1) q31 (zr_rem (lo := 0) (hi := 1) 2 (by decide) h_x3 (by decide)) (zr_c (lo := 0) (hi := 0) (by decide)) (by decide)
      have h36 := z_odd64 h_x3 h35 (by decide)
      refine zok_pi (s_X12_word i29.P h30) (fun v26 h37 => ?_)
      refine zok_bu (s_X12_rpTo i29 (zr_shr (lo := 0) (hi := 3) 1 (by decide) h_x3 (by decide)) (zr_w h37 (by decide))) (fun σ27 i38 => ?_)
      exact (s_X12_more_281 i38 h30)
    have h39 := zc_nel (4) (7) q27 h26 (zr_c (lo := 3) (hi := 3) (by decide)) (by decide)
    refine zok_if (fun q40 => ?_) (fun q40 => ?_)
    · have h41 := zc_eql (4) (4) q40 h39 (zr_c (lo := 4) (hi := 4) (by decide)) (by decide)
      refine zok_ck rfl ?_
      refine zok_br (rM_11 hσ.sg _ (by decide)) (fun v31 e43 h42 => ?_)
      refine zok_ck rfl ?_
      refine zok_bs (hσ.wi 0 0 (by decide) (zr_c (lo := 0) (hi := 0) (by decide)) (by decide +kernel)) (fun σ32 e45 i44 => ?_)
      refine zok_bu (s_X12_does i44 (zr_w (zr_c (lo := 2) (hi := 2) (by decide)) (by decide)) h42) (fun σ33 i46 => ?_)
      exact zok_sai i46 (zr_w (zr_c (lo := 8) (hi := 8) (by decide)) (by decide))
    have h47 := zc_nel (5) (7) q40 h39 (zr_c (lo := 4) (hi := 4) (by decide)) (by decide)
    refine zok_if (fun q48 => ?_) (fun q48 => ?_)
    · have h49 := zc_eql (5) (5) q48 h47 (zr_c (lo := 5) (hi := 5) (by decide)) (by decide)
      refine zok_ai (s_X12_pop hσ) (fun σ34 v35 i50 h51 => ?_)
      refine zok_ck rfl ?_
      refine zok_bs (i50.wi 19 19 (by decide) h51 (by decide +kernel)) (fun σ36 e53 i52 => ?_)
      refine zok_ck rfl ?_
      refine zok_ck rfl ?_
      refine zok_bs (i52.wi 20 20 (by decide) (rM_12 i52.sg _ (by decide)) (by decide +kernel)) (fun σ37 e55 i54 => ?_)
      refine zok_ck rfl ?_
      refine zok_ck rfl ?_
      refine zok_bs (i54.wi 23 23 (by decide) (rM_15 i54.sg _ (by decide)) (by decide +kernel)) (fun σ38 e57 i56 => ?_)
      exact zok_sai i56 (zr_w (zr_c (lo := 14) (hi := 14) (by decide)) (by decide))
    have h58 := zc_nel (6) (7) q48 h47 (zr_c (lo := 5) (hi := 5) (by decide)) (by decide)
    refine zok_if (fun q59 => ?_) (fun q59 => ?_)
    · have h60 := zc_eql (6) (6) q59 h58 (zr_c (lo := 6) (hi := 6) (by decide)) (by decide)
      refine zok_ck (by decide) ?_
      refine zok_if (fun q61 => ?_) (fun q61 => ?_)
      · have h62 := zc_ler (2) q61 (zr_c (lo := 2) (hi := 2) (by decide)) (zr_rem (lo := 0) (hi := 3) 4 (by decide) h_x3 (by decide)) (by decide)
        refine zok_ck (by decide) ?_
        exact (s_X12_more_387 hσ (zr_w (zr_sub (lo := 1) (hi := 2) h62 (zr_c (lo := 1) (hi := 1) (by decide)) (by decide)) (by decide)) (zr_c (lo := 25) (hi := 25) (by decide)))
      have h63 := zc_ltl (1) (z_nle q61) (zr_rem (lo := 0) (hi := 3) 4 (by decide) h_x3 (by decide)) (zr_c (lo := 2) (hi := 2) (by decide)) (by decide)
      exact (s_X12_more_387 hσ (zr_w (zr_c (lo := 0) (hi := 0) (by decide)) (by decide)) (zr_c (lo := 25) (hi := 25) (by decide)))
    have h64 := zc_nel (7) (7) q59 h58 (zr_c (lo := 6) (hi := 6) (by decide)) (by decide)
    refine zok_ai (s_X12_specials hσ h_x3) (fun σ39 v40 i65 h66 => ?_)
    exact zok_sai i65 (zr_w h66 (by decide))
  exact zok_sai hσ (zr_w (zr_c (lo := 8) (hi := 8) (by decide)) (by decide))
theorem s_X12_more {G : Nat → Int} {σ : zSt} (hσ : zIM G σ) {x1 : Int32} (h_x1 : zr (0) (255) x1) : zok (fX12_more σ x1) (zAi (zIM G) (fun v : Int32 => zr (8) (21) v)) := by
  unfold fX12_more
  refine zok_br (zr_shr (lo := 0) (hi := 3) 6 (by decide) h_x1 (by decide)) (fun v41 e2 h1 => ?_)
  refine zok_br (zr_andr (lo := 0) (hi := 7) (zr_c (lo := 7) (hi := 7) (by decide)) (by decide)) (fun v42 e4 h3 => ?_)
  refine zok_br (zr_andr (lo := 0) (hi := 7) (zr_c (lo := 7) (hi := 7) (by decide)) (by decide)) (fun v43 e6 h5 => ?_)
  refine zok_if (fun q7 => ?_) (fun q7 => ?_)
  · have h8 := zc_eql (2) (2) q7 h1 (zr_c (lo := 2) (hi := 2) (by decide)) (by decide)
    refine zok_if (fun q9 => ?_) (fun q9 => ?_)
    · have h10 := zc_lel (3) q9 h3 (zr_c (lo := 3) (hi := 3) (by decide)) (by decide)
      exact (s_X12_more_42 hσ (zr_w h8 (by decide)) (zr_w h10 (by decide)) h5)
    have h11 := zc_ltr (4) (z_nle q9) (zr_c (lo := 3) (hi := 3) (by decide)) h3 (by decide)
    refine zok_if (fun q12 => ?_) (fun q12 => ?_)
    · have h13 := zc_ler (4) q12 (zr_c (lo := 4) (hi := 4) (by decide)) h5 (by decide)
      exact (s_X12_more_42 hσ (zr_w h8 (by decide)) (zr_w h11 (by decide)) (zr_w h13 (by decide)))
    have h14 := zc_ltl (3) (z_nle q12) h5 (zr_c (lo := 4) (hi := 4) (by decide)) (by decide)
    refine zok_ai (s_X12_blocks hσ h11 h14) (fun σ44 v45 i15 h16 => ?_)
    exact zok_sai i15 (zr_w h16 (by decide))
  exact (s_X12_more_42 hσ h1 h3 h5)
theorem s_X12_more3_r1_119 {G : Nat → Int} {σ : zSt} (hσ : zIM G σ) {s0 : Int32} (h_s0 : zr (0) (65535) s0) : zok (fX12_more3_r1_119 σ s0) (zAi (zIM G) (fun v : Int32 => zr (4) (23) v)) := by
  unfold fX12_more3_r1_119
  refine zok_bu (s_X12_push hσ h_s0) (fun σ1 i1 => ?_)
  exact zok_sai i1 (zr_w (zr_c (lo := 11) (hi := 11) (by decide)) (by decide))
theorem s_X12_more3_r1_200 {σ : zSt} (hσ : zPM σ) {s0 : Int32} (h_s0 : zr (4) (23) s0) : zok (fX12_more3_r1_200 σ s0) (zPi σ (fun v : Int32 => zr (4) (23) v)) := by
  unfold fX12_more3_r1_200
  exact zok_spi h_s0
theorem s_X12_more3_r1 {G : Nat → Int} {σ : zSt} (hσ : zIM G σ) {x1 : Int32} (h_x1 : zr (0) (7) x1) {x2 : Int32} (h_x2 : zr (4) (7) x2) (nP : ¬ (x2 = 5 ∧ (x1 = 3 ∨ x1 = 7))) : zok (fX12_more3_r1 σ x1 x2) (zAi (zIM G) (fun v : Int32 => zr (4) (23) v)) := by
  unfold fX12_more3_r1
  refine zok_br (zr_shr (lo := 0) (hi := 3) 1 (by decide) h_x1 (by decide)) (fun v4 e2 h1 => ?_)
  refine zok_if (fun q3 => ?_) (fun q3 => ?_)
  · have h4 := zc_eql (4) (4) q3 h_x2 (zr_c (lo := 4) (hi := 4) (by decide)) (by decide)
    refine zok_ai (s_X12_nextWord hσ) (fun σ22 v23 i5 h6 => ?_)
    refine zok_ck rfl ?_
    refine zok_bs (i5.wi 20 20 (by decide) h6 (by decide +kernel)) (fun σ24 e8 i7 => ?_)
    refine zok_pi (s_X12_cc i7.P h_x1) (fun v26 h9 => ?_)
    refine zok_if (fun q10 => ?_) (fun q10 => ?_)
    · have h11 := zc_eql (0) (0) q10 h9 (zr_c (lo := 0) (hi := 0) (by decide)) (by decide)
      exact zok_sai i7 (zr_w (zr_c (lo := 10) (hi := 10) (by decide)) (by decide))
    have h12 := zc_nel (1) (1) q10 h9 (zr_c (lo := 0) (hi := 0) (by decide)) (by decide)
    refine zok_ck rfl ?_
    refine zok_bu (s_X12_push i7 (rM_12 i7.sg _ (by decide))) (fun σ27 i13 => ?_)
    refine zok_ck rfl ?_
    refine zok_ck rfl ?_
    refine zok_bs (i13.wi 19 19 (by decide) (rM_12 i13.sg _ (by decide)) (by decide +kernel)) (fun σ28 e15 i14 => ?_)
    exact zok_sai i14 (zr_w (zr_c (lo := 17) (hi := 17) (by decide)) (by decide))
  have h16 := zc_nel (5) (7) q3 h_x2 (zr_c (lo := 4) (hi := 4) (by decide)) (by decide)
  refine zok_if (fun q17 => ?_) (fun q17 => ?_)
  · have h18 := zc_eql (6) (6) q17 h16 (zr_c (lo := 6) (hi := 6) (by decide)) (by decide)
    refine zok_ai (s_X12_next hσ) (fun σ19 v20 i19 h20 => ?_)
    refine zok_bu (s_X12_does i19 h_x1 h20) (fun σ21 i21 => ?_)
    exact zok_sai i21 (zr_w (zr_c (lo := 7) (hi := 7) (by decide)) (by decide))
  refine zok_if (fun q22 => ?_) (fun q22 => ?_)
  · have h23 := zc_eql (7) (7) q22 h16 (zr_c (lo := 7) (hi := 7) (by decide)) (by decide)
    refine zok_bu (s_X12_call hσ (zr_w (zr_mul (lo := 0) (hi := 56) (zr_c (lo := 8) (hi := 8) (by decide)) h_x1 (by decide)) (by decide))) (fun σ18 i24 => ?_)
    exact zok_sai i24 (zr_w (zr_c (lo := 11) (hi := 11) (by decide)) (by decide))
  have h25 := zc_nel (5) (6) q22 h16 (zr_c (lo := 7) (hi := 7) (by decide)) (by decide)
  refine zok_ck (by decide) ?_
  refine zok_if (fun q26 => ?_) (fun q26 => ?_)
  · have h27 := zc_eql (0) (0) q26 (zr_rem (lo := 0) (hi := 1) 2 (by decide) h_x1 (by decide)) (zr_c (lo := 0) (hi := 0) (by decide)) (by decide)
    refine zok_if (fun q28 => ?_) (fun q28 => ?_)
    · have h29 := zc_eql (3) (3) q28 h1 (zr_c (lo := 3) (hi := 3) (by decide)) (by decide)
      refine zok_pi (s_X12_pair hσ.P (zr_w (zr_c (lo := 0) (hi := 0) (by decide)) (by decide))) (fun v17 h30 => ?_)
      exact (s_X12_more3_r1_119 hσ h30)
    have h31 := zc_nel (0) (2) q28 h1 (zr_c (lo := 3) (hi := 3) (by decide)) (by decide)
    refine zok_pi (s_X12_rp hσ.P (zr_w h31 (by decide))) (fun v15 h32 => ?_)
    exact (s_X12_more3_r1_119 hσ h32)
  have h33 := zc_nel (1) (1) q26 (zr_rem (lo := 0) (hi := 1) 2 (by decide) h_x1 (by decide)) (zr_c (lo := 0) (hi := 0) (by decide)) (by decide)
  have h34 := z_odd64 h_x1 h33 (by decide)
  refine zok_if (fun q35 => ?_) (fun q35 => ?_)
  · have h36 := zc_eql (0) (0) q35 h1 (zr_c (lo := 0) (hi := 0) (by decide)) (by decide)
    refine zok_ai (s_X12_nextWord hσ) (fun σ9 v10 i37 h38 => ?_)
    refine zok_ck rfl ?_
    refine zok_bs (i37.wi 20 20 (by decide) h38 (by decide +kernel)) (fun σ11 e40 i39 => ?_)
    refine zok_ck rfl ?_
    refine zok_bu (s_X12_push i39 (rM_12 i39.sg _ (by decide))) (fun σ12 i41 => ?_)
    refine zok_ck rfl ?_
    refine zok_ck rfl ?_
    refine zok_bs (i41.wi 19 19 (by decide) (rM_12 i41.sg _ (by decide)) (by decide +kernel)) (fun σ13 e43 i42 => ?_)
    exact zok_sai i42 (zr_w (zr_c (lo := 17) (hi := 17) (by decide)) (by decide))
  have h44 := zc_nel (1) (3) q35 h1 (zr_c (lo := 0) (hi := 0) (by decide)) (by decide)
  refine zok_if (fun q45 => ?_) (fun q45 => ?_)
  · have h46 := zc_eql (2) (2) q45 h44 (zr_c (lo := 2) (hi := 2) (by decide)) (by decide)
    refine zok_ai (s_X12_fetch hσ) (fun σ5 v6 i47 h48 => ?_)
    refine zok_ai (s_X12_more i47 h48) (fun σ7 v8 i49 h50 => ?_)
    exact zok_pai i49 (s_X12_more3_r1_200 i49.P (zr_w h50 (by decide)))
  refine zok_if (fun q51 => ?_) (fun q51 => ?_)
  · have h52 := zc_eql (1) (1) q51 h44 (zr_c (lo := 1) (hi := 1) (by decide)) (by decide)
    exact absurd (z_m3 h_x1 h_x2 e2 q3 q17 q22 q26 q35 q45) nP
  have h53 := zc_nel (2) (3) q51 h44 (zr_c (lo := 1) (hi := 1) (by decide)) (by decide)
  exact absurd (z_m3 h_x1 h_x2 e2 q3 q17 q22 q26 q35 q45) nP
theorem s_X12_jump {G : Nat → Int} {σ : zSt} (hσ : zIM G σ) {x1 : Int32} (h_x1 : zr (-128) (127) x1) : zok (fX12_jump σ x1) (zIM G) := by
  unfold fX12_jump
  refine zok_ck rfl ?_
  refine zok_ck rfl ?_
  refine zok_bs (hσ.wi 19 19 (by decide) (zr_andr (lo := 0) (hi := 65535) (zr_c (lo := 65535) (hi := 65535) (by decide)) (by decide)) (by decide +kernel)) (fun σ1 e2 i1 => ?_)
  refine zok_ck rfl ?_
  refine zok_ck rfl ?_
  refine zok_bs (i1.wi 20 20 (by decide) (rM_12 i1.sg _ (by decide)) (by decide +kernel)) (fun σ2 e4 i3 => ?_)
  exact zok_some i3
theorem s_X12_moves_85 {σ : zSt} (hσ : zPM σ) : zok (fX12_moves_85 σ ) (zPi σ (fun v : Int32 => zr (7) (16) v)) := by
  unfold fX12_moves_85
  exact zok_spi (zr_w (zr_c (lo := 7) (hi := 7) (by decide)) (by decide))
theorem s_X12_moves_15 {G : Nat → Int} {σ : zSt} (hσ : zIM G σ) {x2 : Int32} (h_x2 : zr (0) (1) x2) {s0 : Int32} (h_s0 : zr (2) (4) s0) : zok (fX12_moves_15 σ x2 s0) (zAi (zIM G) (fun v : Int32 => zr (7) (16) v)) := by
  unfold fX12_moves_15
  refine zok_pi (s_X12_pair hσ.P (zr_w h_s0 (by decide))) (fun v2 h1 => ?_)
  refine zok_if (fun q2 => ?_) (fun q2 => ?_)
  · have h3 := zc_eql (0) (0) q2 h_x2 (zr_c (lo := 0) (hi := 0) (by decide)) (by decide)
    refine zok_ck rfl ?_
    refine zok_bu (s_X12_write hσ) (fun σ3 i4 => ?_)
    refine zok_ck rfl ?_
    refine zok_ck rfl ?_
    refine zok_bs (i4.wi 20 20 (by decide) (zr_or (lo := 0) (hi := 65535) 16 (zr_shl (lo := 0) (hi := 65280) 8 (by decide) (rM_11 i4.sg _ (by decide)) (by decide)) (zr_andr (lo := 0) (hi := 255) (zr_c (lo := 255) (hi := 255) (by decide)) (by decide)) (by decide)) (by decide +kernel)) (fun σ4 e6 i5 => ?_)
    exact zok_pai i5 (s_X12_moves_85 i5.P)
  have h7 := zc_nel (1) (1) q2 h_x2 (zr_c (lo := 0) (hi := 0) (by decide)) (by decide)
  refine zok_pi (s_X12_read hσ.P) (fun v6 h8 => ?_)
  refine zok_ck rfl ?_
  refine zok_bs (hσ.wi 0 0 (by decide) h8 (by decide +kernel)) (fun σ7 e10 i9 => ?_)
  refine zok_ck rfl ?_
  refine zok_bs (i9.wi 20 20 (by decide) (zr_andr (lo := 0) (hi := 65535) (zr_c (lo := 65535) (hi := 65535) (by decide)) (by decide)) (by decide +kernel)) (fun σ8 e12 i11 => ?_)
  exact zok_pai i11 (s_X12_moves_85 i11.P)
theorem s_X12_moves_214 {σ : zSt} (hσ : zPM σ) {s0 : Int32} (h_s0 : zr (13) (16) s0) : zok (fX12_moves_214 σ s0) (zPi σ (fun v : Int32 => zr (7) (16) v)) := by
  unfold fX12_moves_214
  exact zok_spi (zr_w h_s0 (by decide))
theorem s_X12_moves_201 {G : Nat → Int} {σ : zSt} (hσ : zIM G σ) {x1 : Int32} (h_x1 : zr (2) (3) x1) {s0 : Int32} (h_s0 : zr (0) (65535) s0) {s1 : Int32} (h_s1 : zr (20) (20) s1) : zok (fX12_moves_201 σ x1 s0 s1) (zAi (zIM G) (fun v : Int32 => zr (7) (16) v)) := by
  unfold fX12_moves_201
  refine zok_ck (zin_ok h_s1 (by decide)) ?_
  refine zok_bs (hσ.wi 20 20 (z_ix h_s1 (by decide)) h_s0 (by decide +kernel)) (fun σ9 e2 i1 => ?_)
  refine zok_if (fun q3 => ?_) (fun q3 => ?_)
  · have h4 := zc_eql (2) (2) q3 h_x1 (zr_c (lo := 2) (hi := 2) (by decide)) (by decide)
    exact zok_pai i1 (s_X12_moves_214 i1.P (zr_w (zr_c (lo := 16) (hi := 16) (by decide)) (by decide)))
  have h5 := zc_nel (3) (3) q3 h_x1 (zr_c (lo := 2) (hi := 2) (by decide)) (by decide)
  exact zok_pai i1 (s_X12_moves_214 i1.P (zr_w (zr_c (lo := 13) (hi := 13) (by decide)) (by decide)))
theorem s_X12_moves_195 {G : Nat → Int} {σ : zSt} (hσ : zIM G σ) {x1 : Int32} (h_x1 : zr (2) (3) x1) {x3 : Int32} (h_x3 : zr (0) (65535) x3) {s0 : Int32} (h_s0 : zr (20) (20) s0) : zok (fX12_moves_195 σ x1 x3 s0) (zAi (zIM G) (fun v : Int32 => zr (7) (16) v)) := by
  unfold fX12_moves_195
  exact (s_X12_moves_201 hσ h_x1 (zr_andr (lo := 0) (hi := 65535) (zr_c (lo := 65535) (hi := 65535) (by decide)) (by decide)) h_s0)
theorem s_X12_moves_160 {G : Nat → Int} {σ : zSt} (hσ : zIM G σ) {x1 : Int32} (h_x1 : zr (2) (3) x1) {x2 : Int32} (h_x2 : zr (0) (1) x2) {x3 : Int32} (h_x3 : zr (0) (65535) x3) : zok (fX12_moves_160 σ x1 x2 x3) (zAi (zIM G) (fun v : Int32 => zr (7) (16) v)) := by
  unfold fX12_moves_160
  refine zok_if (fun q1 => ?_) (fun q1 => ?_)
  · have h2 := zc_eql (3) (3) q1 h_x1 (zr_c (lo := 3) (hi := 3) (by decide)) (by decide)
    refine zok_if (fun q3 => ?_) (fun q3 => ?_)
    · have h4 := zc_eql (0) (0) q3 h_x2 (zr_c (lo := 0) (hi := 0) (by decide)) (by decide)
      refine zok_ck rfl ?_
      exact (s_X12_moves_201 hσ (zr_w h2 (by decide)) (zr_or (lo := 0) (hi := 65535) 16 (zr_shl (lo := 0) (hi := 65280) 8 (by decide) (rM_11 hσ.sg _ (by decide)) (by decide)) (zr_andr (lo := 0) (hi := 255) (zr_c (lo := 255) (hi := 255) (by decide)) (by decide)) (by decide)) (zr_c (lo := 20) (hi := 20) (by decide)))
    have h5 := zc_nel (1) (1) q3 h_x2 (zr_c (lo := 0) (hi := 0) (by decide)) (by decide)
    exact (s_X12_moves_195 hσ (zr_w h2 (by decide)) h_x3 (zr_c (lo := 20) (hi := 20) (by decide)))
  have h6 := zc_nel (2) (2) q1 h_x1 (zr_c (lo := 3) (hi := 3) (by decide)) (by decide)
  exact (s_X12_moves_195 hσ (zr_w h6 (by decide)) h_x3 (zr_c (lo := 20) (hi := 20) (by decide)))
theorem s_X12_moves_114 {G : Nat → Int} {σ : zSt} (hσ : zIM G σ) {x1 : Int32} (h_x1 : zr (2) (3) x1) {x2 : Int32} (h_x2 : zr (0) (1) x2) {x3 : Int32} (h_x3 : zr (0) (65535) x3) : zok (fX12_moves_114 σ x1 x2 x3) (zAi (zIM G) (fun v : Int32 => zr (7) (16) v)) := by
  unfold fX12_moves_114
  refine zok_if (fun q1 => ?_) (fun q1 => ?_)
  · have h2 := zc_eql (2) (2) q1 h_x1 (zr_c (lo := 2) (hi := 2) (by decide)) (by decide)
    refine zok_pi (s_X12_hl hσ.P) (fun v15 h3 => ?_)
    refine zok_bu (s_X12_wordTo hσ h_x3 h3) (fun σ16 i4 => ?_)
    exact (s_X12_moves_160 i4 (zr_w h2 (by decide)) h_x2 h_x3)
  have h5 := zc_nel (3) (3) q1 h_x1 (zr_c (lo := 2) (hi := 2) (by decide)) (by decide)
  refine zok_if (fun q6 => ?_) (fun q6 => ?_)
  · have h7 := zc_eql (0) (0) q6 h_x2 (zr_c (lo := 0) (hi := 0) (by decide)) (by decide)
    refine zok_ck rfl ?_
    refine zok_bu (s_X12_write hσ) (fun σ10 i8 => ?_)
    exact (s_X12_moves_160 i8 (zr_w h5 (by decide)) (zr_w h7 (by decide)) h_x3)
  have h9 := zc_nel (1) (1) q6 h_x2 (zr_c (lo := 0) (hi := 0) (by decide)) (by decide)
  refine zok_pi (s_X12_read hσ.P) (fun v12 h10 => ?_)
  refine zok_ck rfl ?_
  refine zok_bs (hσ.wi 0 0 (by decide) h10 (by decide +kernel)) (fun σ13 e12 i11 => ?_)
  exact (s_X12_moves_160 i11 (zr_w h5 (by decide)) (zr_w h9 (by decide)) h_x3)
theorem s_X12_moves {G : Nat → Int} {σ : zSt} (hσ : zIM G σ) {x1 : Int32} (h_x1 : zr (0) (3) x1) {x2 : Int32} (h_x2 : zr (0) (1) x2) : zok (fX12_moves σ x1 x2) (zAi (zIM G) (fun v : Int32 => zr (7) (16) v)) := by
  unfold fX12_moves
  refine zok_if (fun q1 => ?_) (fun q1 => ?_)
  · have h2 := zc_ler (2) q1 (zr_c (lo := 2) (hi := 2) (by decide)) h_x1 (by decide)
    refine zok_ai (s_X12_nextWord hσ) (fun σ17 v18 i3 h4 => ?_)
    refine zok_if (fun q5 => ?_) (fun q5 => ?_)
    · have h6 := zc_eql (2) (2) q5 h2 (zr_c (lo := 2) (hi := 2) (by decide)) (by decide)
      refine zok_if (fun q7 => ?_) (fun q7 => ?_)
      · have h8 := zc_eql (0) (0) q7 h_x2 (zr_c (lo := 0) (hi := 0) (by decide)) (by decide)
        exact (s_X12_moves_114 i3 (zr_w h6 (by decide)) (zr_w h8 (by decide)) h4)
      have h9 := zc_nel (1) (1) q7 h_x2 (zr_c (lo := 0) (hi := 0) (by decide)) (by decide)
      refine zok_pi (s_X12_word i3.P h4) (fun v20 h10 => ?_)
      refine zok_bu (s_X12_hlTo i3 (zr_w h10 (by decide))) (fun σ21 i11 => ?_)
      exact (s_X12_moves_160 i11 (zr_w h6 (by decide)) (zr_w h9 (by decide)) h4)
    have h12 := zc_nel (3) (3) q5 h2 (zr_c (lo := 2) (hi := 2) (by decide)) (by decide)
    exact (s_X12_moves_114 i3 (zr_w h12 (by decide)) h_x2 h4)
  have h13 := zc_ltl (1) (z_nle q1) h_x1 (zr_c (lo := 2) (hi := 2) (by decide)) (by decide)
  refine zok_if (fun q14 => ?_) (fun q14 => ?_)
  · have h15 := zc_eql (0) (0) q14 h13 (zr_c (lo := 0) (hi := 0) (by decide)) (by decide)
    exact (s_X12_moves_15 hσ h_x2 (zr_w (zr_c (lo := 2) (hi := 2) (by decide)) (by decide)))
  have h16 := zc_nel (1) (1) q14 h13 (zr_c (lo := 0) (hi := 0) (by decide)) (by decide)
  exact (s_X12_moves_15 hσ h_x2 (zr_w (zr_c (lo := 4) (hi := 4) (by decide)) (by decide)))
theorem s_X12_zero_154 {σ : zSt} (hσ : zPM σ) {s0 : Int32} (h_s0 : zr (7) (13) s0) : zok (fX12_zero_154 σ s0) (zPi σ (fun v : Int32 => zr (4) (16) v)) := by
  unfold fX12_zero_154
  exact zok_spi (zr_w h_s0 (by decide))
theorem s_X12_zero_122 {σ : zSt} (hσ : zPM σ) {x1 : Int32} (h_x1 : zr (2) (7) x1) {x5 : Int32} (h_x5 : zr (0) (1) x5) : zok (fX12_zero_122 σ x1 x5) (zPi σ (fun v : Int32 => zr (4) (16) v)) := by
  unfold fX12_zero_122
  refine zok_if (fun q1 => ?_) (fun q1 => ?_)
  · have h2 := zc_eql (2) (2) q1 h_x1 (zr_c (lo := 2) (hi := 2) (by decide)) (by decide)
    refine zok_if (fun q3 => ?_) (fun q3 => ?_)
    · have h4 := zc_eql (0) (0) q3 h_x5 (zr_c (lo := 0) (hi := 0) (by decide)) (by decide)
      exact (s_X12_zero_154 hσ (zr_w (zr_c (lo := 8) (hi := 8) (by decide)) (by decide)))
    have h5 := zc_nel (1) (1) q3 h_x5 (zr_c (lo := 0) (hi := 0) (by decide)) (by decide)
    exact (s_X12_zero_154 hσ (zr_w (zr_c (lo := 13) (hi := 13) (by decide)) (by decide)))
  have h6 := zc_nel (3) (7) q1 h_x1 (zr_c (lo := 2) (hi := 2) (by decide)) (by decide)
  refine zok_if (fun q7 => ?_) (fun q7 => ?_)
  · have h8 := zc_eql (0) (0) q7 h_x5 (zr_c (lo := 0) (hi := 0) (by decide)) (by decide)
    exact (s_X12_zero_154 hσ (zr_w (zr_c (lo := 7) (hi := 7) (by decide)) (by decide)))
  have h9 := zc_nel (1) (1) q7 h_x5 (zr_c (lo := 0) (hi := 0) (by decide)) (by decide)
  exact (s_X12_zero_154 hσ (zr_w (zr_c (lo := 12) (hi := 12) (by decide)) (by decide)))
theorem s_X12_zero_109 {G : Nat → Int} {σ : zSt} (hσ : zIM G σ) {x1 : Int32} (h_x1 : zr (2) (7) x1) {x4 : Int32} (h_x4 : zr (-128) (127) x4) {s0 : Int32} (h_s0 : zr (0) (1) s0) : zok (fX12_zero_109 σ x1 x4 s0) (zAi (zIM G) (fun v : Int32 => zr (4) (16) v)) := by
  unfold fX12_zero_109
  refine zok_if (fun q1 => ?_) (fun q1 => ?_)
  · have h2 := zc_eql (0) (0) q1 h_s0 (zr_c (lo := 0) (hi := 0) (by decide)) (by decide)
    exact zok_pai hσ (s_X12_zero_122 hσ.P h_x1 (zr_w h2 (by decide)))
  have h3 := zc_nel (1) (1) q1 h_s0 (zr_c (lo := 0) (hi := 0) (by decide)) (by decide)
  refine zok_bu (s_X12_jump hσ h_x4) (fun σ1 i4 => ?_)
  exact zok_pai i4 (s_X12_zero_122 i4.P h_x1 (zr_w h3 (by decide)))
theorem s_X12_zero_104 {G : Nat → Int} {σ : zSt} (hσ : zIM G σ) {x1 : Int32} (h_x1 : zr (3) (7) x1) {x4 : Int32} (h_x4 : zr (-128) (127) x4) : zok (fX12_zero_104 σ x1 x4) (zAi (zIM G) (fun v : Int32 => zr (4) (16) v)) := by
  unfold fX12_zero_104
  exact (s_X12_zero_109 hσ (zr_w h_x1 (by decide)) h_x4 (zr_w (zr_c (lo := 1) (hi := 1) (by decide)) (by decide)))
end ZJN1
