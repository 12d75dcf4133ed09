theorem s_X12_rTo_104 {G : Nat → Int} {σ : zSt} (hσ : zIM G σ) {x1 : Int32} (h_x1 : zr (0) (6) x1) {x3 : Int32} (h_x3 : zr (0) (255) x3) : zok (fX12_rTo_104 σ x1 x3) (zIM G) := by
  unfold fX12_rTo_104
  refine zok_ck (zin_ok (zr_add (lo := 2) (hi := 8) (zr_c (lo := 2) (hi := 2) (by decide)) h_x1 (by decide)) (by decide)) ?_
  refine zok_bs (hσ.wi 2 8 (z_ix (zr_add (lo := 2) (hi := 8) (zr_c (lo := 2) (hi := 2) (by decide)) h_x1 (by decide)) (by decide)) h_x3 (by decide +kernel)) (fun σ1 e2 i1 => ?_)
  exact zok_pau i1 (s_X12_rTo_113 i1.P)
theorem s_X12_rTo_100 {G : Nat → Int} {σ : zSt} (hσ : zIM G σ) {s0 : Int32} (h_s0 : zr (0) (65535) s0) {s1 : Int32} (h_s1 : zr (16) (17) s1) : zok (fX12_rTo_100 σ s0 s1) (zIM G) := by
  unfold fX12_rTo_100
  refine zok_ck (zin_ok h_s1 (by decide)) ?_
  refine zok_bs (hσ.wi 16 17 (z_ix h_s1 (by decide)) h_s0 (by decide +kernel)) (fun σ2 e2 i1 => ?_)
  exact zok_pau i1 (s_X12_rTo_113 i1.P)
theorem s_X12_rTo {G : Nat → Int} {σ : zSt} (hσ : zIM G σ) {x1 : Int32} (h_x1 : zr (0) (7) x1) {x2 : Int32} : zok (fX12_rTo σ x1 x2) (zIM G) := by
  unfold fX12_rTo
  refine zok_br (zr_andr (lo := 0) (hi := 255) (zr_c (lo := 255) (hi := 255) (by decide)) (by decide)) (fun v3 e2 h1 => ?_)
  refine zok_if (fun q3 => ?_) (fun q3 => ?_)
  · have h4 := zc_eql (6) (6) q3 h_x1 (zr_c (lo := 6) (hi := 6) (by decide)) (by decide)
    refine zok_pi (s_X12_m hσ.P) (fun v6 h5 => ?_)
    refine zok_bu (s_X12_write hσ) (fun σ7 i6 => ?_)
    exact zok_pau i6 (s_X12_rTo_113 i6.P)
  refine zok_if (fun q7 => ?_) (fun q7 => ?_)
  · have h8 := zc_eql (7) (7) q7 h_x1 (zr_c (lo := 7) (hi := 7) (by decide)) (by decide)
    refine zok_ck rfl ?_
    refine zok_bs (hσ.wi 0 0 (by decide) h1 (by decide +kernel)) (fun σ4 e10 i9 => ?_)
    exact zok_pau i9 (s_X12_rTo_113 i9.P)
  have h11 := zc_nel (0) (6) q7 h_x1 (zr_c (lo := 7) (hi := 7) (by decide)) (by decide)
  refine zok_if (fun q12 => ?_) (fun q12 => ?_)
  · have h13 := zc_lel (0) q12 (rM_6 hσ.sg _ (by decide)) (zr_c (lo := 0) (hi := 0) (by decide)) (by decide)
    exact (s_X12_rTo_104 hσ h11 h1)
  have h14 := zc_ltr (1) (z_nle q12) (zr_c (lo := 0) (hi := 0) (by decide)) (rM_6 hσ.sg _ (by decide)) (by decide)
  have h15 := xM_sp hσ.sp h14 (by decide)
  refine zok_if (fun q16 => ?_) (fun q16 => ?_)
  · have h17 := zc_lel (3) q16 h11 (zr_c (lo := 3) (hi := 3) (by decide)) (by decide)
    exact (s_X12_rTo_104 hσ (zr_w h17 (by decide)) h1)
  have h18 := zc_ltr (4) (z_nle q16) (zr_c (lo := 3) (hi := 3) (by decide)) h11 (by decide)
  refine zok_if (fun q19 => ?_) (fun q19 => ?_)
  · have h20 := zc_eql (4) (4) q19 h18 (zr_c (lo := 4) (hi := 4) (by decide)) (by decide)
    refine zok_ck (zin_ok h15 (by decide)) ?_
    exact (s_X12_rTo_100 hσ (zr_or (lo := 0) (hi := 65535) 16 (zr_shl (lo := 0) (hi := 65280) 8 (by decide) h1 (by decide)) (zr_andr (lo := 0) (hi := 255) (zr_c (lo := 255) (hi := 255) (by decide)) (by decide)) (by decide)) h15)
  have h21 := zc_nel (5) (6) q19 h18 (zr_c (lo := 4) (hi := 4) (by decide)) (by decide)
  refine zok_ck (zin_ok h15 (by decide)) ?_
  exact (s_X12_rTo_100 hσ (zr_or (lo := 0) (hi := 65535) 16 (zr_andr (lo := 0) (hi := 65280) (zr_c (lo := 65280) (hi := 65280) (by decide)) (by decide)) h1 (by decide)) h15)
theorem s_X12_put_34 {G : Nat → Int} {σ : zSt} (hσ : zIM G σ) {s0 : Int32} (h_s0 : zr (0) (255) s0) {s1 : Int32} (h_s1 : zr (1) (1) s1) : zok (fX12_put_34 σ s0 s1) (zIM G) := by
  unfold fX12_put_34
  refine zok_ck (zin_ok h_s1 (by decide)) ?_
  refine zok_bs (hσ.wi 1 1 (z_ix h_s1 (by decide)) h_s0 (by decide +kernel)) (fun σ1 e2 i1 => ?_)
  exact zok_some i1
theorem s_X12_put {G : Nat → Int} {σ : zSt} (hσ : zIM G σ) {x1 : Int32} (h_x1 : zr (0) (7) x1) {x2 : Int32} (h_x2 : zr (0) (1) x2) : zok (fX12_put σ x1 x2) (zIM G) := by
  unfold fX12_put
  refine zok_if (fun q1 => ?_) (fun q1 => ?_)
  · have h2 := zc_eql (0) (0) q1 h_x2 (zr_c (lo := 0) (hi := 0) (by decide)) (by decide)
    refine zok_ck rfl ?_
    exact (s_X12_put_34 hσ (zr_andl (lo := 0) (hi := 255) (rM_11 hσ.sg _ (by decide)) (by decide)) (zr_c (lo := 1) (hi := 1) (by decide)))
  have h3 := zc_nel (1) (1) q1 h_x2 (zr_c (lo := 0) (hi := 0) (by decide)) (by decide)
  refine zok_ck rfl ?_
  exact (s_X12_put_34 hσ (zr_or (lo := 0) (hi := 255) 8 (rM_11 hσ.sg _ (by decide)) (zr_shld (lo := 0) (hi := 128) (zr_c (lo := 1) (hi := 1) (by decide)) h_x1 (by decide)) (by decide)) (zr_c (lo := 1) (hi := 1) (by decide)))
theorem s_X12_flag {σ : zSt} (hσ : zPM σ) {x1 : Int32} (h_x1 : zr (0) (7) x1) : zok (fX12_flag σ x1) (zPi σ (fun v : Int32 => zr (0) (1) v)) := by
  unfold fX12_flag
  refine zok_ck rfl ?_
  exact zok_spi (zr_andr (lo := 0) (hi := 1) (zr_c (lo := 1) (hi := 1) (by decide)) (by decide))
theorem s_X12_xy_31 {G : Nat → Int} {σ : zSt} (hσ : zIM G σ) {s0 : Int32} (h_s0 : zr (0) (1) s0) {s1 : Int32} (h_s1 : zr (3) (3) s1) : zok (fX12_xy_31 σ s0 s1) (zIM G) := by
  unfold fX12_xy_31
  refine zok_bu (s_X12_put hσ (zr_w h_s1 (by decide)) h_s0) (fun σ1 i1 => ?_)
  exact zok_some i1
theorem s_X12_xy_14 {G : Nat → Int} {σ : zSt} (hσ : zIM G σ) {x1 : Int32} (h_x1 : zr (-256) (511) x1) {s0 : Int32} (h_s0 : zr (0) (1) s0) {s1 : Int32} (h_s1 : zr (5) (5) s1) : zok (fX12_xy_14 σ x1 s0 s1) (zIM G) := by
  unfold fX12_xy_14
  refine zok_bu (s_X12_put hσ (zr_w h_s1 (by decide)) h_s0) (fun σ2 i1 => ?_)
  refine zok_if (fun q2 => ?_) (fun q2 => ?_)
  · have h3 := zc_eql (0) (0) q2 (zr_andr (lo := 0) (hi := 8) (zr_c (lo := 8) (hi := 8) (by decide)) (by decide)) (zr_c (lo := 0) (hi := 0) (by decide)) (by decide)
    exact (s_X12_xy_31 i1 (zr_w (zr_c (lo := 0) (hi := 0) (by decide)) (by decide)) (zr_c (lo := 3) (hi := 3) (by decide)))
  have h4 := zc_nel (1) (8) q2 (zr_andr (lo := 0) (hi := 8) (zr_c (lo := 8) (hi := 8) (by decide)) (by decide)) (zr_c (lo := 0) (hi := 0) (by decide)) (by decide)
  exact (s_X12_xy_31 i1 (zr_w (zr_c (lo := 1) (hi := 1) (by decide)) (by decide)) (zr_c (lo := 3) (hi := 3) (by decide)))
theorem s_X12_xy {G : Nat → Int} {σ : zSt} (hσ : zIM G σ) {x1 : Int32} (h_x1 : zr (-256) (511) x1) : zok (fX12_xy σ x1) (zIM G) := by
  unfold fX12_xy
  refine zok_if (fun q1 => ?_) (fun q1 => ?_)
  · have h2 := zc_eql (0) (0) q1 (zr_andr (lo := 0) (hi := 32) (zr_c (lo := 32) (hi := 32) (by decide)) (by decide)) (zr_c (lo := 0) (hi := 0) (by decide)) (by decide)
    exact (s_X12_xy_14 hσ h_x1 (zr_w (zr_c (lo := 0) (hi := 0) (by decide)) (by decide)) (zr_c (lo := 5) (hi := 5) (by decide)))
  have h3 := zc_nel (1) (32) q1 (zr_andr (lo := 0) (hi := 32) (zr_c (lo := 32) (hi := 32) (by decide)) (by decide)) (zr_c (lo := 0) (hi := 0) (by decide)) (by decide)
  exact (s_X12_xy_14 hσ h_x1 (zr_w (zr_c (lo := 1) (hi := 1) (by decide)) (by decide)) (zr_c (lo := 5) (hi := 5) (by decide)))
theorem s_X12_by_31 {G : Nat → Int} {σ : zSt} (hσ : zIM G σ) {x1 : Int32} (h_x1 : zr (0) (255) x1) {s0 : Int32} (h_s0 : zr (0) (1) s0) {s1 : Int32} (h_s1 : zr (6) (6) s1) : zok (fX12_by_31 σ x1 s0 s1) (zIM G) := by
  unfold fX12_by_31
  refine zok_bu (s_X12_put hσ (zr_w h_s1 (by decide)) h_s0) (fun σ1 i1 => ?_)
  refine zok_bu (s_X12_xy i1 (zr_w h_x1 (by decide))) (fun σ2 i2 => ?_)
  exact zok_some i2
theorem s_X12_by_16 {G : Nat → Int} {σ : zSt} (hσ : zIM G σ) {x1 : Int32} (h_x1 : zr (0) (255) x1) {s0 : Int32} (h_s0 : zr (0) (1) s0) {s1 : Int32} (h_s1 : zr (7) (7) s1) : zok (fX12_by_16 σ x1 s0 s1) (zIM G) := by
  unfold fX12_by_16
  refine zok_bu (s_X12_put hσ (zr_w h_s1 (by decide)) h_s0) (fun σ3 i1 => ?_)
  refine zok_if (fun q2 => ?_) (fun q2 => ?_)
  · have h3 := zc_eql (0) (0) q2 h_x1 (zr_c (lo := 0) (hi := 0) (by decide)) (by decide)
    exact (s_X12_by_31 i1 (zr_w h3 (by decide)) (zr_w (zr_c (lo := 1) (hi := 1) (by decide)) (by decide)) (zr_c (lo := 6) (hi := 6) (by decide)))
  have h4 := zc_nel (1) (255) q2 h_x1 (zr_c (lo := 0) (hi := 0) (by decide)) (by decide)
  exact (s_X12_by_31 i1 (zr_w h4 (by decide)) (zr_w (zr_c (lo := 0) (hi := 0) (by decide)) (by decide)) (zr_c (lo := 6) (hi := 6) (by decide)))
theorem s_X12_by {G : Nat → Int} {σ : zSt} (hσ : zIM G σ) {x1 : Int32} (h_x1 : zr (0) (255) x1) : zok (fX12_by σ x1) (zIM G) := by
  unfold fX12_by
  refine zok_if (fun q1 => ?_) (fun q1 => ?_)
  · have h2 := zc_eql (0) (0) q1 (zr_andr (lo := 0) (hi := 128) (zr_c (lo := 128) (hi := 128) (by decide)) (by decide)) (zr_c (lo := 0) (hi := 0) (by decide)) (by decide)
    exact (s_X12_by_16 hσ h_x1 (zr_w (zr_c (lo := 0) (hi := 0) (by decide)) (by decide)) (zr_c (lo := 7) (hi := 7) (by decide)))
  have h3 := zc_nel (1) (128) q1 (zr_andr (lo := 0) (hi := 128) (zr_c (lo := 128) (hi := 128) (by decide)) (by decide)) (zr_c (lo := 0) (hi := 0) (by decide)) (by decide)
  exact (s_X12_by_16 hσ h_x1 (zr_w (zr_c (lo := 1) (hi := 1) (by decide)) (by decide)) (zr_c (lo := 7) (hi := 7) (by decide)))
theorem s_X12_isEven_35 {σ : zSt} (hσ : zPM σ) {s0 : Int32} (h_s0 : zr (0) (1) s0) : zok (fX12_isEven_35 σ s0) (zPi σ (fun v : Int32 => zr (0) (1) v)) := by
  unfold fX12_isEven_35
  refine zok_ck (zbo_ok h_s0 (by decide)) ?_
  exact zok_spi h_s0
theorem s_X12_isEven_4_body {σ : zSt} {k4 : zSt → Int32 → Int32 → Int32 → Option (zSt × Int32)} {Mk4 : Int} (hk4 : ∀ (x0 : Int32) (x1 : Int32) (x2 : Int32), zr (0) (255) x0 → zr (0) (8) x2 → (8) - x2.toInt < Mk4 → zok (k4 σ x0 x1 x2) (zPi σ (fun v : Int32 => zr (0) (1) v))) (hσ : zPM σ) {x0 : Int32} (h_x0 : zr (0) (255) x0) {x1 : Int32} {x2 : Int32} (h_x2 : zr (0) (8) x2) (hMk4 : (8) - x2.toInt ≤ Mk4) : zok (fX12_isEven_4_body k4 σ x0 x1 x2) (zPi σ (fun v : Int32 => zr (0) (1) v)) := by
  unfold fX12_isEven_4_body
  refine zok_if (fun q1 => ?_) (fun q1 => ?_)
  · have h2 := zc_ler (8) q1 (zr_c (lo := 8) (hi := 8) (by decide)) h_x2 (by decide)
    refine zok_ck (by decide) ?_
    refine zok_if (fun q3 => ?_) (fun q3 => ?_)
    · have h4 := zc_eql (0) (0) q3 zr_any (zr_c (lo := 0) (hi := 0) (by decide)) (by decide)
      exact (s_X12_isEven_35 hσ (zr_w (zr_c (lo := 1) (hi := 1) (by decide)) (by decide)))
    exact (s_X12_isEven_35 hσ (zr_w (zr_c (lo := 0) (hi := 0) (by decide)) (by decide)))
  have h5 := zc_ltl (7) (z_nle q1) h_x2 (zr_c (lo := 8) (hi := 8) (by decide)) (by decide)
  refine zok_bv (fun v1 e7 => ?_)
  refine zok_br (zr_add (lo := 1) (hi := 8) h5 (zr_c (lo := 1) (hi := 1) (by decide)) (by decide)) (fun v2 e9 h8 => ?_)
  exact hk4 _ _ _  h_x0 (zr_w h8 (by decide)) (by rw [e9]; have := z_tadd (y := (1 : Int32)) h5 (zr_c (lo := 1) (hi := 1) (by decide)) (by decide); have e9 : (1 : Int32).toInt = 1 := rfl; omega) 
theorem s_X12_isEven_4 {σ : zSt} (hσ : zPM σ) : ∀ (n : Nat) {x0 : Int32} (h_x0 : zr (0) (255) x0) {x1 : Int32} {x2 : Int32} (h_x2 : zr (0) (8) x2) (hm : (8) - x2.toInt < n), zok (fX12_isEven_4 n σ x0 x1 x2) (zPi σ (fun v : Int32 => zr (0) (1) v)) := by
  intro n
  induction n with
  | zero => intro x0 h_x0 x1 x2 h_x2 hm ; have h9 := h_x2.1; have h8 := h_x2.2; exfalso; omega
  | succ n ih => intro x0 h_x0 x1 x2 h_x2 hm ; exact s_X12_isEven_4_body (fun x0 x1 x2 h_x0 h_x2 hm1 => ih h_x0 h_x2 (by omega)) hσ h_x0 h_x2 (Int.le_refl _)
theorem s_X12_isEven {σ : zSt} (hσ : zPM σ) {x0 : Int32} (h_x0 : zr (0) (255) x0) : zok (fX12_isEven σ x0) (zPi σ (fun v : Int32 => zr (0) (1) v)) := by
  unfold fX12_isEven
  exact (s_X12_isEven_4 hσ zfuel h_x0 (zr_w (zr_c (lo := 0) (hi := 0) (by decide)) (by decide)) (by decide))
theorem s_X12_cc_64 {σ : zSt} (hσ : zPM σ) {s0 : Int32} (h_s0 : zr (0) (1) s0) : zok (fX12_cc_64 σ s0) (zPi σ (fun v : Int32 => zr (0) (1) v)) := by
  unfold fX12_cc_64
  refine zok_ck (zbo_ok h_s0 (by decide)) ?_
  exact zok_spi h_s0
theorem s_X12_cc_56 {σ : zSt} (hσ : zPM σ) {s0 : Int32} (h_s0 : zr (0) (1) s0) {s1 : Int32} (h_s1 : zr (0) (1) s1) : zok (fX12_cc_56 σ s0 s1) (zPi σ (fun v : Int32 => zr (0) (1) v)) := by
  unfold fX12_cc_56
  refine zok_if (fun q1 => ?_) (fun q1 => ?_)
  · exact (s_X12_cc_64 hσ (zr_w (zr_c (lo := 1) (hi := 1) (by decide)) (by decide)))
  exact (s_X12_cc_64 hσ (zr_w (zr_c (lo := 0) (hi := 0) (by decide)) (by decide)))
theorem s_X12_cc_44 {σ : zSt} (hσ : zPM σ) {x1 : Int32} (h_x1 : zr (0) (7) x1) {s0 : Int32} (h_s0 : zr (0) (1) s0) : zok (fX12_cc_44 σ x1 s0) (zPi σ (fun v : Int32 => zr (0) (1) v)) := by
  unfold fX12_cc_44
  refine zok_ck (by decide) ?_
  refine zok_if (fun q1 => ?_) (fun q1 => ?_)
  · have h2 := zc_eql (1) (1) q1 (zr_rem (lo := 0) (hi := 1) 2 (by decide) h_x1 (by decide)) (zr_c (lo := 1) (hi := 1) (by decide)) (by decide)
    have h3 := z_odd64 h_x1 h2 (by decide)
    exact (s_X12_cc_56 hσ (zr_w (zr_c (lo := 1) (hi := 1) (by decide)) (by decide)) h_s0)
  have h4 := zc_nel (0) (0) q1 (zr_rem (lo := 0) (hi := 1) 2 (by decide) h_x1 (by decide)) (zr_c (lo := 1) (hi := 1) (by decide)) (by decide)
  exact (s_X12_cc_56 hσ (zr_w (zr_c (lo := 0) (hi := 0) (by decide)) (by decide)) h_s0)
theorem s_X12_cc_32 {σ : zSt} (hσ : zPM σ) {x1 : Int32} (h_x1 : zr (0) (7) x1) {s0 : Int32} (h_s0 : zr (0) (7) s0) : zok (fX12_cc_32 σ x1 s0) (zPi σ (fun v : Int32 => zr (0) (1) v)) := by
  unfold fX12_cc_32
  refine zok_pi (s_X12_flag hσ h_s0) (fun v2 h1 => ?_)
  refine zok_if (fun q2 => ?_) (fun q2 => ?_)
  · have h3 := zc_eql (1) (1) q2 h1 (zr_c (lo := 1) (hi := 1) (by decide)) (by decide)
    exact (s_X12_cc_44 hσ h_x1 (zr_w (zr_c (lo := 1) (hi := 1) (by decide)) (by decide)))
  have h4 := zc_nel (0) (0) q2 h1 (zr_c (lo := 1) (hi := 1) (by decide)) (by decide)
  exact (s_X12_cc_44 hσ h_x1 (zr_w (zr_c (lo := 0) (hi := 0) (by decide)) (by decide)))
theorem s_X12_cc {σ : zSt} (hσ : zPM σ) {x1 : Int32} (h_x1 : zr (0) (7) x1) : zok (fX12_cc σ x1) (zPi σ (fun v : Int32 => zr (0) (1) v)) := by
  unfold fX12_cc
  refine zok_if (fun q1 => ?_) (fun q1 => ?_)
  · have h2 := zc_ler (2) q1 (zr_c (lo := 2) (hi := 2) (by decide)) h_x1 (by decide)
    refine zok_if (fun q3 => ?_) (fun q3 => ?_)
    · have h4 := zc_ler (4) q3 (zr_c (lo := 4) (hi := 4) (by decide)) h2 (by decide)
      refine zok_if (fun q5 => ?_) (fun q5 => ?_)
      · have h6 := zc_ler (6) q5 (zr_c (lo := 6) (hi := 6) (by decide)) h4 (by decide)
        exact (s_X12_cc_32 hσ (zr_w h6 (by decide)) (zr_w (zr_c (lo := 7) (hi := 7) (by decide)) (by decide)))
      have h7 := zc_ltl (5) (z_nle q5) h4 (zr_c (lo := 6) (hi := 6) (by decide)) (by decide)
      exact (s_X12_cc_32 hσ (zr_w h7 (by decide)) (zr_w (zr_c (lo := 2) (hi := 2) (by decide)) (by decide)))
    have h8 := zc_ltl (3) (z_nle q3) h2 (zr_c (lo := 4) (hi := 4) (by decide)) (by decide)
    exact (s_X12_cc_32 hσ (zr_w h8 (by decide)) (zr_w (zr_c (lo := 0) (hi := 0) (by decide)) (by decide)))
  have h9 := zc_ltl (1) (z_nle q1) h_x1 (zr_c (lo := 2) (hi := 2) (by decide)) (by decide)
  exact (s_X12_cc_32 hσ (zr_w h9 (by decide)) (zr_w (zr_c (lo := 6) (hi := 6) (by decide)) (by decide)))
theorem s_X12_push {G : Nat → Int} {σ : zSt} (hσ : zIM G σ) {x1 : Int32} (h_x1 : zr (0) (65535) x1) : zok (fX12_push σ x1) (zIM G) := by
  unfold fX12_push
  refine zok_ck rfl ?_
  refine zok_ck rfl ?_
  refine zok_bs (hσ.wi 18 18 (by decide) (zr_andr (lo := 0) (hi := 65535) (zr_c (lo := 65535) (hi := 65535) (by decide)) (by decide)) (by decide +kernel)) (fun σ1 e2 i1 => ?_)
  refine zok_ck rfl ?_
  refine zok_bu (s_X12_write i1) (fun σ2 i3 => ?_)
  refine zok_ck rfl ?_
  refine zok_ck rfl ?_
  refine zok_bs (i3.wi 18 18 (by decide) (zr_andr (lo := 0) (hi := 65535) (zr_c (lo := 65535) (hi := 65535) (by decide)) (by decide)) (by decide +kernel)) (fun σ3 e5 i4 => ?_)
  refine zok_ck rfl ?_
  refine zok_bu (s_X12_write i4) (fun σ4 i6 => ?_)
  exact zok_some i6
theorem s_X12_pop {G : Nat → Int} {σ : zSt} (hσ : zIM G σ) : zok (fX12_pop σ ) (zAi (zIM G) (fun v : Int32 => zr (0) (65535) v)) := by
  unfold fX12_pop
  refine zok_ck rfl ?_
  refine zok_pi (s_X12_read hσ.P) (fun v2 h1 => ?_)
  refine zok_ck rfl ?_
  refine zok_ck rfl ?_
  refine zok_bs (hσ.wi 18 18 (by decide) (zr_andr (lo := 0) (hi := 65535) (zr_c (lo := 65535) (hi := 65535) (by decide)) (by decide)) (by decide +kernel)) (fun σ3 e3 i2 => ?_)
  refine zok_ck rfl ?_
  refine zok_pi (s_X12_read i2.P) (fun v5 h4 => ?_)
  refine zok_br (zr_or (lo := 0) (hi := 65535) 16 h1 (zr_shl (lo := 0) (hi := 65280) 8 (by decide) h4 (by decide)) (by decide)) (fun v6 e6 h5 => ?_)
  refine zok_ck rfl ?_
  refine zok_ck rfl ?_
  refine zok_bs (i2.wi 18 18 (by decide) (zr_andr (lo := 0) (hi := 65535) (zr_c (lo := 65535) (hi := 65535) (by decide)) (by decide)) (by decide +kernel)) (fun σ7 e8 i7 => ?_)
  exact zok_sai i7 h5
theorem s_X12_grows {G : Nat → Int} {σ : zSt} (hσ : zIM G σ) : zok (fX12_grows σ ) (zIM G) := by
  unfold fX12_grows
  refine zok_ck rfl ?_
  refine zok_ck rfl ?_
  refine zok_ck rfl ?_
  refine zok_bs (hσ.wi 22 22 (by decide) (zr_or (lo := 0) (hi := 255) 8 (zr_andr (lo := 0) (hi := 128) (zr_c (lo := 128) (hi := 128) (by decide)) (by decide)) (zr_andr (lo := 0) (hi := 127) (zr_c (lo := 127) (hi := 127) (by decide)) (by decide)) (by decide)) (by decide +kernel)) (fun σ1 e2 i1 => ?_)
  exact zok_some i1
theorem s_X12_next {G : Nat → Int} {σ : zSt} (hσ : zIM G σ) : zok (fX12_next σ ) (zAi (zIM G) (fun v : Int32 => zr (0) (255) v)) := by
  unfold fX12_next
  refine zok_ck rfl ?_
  refine zok_pi (s_X12_read hσ.P) (fun v2 h1 => ?_)
  refine zok_ck rfl ?_
  refine zok_ck rfl ?_
  refine zok_bs (hσ.wi 19 19 (by decide) (zr_andr (lo := 0) (hi := 65535) (zr_c (lo := 65535) (hi := 65535) (by decide)) (by decide)) (by decide +kernel)) (fun σ3 e3 i2 => ?_)
  exact zok_sai i2 h1
theorem s_X12_fetch {G : Nat → Int} {σ : zSt} (hσ : zIM G σ) : zok (fX12_fetch σ ) (zAi (zIM G) (fun v : Int32 => zr (0) (255) v)) := by
  unfold fX12_fetch
  refine zok_ai (s_X12_next hσ) (fun σ1 v2 i1 h2 => ?_)
  refine zok_bu (s_X12_grows i1) (fun σ3 i3 => ?_)
  exact zok_sai i3 h2
theorem s_X12_nextWord {G : Nat → Int} {σ : zSt} (hσ : zIM G σ) : zok (fX12_nextWord σ ) (zAi (zIM G) (fun v : Int32 => zr (0) (65535) v)) := by
  unfold fX12_nextWord
  refine zok_ai (s_X12_next hσ) (fun σ1 v2 i1 h2 => ?_)
  refine zok_ai (s_X12_next i1) (fun σ3 v4 i3 h4 => ?_)
  exact zok_sai i3 (zr_or (lo := 0) (hi := 65535) 16 h2 (zr_shl (lo := 0) (hi := 65280) 8 (by decide) h4 (by decide)) (by decide))
theorem s_X12_signed_16 {σ : zSt} (hσ : zPM σ) {s0 : Int32} (h_s0 : zr (-128) (127) s0) : zok (fX12_signed_16 σ s0) (zPi σ (fun v : Int32 => zr (-128) (127) v)) := by
  unfold fX12_signed_16
  exact zok_spi h_s0
theorem s_X12_signed {σ : zSt} (hσ : zPM σ) {x0 : Int32} (h_x0 : zr (0) (255) x0) : zok (fX12_signed σ x0) (zPi σ (fun v : Int32 => zr (-128) (127) v)) := by
  unfold fX12_signed
  refine zok_if (fun q1 => ?_) (fun q1 => ?_)
  · have h2 := zc_ler (128) q1 (zr_c (lo := 128) (hi := 128) (by decide)) h_x0 (by decide)
    exact (s_X12_signed_16 hσ (zr_w (zr_sub (lo := -128) (hi := -1) h2 (zr_c (lo := 256) (hi := 256) (by decide)) (by decide)) (by decide)))
  have h3 := zc_ltl (127) (z_nle q1) h_x0 (zr_c (lo := 128) (hi := 128) (by decide)) (by decide)
  exact (s_X12_signed_16 hσ (zr_w h3 (by decide)))
theorem s_X12_call {G : Nat → Int} {σ : zSt} (hσ : zIM G σ) {x1 : Int32} (h_x1 : zr (0) (65535) x1) : zok (fX12_call σ x1) (zIM G) := by
  unfold fX12_call
  refine zok_ck rfl ?_
  refine zok_bu (s_X12_push hσ (rM_12 hσ.sg _ (by decide))) (fun σ1 i1 => ?_)
  refine zok_ck rfl ?_
  refine zok_bs (i1.wi 19 19 (by decide) h_x1 (by decide +kernel)) (fun σ2 e3 i2 => ?_)
  refine zok_ck rfl ?_
  refine zok_bs (i2.wi 20 20 (by decide) h_x1 (by decide +kernel)) (fun σ3 e5 i4 => ?_)
  exact zok_some i4
theorem s_X12_change {G : Nat → Int} {σ : zSt} (hσ : zIM G σ) {x1 : Int32} (h_x1 : zr (0) (7) x1) {x2 : Int32} (h_x2 : zr (6) (15) x2) : zok (fX12_change σ x1 x2) (zIM G) := by
  unfold fX12_change
  refine zok_ck (zin_ok h_x1 (by decide)) ?_
  refine zok_br (rM_11 hσ.sg _ (z_ix h_x1 (by decide))) (fun v1 e2 h1 => ?_)
  refine zok_ck (zin_ok h_x2 (by decide)) ?_
  refine zok_ck (zin_ok h_x1 (by decide)) ?_
  refine zok_bs (hσ.wi 0 7 (z_ix h_x1 (by decide)) (rM_11 hσ.sg _ (z_ix h_x2 (by decide))) (by decide +kernel)) (fun σ2 e4 i3 => ?_)
  refine zok_ck (zin_ok h_x2 (by decide)) ?_
  refine zok_bs (i3.wi 6 15 (z_ix h_x2 (by decide)) h1 (by decide +kernel)) (fun σ3 e6 i5 => ?_)
  exact zok_some i5
theorem s_X12_bit {σ : zSt} (hσ : zPM σ) {x1 : Int32} (h_x1 : zr (0) (6) x1) {x2 : Int32} (h_x2 : zr (0) (7) x2) : zok (fX12_bit σ x1 x2) (zPi σ (fun v : Int32 => zr (0) (1) v)) := by
  unfold fX12_bit
  refine zok_ck (zin_ok (zr_add (lo := 47) (hi := 53) (zr_c (lo := 47) (hi := 47) (by decide)) h_x1 (by decide)) (by decide)) ?_
  exact zok_spi (zr_andr (lo := 0) (hi := 1) (zr_c (lo := 1) (hi := 1) (by decide)) (by decide))
theorem s_X12_mode_57 {σ : zSt} (hσ : zPM σ) {s0 : Int32} (h_s0 : zr (0) (4) s0) : zok (fX12_mode_57 σ s0) (zPi σ (fun v : Int32 => zr (0) (4) v)) := by
  unfold fX12_mode_57
  exact zok_spi h_s0
theorem s_X12_mode {σ : zSt} (hσ : zPM σ) : zok (fX12_mode σ ) (zPi σ (fun v : Int32 => zr (0) (4) v)) := by
  unfold fX12_mode
  refine zok_pi (s_X12_bit hσ (zr_w (zr_c (lo := 0) (hi := 0) (by decide)) (by decide)) (zr_w (zr_c (lo := 2) (hi := 2) (by decide)) (by decide))) (fun v2 h1 => ?_)
  refine zok_if (fun q2 => ?_) (fun q2 => ?_)
  · have h3 := zc_eql (1) (1) q2 h1 (zr_c (lo := 1) (hi := 1) (by decide)) (by decide)
    exact (s_X12_mode_57 hσ (zr_w (zr_c (lo := 4) (hi := 4) (by decide)) (by decide)))
  have h4 := zc_nel (0) (0) q2 h1 (zr_c (lo := 1) (hi := 1) (by decide)) (by decide)
  refine zok_pi (s_X12_bit hσ (zr_w (zr_c (lo := 1) (hi := 1) (by decide)) (by decide)) (zr_w (zr_c (lo := 4) (hi := 4) (by decide)) (by decide))) (fun v4 h5 => ?_)
  refine zok_if (fun q6 => ?_) (fun q6 => ?_)
  · have h7 := zc_eql (1) (1) q6 h5 (zr_c (lo := 1) (hi := 1) (by decide)) (by decide)
    exact (s_X12_mode_57 hσ (zr_w (zr_c (lo := 1) (hi := 1) (by decide)) (by decide)))
  have h8 := zc_nel (0) (0) q6 h5 (zr_c (lo := 1) (hi := 1) (by decide)) (by decide)
  refine zok_pi (s_X12_bit hσ (zr_w (zr_c (lo := 1) (hi := 1) (by decide)) (by decide)) (zr_w (zr_c (lo := 3) (hi := 3) (by decide)) (by decide))) (fun v6 h9 => ?_)
  refine zok_if (fun q10 => ?_) (fun q10 => ?_)
  · have h11 := zc_eql (1) (1) q10 h9 (zr_c (lo := 1) (hi := 1) (by decide)) (by decide)
    exact (s_X12_mode_57 hσ (zr_w (zr_c (lo := 3) (hi := 3) (by decide)) (by decide)))
  have h12 := zc_nel (0) (0) q10 h9 (zr_c (lo := 1) (hi := 1) (by decide)) (by decide)
  refine zok_pi (s_X12_bit hσ (zr_w (zr_c (lo := 0) (hi := 0) (by decide)) (by decide)) (zr_w (zr_c (lo := 1) (hi := 1) (by decide)) (by decide))) (fun v8 h13 => ?_)
  refine zok_if (fun q14 => ?_) (fun q14 => ?_)
  · have h15 := zc_eql (1) (1) q14 h13 (zr_c (lo := 1) (hi := 1) (by decide)) (by decide)
    exact (s_X12_mode_57 hσ (zr_w (zr_c (lo := 2) (hi := 2) (by decide)) (by decide)))
  have h16 := zc_nel (0) (0) q14 h13 (zr_c (lo := 1) (hi := 1) (by decide)) (by decide)
  exact (s_X12_mode_57 hσ (zr_w (zr_c (lo := 0) (hi := 0) (by decide)) (by decide)))
theorem s_X12_height_32 {σ : zSt} (hσ : zPM σ) : zok (fX12_height_32 σ ) (zPi σ (fun v : Int32 => zr (192) (240) v)) := by
  unfold fX12_height_32
  exact zok_spi (zr_w (zr_c (lo := 192) (hi := 192) (by decide)) (by decide))
theorem s_X12_height_55 {σ : zSt} (hσ : zPM σ) {s0 : Int32} (h_s0 : zr (224) (240) s0) : zok (fX12_height_55 σ s0) (zPi σ (fun v : Int32 => zr (192) (240) v)) := by
  unfold fX12_height_55
  exact zok_spi (zr_w h_s0 (by decide))
theorem s_X12_height {σ : zSt} (hσ : zPM σ) : zok (fX12_height σ ) (zPi σ (fun v : Int32 => zr (192) (240) v)) := by
  unfold fX12_height
  refine zok_pi (s_X12_mode hσ) (fun v2 h1 => ?_)
  refine zok_if (fun q2 => ?_) (fun q2 => ?_)
  · have h3 := zc_eql (4) (4) q2 h1 (zr_c (lo := 4) (hi := 4) (by decide)) (by decide)
    refine zok_pi (s_X12_bit hσ (zr_w (zr_c (lo := 0) (hi := 0) (by decide)) (by decide)) (zr_w (zr_c (lo := 1) (hi := 1) (by decide)) (by decide))) (fun v4 h4 => ?_)
    refine zok_if (fun q5 => ?_) (fun q5 => ?_)
    · have h6 := zc_eql (0) (0) q5 h4 (zr_c (lo := 0) (hi := 0) (by decide)) (by decide)
      exact (s_X12_height_32 hσ)
    have h7 := zc_nel (1) (1) q5 h4 (zr_c (lo := 0) (hi := 0) (by decide)) (by decide)
    refine zok_pi (s_X12_bit hσ (zr_w (zr_c (lo := 1) (hi := 1) (by decide)) (by decide)) (zr_w (zr_c (lo := 4) (hi := 4) (by decide)) (by decide))) (fun v6 h8 => ?_)
    refine zok_pi (s_X12_bit hσ (zr_w (zr_c (lo := 1) (hi := 1) (by decide)) (by decide)) (zr_w (zr_c (lo := 3) (hi := 3) (by decide)) (by decide))) (fun v8 h9 => ?_)
    refine zok_if (fun q10 => ?_) (fun q10 => ?_)
    · exact (s_X12_height_32 hσ)
    refine zok_pi (s_X12_bit hσ (zr_w (zr_c (lo := 1) (hi := 1) (by decide)) (by decide)) (zr_w (zr_c (lo := 4) (hi := 4) (by decide)) (by decide))) (fun v10 h11 => ?_)
    refine zok_if (fun q12 => ?_) (fun q12 => ?_)
    · have h13 := zc_eql (1) (1) q12 h11 (zr_c (lo := 1) (hi := 1) (by decide)) (by decide)
      exact (s_X12_height_55 hσ (zr_w (zr_c (lo := 224) (hi := 224) (by decide)) (by decide)))
    have h14 := zc_nel (0) (0) q12 h11 (zr_c (lo := 1) (hi := 1) (by decide)) (by decide)
    exact (s_X12_height_55 hσ (zr_w (zr_c (lo := 240) (hi := 240) (by decide)) (by decide)))
  have h15 := zc_nel (0) (3) q2 h1 (zr_c (lo := 4) (hi := 4) (by decide)) (by decide)
  exact (s_X12_height_32 hσ)
theorem s_X12_vCount_109 {σ : zSt} (hσ : zPM σ) {s0 : Int32} (h_s0 : zr (0) (313) s0) : zok (fX12_vCount_109 σ s0) (zPi σ (fun v : Int32 => zr (0) (255) v)) := by
  unfold fX12_vCount_109
  exact zok_spi (zr_andr (lo := 0) (hi := 255) (zr_c (lo := 255) (hi := 255) (by decide)) (by decide))
theorem s_X12_vCount_108 {σ : zSt} (hσ : zPM σ) {s0 : Int32} (h_s0 : zr (6) (57) s0) {s1 : Int32} (h_s1 : zr (219) (313) s1) : zok (fX12_vCount_108 σ s0 s1) (zPi σ (fun v : Int32 => zr (0) (255) v)) := by
  unfold fX12_vCount_108
  exact (s_X12_vCount_109 hσ (zr_w (zr_sub (lo := 162) (hi := 307) h_s1 h_s0 (by decide)) (by decide)))
theorem s_X12_vCount_82 {σ : zSt} (hσ : zPM σ) {x1 : Int32} (h_x1 : zr (0) (313) x1) {s0 : Int32} (h_s0 : zr (219) (1000) s0) : zok (fX12_vCount_82 σ x1 s0) (zPi σ (fun v : Int32 => zr (0) (255) v)) := by
  unfold fX12_vCount_82
  refine zok_if (fun q1 => ?_) (fun q1 => ?_)
  · have h2 := zc_lel (313) q1 h_s0 h_x1 (by decide)
    have h3 := zc_ler (219) q1 h_s0 h_x1 (by decide)
    refine zok_if (fun q4 => ?_) (fun q4 => ?_)
    · have h5 := zc_eql (1) (1) q4 (rM_1 hσ.sg _ (by decide)) (zr_c (lo := 1) (hi := 1) (by decide)) (by decide)
      exact (s_X12_vCount_108 hσ (zr_w (zr_c (lo := 57) (hi := 57) (by decide)) (by decide)) h3)
    exact (s_X12_vCount_108 hσ (zr_w (zr_c (lo := 6) (hi := 6) (by decide)) (by decide)) h3)
  exact (s_X12_vCount_109 hσ h_x1)
theorem s_X12_vCount {σ : zSt} (hσ : zPM σ) : zok (fX12_vCount σ ) (zPi σ (fun v : Int32 => zr (0) (255) v)) := by
  unfold fX12_vCount
  refine zok_ck rfl ?_
  refine zok_br (rM_29 hσ.sg _ (by decide)) (fun v1 e2 h1 => ?_)
  refine zok_pi (s_X12_height hσ) (fun v3 h3 => ?_)
  refine zok_if (fun q4 => ?_) (fun q4 => ?_)
  · have h5 := zc_eql (1) (1) q4 (rM_1 hσ.sg _ (by decide)) (zr_c (lo := 1) (hi := 1) (by decide)) (by decide)
    refine zok_if (fun q6 => ?_) (fun q6 => ?_)
    · have h7 := zc_eql (192) (192) q6 h3 (zr_c (lo := 192) (hi := 192) (by decide)) (by decide)
      exact (s_X12_vCount_82 hσ h1 (zr_w (zr_c (lo := 243) (hi := 243) (by decide)) (by decide)))
    have h8 := zc_nel (193) (240) q6 h3 (zr_c (lo := 192) (hi := 192) (by decide)) (by decide)
    refine zok_if (fun q9 => ?_) (fun q9 => ?_)
    · have h10 := zc_eql (224) (224) q9 h8 (zr_c (lo := 224) (hi := 224) (by decide)) (by decide)
      exact (s_X12_vCount_82 hσ h1 (zr_w (zr_c (lo := 259) (hi := 259) (by decide)) (by decide)))
    exact (s_X12_vCount_82 hσ h1 (zr_w (zr_c (lo := 267) (hi := 267) (by decide)) (by decide)))
  refine zok_if (fun q11 => ?_) (fun q11 => ?_)
  · have h12 := zc_eql (192) (192) q11 h3 (zr_c (lo := 192) (hi := 192) (by decide)) (by decide)
    exact (s_X12_vCount_82 hσ h1 (zr_w (zr_c (lo := 219) (hi := 219) (by decide)) (by decide)))
  have h13 := zc_nel (193) (240) q11 h3 (zr_c (lo := 192) (hi := 192) (by decide)) (by decide)
  refine zok_if (fun q14 => ?_) (fun q14 => ?_)
  · have h15 := zc_eql (224) (224) q14 h13 (zr_c (lo := 224) (hi := 224) (by decide)) (by decide)
    exact (s_X12_vCount_82 hσ h1 (zr_w (zr_c (lo := 235) (hi := 235) (by decide)) (by decide)))
  exact (s_X12_vCount_82 hσ h1 (zr_w (zr_c (lo := 1000) (hi := 1000) (by decide)) (by decide)))
theorem s_X12_status {G : Nat → Int} {σ : zSt} (hσ : zIM G σ) : zok (fX12_status σ ) (zAi (zIM G) (fun v : Int32 => zr (0) (255) v)) := by
  unfold fX12_status
  refine zok_ck rfl ?_
  refine zok_br (rM_26 hσ.sg _ (by decide)) (fun v1 e2 h1 => ?_)
  refine zok_ck rfl ?_
  refine zok_bs (hσ.wi 61 61 (by decide) (zr_c (lo := 0) (hi := 0) (by decide)) (by decide +kernel)) (fun σ2 e4 i3 => ?_)
  refine zok_ck rfl ?_
  refine zok_bs (i3.wi 62 62 (by decide) (zr_c (lo := 0) (hi := 0) (by decide)) (by decide +kernel)) (fun σ3 e6 i5 => ?_)
  refine zok_ck rfl ?_
  refine zok_bs (i5.wi 63 63 (by decide) (zr_c (lo := 0) (hi := 0) (by decide)) (by decide +kernel)) (fun σ4 e8 i7 => ?_)
  exact zok_sai i7 h1
theorem s_X12_video8 {σ : zSt} (hσ : zPM σ) {x1 : Int32} : zok (fX12_video8 σ x1) (zPi σ (fun v : Int32 => zr (0) (255) v)) := by
  unfold fX12_video8
  refine zok_ck (zin_ok (zr_andr (lo := 0) (hi := 16383) (zr_c (lo := 16383) (hi := 16383) (by decide)) (by decide)) (by decide)) ?_
  exact zok_spi (zr_andr (lo := 0) (hi := 255) (zr_c (lo := 255) (hi := 255) (by decide)) (by decide))
theorem s_X12_further {G : Nat → Int} {σ : zSt} (hσ : zIM G σ) : zok (fX12_further σ ) (zIM G) := by
  unfold fX12_further
  refine zok_ck rfl ?_
  refine zok_ck rfl ?_
  refine zok_bs (hσ.wi 58 58 (by decide) (zr_andr (lo := 0) (hi := 16383) (zr_c (lo := 16383) (hi := 16383) (by decide)) (by decide)) (by decide +kernel)) (fun σ1 e2 i1 => ?_)
  exact zok_some i1
theorem s_X12_data {G : Nat → Int} {σ : zSt} (hσ : zIM G σ) : zok (fX12_data σ ) (zAi (zIM G) (fun v : Int32 => zr (0) (255) v)) := by
  unfold fX12_data
  refine zok_ck rfl ?_
  refine zok_br (rM_24 hσ.sg _ (by decide)) (fun v1 e2 h1 => ?_)
  refine zok_ck rfl ?_
  refine zok_bs (hσ.wi 61 61 (by decide) (zr_c (lo := 0) (hi := 0) (by decide)) (by decide +kernel)) (fun σ2 e4 i3 => ?_)
  refine zok_ck rfl ?_
  refine zok_pi (s_X12_video8 i3.P) (fun v4 h5 => ?_)
  refine zok_ck rfl ?_
  refine zok_bs (i3.wi 60 60 (by decide) h5 (by decide +kernel)) (fun σ5 e7 i6 => ?_)
  refine zok_bu (s_X12_further i6) (fun σ6 i8 => ?_)
  exact zok_sai i8 h1
theorem s_X12_lineAt_45 {σ : zSt} (hσ : zPM σ) {s0 : Int32} (h_s0 : zr (0) (1) s0) : zok (fX12_lineAt_45 σ s0) (zPi σ (fun v : Int32 => zr (0) (1) v)) := by
  unfold fX12_lineAt_45
  exact zok_spi h_s0
theorem s_X12_lineAt {σ : zSt} (hσ : zPM σ) {x1 : Int32} (h_x1 : zr (0) (1) x1) : zok (fX12_lineAt σ x1) (zPi σ (fun v : Int32 => zr (0) (1) v)) := by
  unfold fX12_lineAt
  refine zok_ck rfl ?_
  refine zok_if (fun q1 => ?_) (fun q1 => ?_)
  · have h2 := zc_eql (0) (0) q1 (zr_andr (lo := 0) (hi := 1) (zr_c (lo := 1) (hi := 1) (by decide)) (by decide)) (zr_c (lo := 0) (hi := 0) (by decide)) (by decide)
    refine zok_ck rfl ?_
    exact (s_X12_lineAt_45 hσ (zr_andr (lo := 0) (hi := 1) (zr_c (lo := 1) (hi := 1) (by decide)) (by decide)))
  have h3 := zc_nel (1) (1) q1 (zr_andr (lo := 0) (hi := 1) (zr_c (lo := 1) (hi := 1) (by decide)) (by decide)) (zr_c (lo := 0) (hi := 0) (by decide)) (by decide)
  refine zok_ck (zin_ok (zr_add (lo := 45) (hi := 46) (zr_c (lo := 45) (hi := 45) (by decide)) h_x1 (by decide)) (by decide)) ?_
  exact (s_X12_lineAt_45 hσ (rM_20 hσ.sg _ (z_ix (zr_add (lo := 45) (hi := 46) (zr_c (lo := 45) (hi := 45) (by decide)) h_x1 (by decide)) (by decide))))
theorem s_X12_without_20 {σ : zSt} (hσ : zPM σ) {s0 : Int32} (h_s0 : zr (0) (255) s0) : zok (fX12_without_20 σ s0) (zPi σ (fun v : Int32 => zr (0) (255) v)) := by
  unfold fX12_without_20
  exact zok_spi h_s0
theorem s_X12_without {σ : zSt} (hσ : zPM σ) {x1 : Int32} (h_x1 : zr (0) (255) x1) {x2 : Int32} (h_x2 : zr (3) (7) x2) {x3 : Int32} (h_x3 : zr (0) (1) x3) : zok (fX12_without σ x1 x2 x3) (zPi σ (fun v : Int32 => zr (0) (255) v)) := by
  unfold fX12_without
  refine zok_if (fun q1 => ?_) (fun q1 => ?_)
  · have h2 := zc_eql (1) (1) q1 h_x3 (zr_c (lo := 1) (hi := 1) (by decide)) (by decide)
    exact (s_X12_without_20 hσ (zr_or (lo := 0) (hi := 255) 8 h_x1 (zr_shld (lo := 0) (hi := 128) (zr_c (lo := 1) (hi := 1) (by decide)) h_x2 (by decide)) (by decide)))
  have h3 := zc_nel (0) (0) q1 h_x3 (zr_c (lo := 1) (hi := 1) (by decide)) (by decide)
  exact (s_X12_without_20 hσ (zr_andl (lo := 0) (hi := 255) h_x1 (by decide)))
theorem s_X12_port_32 {σ : zSt} (hσ : zPM σ) : zok (fX12_port_32 σ ) (zPi σ (fun v : Int32 => zr (0) (255) v)) := by
  unfold fX12_port_32
  exact zok_spi (zr_w (zr_c (lo := 255) (hi := 255) (by decide)) (by decide))
theorem s_X12_port_73 {σ : zSt} (hσ : zPM σ) {s0 : Int32} (h_s0 : zr (0) (255) s0) : zok (fX12_port_73 σ s0) (zPi σ (fun v : Int32 => zr (0) (255) v)) := by
  unfold fX12_port_73
  exact zok_spi h_s0
theorem s_X12_port_60 {σ : zSt} (hσ : zPM σ) {s0 : Int32} (h_s0 : zr (0) (128) s0) {s1 : Int32} (h_s1 : zr (64) (64) s1) : zok (fX12_port_60 σ s0 s1) (zPi σ (fun v : Int32 => zr (0) (255) v)) := by
  unfold fX12_port_60
  exact (s_X12_port_73 hσ (zr_or (lo := 0) (hi := 255) 8 h_s1 h_s0 (by decide)))
theorem s_X12_port_99 {σ : zSt} (hσ : zPM σ) {s0 : Int32} (h_s0 : zr (0) (255) s0) : zok (fX12_port_99 σ s0) (zPi σ (fun v : Int32 => zr (0) (255) v)) := by
  unfold fX12_port_99
  exact zok_spi h_s0
theorem s_X12_port_122 {σ : zSt} (hσ : zPM σ) {s0 : Int32} (h_s0 : zr (0) (255) s0) : zok (fX12_port_122 σ s0) (zPi σ (fun v : Int32 => zr (0) (255) v)) := by
  unfold fX12_port_122
  exact zok_spi h_s0
theorem s_X12_port_230 {σ : zSt} (hσ : zPM σ) {s0 : Int32} (h_s0 : zr (0) (255) s0) : zok (fX12_port_230 σ s0) (zPi σ (fun v : Int32 => zr (0) (255) v)) := by
  unfold fX12_port_230
  exact zok_spi h_s0
theorem s_X12_port_289 {σ : zSt} (hσ : zPM σ) {s0 : Int32} (h_s0 : zr (0) (255) s0) : zok (fX12_port_289 σ s0) (zPi σ (fun v : Int32 => zr (0) (255) v)) := by
  unfold fX12_port_289
  exact zok_spi h_s0
theorem s_X12_port_147 {σ : zSt} (hσ : zPM σ) {x2 : Int32} (h_x2 : zr (0) (1) x2) : zok (fX12_port_147 σ x2) (zPi σ (fun v : Int32 => zr (0) (255) v)) := by
  unfold fX12_port_147
  refine zok_if (fun q1 => ?_) (fun q1 => ?_)
  · have h2 := zc_eql (0) (0) q1 h_x2 (zr_c (lo := 0) (hi := 0) (by decide)) (by decide)
    refine zok_ck rfl ?_
    refine zok_ck rfl ?_
    refine zok_br (zr_andl (lo := 0) (hi := 255) (zr_c (lo := 255) (hi := 255) (by decide)) (by decide)) (fun v1 e4 h3 => ?_)
    refine zok_ck rfl ?_
    refine zok_if (fun q5 => ?_) (fun q5 => ?_)
    · have h6 := zc_eql (0) (0) q5 (zr_andr (lo := 0) (hi := 1) (zr_c (lo := 1) (hi := 1) (by decide)) (by decide)) (zr_c (lo := 0) (hi := 0) (by decide)) (by decide)
      refine zok_ck rfl ?_
      refine zok_pi (s_X12_without hσ h3 (zr_w (zr_c (lo := 5) (hi := 5) (by decide)) (by decide)) (zr_andr (lo := 0) (hi := 1) (zr_c (lo := 1) (hi := 1) (by decide)) (by decide))) (fun v3 h7 => ?_)
      exact (s_X12_port_289 hσ h7)
    have h8 := zc_nel (1) (1) q5 (zr_andr (lo := 0) (hi := 1) (zr_c (lo := 1) (hi := 1) (by decide)) (by decide)) (zr_c (lo := 0) (hi := 0) (by decide)) (by decide)
    exact (s_X12_port_289 hσ h3)
  have h9 := zc_nel (1) (1) q1 h_x2 (zr_c (lo := 0) (hi := 0) (by decide)) (by decide)
  refine zok_ck rfl ?_
  refine zok_br (zr_or (lo := 0) (hi := 255) 8 (zr_andl (lo := 0) (hi := 255) (zr_c (lo := 255) (hi := 255) (by decide)) (by decide)) (zr_c (lo := 48) (hi := 48) (by decide)) (by decide)) (fun v4 e11 h10 => ?_)
  refine zok_pi (s_X12_lineAt hσ (zr_w (zr_c (lo := 0) (hi := 0) (by decide)) (by decide))) (fun v6 h12 => ?_)
  refine zok_pi (s_X12_without hσ h10 (zr_w (zr_c (lo := 6) (hi := 6) (by decide)) (by decide)) h12) (fun v8 h13 => ?_)
  refine zok_pi (s_X12_lineAt hσ (zr_w (zr_c (lo := 1) (hi := 1) (by decide)) (by decide))) (fun v10 h14 => ?_)
  refine zok_pi (s_X12_without hσ h13 (zr_w (zr_c (lo := 7) (hi := 7) (by decide)) (by decide)) h14) (fun v12 h15 => ?_)
  refine zok_ck rfl ?_
  refine zok_if (fun q16 => ?_) (fun q16 => ?_)
  · have h17 := zc_eql (0) (0) q16 (zr_andr (lo := 0) (hi := 4) (zr_c (lo := 4) (hi := 4) (by decide)) (by decide)) (zr_c (lo := 0) (hi := 0) (by decide)) (by decide)
    refine zok_ck rfl ?_
    refine zok_pi (s_X12_without hσ h15 (zr_w (zr_c (lo := 3) (hi := 3) (by decide)) (by decide)) (zr_andr (lo := 0) (hi := 1) (zr_c (lo := 1) (hi := 1) (by decide)) (by decide))) (fun v14 h18 => ?_)
    exact (s_X12_port_230 hσ h18)
  have h19 := zc_nel (1) (4) q16 (zr_andr (lo := 0) (hi := 4) (zr_c (lo := 4) (hi := 4) (by decide)) (by decide)) (zr_c (lo := 0) (hi := 0) (by decide)) (by decide)
  exact (s_X12_port_230 hσ h15)
theorem s_X12_port_12 {G : Nat → Int} {σ : zSt} (hσ : zIM G σ) {x1 : Int32} (h_x1 : zr (0) (255) x1) {s0 : Int32} (h_s0 : zr (0) (1) s0) : zok (fX12_port_12 σ x1 s0) (zAi (zIM G) (fun v : Int32 => zr (0) (255) v)) := by
  unfold fX12_port_12
  refine zok_if (fun q1 => ?_) (fun q1 => ?_)
  · have h2 := zc_ler (64) q1 (zr_c (lo := 64) (hi := 64) (by decide)) h_x1 (by decide)
    refine zok_if (fun q3 => ?_) (fun q3 => ?_)
    · have h4 := zc_ler (128) q3 (zr_c (lo := 128) (hi := 128) (by decide)) h2 (by decide)
      refine zok_if (fun q5 => ?_) (fun q5 => ?_)
      · have h6 := zc_ler (192) q5 (zr_c (lo := 192) (hi := 192) (by decide)) h4 (by decide)
        refine zok_if (fun q7 => ?_) (fun q7 => ?_)
        · have h8 := zc_eql (242) (242) q7 h6 (zr_c (lo := 242) (hi := 242) (by decide)) (by decide)
          refine zok_if (fun q9 => ?_) (fun q9 => ?_)
          · have h10 := zc_eql (2) (2) q9 (rM_1 hσ.sg _ (by decide)) (zr_c (lo := 2) (hi := 2) (by decide)) (by decide)
            exact zok_pai hσ (s_X12_port_147 hσ.P h_s0)
          have h11 := zc_nel (0) (1) q9 (rM_1 hσ.sg _ (by decide)) (zr_c (lo := 2) (hi := 2) (by decide)) (by decide)
          refine zok_ck rfl ?_
          exact zok_sai hσ (zr_w (rM_42 hσ.sg _ (by decide)) (by decide))
        exact zok_pai hσ (s_X12_port_147 hσ.P h_s0)
      have h12 := zc_ltl (191) (z_nle q5) h4 (zr_c (lo := 192) (hi := 192) (by decide)) (by decide)
      refine zok_if (fun q13 => ?_) (fun q13 => ?_)
      · have h14 := zc_eql (0) (0) q13 h_s0 (zr_c (lo := 0) (hi := 0) (by decide)) (by decide)
        refine zok_ai (s_X12_data hσ) (fun σ15 v16 i15 h16 => ?_)
        exact zok_pai i15 (s_X12_port_122 i15.P h16)
      have h17 := zc_nel (1) (1) q13 h_s0 (zr_c (lo := 0) (hi := 0) (by decide)) (by decide)
      refine zok_ai (s_X12_status hσ) (fun σ17 v18 i18 h19 => ?_)
      exact zok_pai i18 (s_X12_port_122 i18.P h19)
    have h20 := zc_ltl (127) (z_nle q3) h2 (zr_c (lo := 128) (hi := 128) (by decide)) (by decide)
    refine zok_if (fun q21 => ?_) (fun q21 => ?_)
    · have h22 := zc_eql (0) (0) q21 h_s0 (zr_c (lo := 0) (hi := 0) (by decide)) (by decide)
      refine zok_pi (s_X12_vCount hσ.P) (fun v20 h23 => ?_)
      exact zok_pai hσ (s_X12_port_99 hσ.P h23)
    have h24 := zc_nel (1) (1) q21 h_s0 (zr_c (lo := 0) (hi := 0) (by decide)) (by decide)
    refine zok_ck rfl ?_
    exact zok_pai hσ (s_X12_port_99 hσ.P (rM_18 hσ.sg _ (by decide)))
  have h25 := zc_ltl (63) (z_nle q1) h_x1 (zr_c (lo := 64) (hi := 64) (by decide)) (by decide)
  refine zok_if (fun q26 => ?_) (fun q26 => ?_)
  · have h27 := zc_eql (2) (2) q26 (rM_1 hσ.sg _ (by decide)) (zr_c (lo := 2) (hi := 2) (by decide)) (by decide)
    refine zok_if (fun q28 => ?_) (fun q28 => ?_)
    · have h29 := zc_lel (5) q28 h25 (zr_c (lo := 5) (hi := 5) (by decide)) (by decide)
      refine zok_if (fun q30 => ?_) (fun q30 => ?_)
      · have h31 := zc_eql (0) (0) q30 h29 (zr_c (lo := 0) (hi := 0) (by decide)) (by decide)
        refine zok_ck rfl ?_
        refine zok_if (fun q32 => ?_) (fun q32 => ?_)
        · have h33 := zc_eql (1) (1) q32 (rM_20 hσ.sg _ (by decide)) (zr_c (lo := 1) (hi := 1) (by decide)) (by decide)
          exact zok_pai hσ (s_X12_port_60 hσ.P (zr_w (zr_c (lo := 0) (hi := 0) (by decide)) (by decide)) (zr_c (lo := 64) (hi := 64) (by decide)))
        have h34 := zc_nel (0) (0) q32 (rM_20 hσ.sg _ (by decide)) (zr_c (lo := 1) (hi := 1) (by decide)) (by decide)
        exact zok_pai hσ (s_X12_port_60 hσ.P (zr_w (zr_c (lo := 128) (hi := 128) (by decide)) (by decide)) (zr_c (lo := 64) (hi := 64) (by decide)))
      have h35 := zc_nel (1) (5) q30 h29 (zr_c (lo := 0) (hi := 0) (by decide)) (by decide)
      refine zok_ck (zin_ok (zr_add (lo := 37) (hi := 41) (zr_c (lo := 36) (hi := 36) (by decide)) h35 (by decide)) (by decide)) ?_
      exact zok_pai hσ (s_X12_port_73 hσ.P (rM_19 hσ.sg _ (z_ix (zr_add (lo := 37) (hi := 41) (zr_c (lo := 36) (hi := 36) (by decide)) h35 (by decide)) (by decide))))
    have h36 := zc_ltr (6) (z_nle q28) (zr_c (lo := 5) (hi := 5) (by decide)) h25 (by decide)
    exact zok_pai hσ (s_X12_port_32 hσ.P)
  have h37 := zc_nel (0) (1) q26 (rM_1 hσ.sg _ (by decide)) (zr_c (lo := 2) (hi := 2) (by decide)) (by decide)
  exact zok_pai hσ (s_X12_port_32 hσ.P)
theorem s_X12_port {G : Nat → Int} {σ : zSt} (hσ : zIM G σ) {x1 : Int32} (h_x1 : zr (0) (255) x1) : zok (fX12_port σ x1) (zAi (zIM G) (fun v : Int32 => zr (0) (255) v)) := by
  unfold fX12_port
  refine zok_ck (by decide) ?_
  refine zok_if (fun q1 => ?_) (fun q1 => ?_)
  · have h2 := zc_eql (1) (1) q1 (zr_rem (lo := 0) (hi := 1) 2 (by decide) h_x1 (by decide)) (zr_c (lo := 1) (hi := 1) (by decide)) (by decide)
    have h3 := z_odd64 h_x1 h2 (by decide)
    exact (s_X12_port_12 hσ h_x1 (zr_w (zr_c (lo := 1) (hi := 1) (by decide)) (by decide)))
  have h4 := zc_nel (0) (0) q1 (zr_rem (lo := 0) (hi := 1) 2 (by decide) h_x1 (by decide)) (zr_c (lo := 1) (hi := 1) (by decide)) (by decide)
  exact (s_X12_port_12 hσ h_x1 (zr_w (zr_c (lo := 0) (hi := 0) (by decide)) (by decide)))
theorem s_X12_hCount_27 {σ : zSt} (hσ : zPM σ) {s0 : Int32} (h_s0 : zr (0) (255) s0) : zok (fX12_hCount_27 σ s0) (zPi σ (fun v : Int32 => zr (0) (255) v)) := by
  unfold fX12_hCount_27
  exact zok_spi h_s0
theorem s_X12_hCount {σ : zSt} (hσ : zPM σ) : zok (fX12_hCount σ ) (zPi σ (fun v : Int32 => zr (0) (255) v)) := by
  unfold fX12_hCount
  refine zok_ck rfl ?_
  refine zok_ck (by decide) ?_
  refine zok_br (zr_div (lo := 0) (hi := 170) 4 (by decide) (zr_mul (lo := 0) (hi := 681) (rM_30 hσ.sg _ (by decide)) (zr_c (lo := 3) (hi := 3) (by decide)) (by decide)) (by decide)) (fun v1 e2 h1 => ?_)
  refine zok_if (fun q3 => ?_) (fun q3 => ?_)
  · have h4 := zc_ler (148) q3 (zr_c (lo := 148) (hi := 148) (by decide)) h1 (by decide)
    exact (s_X12_hCount_27 hσ (zr_w (zr_add (lo := 233) (hi := 255) h4 (zr_c (lo := 85) (hi := 85) (by decide)) (by decide)) (by decide)))
  have h5 := zc_ltl (147) (z_nle q3) h1 (zr_c (lo := 148) (hi := 148) (by decide)) (by decide)
  exact (s_X12_hCount_27 hσ (zr_w h5 (by decide)))
theorem s_X12_noise_141 {σ : zSt} (hσ : zPM σ) : zok (fX12_noise_141 σ ) (zPu σ) := by
  unfold fX12_noise_141
  exact zok_spu
theorem s_X12_noise_140 {G : Nat → Int} {σ : zSt} (hσ : zIM G σ) {s0 : Int32} (h_s0 : zr (0) (1023) s0) {s1 : Int32} (h_s1 : zr (69) (71) s1) : zok (fX12_noise_140 σ s0 s1) (zIM G) := by
  unfold fX12_noise_140
  refine zok_ck (zin_ok h_s1 (by decide)) ?_
  refine zok_bs (hσ.wi 69 71 (z_ix h_s1 (by decide)) h_s0 (by decide +kernel)) (fun σ1 e2 i1 => ?_)
  exact zok_pau i1 (s_X12_noise_141 i1.P)
theorem s_X12_noise_19 {G : Nat → Int} {σ : zSt} (hσ : zIM G σ) {x1 : Int32} (h_x1 : zr (0) (255) x1) : zok (fX12_noise_19 σ x1) (zIM G) := by
  unfold fX12_noise_19
  refine zok_ck rfl ?_
  refine zok_ck (by decide) ?_
  refine zok_br (zr_div (lo := 0) (hi := 3) 2 (by decide) (rM_36 hσ.sg _ (by decide)) (by decide)) (fun v2 e2 h1 => ?_)
  refine zok_ck rfl ?_
  refine zok_ck (by decide) ?_
  refine zok_if (fun q3 => ?_) (fun q3 => ?_)
  · have h4 := zc_eql (1) (1) q3 (zr_rem (lo := 0) (hi := 1) 2 (by decide) (rM_36 hσ.sg _ (by decide)) (by decide)) (zr_c (lo := 1) (hi := 1) (by decide)) (by decide)
    have h5 := z_odd64 (rM_36 hσ.sg _ (by decide)) h4 (by decide)
    refine zok_ck (zin_ok (zr_add (lo := 78) (hi := 81) (zr_c (lo := 78) (hi := 78) (by decide)) h1 (by decide)) (by decide)) ?_
    refine zok_bs (hσ.wi 78 81 (z_ix (zr_add (lo := 78) (hi := 81) (zr_c (lo := 78) (hi := 78) (by decide)) h1 (by decide)) (by decide)) (zr_andr (lo := 0) (hi := 15) (zr_c (lo := 15) (hi := 15) (by decide)) (by decide)) (by decide +kernel)) (fun σ5 e7 i6 => ?_)
    exact zok_pau i6 (s_X12_noise_141 i6.P)
  have h8 := zc_nel (0) (0) q3 (zr_rem (lo := 0) (hi := 1) 2 (by decide) (rM_36 hσ.sg _ (by decide)) (by decide)) (zr_c (lo := 1) (hi := 1) (by decide)) (by decide)
  refine zok_if (fun q9 => ?_) (fun q9 => ?_)
  · have h10 := zc_eql (3) (3) q9 h1 (zr_c (lo := 3) (hi := 3) (by decide)) (by decide)
    refine zok_ck rfl ?_
    refine zok_bs (hσ.wi 82 82 (by decide) (zr_andr (lo := 0) (hi := 7) (zr_c (lo := 7) (hi := 7) (by decide)) (by decide)) (by decide +kernel)) (fun σ3 e12 i11 => ?_)
    refine zok_ck rfl ?_
    refine zok_bs (i11.wi 85 85 (by decide) (zr_c (lo := 32768) (hi := 32768) (by decide)) (by decide +kernel)) (fun σ4 e14 i13 => ?_)
    exact zok_pau i13 (s_X12_noise_141 i13.P)
  have h15 := zc_nel (0) (2) q9 h1 (zr_c (lo := 3) (hi := 3) (by decide)) (by decide)
  refine zok_if (fun q16 => ?_) (fun q16 => ?_)
  · have h17 := zc_lel (127) q16 h_x1 (zr_c (lo := 127) (hi := 127) (by decide)) (by decide)
    refine zok_ck (zin_ok (zr_add (lo := 69) (hi := 71) (zr_c (lo := 69) (hi := 69) (by decide)) h15 (by decide)) (by decide)) ?_
    exact (s_X12_noise_140 hσ (zr_or (lo := 0) (hi := 1023) 10 (zr_andr (lo := 0) (hi := 15) (zr_c (lo := 15) (hi := 15) (by decide)) (by decide)) (zr_shl (lo := 0) (hi := 1008) 4 (by decide) (zr_andr (lo := 0) (hi := 63) (zr_c (lo := 63) (hi := 63) (by decide)) (by decide)) (by decide)) (by decide)) (zr_add (lo := 69) (hi := 71) (zr_c (lo := 69) (hi := 69) (by decide)) h15 (by decide)))
  have h18 := zc_ltr (128) (z_nle q16) (zr_c (lo := 127) (hi := 127) (by decide)) h_x1 (by decide)
  refine zok_ck (zin_ok (zr_add (lo := 69) (hi := 71) (zr_c (lo := 69) (hi := 69) (by decide)) h15 (by decide)) (by decide)) ?_
  exact (s_X12_noise_140 hσ (zr_or (lo := 0) (hi := 1023) 10 (zr_andr (lo := 0) (hi := 1008) (zr_c (lo := 1008) (hi := 1008) (by decide)) (by decide)) (zr_andr (lo := 0) (hi := 15) (zr_c (lo := 15) (hi := 15) (by decide)) (by decide)) (by decide)) (zr_add (lo := 69) (hi := 71) (zr_c (lo := 69) (hi := 69) (by decide)) h15 (by decide)))
theorem s_X12_noise {G : Nat → Int} {σ : zSt} (hσ : zIM G σ) {x1 : Int32} (h_x1 : zr (0) (255) x1) : zok (fX12_noise σ x1) (zIM G) := by
  unfold fX12_noise
  refine zok_if (fun q1 => ?_) (fun q1 => ?_)
  · have h2 := zc_lel (127) q1 h_x1 (zr_c (lo := 127) (hi := 127) (by decide)) (by decide)
    exact (s_X12_noise_19 hσ (zr_w h2 (by decide)))
  have h3 := zc_ltr (128) (z_nle q1) (zr_c (lo := 127) (hi := 127) (by decide)) h_x1 (by decide)
  refine zok_ck rfl ?_
  refine zok_bs (hσ.wi 86 86 (by decide) (zr_andr (lo := 0) (hi := 7) (zr_c (lo := 7) (hi := 7) (by decide)) (by decide)) (by decide +kernel)) (fun σ6 e5 i4 => ?_)
  exact (s_X12_noise_19 i4 (zr_w h3 (by decide)))
theorem s_X12_control_162 {σ : zSt} (hσ : zPM σ) : zok (fX12_control_162 σ ) (zPu σ) := by
  unfold fX12_control_162
  exact zok_spu
theorem s_X12_control {G : Nat → Int} {σ : zSt} (hσ : zIM G σ) {x1 : Int32} (h_x1 : zr (0) (255) x1) : zok (fX12_control σ x1) (zIM G) := by
  unfold fX12_control
  refine zok_ck rfl ?_
  refine zok_if (fun q1 => ?_) (fun q1 => ?_)
  · have h2 := zc_eql (0) (0) q1 (rM_25 hσ.sg _ (by decide)) (zr_c (lo := 0) (hi := 0) (by decide)) (by decide)
    refine zok_ck rfl ?_
    refine zok_ck rfl ?_
    refine zok_bs (hσ.wi 58 58 (by decide) (zr_or (lo := 0) (hi := 16383) 14 (zr_andr (lo := 0) (hi := 16128) (zr_c (lo := 16128) (hi := 16128) (by decide)) (by decide)) h_x1 (by decide)) (by decide +kernel)) (fun σ9 e4 i3 => ?_)
    refine zok_ck rfl ?_
    refine zok_bs (i3.wi 61 61 (by decide) (zr_c (lo := 1) (hi := 1) (by decide)) (by decide +kernel)) (fun σ10 e6 i5 => ?_)
    exact zok_some i5
  have h7 := zc_nel (1) (1) q1 (rM_25 hσ.sg _ (by decide)) (zr_c (lo := 0) (hi := 0) (by decide)) (by decide)
  refine zok_ck rfl ?_
  refine zok_bs (hσ.wi 61 61 (by decide) (zr_c (lo := 0) (hi := 0) (by decide)) (by decide +kernel)) (fun σ1 e9 i8 => ?_)
  refine zok_ck rfl ?_
  refine zok_ck rfl ?_
  refine zok_bs (i8.wi 58 58 (by decide) (zr_or (lo := 0) (hi := 16383) 14 (zr_shl (lo := 0) (hi := 16128) 8 (by decide) (zr_andr (lo := 0) (hi := 63) (zr_c (lo := 63) (hi := 63) (by decide)) (by decide)) (by decide)) (zr_andr (lo := 0) (hi := 255) (zr_c (lo := 255) (hi := 255) (by decide)) (by decide)) (by decide)) (by decide +kernel)) (fun σ2 e11 i10 => ?_)
  refine zok_ck rfl ?_
  refine zok_bs (i10.wi 59 59 (by decide) (zr_shr (lo := 0) (hi := 3) 6 (by decide) h_x1 (by decide)) (by decide +kernel)) (fun σ3 e13 i12 => ?_)
  refine zok_ck rfl ?_
  refine zok_if (fun q14 => ?_) (fun q14 => ?_)
  · have h15 := zc_eql (0) (0) q14 (rM_23 i12.sg _ (by decide)) (zr_c (lo := 0) (hi := 0) (by decide)) (by decide)
    refine zok_ck rfl ?_
    refine zok_pi (s_X12_video8 i12.P) (fun v6 h16 => ?_)
    refine zok_ck rfl ?_
    refine zok_bs (i12.wi 60 60 (by decide) h16 (by decide +kernel)) (fun σ7 e18 i17 => ?_)
    refine zok_bu (s_X12_further i17) (fun σ8 i19 => ?_)
    exact zok_pau i19 (s_X12_control_162 i19.P)
  have h20 := zc_nel (1) (3) q14 (rM_23 i12.sg _ (by decide)) (zr_c (lo := 0) (hi := 0) (by decide)) (by decide)
  refine zok_ck rfl ?_
  refine zok_if (fun q21 => ?_) (fun q21 => ?_)
  · have h22 := zc_eql (2) (2) q21 h20 (zr_c (lo := 2) (hi := 2) (by decide)) (by decide)
    refine zok_ck (by decide) ?_
    refine zok_if (fun q23 => ?_) (fun q23 => ?_)
    · have h24 := zc_ler (11) q23 (zr_c (lo := 11) (hi := 11) (by decide)) (zr_rem (lo := 0) (hi := 15) 16 (by decide) h_x1 (by decide)) (by decide)
      exact zok_pau i12 (s_X12_control_162 i12.P)
    have h25 := zc_ltl (10) (z_nle q23) (zr_rem (lo := 0) (hi := 15) 16 (by decide) h_x1 (by decide)) (zr_c (lo := 11) (hi := 11) (by decide)) (by decide)
    refine zok_ck (by decide) ?_
    refine zok_ck rfl ?_
    refine zok_ck (zin_ok (zr_add (lo := 47) (hi := 57) (zr_c (lo := 47) (hi := 47) (by decide)) h25 (by decide)) (by decide)) ?_
    refine zok_bs (i12.wi 47 57 (z_ix (zr_add (lo := 47) (hi := 57) (zr_c (lo := 47) (hi := 47) (by decide)) h25 (by decide)) (by decide)) (zr_andr (lo := 0) (hi := 255) (zr_c (lo := 255) (hi := 255) (by decide)) (by decide)) (by decide +kernel)) (fun σ4 e27 i26 => ?_)
    exact zok_pau i26 (s_X12_control_162 i26.P)
  exact zok_pau i12 (s_X12_control_162 i12.P)
theorem s_X12_dataTo_115 {G : Nat → Int} {σ : zSt} (hσ : zIM G σ) : zok (fX12_dataTo_115 σ ) (zIM G) := by
  unfold fX12_dataTo_115
  refine zok_bu (s_X12_further hσ) (fun σ1 i1 => ?_)
  exact zok_some i1
theorem s_X12_dataTo {G : Nat → Int} {σ : zSt} (hσ : zIM G σ) {x1 : Int32} (h_x1 : zr (0) (255) x1) : zok (fX12_dataTo σ x1) (zIM G) := by
  unfold fX12_dataTo
  refine zok_ck rfl ?_
  refine zok_bs (hσ.wi 61 61 (by decide) (zr_c (lo := 0) (hi := 0) (by decide)) (by decide +kernel)) (fun σ2 e2 i1 => ?_)
  refine zok_ck rfl ?_
  refine zok_bs (i1.wi 60 60 (by decide) h_x1 (by decide +kernel)) (fun σ3 e4 i3 => ?_)
  refine zok_ck rfl ?_
  refine zok_br (rM_22 i3.sg _ (by decide)) (fun v4 e6 h5 => ?_)
  refine zok_ck rfl ?_
  refine zok_if (fun q7 => ?_) (fun q7 => ?_)
  · have h8 := zc_eql (3) (3) q7 (rM_23 i3.sg _ (by decide)) (zr_c (lo := 3) (hi := 3) (by decide)) (by decide)
    refine zok_if (fun q9 => ?_) (fun q9 => ?_)
    · have h10 := zc_eql (2) (2) q9 (rM_1 i3.sg _ (by decide)) (zr_c (lo := 2) (hi := 2) (by decide)) (by decide)
      refine zok_ck (by decide) ?_
      refine zok_if (fun q11 => ?_) (fun q11 => ?_)
      · have h12 := zc_eql (0) (0) q11 (zr_rem (lo := 0) (hi := 1) 2 (by decide) h5 (by decide)) (zr_c (lo := 0) (hi := 0) (by decide)) (by decide)
        refine zok_ck rfl ?_
        refine zok_bs (i3.wi 68 68 (by decide) h_x1 (by decide +kernel)) (fun σ7 e14 i13 => ?_)
        exact (s_X12_dataTo_115 i13)
      have h15 := zc_nel (1) (1) q11 (zr_rem (lo := 0) (hi := 1) 2 (by decide) h5 (by decide)) (zr_c (lo := 0) (hi := 0) (by decide)) (by decide)
      have h16 := z_odd64 h5 h15 (by decide)
      refine zok_ck (by decide) ?_
      refine zok_ck rfl ?_
      refine zok_ck (zin_ok (zr_sub (lo := 0) (hi := 62) h16 (zr_c (lo := 1) (hi := 1) (by decide)) (by decide)) (by decide)) ?_
      refine zok_bs (i3.wk (by decide)) (fun σ5 e18 i17 => ?_)
      refine zok_ck (by decide) ?_
      refine zok_ck (zin_ok h16 (by decide)) ?_
      refine zok_bs (i17.wk (by decide)) (fun σ6 e20 i19 => ?_)
      exact (s_X12_dataTo_115 i19)
    have h21 := zc_nel (0) (1) q9 (rM_1 i3.sg _ (by decide)) (zr_c (lo := 2) (hi := 2) (by decide)) (by decide)
    refine zok_ck (by decide) ?_
    refine zok_ck (zin_ok (zr_rem (lo := 0) (hi := 31) 32 (by decide) h5 (by decide)) (by decide)) ?_
    refine zok_bs (i3.wk (by decide)) (fun σ8 e23 i22 => ?_)
    exact (s_X12_dataTo_115 i22)
  have h24 := zc_nel (0) (2) q7 (rM_23 i3.sg _ (by decide)) (zr_c (lo := 3) (hi := 3) (by decide)) (by decide)
  refine zok_ck (zin_ok h5 (by decide)) ?_
  refine zok_bs (i3.wk (by decide)) (fun σ9 e26 i25 => ?_)
  exact (s_X12_dataTo_115 i25)
theorem s_X12_portTo_267 {σ : zSt} (hσ : zPM σ) : zok (fX12_portTo_267 σ ) (zPu σ) := by
  unfold fX12_portTo_267
  exact zok_spu
theorem s_X12_portTo_140 {σ : zSt} (hσ : zPM σ) : zok (fX12_portTo_140 σ ) (zPu σ) := by
  unfold fX12_portTo_140
  exact (s_X12_portTo_267 hσ)
theorem s_X12_portTo_129 {G : Nat → Int} {σ : zSt} (hσ : zIM G σ) : zok (fX12_portTo_129 σ ) (zIM G) := by
  unfold fX12_portTo_129
  refine zok_pi (s_X12_hCount hσ.P) (fun v2 h1 => ?_)
  refine zok_ck rfl ?_
  refine zok_bs (hσ.wi 35 35 (by decide) h1 (by decide +kernel)) (fun σ3 e3 i2 => ?_)
  exact zok_pau i2 (s_X12_portTo_140 i2.P)
theorem s_X12_portTo_115 {G : Nat → Int} {σ : zSt} (hσ : zIM G σ) {x5 : Int32} (h_x5 : zr (0) (1) x5) : zok (fX12_portTo_115 σ x5) (zIM G) := by
  unfold fX12_portTo_115
  refine zok_if (fun q1 => ?_) (fun q1 => ?_)
  · have h2 := zc_eql (0) (0) q1 h_x5 (zr_c (lo := 0) (hi := 0) (by decide)) (by decide)
    refine zok_pi (s_X12_lineAt hσ.P (zr_w (zr_c (lo := 1) (hi := 1) (by decide)) (by decide))) (fun v5 h3 => ?_)
    refine zok_if (fun q4 => ?_) (fun q4 => ?_)
    · have h5 := zc_eql (1) (1) q4 h3 (zr_c (lo := 1) (hi := 1) (by decide)) (by decide)
      exact (s_X12_portTo_129 hσ)
    have h6 := zc_nel (0) (0) q4 h3 (zr_c (lo := 1) (hi := 1) (by decide)) (by decide)
    exact zok_pau hσ (s_X12_portTo_140 hσ.P)
  have h7 := zc_nel (1) (1) q1 h_x5 (zr_c (lo := 0) (hi := 0) (by decide)) (by decide)
  exact zok_pau hσ (s_X12_portTo_140 hσ.P)
theorem s_X12_portTo_75 {G : Nat → Int} {σ : zSt} (hσ : zIM G σ) {x2 : Int32} (h_x2 : zr (0) (255) x2) {x3 : Int32} (h_x3 : zr (0) (1) x3) : zok (fX12_portTo_75 σ x2 x3) (zIM G) := by
  unfold fX12_portTo_75
  refine zok_if (fun q1 => ?_) (fun q1 => ?_)
  · have h2 := zc_eql (0) (0) q1 h_x3 (zr_c (lo := 0) (hi := 0) (by decide)) (by decide)
    exact zok_pau hσ (s_X12_portTo_267 hσ.P)
  have h3 := zc_nel (1) (1) q1 h_x3 (zr_c (lo := 0) (hi := 0) (by decide)) (by decide)
  refine zok_pi (s_X12_lineAt hσ.P (zr_w (zr_c (lo := 0) (hi := 0) (by decide)) (by decide))) (fun v7 h4 => ?_)
  refine zok_pi (s_X12_lineAt hσ.P (zr_w (zr_c (lo := 1) (hi := 1) (by decide)) (by decide))) (fun v9 h5 => ?_)
  refine zok_ck rfl ?_
  refine zok_bs (hσ.wi 33 33 (by decide) h_x2 (by decide +kernel)) (fun σ10 e7 i6 => ?_)
  refine zok_if (fun q8 => ?_) (fun q8 => ?_)
  · have h9 := zc_eql (0) (0) q8 h4 (zr_c (lo := 0) (hi := 0) (by decide)) (by decide)
    refine zok_pi (s_X12_lineAt i6.P (zr_w (zr_c (lo := 0) (hi := 0) (by decide)) (by decide))) (fun v12 h10 => ?_)
    refine zok_if (fun q11 => ?_) (fun q11 => ?_)
    · have h12 := zc_eql (1) (1) q11 h10 (zr_c (lo := 1) (hi := 1) (by decide)) (by decide)
      exact (s_X12_portTo_129 i6)
    have h13 := zc_nel (0) (0) q11 h10 (zr_c (lo := 1) (hi := 1) (by decide)) (by decide)
    exact (s_X12_portTo_115 i6 h5)
  have h14 := zc_nel (1) (1) q8 h4 (zr_c (lo := 0) (hi := 0) (by decide)) (by decide)
  exact (s_X12_portTo_115 i6 h5)
theorem s_X12_portTo_50 {G : Nat → Int} {σ : zSt} (hσ : zIM G σ) {x1 : Int32} (h_x1 : zr (0) (63) x1) {x2 : Int32} (h_x2 : zr (0) (255) x2) {x3 : Int32} (h_x3 : zr (0) (1) x3) : zok (fX12_portTo_50 σ x1 x2 x3) (zIM G) := by
  unfold fX12_portTo_50
  refine zok_if (fun q1 => ?_) (fun q1 => ?_)
  · have h2 := zc_eql (2) (2) q1 (rM_1 hσ.sg _ (by decide)) (zr_c (lo := 2) (hi := 2) (by decide)) (by decide)
    refine zok_if (fun q3 => ?_) (fun q3 => ?_)
    · have h4 := zc_eql (6) (6) q3 h_x1 (zr_c (lo := 6) (hi := 6) (by decide)) (by decide)
      refine zok_ck rfl ?_
      refine zok_bs (hσ.wi 34 34 (by decide) h_x2 (by decide +kernel)) (fun σ13 e6 i5 => ?_)
      exact zok_pau i5 (s_X12_portTo_267 i5.P)
    exact (s_X12_portTo_75 hσ h_x2 h_x3)
  have h7 := zc_nel (0) (1) q1 (rM_1 hσ.sg _ (by decide)) (zr_c (lo := 2) (hi := 2) (by decide)) (by decide)
  exact (s_X12_portTo_75 hσ h_x2 h_x3)
theorem s_X12_portTo_12 {G : Nat → Int} {σ : zSt} (hσ : zIM G σ) {x1 : Int32} (h_x1 : zr (0) (255) x1) {x2 : Int32} (h_x2 : zr (0) (255) x2) {s0 : Int32} (h_s0 : zr (0) (1) s0) : zok (fX12_portTo_12 σ x1 x2 s0) (zIM G) := by
  unfold fX12_portTo_12
  refine zok_if (fun q1 => ?_) (fun q1 => ?_)
  · have h2 := zc_ler (64) q1 (zr_c (lo := 64) (hi := 64) (by decide)) h_x1 (by decide)
    refine zok_if (fun q3 => ?_) (fun q3 => ?_)
    · have h4 := zc_ler (128) q3 (zr_c (lo := 128) (hi := 128) (by decide)) h2 (by decide)
      refine zok_if (fun q5 => ?_) (fun q5 => ?_)
      · have h6 := zc_ler (192) q5 (zr_c (lo := 192) (hi := 192) (by decide)) h4 (by decide)
        refine zok_if (fun q7 => ?_) (fun q7 => ?_)
        · have h8 := zc_eql (2) (2) q7 (rM_1 hσ.sg _ (by decide)) (zr_c (lo := 2) (hi := 2) (by decide)) (by decide)
          exact zok_pau hσ (s_X12_portTo_267 hσ.P)
        have h9 := zc_nel (0) (1) q7 (rM_1 hσ.sg _ (by decide)) (zr_c (lo := 2) (hi := 2) (by decide)) (by decide)
        refine zok_if (fun q10 => ?_) (fun q10 => ?_)
        · have h11 := zc_ltl (239) q10 h6 (zr_c (lo := 240) (hi := 240) (by decide)) (by decide)
          exact zok_pau hσ (s_X12_portTo_267 hσ.P)
        have h12 := zc_ler (240) (z_nlt q10) (zr_c (lo := 240) (hi := 240) (by decide)) h6 (by decide)
        refine zok_if (fun q13 => ?_) (fun q13 => ?_)
        · have h14 := zc_ltr (243) q13 (zr_c (lo := 242) (hi := 242) (by decide)) h12 (by decide)
          exact zok_pau hσ (s_X12_portTo_267 hσ.P)
        have h15 := zc_lel (242) (z_nlt q13) h12 (zr_c (lo := 242) (hi := 242) (by decide)) (by decide)
        refine zok_if (fun q16 => ?_) (fun q16 => ?_)
        · have h17 := zc_eql (240) (240) q16 h15 (zr_c (lo := 240) (hi := 240) (by decide)) (by decide)
          refine zok_ck (by decide) ?_
          refine zok_ck rfl ?_
          refine zok_bs (hσ.wi 162 162 (by decide) (zr_rem (lo := 0) (hi := 63) 64 (by decide) h_x2 (by decide)) (by decide +kernel)) (fun σ16 e19 i18 => ?_)
          exact zok_pau i18 (s_X12_portTo_267 i18.P)
        have h20 := zc_nel (241) (242) q16 h15 (zr_c (lo := 240) (hi := 240) (by decide)) (by decide)
        refine zok_if (fun q21 => ?_) (fun q21 => ?_)
        · have h22 := zc_eql (241) (241) q21 h20 (zr_c (lo := 241) (hi := 241) (by decide)) (by decide)
          refine zok_ck rfl ?_
          refine zok_ck (zin_ok (zr_add (lo := 98) (hi := 161) (zr_c (lo := 98) (hi := 98) (by decide)) (rM_41 hσ.sg _ (by decide)) (by decide)) (by decide)) ?_
          refine zok_bs (hσ.wi 98 161 (z_ix (zr_add (lo := 98) (hi := 161) (zr_c (lo := 98) (hi := 98) (by decide)) (rM_41 hσ.sg _ (by decide)) (by decide)) (by decide)) h_x2 (by decide +kernel)) (fun σ15 e24 i23 => ?_)
          exact zok_pau i23 (s_X12_portTo_267 i23.P)
        have h25 := zc_nel (242) (242) q21 h20 (zr_c (lo := 241) (hi := 241) (by decide)) (by decide)
        refine zok_ck (by decide) ?_
        refine zok_ck rfl ?_
        refine zok_bs (hσ.wi 163 163 (by decide) (zr_rem (lo := 0) (hi := 3) 4 (by decide) h_x2 (by decide)) (by decide +kernel)) (fun σ14 e27 i26 => ?_)
        exact zok_pau i26 (s_X12_portTo_267 i26.P)
      have h28 := zc_ltl (191) (z_nle q5) h4 (zr_c (lo := 192) (hi := 192) (by decide)) (by decide)
      refine zok_if (fun q29 => ?_) (fun q29 => ?_)
      · have h30 := zc_eql (0) (0) q29 h_s0 (zr_c (lo := 0) (hi := 0) (by decide)) (by decide)
        refine zok_bu (s_X12_dataTo hσ h_x2) (fun σ17 i31 => ?_)
        exact zok_pau i31 (s_X12_portTo_267 i31.P)
      have h32 := zc_nel (1) (1) q29 h_s0 (zr_c (lo := 0) (hi := 0) (by decide)) (by decide)
      refine zok_bu (s_X12_control hσ h_x2) (fun σ18 i33 => ?_)
      exact zok_pau i33 (s_X12_portTo_267 i33.P)
    have h34 := zc_ltl (127) (z_nle q3) h2 (zr_c (lo := 128) (hi := 128) (by decide)) (by decide)
    refine zok_bu (s_X12_noise hσ h_x2) (fun σ19 i35 => ?_)
    exact zok_pau i35 (s_X12_portTo_267 i35.P)
  have h36 := zc_ltl (63) (z_nle q1) h_x1 (zr_c (lo := 64) (hi := 64) (by decide)) (by decide)
  refine zok_if (fun q37 => ?_) (fun q37 => ?_)
  · have h38 := zc_eql (2) (2) q37 (rM_1 hσ.sg _ (by decide)) (zr_c (lo := 2) (hi := 2) (by decide)) (by decide)
    refine zok_if (fun q39 => ?_) (fun q39 => ?_)
    · have h40 := zc_lel (0) q39 h36 (zr_c (lo := 0) (hi := 0) (by decide)) (by decide)
      exact (s_X12_portTo_50 hσ (zr_w h40 (by decide)) h_x2 h_s0)
    have h41 := zc_ltr (1) (z_nle q39) (zr_c (lo := 0) (hi := 0) (by decide)) h36 (by decide)
    refine zok_if (fun q42 => ?_) (fun q42 => ?_)
    · have h43 := zc_ler (6) q42 (zr_c (lo := 6) (hi := 6) (by decide)) h41 (by decide)
      exact (s_X12_portTo_50 hσ (zr_w h43 (by decide)) h_x2 h_s0)
    have h44 := zc_ltl (5) (z_nle q42) h41 (zr_c (lo := 6) (hi := 6) (by decide)) (by decide)
    refine zok_ck (zin_ok (zr_add (lo := 37) (hi := 41) (zr_c (lo := 36) (hi := 36) (by decide)) h44 (by decide)) (by decide)) ?_
    refine zok_bs (hσ.wi 37 41 (z_ix (zr_add (lo := 37) (hi := 41) (zr_c (lo := 36) (hi := 36) (by decide)) h44 (by decide)) (by decide)) h_x2 (by decide +kernel)) (fun σ20 e46 i45 => ?_)
    exact zok_pau i45 (s_X12_portTo_267 i45.P)
  have h47 := zc_nel (0) (1) q37 (rM_1 hσ.sg _ (by decide)) (zr_c (lo := 2) (hi := 2) (by decide)) (by decide)
  exact (s_X12_portTo_50 hσ h36 h_x2 h_s0)
theorem s_X12_portTo {G : Nat → Int} {σ : zSt} (hσ : zIM G σ) {x1 : Int32} (h_x1 : zr (0) (255) x1) {x2 : Int32} (h_x2 : zr (0) (255) x2) : zok (fX12_portTo σ x1 x2) (zIM G) := by
  unfold fX12_portTo
  refine zok_ck (by decide) ?_
  refine zok_if (fun q1 => ?_) (fun q1 => ?_)
  · have h2 := zc_eql (1) (1) q1 (zr_rem (lo := 0) (hi := 1) 2 (by decide) h_x1 (by decide)) (zr_c (lo := 1) (hi := 1) (by decide)) (by decide)
    have h3 := z_odd64 h_x1 h2 (by decide)
    exact (s_X12_portTo_12 hσ h_x1 h_x2 (zr_w (zr_c (lo := 1) (hi := 1) (by decide)) (by decide)))
  have h4 := zc_nel (0) (0) q1 (zr_rem (lo := 0) (hi := 1) 2 (by decide) h_x1 (by decide)) (zr_c (lo := 1) (hi := 1) (by decide)) (by decide)
  exact (s_X12_portTo_12 hσ h_x1 h_x2 (zr_w (zr_c (lo := 0) (hi := 0) (by decide)) (by decide)))
theorem s_X12_turned_118 {σ : zSt} (hσ : zPM σ) {s0 : Int32} (h_s0 : zr (0) (255) s0) : zok (fX12_turned_118 σ s0) (zPi σ (fun v : Int32 => zr (0) (255) v)) := by
  unfold fX12_turned_118
  exact zok_spi h_s0
theorem s_X12_turned_89 {G : Nat → Int} {σ : zSt} (hσ : zIM G σ) {x2 : Int32} (h_x2 : zr (0) (255) x2) {x3 : Int32} (h_x3 : zr (0) (1) x3) {x5 : Int32} (h_x5 : zr (0) (1) x5) {s0 : Int32} (h_s0 : zr (0) (1) s0) {s1 : Int32} (h_s1 : zr (0) (0) s1) : zok (fX12_turned_89 σ x2 x3 x5 s0 s1) (zAi (zIM G) (fun v : Int32 => zr (0) (255) v)) := by
  unfold fX12_turned_89
  refine zok_bu (s_X12_put hσ (zr_w h_s1 (by decide)) h_s0) (fun σ1 i1 => ?_)
  refine zok_if (fun q2 => ?_) (fun q2 => ?_)
  · have h3 := zc_eql (0) (0) q2 h_x3 (zr_c (lo := 0) (hi := 0) (by decide)) (by decide)
    exact zok_pai i1 (s_X12_turned_118 i1.P (zr_or (lo := 0) (hi := 255) 8 (zr_shr (lo := 0) (hi := 127) 1 (by decide) h_x2 (by decide)) (zr_shl (lo := 0) (hi := 128) 7 (by decide) h_x5 (by decide)) (by decide)))
  have h4 := zc_nel (1) (1) q2 h_x3 (zr_c (lo := 0) (hi := 0) (by decide)) (by decide)
  exact zok_pai i1 (s_X12_turned_118 i1.P (zr_or (lo := 0) (hi := 255) 8 (zr_andr (lo := 0) (hi := 255) (zr_c (lo := 255) (hi := 255) (by decide)) (by decide)) h_x5 (by decide)))
theorem s_X12_turned_74 {G : Nat → Int} {σ : zSt} (hσ : zIM G σ) {x2 : Int32} (h_x2 : zr (0) (255) x2) {x3 : Int32} (h_x3 : zr (0) (1) x3) {x4 : Int32} (h_x4 : zr (0) (1) x4) {s0 : Int32} (h_s0 : zr (0) (1) s0) : zok (fX12_turned_74 σ x2 x3 x4 s0) (zAi (zIM G) (fun v : Int32 => zr (0) (255) v)) := by
  unfold fX12_turned_74
  refine zok_if (fun q1 => ?_) (fun q1 => ?_)
  · have h2 := zc_eql (1) (1) q1 h_x4 (zr_c (lo := 1) (hi := 1) (by decide)) (by decide)
    exact (s_X12_turned_89 hσ h_x2 h_x3 h_s0 (zr_w (zr_c (lo := 1) (hi := 1) (by decide)) (by decide)) (zr_c (lo := 0) (hi := 0) (by decide)))
  have h3 := zc_nel (0) (0) q1 h_x4 (zr_c (lo := 1) (hi := 1) (by decide)) (by decide)
  exact (s_X12_turned_89 hσ h_x2 h_x3 h_s0 (zr_w (zr_c (lo := 0) (hi := 0) (by decide)) (by decide)) (zr_c (lo := 0) (hi := 0) (by decide)))
theorem s_X12_turned_26 {G : Nat → Int} {σ : zSt} (hσ : zIM G σ) {x1 : Int32} (h_x1 : zr (0) (7) x1) {x2 : Int32} (h_x2 : zr (0) (255) x2) {x3 : Int32} (h_x3 : zr (0) (1) x3) {s0 : Int32} (h_s0 : zr (0) (1) s0) : zok (fX12_turned_26 σ x1 x2 x3 s0) (zAi (zIM G) (fun v : Int32 => zr (0) (255) v)) := by
  unfold fX12_turned_26
  refine zok_if (fun q1 => ?_) (fun q1 => ?_)
  · have h2 := zc_ler (2) q1 (zr_c (lo := 2) (hi := 2) (by decide)) h_x1 (by decide)
    refine zok_if (fun q3 => ?_) (fun q3 => ?_)
    · have h4 := zc_ler (4) q3 (zr_c (lo := 4) (hi := 4) (by decide)) h2 (by decide)
      refine zok_if (fun q5 => ?_) (fun q5 => ?_)
      · have h6 := zc_eql (5) (5) q5 h4 (zr_c (lo := 5) (hi := 5) (by decide)) (by decide)
        exact (s_X12_turned_74 hσ h_x2 h_x3 h_s0 (zr_shr (lo := 0) (hi := 1) 7 (by decide) h_x2 (by decide)))
      refine zok_if (fun q7 => ?_) (fun q7 => ?_)
      · have h8 := zc_eql (6) (6) q7 h4 (zr_c (lo := 6) (hi := 6) (by decide)) (by decide)
        exact (s_X12_turned_74 hσ h_x2 h_x3 h_s0 (zr_w (zr_c (lo := 1) (hi := 1) (by decide)) (by decide)))
      exact (s_X12_turned_74 hσ h_x2 h_x3 h_s0 (zr_w (zr_c (lo := 0) (hi := 0) (by decide)) (by decide)))
    have h9 := zc_ltl (3) (z_nle q3) h2 (zr_c (lo := 4) (hi := 4) (by decide)) (by decide)
    refine zok_pi (s_X12_flag hσ.P (zr_w (zr_c (lo := 0) (hi := 0) (by decide)) (by decide))) (fun v3 h10 => ?_)
    exact (s_X12_turned_74 hσ h_x2 h_x3 h_s0 h10)
  have h11 := zc_ltl (1) (z_nle q1) h_x1 (zr_c (lo := 2) (hi := 2) (by decide)) (by decide)
  exact (s_X12_turned_74 hσ h_x2 h_x3 h_s0 h_s0)
theorem s_X12_turned_11 {G : Nat → Int} {σ : zSt} (hσ : zIM G σ) {x1 : Int32} (h_x1 : zr (0) (7) x1) {x2 : Int32} (h_x2 : zr (0) (255) x2) {s0 : Int32} (h_s0 : zr (0) (1) s0) : zok (fX12_turned_11 σ x1 x2 s0) (zAi (zIM G) (fun v : Int32 => zr (0) (255) v)) := by
  unfold fX12_turned_11
  refine zok_if (fun q1 => ?_) (fun q1 => ?_)
  · have h2 := zc_eql (0) (0) q1 h_s0 (zr_c (lo := 0) (hi := 0) (by decide)) (by decide)
    exact (s_X12_turned_26 hσ h_x1 h_x2 (zr_w h2 (by decide)) (zr_andr (lo := 0) (hi := 1) (zr_c (lo := 1) (hi := 1) (by decide)) (by decide)))
  have h3 := zc_nel (1) (1) q1 h_s0 (zr_c (lo := 0) (hi := 0) (by decide)) (by decide)
  exact (s_X12_turned_26 hσ h_x1 h_x2 (zr_w h3 (by decide)) (zr_shr (lo := 0) (hi := 1) 7 (by decide) h_x2 (by decide)))
theorem s_X12_turned {G : Nat → Int} {σ : zSt} (hσ : zIM G σ) {x1 : Int32} (h_x1 : zr (0) (7) x1) {x2 : Int32} (h_x2 : zr (0) (255) x2) : zok (fX12_turned σ x1 x2) (zAi (zIM G) (fun v : Int32 => zr (0) (255) v)) := by
  unfold fX12_turned
  refine zok_ck (by decide) ?_
  refine zok_if (fun q1 => ?_) (fun q1 => ?_)
  · have h2 := zc_eql (0) (0) q1 (zr_rem (lo := 0) (hi := 1) 2 (by decide) h_x1 (by decide)) (zr_c (lo := 0) (hi := 0) (by decide)) (by decide)
    exact (s_X12_turned_11 hσ h_x1 h_x2 (zr_w (zr_c (lo := 1) (hi := 1) (by decide)) (by decide)))
  have h3 := zc_nel (1) (1) q1 (zr_rem (lo := 0) (hi := 1) 2 (by decide) h_x1 (by decide)) (zr_c (lo := 0) (hi := 0) (by decide)) (by decide)
  have h4 := z_odd64 h_x1 h3 (by decide)
  exact (s_X12_turned_11 hσ h_x1 h_x2 (zr_w (zr_c (lo := 0) (hi := 0) (by decide)) (by decide)))
theorem s_X12_turn_122 {σ : zSt} (hσ : zPM σ) {s0 : Int32} (h_s0 : zr (8) (12) s0) : zok (fX12_turn_122 σ s0) (zPi σ (fun v : Int32 => zr (8) (15) v)) := by
  unfold fX12_turn_122
  exact zok_spi (zr_w h_s0 (by decide))
theorem s_X12_turn_106 {G : Nat → Int} {σ : zSt} (hσ : zIM G σ) {x3 : Int32} (h_x3 : zr (0) (7) x3) {s0 : Int32} (h_s0 : zr (0) (255) s0) : zok (fX12_turn_106 σ x3 s0) (zAi (zIM G) (fun v : Int32 => zr (8) (15) v)) := by
  unfold fX12_turn_106
  refine zok_bu (s_X12_xy hσ (zr_w h_s0 (by decide))) (fun σ1 i1 => ?_)
  refine zok_if (fun q2 => ?_) (fun q2 => ?_)
  · have h3 := zc_eql (6) (6) q2 h_x3 (zr_c (lo := 6) (hi := 6) (by decide)) (by decide)
    exact zok_pai i1 (s_X12_turn_122 i1.P (zr_w (zr_c (lo := 12) (hi := 12) (by decide)) (by decide)))
  exact zok_pai i1 (s_X12_turn_122 i1.P (zr_w (zr_c (lo := 8) (hi := 8) (by decide)) (by decide)))
theorem s_X12_turn_69 {G : Nat → Int} {σ : zSt} (hσ : zIM G σ) {x3 : Int32} (h_x3 : zr (0) (7) x3) {x4 : Int32} (h_x4 : zr (0) (255) x4) {s0 : Int32} (h_s0 : zr (0) (1) s0) {s1 : Int32} (h_s1 : zr (2) (2) s1) : zok (fX12_turn_69 σ x3 x4 s0 s1) (zAi (zIM G) (fun v : Int32 => zr (8) (15) v)) := by
  unfold fX12_turn_69
  refine zok_bu (s_X12_put hσ (zr_w h_s1 (by decide)) h_s0) (fun σ2 i1 => ?_)
  refine zok_bu (s_X12_put i1 (zr_w (zr_c (lo := 4) (hi := 4) (by decide)) (by decide)) (zr_w (zr_c (lo := 1) (hi := 1) (by decide)) (by decide))) (fun σ3 i2 => ?_)
  refine zok_bu (s_X12_put i2 (zr_w (zr_c (lo := 1) (hi := 1) (by decide)) (by decide)) (zr_w (zr_c (lo := 0) (hi := 0) (by decide)) (by decide))) (fun σ4 i3 => ?_)
  refine zok_if (fun q4 => ?_) (fun q4 => ?_)
  · have h5 := zc_eql (6) (6) q4 h_x3 (zr_c (lo := 6) (hi := 6) (by decide)) (by decide)
    refine zok_ck rfl ?_
    exact (s_X12_turn_106 i3 (zr_w h5 (by decide)) (zr_shr (lo := 0) (hi := 255) 8 (by decide) (rM_12 i3.sg _ (by decide)) (by decide)))
  exact (s_X12_turn_106 i3 h_x3 h_x4)
theorem s_X12_turn_219 {σ : zSt} (hσ : zPM σ) {s0 : Int32} (h_s0 : zr (8) (15) s0) : zok (fX12_turn_219 σ s0) (zPi σ (fun v : Int32 => zr (8) (15) v)) := by
  unfold fX12_turn_219
  exact zok_spi h_s0
theorem s_X12_turn_193 {G : Nat → Int} {σ : zSt} (hσ : zIM G σ) {x3 : Int32} (h_x3 : zr (0) (7) x3) {x4 : Int32} (h_x4 : zr (0) (255) x4) : zok (fX12_turn_193 σ x3 x4) (zAi (zIM G) (fun v : Int32 => zr (8) (15) v)) := by
  unfold fX12_turn_193
  refine zok_bu (s_X12_rTo hσ h_x3) (fun σ5 i1 => ?_)
  refine zok_bs (i1.wi 33 33 (by decide) h_x4 (by decide +kernel)) (fun σ6 e3 i2 => ?_)
  refine zok_if (fun q4 => ?_) (fun q4 => ?_)
  · have h5 := zc_eql (6) (6) q4 h_x3 (zr_c (lo := 6) (hi := 6) (by decide)) (by decide)
    exact zok_pai i2 (s_X12_turn_219 i2.P (zr_w (zr_c (lo := 15) (hi := 15) (by decide)) (by decide)))
  exact zok_pai i2 (s_X12_turn_219 i2.P (zr_w (zr_c (lo := 8) (hi := 8) (by decide)) (by decide)))
theorem s_X12_turn_191 {G : Nat → Int} {σ : zSt} (hσ : zIM G σ) {x3 : Int32} (h_x3 : zr (0) (7) x3) {s0 : Int32} (h_s0 : zr (0) (255) s0) : zok (fX12_turn_191 σ x3 s0) (zAi (zIM G) (fun v : Int32 => zr (8) (15) v)) := by
  unfold fX12_turn_191
  exact (s_X12_turn_193 hσ h_x3 h_s0)
theorem s_X12_turn_23 {G : Nat → Int} {σ : zSt} (hσ : zIM G σ) {x1 : Int32} (h_x1 : zr (0) (255) x1) {x2 : Int32} (h_x2 : zr (0) (7) x2) {s0 : Int32} (h_s0 : zr (0) (7) s0) : zok (fX12_turn_23 σ x1 x2 s0) (zAi (zIM G) (fun v : Int32 => zr (8) (15) v)) := by
  unfold fX12_turn_23
  refine zok_pi (s_X12_r hσ.P h_s0) (fun v8 h1 => ?_)
  refine zok_br (zr_shr (lo := 0) (hi := 3) 6 (by decide) h_x1 (by decide)) (fun v9 e3 h2 => ?_)
  refine zok_if (fun q4 => ?_) (fun q4 => ?_)
  · have h5 := zc_eql (1) (1) q4 h2 (zr_c (lo := 1) (hi := 1) (by decide)) (by decide)
    refine zok_br (zr_andr (lo := 0) (hi := 128) (zr_shld (lo := 0) (hi := 128) (zr_c (lo := 1) (hi := 1) (by decide)) h_x2 (by decide)) (by decide)) (fun v18 e7 h6 => ?_)
    refine zok_bu (s_X12_by hσ (zr_w h6 (by decide))) (fun σ19 i8 => ?_)
    refine zok_if (fun q9 => ?_) (fun q9 => ?_)
    · have h10 := zc_eql (0) (0) q9 h6 (zr_c (lo := 0) (hi := 0) (by decide)) (by decide)
      exact (s_X12_turn_69 i8 h_s0 h1 (zr_w (zr_c (lo := 1) (hi := 1) (by decide)) (by decide)) (zr_c (lo := 2) (hi := 2) (by decide)))
    have h11 := zc_nel (1) (128) q9 h6 (zr_c (lo := 0) (hi := 0) (by decide)) (by decide)
    exact (s_X12_turn_69 i8 h_s0 h1 (zr_w (zr_c (lo := 0) (hi := 0) (by decide)) (by decide)) (zr_c (lo := 2) (hi := 2) (by decide)))
  refine zok_if (fun q12 => ?_) (fun q12 => ?_)
  · have h13 := zc_eql (0) (0) q12 h2 (zr_c (lo := 0) (hi := 0) (by decide)) (by decide)
    refine zok_ai (s_X12_turned hσ h_x2 h1) (fun σ10 v11 i14 h15 => ?_)
    refine zok_bu (s_X12_by i14 h15) (fun σ12 i16 => ?_)
    refine zok_pi (s_X12_isEven i16.P h15) (fun v14 h17 => ?_)
    refine zok_bu (s_X12_put i16 (zr_w (zr_c (lo := 2) (hi := 2) (by decide)) (by decide)) h17) (fun σ15 i18 => ?_)
    refine zok_bu (s_X12_put i18 (zr_w (zr_c (lo := 4) (hi := 4) (by decide)) (by decide)) (zr_w (zr_c (lo := 0) (hi := 0) (by decide)) (by decide))) (fun σ16 i19 => ?_)
    refine zok_bu (s_X12_put i19 (zr_w (zr_c (lo := 1) (hi := 1) (by decide)) (by decide)) (zr_w (zr_c (lo := 0) (hi := 0) (by decide)) (by decide))) (fun σ17 i20 => ?_)
    exact (s_X12_turn_193 i20 h_s0 h15)
  have h21 := zc_nel (1) (3) q12 h2 (zr_c (lo := 0) (hi := 0) (by decide)) (by decide)
  refine zok_if (fun q22 => ?_) (fun q22 => ?_)
  · have h23 := zc_eql (2) (2) q22 h21 (zr_c (lo := 2) (hi := 2) (by decide)) (by decide)
    exact (s_X12_turn_191 hσ h_s0 (zr_andl (lo := 0) (hi := 255) h1 (by decide)))
  exact (s_X12_turn_191 hσ h_s0 (zr_or (lo := 0) (hi := 255) 8 h1 (zr_shld (lo := 0) (hi := 128) (zr_c (lo := 1) (hi := 1) (by decide)) h_x2 (by decide)) (by decide)))
theorem s_X12_turn {G : Nat → Int} {σ : zSt} (hσ : zIM G σ) {x1 : Int32} (h_x1 : zr (0) (255) x1) : zok (fX12_turn σ x1) (zAi (zIM G) (fun v : Int32 => zr (8) (15) v)) := by
  unfold fX12_turn
  refine zok_br (zr_andr (lo := 0) (hi := 7) (zr_c (lo := 7) (hi := 7) (by decide)) (by decide)) (fun v20 e2 h1 => ?_)
  refine zok_if (fun q3 => ?_) (fun q3 => ?_)
  · have h4 := zc_eql (0) (0) q3 (rM_7 hσ.sg _ (by decide)) (zr_c (lo := 0) (hi := 0) (by decide)) (by decide)
    exact (s_X12_turn_23 hσ h_x1 h1 (zr_andr (lo := 0) (hi := 7) (zr_c (lo := 7) (hi := 7) (by decide)) (by decide)))
  have h5 := zc_nel (1) (1) q3 (rM_7 hσ.sg _ (by decide)) (zr_c (lo := 0) (hi := 0) (by decide)) (by decide)
  exact (s_X12_turn_23 hσ h_x1 h1 (zr_w (zr_c (lo := 6) (hi := 6) (by decide)) (by decide)))
theorem s_X12_turns {G : Nat → Int} {σ : zSt} (hσ : zIM G σ) : zok (fX12_turns σ ) (zAi (zIM G) (fun v : Int32 => zr (8) (15) v)) := by
  unfold fX12_turns
  refine zok_ai (s_X12_fetch hσ) (fun σ1 v2 i1 h2 => ?_)
  refine zok_ai (s_X12_turn i1 h2) (fun σ3 v4 i3 h4 => ?_)
  exact zok_sai i3 h4
theorem s_X12_three_200 {σ : zSt} (hσ : zPM σ) {s0 : Int32} (h_s0 : zr (4) (6) s0) : zok (fX12_three_200 σ s0) (zPi σ (fun v : Int32 => zr (4) (19) v)) := by
  unfold fX12_three_200
  exact zok_spi (zr_w h_s0 (by decide))
theorem s_X12_three_189 {σ : zSt} (hσ : zPM σ) {x3 : Int32} (h_x3 : zr (1) (3) x3) : zok (fX12_three_189 σ x3) (zPi σ (fun v : Int32 => zr (4) (19) v)) := by
  unfold fX12_three_189
  refine zok_if (fun q1 => ?_) (fun q1 => ?_)
  · have h2 := zc_eql (3) (3) q1 h_x3 (zr_c (lo := 3) (hi := 3) (by decide)) (by decide)
    exact (s_X12_three_200 hσ (zr_w (zr_c (lo := 6) (hi := 6) (by decide)) (by decide)))
  have h3 := zc_nel (1) (2) q1 h_x3 (zr_c (lo := 3) (hi := 3) (by decide)) (by decide)
  exact (s_X12_three_200 hσ (zr_w (zr_c (lo := 4) (hi := 4) (by decide)) (by decide)))
theorem s_X12_three_173 {G : Nat → Int} {σ : zSt} (hσ : zIM G σ) {x3 : Int32} (h_x3 : zr (1) (3) x3) : zok (fX12_three_173 σ x3) (zAi (zIM G) (fun v : Int32 => zr (4) (19) v)) := by
  unfold fX12_three_173
  refine zok_if (fun q1 => ?_) (fun q1 => ?_)
  · have h2 := zc_eql (3) (3) q1 h_x3 (zr_c (lo := 3) (hi := 3) (by decide)) (by decide)
    refine zok_pi (s_X12_hl hσ.P) (fun v2 h3 => ?_)
    refine zok_ck rfl ?_
    refine zok_bs (hσ.wi 18 18 (by decide) h3 (by decide +kernel)) (fun σ3 e5 i4 => ?_)
    exact zok_pai i4 (s_X12_three_189 i4.P (zr_w h2 (by decide)))
  have h6 := zc_nel (1) (2) q1 h_x3 (zr_c (lo := 3) (hi := 3) (by decide)) (by decide)
  exact zok_pai hσ (s_X12_three_189 hσ.P (zr_w h6 (by decide)))
theorem s_X12_three_157 {G : Nat → Int} {σ : zSt} (hσ : zIM G σ) {x3 : Int32} (h_x3 : zr (1) (3) x3) : zok (fX12_three_157 σ x3) (zAi (zIM G) (fun v : Int32 => zr (4) (19) v)) := by
  unfold fX12_three_157
  refine zok_if (fun q1 => ?_) (fun q1 => ?_)
  · have h2 := zc_eql (2) (2) q1 h_x3 (zr_c (lo := 2) (hi := 2) (by decide)) (by decide)
    refine zok_pi (s_X12_hl hσ.P) (fun v5 h3 => ?_)
    refine zok_ck rfl ?_
    refine zok_bs (hσ.wi 19 19 (by decide) h3 (by decide +kernel)) (fun σ6 e5 i4 => ?_)
    exact (s_X12_three_173 i4 (zr_w h2 (by decide)))
  exact (s_X12_three_173 hσ h_x3)
theorem s_X12_three_128_body {G : Nat → Int} {σ : zSt} {k128 : zSt → Int32 → Int32 → Option (zSt × Int32)} {Mk128 : Int} (hk128 : ∀ (σ : zSt) (x3 : Int32) (x4 : Int32), zIM G σ → zr (1) (3) x3 → zr (2) (8) x4 → (8) - x4.toInt < Mk128 → zok (k128 σ x3 x4) (zAi (zIM G) (fun v : Int32 => zr (4) (19) v))) (hσ : zIM G σ) {x3 : Int32} (h_x3 : zr (1) (3) x3) {x4 : Int32} (h_x4 : zr (2) (8) x4) (hMk128 : (8) - x4.toInt ≤ Mk128) : zok (fX12_three_128_body k128 σ x3 x4) (zAi (zIM G) (fun v : Int32 => zr (4) (19) v)) := by
  unfold fX12_three_128_body
  refine zok_if (fun q1 => ?_) (fun q1 => ?_)
  · have h2 := zc_eql (1) (1) q1 h_x3 (zr_c (lo := 1) (hi := 1) (by decide)) (by decide)
    refine zok_if (fun q3 => ?_) (fun q3 => ?_)
    · have h4 := zc_ltr (8) q3 (zr_c (lo := 7) (hi := 7) (by decide)) h_x4 (by decide)
      exact (s_X12_three_157 hσ (zr_w h2 (by decide)))
    have h5 := zc_lel (7) (z_nlt q3) h_x4 (zr_c (lo := 7) (hi := 7) (by decide)) (by decide)
    refine zok_bu (s_X12_change hσ (zr_w h5 (by decide)) (zr_w (zr_add (lo := 10) (hi := 15) h5 (zr_c (lo := 8) (hi := 8) (by decide)) (by decide)) (by decide))) (fun σ7 i6 => ?_)
    refine zok_br (zr_add (lo := 3) (hi := 8) h5 (zr_c (lo := 1) (hi := 1) (by decide)) (by decide)) (fun v8 e8 h7 => ?_)
    exact hk128 _ _ _ i6 (zr_w h2 (by decide)) (zr_w h7 (by decide)) (by rw [e8]; have := z_tadd (y := (1 : Int32)) h5 (zr_c (lo := 1) (hi := 1) (by decide)) (by decide); have e9 : (1 : Int32).toInt = 1 := rfl; omega) 
  have h9 := zc_nel (2) (3) q1 h_x3 (zr_c (lo := 1) (hi := 1) (by decide)) (by decide)
  exact (s_X12_three_157 hσ (zr_w h9 (by decide)))
theorem s_X12_three_128 {G : Nat → Int} : ∀ (n : Nat) {σ : zSt} (hσ : zIM G σ) {x3 : Int32} (h_x3 : zr (1) (3) x3) {x4 : Int32} (h_x4 : zr (2) (8) x4) (hm : (8) - x4.toInt < n), zok (fX12_three_128 n σ x3 x4) (zAi (zIM G) (fun v : Int32 => zr (4) (19) v)) := by
  intro n
  induction n with
  | zero => intro σ hσ x3 h_x3 x4 h_x4 hm ; have h9 := h_x4.1; have h8 := h_x4.2; exfalso; omega
  | succ n ih => intro σ hσ x3 h_x3 x4 h_x4 hm ; exact s_X12_three_128_body (fun σ x3 x4 hσ h_x3 h_x4 hm1 => ih hσ h_x3 h_x4 (by omega)) hσ h_x3 h_x4 (Int.le_refl _)
theorem s_X12_three_239 {σ : zSt} (hσ : zPM σ) : zok (fX12_three_239 σ ) (zPi σ (fun v : Int32 => zr (4) (19) v)) := by
  unfold fX12_three_239
  exact zok_spi (zr_w (zr_c (lo := 10) (hi := 10) (by decide)) (by decide))
theorem s_X12_three_502 {σ : zSt} (hσ : zPM σ) : zok (fX12_three_502 σ ) (zPi σ (fun v : Int32 => zr (4) (19) v)) := by
  unfold fX12_three_502
  exact zok_spi (zr_w (zr_c (lo := 4) (hi := 4) (by decide)) (by decide))
theorem s_X12_three_88 {G : Nat → Int} {σ : zSt} (hσ : zIM G σ) {x1 : Int32} (h_x1 : zr (0) (7) x1) {x2 : Int32} (h_x2 : zr (1) (3) x2) {x3 : Int32} (h_x3 : zr (0) (3) x3) : zok (fX12_three_88 σ x1 x2 x3) (zAi (zIM G) (fun v : Int32 => zr (4) (19) v)) := by
  unfold fX12_three_88
  refine zok_if (fun q1 => ?_) (fun q1 => ?_)
  · have h2 := zc_eql (1) (1) q1 h_x2 (zr_c (lo := 1) (hi := 1) (by decide)) (by decide)
    refine zok_if (fun q3 => ?_) (fun q3 => ?_)
    · have h4 := zc_eql (0) (0) q3 h_x3 (zr_c (lo := 0) (hi := 0) (by decide)) (by decide)
      refine zok_ai (s_X12_pop hσ) (fun σ43 v44 i5 h6 => ?_)
      refine zok_ck rfl ?_
      refine zok_bs (i5.wi 19 19 (by decide) h6 (by decide +kernel)) (fun σ45 e8 i7 => ?_)
      refine zok_ck rfl ?_
      refine zok_ck rfl ?_
      refine zok_bs (i7.wi 20 20 (by decide) (rM_12 i7.sg _ (by decide)) (by decide +kernel)) (fun σ46 e10 i9 => ?_)
      exact zok_sai i9 (zr_w (zr_c (lo := 10) (hi := 10) (by decide)) (by decide))
    have h11 := zc_nel (1) (3) q3 h_x3 (zr_c (lo := 0) (hi := 0) (by decide)) (by decide)
    exact (s_X12_three_128 zfuel hσ h11 (zr_w (zr_c (lo := 2) (hi := 2) (by decide)) (by decide)) (by decide))
  have h12 := zc_nel (2) (3) q1 h_x2 (zr_c (lo := 1) (hi := 1) (by decide)) (by decide)
  refine zok_if (fun q13 => ?_) (fun q13 => ?_)
  · have h14 := zc_eql (2) (2) q13 h12 (zr_c (lo := 2) (hi := 2) (by decide)) (by decide)
    refine zok_ai (s_X12_nextWord hσ) (fun σ37 v38 i15 h16 => ?_)
    refine zok_ck rfl ?_
    refine zok_bs (i15.wi 20 20 (by decide) h16 (by decide +kernel)) (fun σ39 e18 i17 => ?_)
    refine zok_pi (s_X12_cc i17.P h_x1) (fun v41 h19 => ?_)
    refine zok_if (fun q20 => ?_) (fun q20 => ?_)
    · have h21 := zc_eql (0) (0) q20 h19 (zr_c (lo := 0) (hi := 0) (by decide)) (by decide)
      exact zok_pai i17 (s_X12_three_239 i17.P)
    have h22 := zc_nel (1) (1) q20 h19 (zr_c (lo := 0) (hi := 0) (by decide)) (by decide)
    refine zok_ck rfl ?_
    refine zok_ck rfl ?_
    refine zok_bs (i17.wi 19 19 (by decide) (rM_12 i17.sg _ (by decide)) (by decide +kernel)) (fun σ42 e24 i23 => ?_)
    exact zok_pai i23 (s_X12_three_239 i23.P)
  have h25 := zc_nel (3) (3) q13 h12 (zr_c (lo := 2) (hi := 2) (by decide)) (by decide)
  refine zok_if (fun q26 => ?_) (fun q26 => ?_)
  · have h27 := zc_eql (0) (0) q26 h_x1 (zr_c (lo := 0) (hi := 0) (by decide)) (by decide)
    refine zok_ai (s_X12_nextWord hσ) (fun σ9 v10 i28 h29 => ?_)
    refine zok_ck rfl ?_
    refine zok_bs (i28.wi 20 20 (by decide) h29 (by decide +kernel)) (fun σ11 e31 i30 => ?_)
    refine zok_ck rfl ?_
    refine zok_ck rfl ?_
    refine zok_bs (i30.wi 19 19 (by decide) (rM_12 i30.sg _ (by decide)) (by decide +kernel)) (fun σ12 e33 i32 => ?_)
    exact zok_sai i32 (zr_w (zr_c (lo := 10) (hi := 10) (by decide)) (by decide))
  have h34 := zc_nel (1) (7) q26 h_x1 (zr_c (lo := 0) (hi := 0) (by decide)) (by decide)
  refine zok_if (fun q35 => ?_) (fun q35 => ?_)
  · have h36 := zc_eql (1) (1) q35 h34 (zr_c (lo := 1) (hi := 1) (by decide)) (by decide)
    refine zok_ai (s_X12_turns hσ) (fun σ13 v14 i37 h38 => ?_)
    exact zok_sai i37 (zr_w h38 (by decide))
  have h39 := zc_nel (2) (7) q35 h34 (zr_c (lo := 1) (hi := 1) (by decide)) (by decide)
  refine zok_if (fun q40 => ?_) (fun q40 => ?_)
  · have h41 := zc_eql (2) (2) q40 h39 (zr_c (lo := 2) (hi := 2) (by decide)) (by decide)
    refine zok_ai (s_X12_next hσ) (fun σ15 v16 i42 h43 => ?_)
    refine zok_ck rfl ?_
    refine zok_bu (s_X12_portTo i42 h43 (rM_11 i42.sg _ (by decide))) (fun σ17 i44 => ?_)
    refine zok_ck rfl ?_
    refine zok_ck rfl ?_
    refine zok_bs (i44.wi 20 20 (by decide) (zr_or (lo := 0) (hi := 65535) 16 (zr_shl (lo := 0) (hi := 65280) 8 (by decide) (rM_11 i44.sg _ (by decide)) (by decide)) (zr_andr (lo := 0) (hi := 255) (zr_c (lo := 255) (hi := 255) (by decide)) (by decide)) (by decide)) (by decide +kernel)) (fun σ18 e46 i45 => ?_)
    exact zok_sai i45 (zr_w (zr_c (lo := 11) (hi := 11) (by decide)) (by decide))
  have h47 := zc_nel (3) (7) q40 h39 (zr_c (lo := 2) (hi := 2) (by decide)) (by decide)
  refine zok_if (fun q48 => ?_) (fun q48 => ?_)
  · have h49 := zc_eql (3) (3) q48 h47 (zr_c (lo := 3) (hi := 3) (by decide)) (by decide)
    refine zok_ai (s_X12_next hσ) (fun σ19 v20 i50 h51 => ?_)
    refine zok_ck rfl ?_
    refine zok_ck rfl ?_
    refine zok_bs (i50.wi 20 20 (by decide) (zr_andr (lo := 0) (hi := 65535) (zr_c (lo := 65535) (hi := 65535) (by decide)) (by decide)) (by decide +kernel)) (fun σ21 e53 i52 => ?_)
    refine zok_ai (s_X12_port i52 h51) (fun σ22 v23 i54 h55 => ?_)
    refine zok_ck rfl ?_
    refine zok_bs (i54.wi 0 0 (by decide) h55 (by decide +kernel)) (fun σ24 e57 i56 => ?_)
    exact zok_sai i56 (zr_w (zr_c (lo := 11) (hi := 11) (by decide)) (by decide))
  have h58 := zc_nel (4) (7) q48 h47 (zr_c (lo := 3) (hi := 3) (by decide)) (by decide)
  refine zok_if (fun q59 => ?_) (fun q59 => ?_)
  · have h60 := zc_eql (4) (4) q59 h58 (zr_c (lo := 4) (hi := 4) (by decide)) (by decide)
    refine zok_ck rfl ?_
    refine zok_pi (s_X12_word hσ.P (rM_12 hσ.sg _ (by decide))) (fun v26 h61 => ?_)
    refine zok_ck rfl ?_
    refine zok_pi (s_X12_hl hσ.P) (fun v28 h62 => ?_)
    refine zok_bu (s_X12_wordTo hσ (rM_12 hσ.sg _ (by decide)) h62) (fun σ29 i63 => ?_)
    refine zok_bu (s_X12_hlTo i63 (zr_w h61 (by decide))) (fun σ30 i64 => ?_)
    refine zok_ck rfl ?_
    refine zok_bs (i64.wi 20 20 (by decide) h61 (by decide +kernel)) (fun σ31 e66 i65 => ?_)
    exact zok_sai i65 (zr_w (zr_c (lo := 19) (hi := 19) (by decide)) (by decide))
  have h67 := zc_nel (5) (7) q59 h58 (zr_c (lo := 4) (hi := 4) (by decide)) (by decide)
  refine zok_if (fun q68 => ?_) (fun q68 => ?_)
  · have h69 := zc_eql (5) (5) q68 h67 (zr_c (lo := 5) (hi := 5) (by decide)) (by decide)
    refine zok_bu (s_X12_change hσ (zr_w (zr_c (lo := 4) (hi := 4) (by decide)) (by decide)) (zr_w (zr_c (lo := 6) (hi := 6) (by decide)) (by decide))) (fun σ32 i70 => ?_)
    refine zok_bu (s_X12_change i70 (zr_w (zr_c (lo := 5) (hi := 5) (by decide)) (by decide)) (zr_w (zr_c (lo := 7) (hi := 7) (by decide)) (by decide))) (fun σ33 i71 => ?_)
    exact zok_sai i71 (zr_w (zr_c (lo := 4) (hi := 4) (by decide)) (by decide))
  have h72 := zc_nel (6) (7) q68 h67 (zr_c (lo := 5) (hi := 5) (by decide)) (by decide)
  refine zok_ck rfl ?_
  refine zok_bs (hσ.wi 23 23 (by decide) (zr_sub (lo := 0) (hi := 1) h72 (zr_c (lo := 6) (hi := 6) (by decide)) (by decide)) (by decide +kernel)) (fun σ34 e74 i73 => ?_)
  refine zok_ck rfl ?_
  refine zok_bs (i73.wi 24 24 (by decide) (zr_sub (lo := 0) (hi := 1) h72 (zr_c (lo := 6) (hi := 6) (by decide)) (by decide)) (by decide +kernel)) (fun σ35 e76 i75 => ?_)
  refine zok_if (fun q77 => ?_) (fun q77 => ?_)
  · have h78 := zc_eql (7) (7) q77 h72 (zr_c (lo := 7) (hi := 7) (by decide)) (by decide)
    refine zok_ck rfl ?_
    refine zok_bs (i75.wi 27 27 (by decide) (zr_c (lo := 1) (hi := 1) (by decide)) (by decide +kernel)) (fun σ36 e80 i79 => ?_)
    exact zok_pai i79 (s_X12_three_502 i79.P)
  have h81 := zc_nel (6) (6) q77 h72 (zr_c (lo := 7) (hi := 7) (by decide)) (by decide)
  exact zok_pai i75 (s_X12_three_502 i75.P)
theorem s_X12_three_85 {σ : zSt} (hσ : zPM σ) : zok (fX12_three_85 σ ) (zPi σ (fun v : Int32 => zr (4) (19) v)) := by
  unfold fX12_three_85
  exact zok_spi (zr_w (zr_c (lo := 10) (hi := 10) (by decide)) (by decide))
