theorem s_X6_keep_k11 {G : Nat → Int} {σ : zSt} (hσ : zIC G σ) : zok (fX6_keep_k11 σ ) (zIC G) := by
  unfold fX6_keep_k11
  refine zok_ck (by decide) ?_
  refine zok_bs (hσ.wcl (by decide)) (fun σ1 e2 i1 => ?_)
  refine zok_bs (i1.wk (by decide)) (fun σ2 e4 i3 => ?_)
  refine zok_bs (i3.wk (by decide)) (fun σ3 e6 i5 => ?_)
  exact zok_some i5
theorem s_X6_keep_k12 {G : Nat → Int} {σ : zSt} (hσ : zIC G σ) : zok (fX6_keep_k12 σ ) (zIC G) := by
  unfold fX6_keep_k12
  refine zok_ck (by decide) ?_
  refine zok_bs (hσ.wcl (by decide)) (fun σ1 e2 i1 => ?_)
  refine zok_bs (i1.wk (by decide)) (fun σ2 e4 i3 => ?_)
  refine zok_bs (i3.wk (by decide)) (fun σ3 e6 i5 => ?_)
  exact zok_some i5
theorem s_X0_keep {G : Nat → Int} {σ : zSt} (hσ : zIC G σ) : zok (fX0_keep σ ) (zIC G) := by
  unfold fX0_keep
  refine zok_ck (by decide) ?_
  refine zok_bs (hσ.wcl (by decide)) (fun σ1 e2 i1 => ?_)
  refine zok_bu (s_X6_keep_k11 i1) (fun σ2 i3 => ?_)
  refine zok_bu (s_X6_keep_k12 i3) (fun σ3 i4 => ?_)
  exact zok_some i4
theorem s_X6_bringBack_k11 {G : Nat → Int} {σ : zSt} (hσ : zIC G σ) : zok (fX6_bringBack_k11 σ ) (zIC G) := by
  unfold fX6_bringBack_k11
  refine zok_ck (by decide) ?_
  refine zok_bs (hσ.wcl (by decide)) (fun σ1 e2 i1 => ?_)
  refine zok_bs (i1.wk (by decide)) (fun σ2 e4 i3 => ?_)
  refine zok_bs (i3.wk (by decide)) (fun σ3 e6 i5 => ?_)
  exact zok_some i5
theorem s_X6_bringBack_k12 {G : Nat → Int} {σ : zSt} (hσ : zIC G σ) : zok (fX6_bringBack_k12 σ ) (zIC G) := by
  unfold fX6_bringBack_k12
  refine zok_ck (by decide) ?_
  refine zok_bs (hσ.wcl (by decide)) (fun σ1 e2 i1 => ?_)
  refine zok_bs (i1.wk (by decide)) (fun σ2 e4 i3 => ?_)
  refine zok_bs (i3.wk (by decide)) (fun σ3 e6 i5 => ?_)
  exact zok_some i5
theorem s_X0_bringBack {G : Nat → Int} {σ : zSt} (hσ : zIC G σ) : zok (fX0_bringBack σ ) (zIC G) := by
  unfold fX0_bringBack
  refine zok_ck (by decide) ?_
  refine zok_bs (hσ.wcl (by decide)) (fun σ1 e2 i1 => ?_)
  refine zok_bu (s_X6_bringBack_k11 i1) (fun σ2 i3 => ?_)
  refine zok_bu (s_X6_bringBack_k12 i3) (fun σ3 i4 => ?_)
  exact zok_some i4
theorem s_X0_count_20 {σ : zSt} (hσ : zPC σ) {s0 : Int64} : zok (fX0_count_20 σ s0) (zPl σ (fun v : Int64 => True)) := by
  unfold fX0_count_20
  exact zok_spl trivial
theorem s_X0_count {σ : zSt} (hσ : zPC σ) {x1 : Int32} (h_x1 : zr (0) (3) x1) : zok (fX0_count σ x1) (zPl σ (fun v : Int64 => True)) := by
  unfold fX0_count
  refine zok_if (fun q1 => ?_) (fun q1 => ?_)
  · exact zr_no (zc_ltl (-1) q1 h_x1 (zr_c (lo := 0) (hi := 0) (by decide)) (by decide)) (by decide)
  refine zok_if (fun q2 => ?_) (fun q2 => ?_)
  · exact zr_no (zc_lel (3) q2 (zr_c (lo := 7) (hi := 7) (by decide)) h_x1 (by decide)) (by decide)
  refine zok_ck (zin_ok h_x1 (by decide)) ?_
  exact (s_X0_count_20 hσ)
theorem s_X0_countPicture {G : Nat → Int} {σ : zSt} (hσ : zIC G σ) : zok (fX0_countPicture σ ) (zIC G) := by
  unfold fX0_countPicture
  refine zok_ck rfl ?_
  refine zok_ck rfl ?_
  refine zok_bs (hσ.wl 2 2 (by decide) (by decide)) (fun σ1 e2 i1 => ?_)
  exact zok_some i1
theorem s_X7_moveTone_57 {G : Nat → Int} {σ : zSt} (hσ : zIC G σ) {x1 : Int32} (h_x1 : zr (0) (2) x1) {x2 : Int32} : zok (fX7_moveTone_57 σ x1 x2) (zIC G) := by
  unfold fX7_moveTone_57
  refine zok_ck (zin_ok (zr_add (lo := 3) (hi := 5) (zr_c (lo := 3) (hi := 3) (by decide)) h_x1 (by decide)) (by decide)) ?_
  refine zok_bs (hσ.wi 3 5 (z_ix (zr_add (lo := 3) (hi := 5) (zr_c (lo := 3) (hi := 3) (by decide)) h_x1 (by decide)) (by decide)) zr_any (by decide +kernel)) (fun σ1 e2 i1 => ?_)
  exact zok_some i1
theorem s_X7_moveTone_56 {G : Nat → Int} {σ : zSt} (hσ : zIC G σ) {x1 : Int32} (h_x1 : zr (0) (2) x1) {x2 : Int32} {s0 : Int32} {s1 : Int32} (h_s1 : zr (6) (8) s1) : zok (fX7_moveTone_56 σ x1 x2 s0 s1) (zIC G) := by
  unfold fX7_moveTone_56
  refine zok_ck (zin_ok h_s1 (by decide)) ?_
  refine zok_bs (hσ.wi 6 8 (z_ix h_s1 (by decide)) zr_any (by decide +kernel)) (fun σ2 e2 i1 => ?_)
  exact (s_X7_moveTone_57 i1 h_x1)
theorem s_X7_moveTone {G : Nat → Int} {σ : zSt} (hσ : zIC G σ) {x1 : Int32} (h_x1 : zr (0) (2) x1) : zok (fX7_moveTone σ x1) (zIC G) := by
  unfold fX7_moveTone
  refine zok_ck (zin_ok (zr_add (lo := 3) (hi := 5) (zr_c (lo := 3) (hi := 3) (by decide)) h_x1 (by decide)) (by decide)) ?_
  refine zok_br (zr_max (lo := 0) (hi := 2147483647) (zr_c (lo := 0) (hi := 0) (by decide)) zr_any (by decide)) (fun v3 e2 h1 => ?_)
  refine zok_if (fun q3 => ?_) (fun q3 => ?_)
  · have h4 := zc_eql (0) (0) q3 h1 (zr_c (lo := 0) (hi := 0) (by decide)) (by decide)
    refine zok_ck (zin_ok (zr_add (lo := 0) (hi := 2) (zr_c (lo := 0) (hi := 0) (by decide)) h_x1 (by decide)) (by decide)) ?_
    refine zok_bv (fun v4 e6 => ?_)
    refine zok_if (fun q7 => ?_) (fun q7 => ?_)
    · have h8 := zc_ltr (2) q7 (zr_c (lo := 1) (hi := 1) (by decide)) zr_any (by decide)
      refine zok_ck (zin_ok (zr_add (lo := 6) (hi := 8) (zr_c (lo := 6) (hi := 6) (by decide)) h_x1 (by decide)) (by decide)) ?_
      exact (s_X7_moveTone_56 hσ h_x1 (zr_add (lo := 6) (hi := 8) (zr_c (lo := 6) (hi := 6) (by decide)) h_x1 (by decide)))
    have h9 := zc_lel (1) (z_nlt q7) zr_any (zr_c (lo := 1) (hi := 1) (by decide)) (by decide)
    exact (s_X7_moveTone_56 hσ h_x1 (zr_add (lo := 6) (hi := 8) (zr_c (lo := 6) (hi := 6) (by decide)) h_x1 (by decide)))
  have h10 := zc_nel (1) (2147483647) q3 h1 (zr_c (lo := 0) (hi := 0) (by decide)) (by decide)
  exact (s_X7_moveTone_57 hσ h_x1)
theorem s_X7_moveNoise_136 {σ : zSt} (hσ : zPC σ) : zok (fX7_moveNoise_136 σ ) (zPu σ) := by
  unfold fX7_moveNoise_136
  exact zok_spu
theorem s_X7_moveNoise_120 {G : Nat → Int} {σ : zSt} (hσ : zIC G σ) {x2 : Int32} {s0 : Int32} (h_s0 : zr (0) (1) s0) : zok (fX7_moveNoise_120 σ x2 s0) (zIC G) := by
  unfold fX7_moveNoise_120
  refine zok_ck rfl ?_
  refine zok_bs (hσ.wi 16 16 (by decide) zr_any (by decide +kernel)) (fun σ1 e2 i1 => ?_)
  exact zok_pau i1 (s_X7_moveNoise_136 i1.P)
theorem s_X7_moveNoise_65 {G : Nat → Int} {σ : zSt} (hσ : zIC G σ) {s0 : Int32} {s1 : Int32} (h_s1 : zr (14) (14) s1) : zok (fX7_moveNoise_65 σ s0 s1) (zIC G) := by
  unfold fX7_moveNoise_65
  refine zok_ck (zin_ok h_s1 (by decide)) ?_
  refine zok_bs (hσ.wi 14 14 (z_ix h_s1 (by decide)) zr_any (by decide +kernel)) (fun σ2 e2 i1 => ?_)
  refine zok_ck rfl ?_
  refine zok_ck rfl ?_
  refine zok_bs (i1.wi 15 15 (by decide) zr_any (by decide +kernel)) (fun σ3 e4 i3 => ?_)
  refine zok_ck rfl ?_
  refine zok_if (fun q5 => ?_) (fun q5 => ?_)
  · have h6 := zc_eql (1) (1) q5 zr_any (zr_c (lo := 1) (hi := 1) (by decide)) (by decide)
    refine zok_ck rfl ?_
    refine zok_bv (fun v4 e8 => ?_)
    refine zok_ck rfl ?_
    refine zok_if (fun q9 => ?_) (fun q9 => ?_)
    · have h10 := zc_ler (4) q9 (zr_c (lo := 4) (hi := 4) (by decide)) zr_any (by decide)
      exact (s_X7_moveNoise_120 i3 (zr_andr (lo := 0) (hi := 1) (zr_c (lo := 1) (hi := 1) (by decide)) (by decide)))
    have h11 := zc_ltl (3) (z_nle q9) zr_any (zr_c (lo := 4) (hi := 4) (by decide)) (by decide)
    exact (s_X7_moveNoise_120 i3 (zr_andr (lo := 0) (hi := 1) (zr_c (lo := 1) (hi := 1) (by decide)) (by decide)))
  exact zok_pau i3 (s_X7_moveNoise_136 i3.P)
theorem s_X7_moveNoise {G : Nat → Int} {σ : zSt} (hσ : zIC G σ) : zok (fX7_moveNoise σ ) (zIC G) := by
  unfold fX7_moveNoise
  refine zok_ck rfl ?_
  refine zok_ck rfl ?_
  refine zok_bs (hσ.wi 14 14 (by decide) (zr_max (lo := 0) (hi := 2147483647) (zr_c (lo := 0) (hi := 0) (by decide)) zr_any (by decide)) (by decide +kernel)) (fun σ5 e2 i1 => ?_)
  refine zok_ck rfl ?_
  refine zok_if (fun q3 => ?_) (fun q3 => ?_)
  · have h4 := zc_lel (0) q3 (z_own e2 (zr_max (lo := 0) (hi := 2147483647) (zr_c (lo := 0) (hi := 0) (by decide)) zr_any (by decide))) (zr_c (lo := 0) (hi := 0) (by decide)) (by decide)
    refine zok_ck rfl ?_
    refine zok_br (zr_andr (lo := 0) (hi := 3) (zr_c (lo := 3) (hi := 3) (by decide)) (by decide)) (fun v6 e6 h5 => ?_)
    refine zok_if (fun q7 => ?_) (fun q7 => ?_)
    · have h8 := zc_eql (3) (3) q7 h5 (zr_c (lo := 3) (hi := 3) (by decide)) (by decide)
      refine zok_ck rfl ?_
      exact (s_X7_moveNoise_65 i1 (zr_c (lo := 14) (hi := 14) (by decide)))
    have h9 := zc_nel (0) (2) q7 h5 (zr_c (lo := 3) (hi := 3) (by decide)) (by decide)
    exact (s_X7_moveNoise_65 i1 (zr_c (lo := 14) (hi := 14) (by decide)))
  have h10 := zc_ltr (1) (z_nle q3) (zr_c (lo := 0) (hi := 0) (by decide)) (z_own e2 (zr_max (lo := 0) (hi := 2147483647) (zr_c (lo := 0) (hi := 0) (by decide)) zr_any (by decide))) (by decide)
  exact zok_some i1
theorem s_X7_nextSample_87 {σ : zSt} {k28 : zSt → Int32 → Int32 → Int32 → Option (zSt × Int32)} {Mk28 : Int} (hk28 : ∀ (x1 : Int32) (x2 : Int32) (x3 : Int32), zr (0) (4) x3 → (4) - x3.toInt < Mk28 → zok (k28 σ x1 x2 x3) (zPi σ (fun v : Int32 => True))) (hσ : zPC σ) {x1 : Int32} {x2 : Int32} {x3 : Int32} (h_x3 : zr (0) (3) x3) {s0 : Int32} (hMk28 : (4) - x3.toInt ≤ Mk28) : zok (fX7_nextSample_87 k28 σ x1 x2 x3 s0) (zPi σ (fun v : Int32 => True)) := by
  unfold fX7_nextSample_87
  refine zok_ck rfl ?_
  refine zok_bv (fun v1 e2 => ?_)
  refine zok_ck rfl ?_
  refine zok_bv (fun v2 e4 => ?_)
  refine zok_br (zr_add (lo := 1) (hi := 4) h_x3 (zr_c (lo := 1) (hi := 1) (by decide)) (by decide)) (fun v3 e6 h5 => ?_)
  exact hk28 _ _ _  (zr_w h5 (by decide)) (by rw [e6]; have := z_tadd (y := (1 : Int32)) h_x3 (zr_c (lo := 1) (hi := 1) (by decide)) (by decide); have e9 : (1 : Int32).toInt = 1 := rfl; omega) 
theorem s_X7_nextSample_59 {σ : zSt} {k28 : zSt → Int32 → Int32 → Int32 → Option (zSt × Int32)} {Mk28 : Int} (hk28 : ∀ (x1 : Int32) (x2 : Int32) (x3 : Int32), zr (0) (4) x3 → (4) - x3.toInt < Mk28 → zok (k28 σ x1 x2 x3) (zPi σ (fun v : Int32 => True))) (hσ : zPC σ) {x1 : Int32} {x2 : Int32} {x3 : Int32} (h_x3 : zr (0) (3) x3) {s0 : Int32} (hMk28 : (4) - x3.toInt ≤ Mk28) : zok (fX7_nextSample_59 k28 σ x1 x2 x3 s0) (zPi σ (fun v : Int32 => True)) := by
  unfold fX7_nextSample_59
  refine zok_if (fun q1 => ?_) (fun q1 => ?_)
  · have h2 := zc_eql (1) (1) q1 zr_any (zr_c (lo := 1) (hi := 1) (by decide)) (by decide)
    refine zok_ck (zin_ok (zr_add (lo := 9) (hi := 12) (zr_c (lo := 9) (hi := 9) (by decide)) h_x3 (by decide)) (by decide)) ?_
    refine zok_ck (zin_ok (zr_andr (lo := 0) (hi := 15) (zr_c (lo := 15) (hi := 15) (by decide)) (by decide)) (by decide)) ?_
    exact (s_X7_nextSample_87 hk28 hσ h_x3 hMk28)
  exact (s_X7_nextSample_87 hk28 hσ h_x3 hMk28)
theorem s_X7_nextSample_28_body {σ : zSt} {k28 : zSt → Int32 → Int32 → Int32 → Option (zSt × Int32)} {Mk28 : Int} (hk28 : ∀ (x1 : Int32) (x2 : Int32) (x3 : Int32), zr (0) (4) x3 → (4) - x3.toInt < Mk28 → zok (k28 σ x1 x2 x3) (zPi σ (fun v : Int32 => True))) (hσ : zPC σ) {x1 : Int32} {x2 : Int32} {x3 : Int32} (h_x3 : zr (0) (4) x3) (hMk28 : (4) - x3.toInt ≤ Mk28) : zok (fX7_nextSample_28_body k28 σ x1 x2 x3) (zPi σ (fun v : Int32 => True)) := by
  unfold fX7_nextSample_28_body
  refine zok_if (fun q1 => ?_) (fun q1 => ?_)
  · have h2 := zc_ler (4) q1 (zr_c (lo := 4) (hi := 4) (by decide)) h_x3 (by decide)
    exact zok_spi trivial
  have h3 := zc_ltl (3) (z_nle q1) h_x3 (zr_c (lo := 4) (hi := 4) (by decide)) (by decide)
  refine zok_if (fun q4 => ?_) (fun q4 => ?_)
  · have h5 := zc_eql (3) (3) q4 h3 (zr_c (lo := 3) (hi := 3) (by decide)) (by decide)
    refine zok_ck rfl ?_
    exact (s_X7_nextSample_59 hk28 hσ (zr_w h5 (by decide)) hMk28)
  have h6 := zc_nel (0) (2) q4 h3 (zr_c (lo := 3) (hi := 3) (by decide)) (by decide)
  refine zok_ck (zin_ok (zr_add (lo := 6) (hi := 8) (zr_c (lo := 6) (hi := 6) (by decide)) h6 (by decide)) (by decide)) ?_
  exact (s_X7_nextSample_59 hk28 hσ (zr_w h6 (by decide)) hMk28)
theorem s_X7_nextSample_28 {σ : zSt} (hσ : zPC σ) : ∀ (n : Nat) {x1 : Int32} {x2 : Int32} {x3 : Int32} (h_x3 : zr (0) (4) x3) (hm : (4) - x3.toInt < n), zok (fX7_nextSample_28 n σ x1 x2 x3) (zPi σ (fun v : Int32 => True)) := by
  intro n
  induction n with
  | zero => intro x1 x2 x3 h_x3 hm ; have h9 := h_x3.1; have h8 := h_x3.2; exfalso; omega
  | succ n ih => intro x1 x2 x3 h_x3 hm ; exact s_X7_nextSample_28_body (fun x1 x2 x3 h_x3 hm1 => ih h_x3 (by omega)) hσ h_x3 (Int.le_refl _)
theorem s_X7_nextSample_2_body {G : Nat → Int} {σ : zSt} {k2 : zSt → Int32 → Option (zSt × Int32)} {Mk2 : Int} (hk2 : ∀ (σ : zSt) (x1 : Int32), zIC G σ → zr (0) (3) x1 → (3) - x1.toInt < Mk2 → zok (k2 σ x1) (zAi (zIC G) (fun v : Int32 => True))) (hσ : zIC G σ) {x1 : Int32} (h_x1 : zr (0) (3) x1) (hMk2 : (3) - x1.toInt ≤ Mk2) : zok (fX7_nextSample_2_body k2 σ x1) (zAi (zIC G) (fun v : Int32 => True)) := by
  unfold fX7_nextSample_2_body
  refine zok_if (fun q1 => ?_) (fun q1 => ?_)
  · have h2 := zc_ler (3) q1 (zr_c (lo := 3) (hi := 3) (by decide)) h_x1 (by decide)
    refine zok_bu (s_X7_moveNoise hσ) (fun σ4 i3 => ?_)
    exact zok_pai i3 (s_X7_nextSample_28 i3.P zfuel (zr_w (zr_c (lo := 0) (hi := 0) (by decide)) (by decide)) (by decide))
  have h4 := zc_ltl (2) (z_nle q1) h_x1 (zr_c (lo := 3) (hi := 3) (by decide)) (by decide)
  refine zok_bu (s_X7_moveTone hσ h4) (fun σ5 i5 => ?_)
  refine zok_br (zr_add (lo := 1) (hi := 3) h4 (zr_c (lo := 1) (hi := 1) (by decide)) (by decide)) (fun v6 e7 h6 => ?_)
  exact hk2 _ _ i5 (zr_w h6 (by decide)) (by rw [e7]; have := z_tadd (y := (1 : Int32)) h4 (zr_c (lo := 1) (hi := 1) (by decide)) (by decide); have e9 : (1 : Int32).toInt = 1 := rfl; omega) 
theorem s_X7_nextSample_2 {G : Nat → Int} : ∀ (n : Nat) {σ : zSt} (hσ : zIC G σ) {x1 : Int32} (h_x1 : zr (0) (3) x1) (hm : (3) - x1.toInt < n), zok (fX7_nextSample_2 n σ x1) (zAi (zIC G) (fun v : Int32 => True)) := by
  intro n
  induction n with
  | zero => intro σ hσ x1 h_x1 hm ; have h9 := h_x1.1; have h8 := h_x1.2; exfalso; omega
  | succ n ih => intro σ hσ x1 h_x1 hm ; exact s_X7_nextSample_2_body (fun σ x1 hσ h_x1 hm1 => ih hσ h_x1 (by omega)) hσ h_x1 (Int.le_refl _)
theorem s_X7_nextSample {G : Nat → Int} {σ : zSt} (hσ : zIC G σ) : zok (fX7_nextSample σ ) (zAi (zIC G) (fun v : Int32 => True)) := by
  unfold fX7_nextSample
  exact (s_X7_nextSample_2 zfuel hσ (zr_w (zr_c (lo := 0) (hi := 0) (by decide)) (by decide)) (by decide))
theorem s_X6_add_k11_56 {σ : zSt} (hσ : zPC σ) : zok (fX6_add_k11_56 σ ) (zPu σ) := by
  unfold fX6_add_k11_56
  exact zok_spu
theorem s_X6_add_k11 {G : Nat → Int} {σ : zSt} (hσ : zIC G σ) {x1 : Int64} (h_x1 : zrl (-2147483648) (2147483647) x1) : zok (fX6_add_k11 σ x1) (zIC G) := by
  unfold fX6_add_k11
  refine zok_ck (zin_ok (zr_andr (lo := 0) (hi := 4095) (zr_c (lo := 4095) (hi := 4095) (by decide)) (by decide)) (by decide)) ?_
  refine zok_bs (hσ.wl 0 4095 (z_ix (zr_andr (lo := 0) (hi := 4095) (zr_c (lo := 4095) (hi := 4095) (by decide)) (by decide)) (by decide)) (by decide)) (fun σ1 e2 i1 => ?_)
  refine zok_if (fun q3 => ?_) (fun q3 => ?_)
  · have h4 := zc_ler (4096) q3 (zr_c (lo := 4096) (hi := 4096) (by decide)) zr_any (by decide)
    refine zok_bs (i1.wk (by decide)) (fun σ2 e6 i5 => ?_)
    exact zok_pau i5 (s_X6_add_k11_56 i5.P)
  have h7 := zc_ltl (4095) (z_nle q3) zr_any (zr_c (lo := 4096) (hi := 4096) (by decide)) (by decide)
  refine zok_bs (i1.wk (by decide)) (fun σ3 e9 i8 => ?_)
  exact zok_pau i8 (s_X6_add_k11_56 i8.P)
theorem s_X0_addSample {G : Nat → Int} {σ : zSt} (hσ : zIC G σ) : zok (fX0_addSample σ ) (zIC G) := by
  unfold fX0_addSample
  refine zok_ai (s_X7_nextSample hσ) (fun σ1 v2 i1 h2 => ?_)
  refine zok_bu (s_X6_add_k11 i1 (zrl_i zr_any)) (fun σ3 i3 => ?_)
  refine zok_ck rfl ?_
  refine zok_ck rfl ?_
  refine zok_bs (i3.wl 3 3 (by decide) (by decide)) (fun σ4 e5 i4 => ?_)
  refine zok_ck rfl ?_
  refine zok_ck rfl ?_
  refine zok_bs (i4.wl 4 4 (by decide) (by decide)) (fun σ5 e7 i6 => ?_)
  refine zok_ck rfl ?_
  refine zok_ck rfl ?_
  refine zok_bs (i6.wl 5 5 (by decide) (by decide)) (fun σ6 e9 i8 => ?_)
  refine zok_ck rfl ?_
  refine zok_ck rfl ?_
  refine zok_bs (i8.wl 6 6 (by decide) (by decide)) (fun σ7 e11 i10 => ?_)
  exact zok_some i10
theorem s_X10_takeOwnPatch_7_body {G : Nat → Int} {σ : zSt} {k7 : zSt → Int32 → Option (zSt)} {Mk7 : Int} (hk7 : ∀ (σ : zSt) (x1 : Int32), zIC G σ → zr (0) (8) x1 → (8) - x1.toInt < Mk7 → zok (k7 σ x1) (zIC G)) (hσ : zIC G σ) {x1 : Int32} (h_x1 : zr (0) (8) x1) (hMk7 : (8) - x1.toInt ≤ Mk7) : zok (fX10_takeOwnPatch_7_body k7 σ x1) (zIC G) := by
  unfold fX10_takeOwnPatch_7_body
  refine zok_if (fun q1 => ?_) (fun q1 => ?_)
  · have h2 := zc_ler (8) q1 (zr_c (lo := 8) (hi := 8) (by decide)) h_x1 (by decide)
    exact zok_some hσ
  have h3 := zc_ltl (7) (z_nle q1) h_x1 (zr_c (lo := 8) (hi := 8) (by decide)) (by decide)
  refine zok_ck (zin_ok h3 (by decide)) ?_
  refine zok_bs (hσ.wl 7 7 (by decide) (by decide)) (fun σ1 e5 i4 => ?_)
  refine zok_br (zr_add (lo := 1) (hi := 8) h3 (zr_c (lo := 1) (hi := 1) (by decide)) (by decide)) (fun v2 e7 h6 => ?_)
  exact hk7 _ _ i4 (zr_w h6 (by decide)) (by rw [e7]; have := z_tadd (y := (1 : Int32)) h3 (zr_c (lo := 1) (hi := 1) (by decide)) (by decide); have e9 : (1 : Int32).toInt = 1 := rfl; omega) 
theorem s_X10_takeOwnPatch_7 {G : Nat → Int} : ∀ (n : Nat) {σ : zSt} (hσ : zIC G σ) {x1 : Int32} (h_x1 : zr (0) (8) x1) (hm : (8) - x1.toInt < n), zok (fX10_takeOwnPatch_7 n σ x1) (zIC G) := by
  intro n
  induction n with
  | zero => intro σ hσ x1 h_x1 hm ; have h9 := h_x1.1; have h8 := h_x1.2; exfalso; omega
  | succ n ih => intro σ hσ x1 h_x1 hm ; exact s_X10_takeOwnPatch_7_body (fun σ x1 hσ h_x1 hm1 => ih hσ h_x1 (by omega)) hσ h_x1 (Int.le_refl _)
theorem s_X10_takeOwnPatch {G : Nat → Int} {σ : zSt} (hσ : zIC G σ) : zok (fX10_takeOwnPatch σ ) (zIC G) := by
  unfold fX10_takeOwnPatch
  refine zok_bs (hσ.wl 7 7 (by decide) (by decide)) (fun σ3 e2 i1 => ?_)
  exact (s_X10_takeOwnPatch_7 zfuel i1 (zr_w (zr_c (lo := 0) (hi := 0) (by decide)) (by decide)) (by decide))
theorem s_X10_takeChannel_110 {G : Nat → Int} {σ : zSt} (hσ : zIC G σ) {s0 : Int64} : zok (fX10_takeChannel_110 σ s0) (zIC G) := by
  unfold fX10_takeChannel_110
  refine zok_bs (hσ.wl 6 6 (by decide) (by decide)) (fun σ1 e2 i1 => ?_)
  exact zok_some i1
theorem s_X10_takeChannel_106 {G : Nat → Int} {σ : zSt} (hσ : zIC G σ) : zok (fX10_takeChannel_106 σ ) (zIC G) := by
  unfold fX10_takeChannel_106
  exact (s_X10_takeChannel_110 hσ)
theorem s_X10_takeChannel_82 {G : Nat → Int} {σ : zSt} (hσ : zIC G σ) {s0 : Int32} (h_s0 : zr (-134217728) (134217727) s0) : zok (fX10_takeChannel_82 σ s0) (zIC G) := by
  unfold fX10_takeChannel_82
  refine zok_if (fun q1 => ?_) (fun q1 => ?_)
  · have h2 := zc_lel (0) q1 h_s0 (zr_c (lo := 0) (hi := 0) (by decide)) (by decide)
    exact (s_X10_takeChannel_106 hσ)
  have h3 := zc_ltr (1) (z_nle q1) (zr_c (lo := 0) (hi := 0) (by decide)) h_s0 (by decide)
  refine zok_if (fun q4 => ?_) (fun q4 => ?_)
  · have h5 := zc_ltr (19) q4 (zr_c (lo := 18) (hi := 18) (by decide)) h3 (by decide)
    exact (s_X10_takeChannel_106 hσ)
  have h6 := zc_lel (18) (z_nlt q4) h3 (zr_c (lo := 18) (hi := 18) (by decide)) (by decide)
  refine zok_ck (zin_ok (zr_sub (lo := 0) (hi := 17) h6 (zr_c (lo := 1) (hi := 1) (by decide)) (by decide)) (by decide)) ?_
  exact (s_X10_takeChannel_110 hσ)
theorem s_X10_takeChannel_71 {G : Nat → Int} {σ : zSt} (hσ : zIC G σ) {x1 : Int32} (h_x1 : zr (0) (8) x1) : zok (fX10_takeChannel_71 σ x1) (zIC G) := by
  unfold fX10_takeChannel_71
  refine zok_ck (zin_ok (zr_add (lo := 48) (hi := 56) (zr_c (lo := 48) (hi := 48) (by decide)) h_x1 (by decide)) (by decide)) ?_
  exact (s_X10_takeChannel_82 hσ (zr_shr (lo := -134217728) (hi := 134217727) 4 (by decide) zr_any (by decide)))
theorem s_X10_takeChannel {G : Nat → Int} {σ : zSt} (hσ : zIC G σ) {x1 : Int32} (h_x1 : zr (0) (8) x1) : zok (fX10_takeChannel σ x1) (zIC G) := by
  unfold fX10_takeChannel
  refine zok_bs (hσ.wi 3 3 (by decide) h_x1 (by decide +kernel)) (fun σ2 e2 i1 => ?_)
  refine zok_ck (zin_ok (zr_add (lo := 16) (hi := 24) (zr_c (lo := 16) (hi := 16) (by decide)) h_x1 (by decide)) (by decide)) ?_
  refine zok_ck (zin_ok (zr_add (lo := 32) (hi := 40) (zr_c (lo := 32) (hi := 32) (by decide)) h_x1 (by decide)) (by decide)) ?_
  refine zok_bs (i1.wi 4 4 (by decide) zr_any (by decide +kernel)) (fun σ3 e4 i3 => ?_)
  refine zok_ck (zin_ok (zr_add (lo := 32) (hi := 40) (zr_c (lo := 32) (hi := 32) (by decide)) h_x1 (by decide)) (by decide)) ?_
  refine zok_bs (i3.wi 5 5 (by decide) (zr_andr (lo := 0) (hi := 7) (zr_c (lo := 7) (hi := 7) (by decide)) (by decide)) (by decide +kernel)) (fun σ4 e6 i5 => ?_)
  refine zok_if (fun q7 => ?_) (fun q7 => ?_)
  · have h8 := zc_eql (0) (0) q7 zr_any (zr_c (lo := 0) (hi := 0) (by decide)) (by decide)
    exact (s_X10_takeChannel_71 i5 h_x1)
  refine zok_if (fun q9 => ?_) (fun q9 => ?_)
  · have h10 := zc_ltl (5) q9 h_x1 (zr_c (lo := 6) (hi := 6) (by decide)) (by decide)
    exact (s_X10_takeChannel_71 i5 (zr_w h10 (by decide)))
  have h11 := zc_ler (6) (z_nlt q9) (zr_c (lo := 6) (hi := 6) (by decide)) h_x1 (by decide)
  exact (s_X10_takeChannel_82 i5 (zr_w (zr_add (lo := 16) (hi := 18) (zr_c (lo := 10) (hi := 10) (by decide)) h11 (by decide)) (by decide)))
theorem s_X10_isOn_131 {σ : zSt} (hσ : zPC σ) {s0 : Int32} (h_s0 : zr (0) (1) s0) : zok (fX10_isOn_131 σ s0) (zPi σ (fun v : Int32 => zr (0) (1) v)) := by
  unfold fX10_isOn_131
  refine zok_ck (zbo_ok h_s0 (by decide)) ?_
  exact zok_spi h_s0
theorem s_X10_isOn_122 {σ : zSt} (hσ : zPC σ) {s0 : Int32} (h_s0 : zr (2) (4) s0) {s1 : Int32} : zok (fX10_isOn_122 σ s0 s1) (zPi σ (fun v : Int32 => zr (0) (1) v)) := by
  unfold fX10_isOn_122
  refine zok_if (fun q1 => ?_) (fun q1 => ?_)
  · have h2 := zc_eql (0) (0) q1 (zr_andr (lo := 0) (hi := 4) h_s0 (by decide)) (zr_c (lo := 0) (hi := 0) (by decide)) (by decide)
    exact (s_X10_isOn_131 hσ (zr_w (zr_c (lo := 0) (hi := 0) (by decide)) (by decide)))
  have h3 := zc_nel (1) (4) q1 (zr_andr (lo := 0) (hi := 4) h_s0 (by decide)) (zr_c (lo := 0) (hi := 0) (by decide)) (by decide)
  exact (s_X10_isOn_131 hσ (zr_w (zr_c (lo := 1) (hi := 1) (by decide)) (by decide)))
theorem s_X10_isOn_105 {σ : zSt} (hσ : zPC σ) {s0 : Int32} (h_s0 : zr (0) (1) s0) : zok (fX10_isOn_105 σ s0) (zPi σ (fun v : Int32 => zr (0) (1) v)) := by
  unfold fX10_isOn_105
  refine zok_ck (zbo_ok h_s0 (by decide)) ?_
  exact zok_spi h_s0
theorem s_X10_isOn_96 {σ : zSt} (hσ : zPC σ) {s0 : Int32} (h_s0 : zr (1) (8) s0) {s1 : Int32} : zok (fX10_isOn_96 σ s0 s1) (zPi σ (fun v : Int32 => zr (0) (1) v)) := by
  unfold fX10_isOn_96
  refine zok_if (fun q1 => ?_) (fun q1 => ?_)
  · have h2 := zc_eql (0) (0) q1 (zr_andr (lo := 0) (hi := 8) h_s0 (by decide)) (zr_c (lo := 0) (hi := 0) (by decide)) (by decide)
    exact (s_X10_isOn_105 hσ (zr_w (zr_c (lo := 0) (hi := 0) (by decide)) (by decide)))
  have h3 := zc_nel (1) (8) q1 (zr_andr (lo := 0) (hi := 8) h_s0 (by decide)) (zr_c (lo := 0) (hi := 0) (by decide)) (by decide)
  exact (s_X10_isOn_105 hσ (zr_w (zr_c (lo := 1) (hi := 1) (by decide)) (by decide)))
theorem s_X10_isOn_78 {σ : zSt} (hσ : zPC σ) {s0 : Int32} (h_s0 : zr (0) (1) s0) : zok (fX10_isOn_78 σ s0) (zPi σ (fun v : Int32 => zr (0) (1) v)) := by
  unfold fX10_isOn_78
  refine zok_ck (zbo_ok h_s0 (by decide)) ?_
  exact zok_spi h_s0
theorem s_X10_isOn {σ : zSt} (hσ : zPC σ) {x1 : Int32} (h_x1 : zr (0) (1) x1) : zok (fX10_isOn σ x1) (zPi σ (fun v : Int32 => zr (0) (1) v)) := by
  unfold fX10_isOn
  refine zok_ck (zin_ok (zr_add (lo := 32) (hi := 40) (zr_c (lo := 32) (hi := 32) (by decide)) (rC_10 hσ.sg _ (by decide)) (by decide)) (by decide)) ?_
  refine zok_if (fun q1 => ?_) (fun q1 => ?_)
  · have h2 := zc_eql (0) (0) q1 (zr_andr (lo := 0) (hi := 16) (zr_c (lo := 16) (hi := 16) (by decide)) (by decide)) (zr_c (lo := 0) (hi := 0) (by decide)) (by decide)
    refine zok_if (fun q3 => ?_) (fun q3 => ?_)
    · have h4 := zc_eql (0) (0) q3 zr_any (zr_c (lo := 0) (hi := 0) (by decide)) (by decide)
      refine zok_ck rfl ?_
      exact zok_spi (zr_w (zr_c (lo := 0) (hi := 0) (by decide)) (by decide))
    refine zok_if (fun q5 => ?_) (fun q5 => ?_)
    · have h6 := zc_eql (6) (6) q5 (rC_10 hσ.sg _ (by decide)) (zr_c (lo := 6) (hi := 6) (by decide)) (by decide)
      refine zok_ck rfl ?_
      refine zok_if (fun q7 => ?_) (fun q7 => ?_)
      · have h8 := zc_eql (0) (0) q7 (zr_andr (lo := 0) (hi := 16) (zr_c (lo := 16) (hi := 16) (by decide)) (by decide)) (zr_c (lo := 0) (hi := 0) (by decide)) (by decide)
        exact (s_X10_isOn_78 hσ (zr_w (zr_c (lo := 0) (hi := 0) (by decide)) (by decide)))
      have h9 := zc_nel (1) (16) q7 (zr_andr (lo := 0) (hi := 16) (zr_c (lo := 16) (hi := 16) (by decide)) (by decide)) (zr_c (lo := 0) (hi := 0) (by decide)) (by decide)
      exact (s_X10_isOn_78 hσ (zr_w (zr_c (lo := 1) (hi := 1) (by decide)) (by decide)))
    refine zok_if (fun q10 => ?_) (fun q10 => ?_)
    · have h11 := zc_eql (7) (7) q10 (rC_10 hσ.sg _ (by decide)) (zr_c (lo := 7) (hi := 7) (by decide)) (by decide)
      refine zok_ck rfl ?_
      refine zok_if (fun q12 => ?_) (fun q12 => ?_)
      · have h13 := zc_eql (0) (0) q12 h_x1 (zr_c (lo := 0) (hi := 0) (by decide)) (by decide)
        exact (s_X10_isOn_96 hσ (zr_w (zr_c (lo := 1) (hi := 1) (by decide)) (by decide)))
      have h14 := zc_nel (1) (1) q12 h_x1 (zr_c (lo := 0) (hi := 0) (by decide)) (by decide)
      exact (s_X10_isOn_96 hσ (zr_w (zr_c (lo := 8) (hi := 8) (by decide)) (by decide)))
    refine zok_if (fun q15 => ?_) (fun q15 => ?_)
    · have h16 := zc_eql (8) (8) q15 (rC_10 hσ.sg _ (by decide)) (zr_c (lo := 8) (hi := 8) (by decide)) (by decide)
      refine zok_ck rfl ?_
      refine zok_if (fun q17 => ?_) (fun q17 => ?_)
      · have h18 := zc_eql (0) (0) q17 h_x1 (zr_c (lo := 0) (hi := 0) (by decide)) (by decide)
        exact (s_X10_isOn_122 hσ (zr_w (zr_c (lo := 4) (hi := 4) (by decide)) (by decide)))
      have h19 := zc_nel (1) (1) q17 h_x1 (zr_c (lo := 0) (hi := 0) (by decide)) (by decide)
      exact (s_X10_isOn_122 hσ (zr_w (zr_c (lo := 2) (hi := 2) (by decide)) (by decide)))
    have h20 := zc_nel (0) (7) q15 (rC_10 hσ.sg _ (by decide)) (zr_c (lo := 8) (hi := 8) (by decide)) (by decide)
    refine zok_ck rfl ?_
    exact zok_spi (zr_w (zr_c (lo := 0) (hi := 0) (by decide)) (by decide))
  have h21 := zc_nel (1) (16) q1 (zr_andr (lo := 0) (hi := 16) (zr_c (lo := 16) (hi := 16) (by decide)) (by decide)) (zr_c (lo := 0) (hi := 0) (by decide)) (by decide)
  refine zok_ck rfl ?_
  exact zok_spi (zr_w (zr_c (lo := 1) (hi := 1) (by decide)) (by decide))
theorem s_X10_part {σ : zSt} (hσ : zPC σ) {x1 : Int32} (h_x1 : zr (0) (7) x1) : zok (fX10_part σ x1) (zPi σ (fun v : Int32 => zr (0) (255) v)) := by
  unfold fX10_part
  exact zok_spi (zr_andr (lo := 0) (hi := 255) (zr_c (lo := 255) (hi := 255) (by decide)) (by decide))
theorem s_X10_rateIn_126 {σ : zSt} (hσ : zPC σ) {s0 : Int32} (h_s0 : zr (0) (15) s0) : zok (fX10_rateIn_126 σ s0) (zPi σ (fun v : Int32 => zr (0) (15) v)) := by
  unfold fX10_rateIn_126
  exact zok_spi h_s0
theorem s_X10_rateIn_94 {σ : zSt} (hσ : zPC σ) {s0 : Int32} (h_s0 : zr (0) (15) s0) : zok (fX10_rateIn_94 σ s0) (zPi σ (fun v : Int32 => zr (0) (15) v)) := by
  unfold fX10_rateIn_94
  exact zok_spi h_s0
theorem s_X10_rateIn_16 {σ : zSt} (hσ : zPC σ) {x1 : Int32} {x2 : Int32} (h_x2 : zr (0) (1) x2) {s0 : Int32} (h_s0 : zr (0) (1) s0) : zok (fX10_rateIn_16 σ x1 x2 s0) (zPi σ (fun v : Int32 => zr (0) (15) v)) := by
  unfold fX10_rateIn_16
  refine zok_pi (s_X10_part hσ (zr_w (zr_add (lo := 6) (hi := 7) (zr_c (lo := 6) (hi := 6) (by decide)) h_x2 (by decide)) (by decide))) (fun v2 h1 => ?_)
  refine zok_br (zr_andr (lo := 0) (hi := 15) (zr_c (lo := 15) (hi := 15) (by decide)) (by decide)) (fun v3 e3 h2 => ?_)
  refine zok_if (fun q4 => ?_) (fun q4 => ?_)
  · have h5 := zc_eql (0) (0) q4 zr_any (zr_c (lo := 0) (hi := 0) (by decide)) (by decide)
    exact zok_spi (zr_w (zr_c (lo := 12) (hi := 12) (by decide)) (by decide))
  refine zok_if (fun q6 => ?_) (fun q6 => ?_)
  · have h7 := zc_eql (1) (1) q6 zr_any (zr_c (lo := 1) (hi := 1) (by decide)) (by decide)
    refine zok_pi (s_X10_part hσ (zr_w (zr_add (lo := 4) (hi := 5) (zr_c (lo := 4) (hi := 4) (by decide)) h_x2 (by decide)) (by decide))) (fun v5 h8 => ?_)
    exact zok_spi (zr_shr (lo := 0) (hi := 15) 4 (by decide) h8 (by decide))
  refine zok_if (fun q9 => ?_) (fun q9 => ?_)
  · have h10 := zc_eql (2) (2) q9 zr_any (zr_c (lo := 2) (hi := 2) (by decide)) (by decide)
    refine zok_pi (s_X10_part hσ (zr_w (zr_add (lo := 4) (hi := 5) (zr_c (lo := 4) (hi := 4) (by decide)) h_x2 (by decide)) (by decide))) (fun v7 h11 => ?_)
    exact zok_spi (zr_andr (lo := 0) (hi := 15) (zr_c (lo := 15) (hi := 15) (by decide)) (by decide))
  refine zok_if (fun q12 => ?_) (fun q12 => ?_)
  · have h13 := zc_eql (3) (3) q12 zr_any (zr_c (lo := 3) (hi := 3) (by decide)) (by decide)
    refine zok_if (fun q14 => ?_) (fun q14 => ?_)
    · have h15 := zc_eql (0) (0) q14 h_s0 (zr_c (lo := 0) (hi := 0) (by decide)) (by decide)
      exact (s_X10_rateIn_94 hσ h2)
    have h16 := zc_nel (1) (1) q14 h_s0 (zr_c (lo := 0) (hi := 0) (by decide)) (by decide)
    exact (s_X10_rateIn_94 hσ (zr_w (zr_c (lo := 0) (hi := 0) (by decide)) (by decide)))
  refine zok_ck (zin_ok (zr_add (lo := 32) (hi := 40) (zr_c (lo := 32) (hi := 32) (by decide)) (rC_10 hσ.sg _ (by decide)) (by decide)) (by decide)) ?_
  refine zok_if (fun q17 => ?_) (fun q17 => ?_)
  · have h18 := zc_eql (0) (0) q17 (zr_andr (lo := 0) (hi := 32) (zr_c (lo := 32) (hi := 32) (by decide)) (by decide)) (zr_c (lo := 0) (hi := 0) (by decide)) (by decide)
    refine zok_if (fun q19 => ?_) (fun q19 => ?_)
    · have h20 := zc_eql (0) (0) q19 h_s0 (zr_c (lo := 0) (hi := 0) (by decide)) (by decide)
      exact (s_X10_rateIn_126 hσ (zr_w (zr_c (lo := 7) (hi := 7) (by decide)) (by decide)))
    have h21 := zc_nel (1) (1) q19 h_s0 (zr_c (lo := 0) (hi := 0) (by decide)) (by decide)
    exact (s_X10_rateIn_126 hσ h2)
  have h22 := zc_nel (1) (32) q17 (zr_andr (lo := 0) (hi := 32) (zr_c (lo := 32) (hi := 32) (by decide)) (by decide)) (zr_c (lo := 0) (hi := 0) (by decide)) (by decide)
  exact zok_spi (zr_w (zr_c (lo := 5) (hi := 5) (by decide)) (by decide))
theorem s_X10_rateIn {σ : zSt} (hσ : zPC σ) {x1 : Int32} {x2 : Int32} (h_x2 : zr (0) (1) x2) : zok (fX10_rateIn σ x1 x2) (zPi σ (fun v : Int32 => zr (0) (15) v)) := by
  unfold fX10_rateIn
  refine zok_pi (s_X10_part hσ (zr_w h_x2 (by decide))) (fun v9 h1 => ?_)
  refine zok_if (fun q2 => ?_) (fun q2 => ?_)
  · have h3 := zc_eql (0) (0) q2 (zr_andr (lo := 0) (hi := 32) (zr_c (lo := 32) (hi := 32) (by decide)) (by decide)) (zr_c (lo := 0) (hi := 0) (by decide)) (by decide)
    exact (s_X10_rateIn_16 hσ h_x2 (zr_w (zr_c (lo := 0) (hi := 0) (by decide)) (by decide)))
  have h4 := zc_nel (1) (32) q2 (zr_andr (lo := 0) (hi := 32) (zr_c (lo := 32) (hi := 32) (by decide)) (by decide)) (zr_c (lo := 0) (hi := 0) (by decide)) (by decide)
  exact (s_X10_rateIn_16 hσ h_x2 (zr_w (zr_c (lo := 1) (hi := 1) (by decide)) (by decide)))
theorem s_X10_slowTick {σ : zSt} (hσ : zPC σ) : zok (fX10_slowTick σ ) (zPi σ (fun v : Int32 => zr (0) (6) v)) := by
  unfold fX10_slowTick
  refine zok_ck rfl ?_
  exact zok_spi (zr_mul (lo := 0) (hi := 6) (zr_c (lo := 2) (hi := 2) (by decide)) (zr_andr (lo := 0) (hi := 3) (zr_c (lo := 3) (hi := 3) (by decide)) (by decide)) (by decide))
theorem s_X10_tickAt_53 {σ : zSt} (hσ : zPC σ) {s0 : Int32} (h_s0 : zr (0) (1) s0) : zok (fX10_tickAt_53 σ s0) (zPi σ (fun v : Int32 => zr (0) (1) v)) := by
  unfold fX10_tickAt_53
  exact zok_spi h_s0
theorem s_X10_tickAt_26 {σ : zSt} (hσ : zPC σ) {x2 : Int32} {x3 : Int32} {s0 : Int32} (h_s0 : zr (0) (1) s0) : zok (fX10_tickAt_26 σ x2 x3 s0) (zPi σ (fun v : Int32 => zr (0) (1) v)) := by
  unfold fX10_tickAt_26
  refine zok_if (fun q1 => ?_) (fun q1 => ?_)
  · have h2 := zc_eql (0) (0) q1 h_s0 (zr_c (lo := 0) (hi := 0) (by decide)) (by decide)
    exact (s_X10_tickAt_53 hσ (zr_w (zr_c (lo := 0) (hi := 0) (by decide)) (by decide)))
  have h3 := zc_nel (1) (1) q1 h_s0 (zr_c (lo := 0) (hi := 0) (by decide)) (by decide)
  refine zok_ck rfl ?_
  exact (s_X10_tickAt_53 hσ (zr_andr (lo := 0) (hi := 1) (zr_c (lo := 1) (hi := 1) (by decide)) (by decide)))
theorem s_X10_tickAt {σ : zSt} (hσ : zPC σ) {x1 : Int32} (h_x1 : zr (-2147483648) (14) x1) {x2 : Int32} : zok (fX10_tickAt σ x1 x2) (zPi σ (fun v : Int32 => zr (0) (1) v)) := by
  unfold fX10_tickAt
  refine zok_bv (fun v1 e2 => ?_)
  refine zok_ck rfl ?_
  refine zok_if (fun q3 => ?_) (fun q3 => ?_)
  · have h4 := zc_eql (0) (0) q3 zr_any (zr_c (lo := 0) (hi := 0) (by decide)) (by decide)
    exact (s_X10_tickAt_26 hσ (zr_w (zr_c (lo := 1) (hi := 1) (by decide)) (by decide)))
  exact (s_X10_tickAt_26 hσ (zr_w (zr_c (lo := 0) (hi := 0) (by decide)) (by decide)))
theorem s_X10_louder_56 {σ : zSt} (hσ : zPC σ) {s0 : Int32} : zok (fX10_louder_56 σ s0) (zPi σ (fun v : Int32 => True)) := by
  unfold fX10_louder_56
  exact zok_spi trivial
theorem s_X10_louder {σ : zSt} (hσ : zPC σ) {x1 : Int32} {x2 : Int32} (h_x2 : zr (-2147483648) (15) x2) {x3 : Int32} : zok (fX10_louder σ x1 x2 x3) (zPi σ (fun v : Int32 => True)) := by
  unfold fX10_louder
  refine zok_if (fun q1 => ?_) (fun q1 => ?_)
  · have h2 := zc_eql (15) (15) q1 h_x2 (zr_c (lo := 15) (hi := 15) (by decide)) (by decide)
    exact zok_spi trivial
  have h3 := zc_nel (-2147483648) (14) q1 h_x2 (zr_c (lo := 15) (hi := 15) (by decide)) (by decide)
  refine zok_if (fun q4 => ?_) (fun q4 => ?_)
  · have h5 := zc_ltl (11) q4 h3 (zr_c (lo := 12) (hi := 12) (by decide)) (by decide)
    refine zok_pi (s_X10_tickAt hσ (zr_w h5 (by decide))) (fun v2 h6 => ?_)
    refine zok_if (fun q7 => ?_) (fun q7 => ?_)
    · have h8 := zc_eql (1) (1) q7 h6 (zr_c (lo := 1) (hi := 1) (by decide)) (by decide)
      refine zok_ck (by decide) ?_
      exact (s_X10_louder_56 hσ)
    have h9 := zc_nel (0) (0) q7 h6 (zr_c (lo := 1) (hi := 1) (by decide)) (by decide)
    exact (s_X10_louder_56 hσ)
  have h10 := zc_ler (12) (z_nlt q4) (zr_c (lo := 12) (hi := 12) (by decide)) h3 (by decide)
  refine zok_pi (s_X10_slowTick hσ) (fun v4 h11 => ?_)
  exact zok_spi trivial
theorem s_X10_softer {σ : zSt} (hσ : zPC σ) {x1 : Int32} (h_x1 : zr (-2147483648) (15) x1) {x2 : Int32} : zok (fX10_softer σ x1 x2) (zPi σ (fun v : Int32 => zr (0) (2) v)) := by
  unfold fX10_softer
  refine zok_if (fun q1 => ?_) (fun q1 => ?_)
  · have h2 := zc_eql (13) (13) q1 h_x1 (zr_c (lo := 13) (hi := 13) (by decide)) (by decide)
    refine zok_pi (s_X10_slowTick hσ) (fun v2 h3 => ?_)
    refine zok_ck rfl ?_
    exact zok_spi (zr_w (zr_andr (lo := 0) (hi := 1) (zr_c (lo := 1) (hi := 1) (by decide)) (by decide)) (by decide))
  refine zok_if (fun q4 => ?_) (fun q4 => ?_)
  · have h5 := zc_eql (14) (14) q4 h_x1 (zr_c (lo := 14) (hi := 14) (by decide)) (by decide)
    refine zok_pi (s_X10_slowTick hσ) (fun v4 h6 => ?_)
    exact zok_spi (zr_w (zr_add (lo := 1) (hi := 2) (zr_andr (lo := 0) (hi := 1) (zr_c (lo := 1) (hi := 1) (by decide)) (by decide)) (zr_c (lo := 1) (hi := 1) (by decide)) (by decide)) (by decide))
  refine zok_if (fun q7 => ?_) (fun q7 => ?_)
  · have h8 := zc_eql (15) (15) q7 h_x1 (zr_c (lo := 15) (hi := 15) (by decide)) (by decide)
    exact zok_spi (zr_w (zr_c (lo := 2) (hi := 2) (by decide)) (by decide))
  have h9 := zc_nel (-2147483648) (14) q7 h_x1 (zr_c (lo := 15) (hi := 15) (by decide)) (by decide)
  refine zok_pi (s_X10_tickAt hσ h9) (fun v6 h10 => ?_)
  exact zok_spi (zr_w h10 (by decide))
theorem s_X10_moveLevel_148 {σ : zSt} (hσ : zPC σ) : zok (fX10_moveLevel_148 σ ) (zPu σ) := by
  unfold fX10_moveLevel_148
  exact zok_spu
theorem s_X10_moveLevel_52 {G : Nat → Int} {σ : zSt} (hσ : zIC G σ) {x1 : Int32} (h_x1 : zr (128) (264) x1) {x3 : Int32} (h_x3 : zr (1) (15) x3) {x4 : Int32} : zok (fX10_moveLevel_52 σ x1 x3 x4) (zIC G) := by
  unfold fX10_moveLevel_52
  refine zok_ck (by decide) ?_
  refine zok_br (zr_min (lo := -2147483648) (hi := 15) (zr_c (lo := 15) (hi := 15) (by decide)) zr_any (by decide)) (fun v1 e2 h1 => ?_)
  refine zok_ck (zin_ok (zr_andr (lo := 0) (hi := 3) (zr_c (lo := 3) (hi := 3) (by decide)) (by decide)) (by decide)) ?_
  refine zok_bv (fun v2 e4 => ?_)
  refine zok_ck (zin_ok (zr_add (lo := 129) (hi := 265) h_x1 (zr_c (lo := 1) (hi := 1) (by decide)) (by decide)) (by decide)) ?_
  refine zok_if (fun q5 => ?_) (fun q5 => ?_)
  · have h6 := zc_eql (1) (1) q5 zr_any (zr_c (lo := 1) (hi := 1) (by decide)) (by decide)
    refine zok_ck (zin_ok (zr_add (lo := 128) (hi := 264) h_x1 (zr_c (lo := 0) (hi := 0) (by decide)) (by decide)) (by decide)) ?_
    refine zok_pi (s_X10_louder hσ.P h1) (fun v7 h7 => ?_)
    refine zok_ck (zin_ok (zr_add (lo := 128) (hi := 264) h_x1 (zr_c (lo := 0) (hi := 0) (by decide)) (by decide)) (by decide)) ?_
    refine zok_bs (hσ.wi 128 264 (z_ix (zr_add (lo := 128) (hi := 264) h_x1 (zr_c (lo := 0) (hi := 0) (by decide)) (by decide)) (by decide)) (zr_max (lo := 0) (hi := 2147483647) (zr_c (lo := 0) (hi := 0) (by decide)) zr_any (by decide)) (by decide +kernel)) (fun σ8 e9 i8 => ?_)
    exact zok_pau i8 (s_X10_moveLevel_148 i8.P)
  refine zok_ck (zin_ok (zr_add (lo := 128) (hi := 264) h_x1 (zr_c (lo := 0) (hi := 0) (by decide)) (by decide)) (by decide)) ?_
  refine zok_pi (s_X10_softer hσ.P h1) (fun v4 h10 => ?_)
  refine zok_ck (zin_ok (zr_add (lo := 128) (hi := 264) h_x1 (zr_c (lo := 0) (hi := 0) (by decide)) (by decide)) (by decide)) ?_
  refine zok_bs (hσ.wi 128 264 (z_ix (zr_add (lo := 128) (hi := 264) h_x1 (zr_c (lo := 0) (hi := 0) (by decide)) (by decide)) (by decide)) (zr_min (lo := -2147483648) (hi := 127) (zr_c (lo := 127) (hi := 127) (by decide)) zr_any (by decide)) (by decide +kernel)) (fun σ5 e12 i11 => ?_)
  exact zok_pau i11 (s_X10_moveLevel_148 i11.P)
theorem s_X10_moveLevel {G : Nat → Int} {σ : zSt} (hσ : zIC G σ) {x1 : Int32} (h_x1 : zr (128) (264) x1) {x2 : Int32} (h_x2 : zr (0) (1) x2) : zok (fX10_moveLevel σ x1 x2) (zIC G) := by
  unfold fX10_moveLevel
  refine zok_ck (zin_ok (zr_add (lo := 129) (hi := 265) h_x1 (zr_c (lo := 1) (hi := 1) (by decide)) (by decide)) (by decide)) ?_
  refine zok_pi (s_X10_rateIn hσ.P h_x2) (fun v10 h1 => ?_)
  refine zok_if (fun q2 => ?_) (fun q2 => ?_)
  · have h3 := zc_eql (0) (0) q2 h1 (zr_c (lo := 0) (hi := 0) (by decide)) (by decide)
    exact zok_some hσ
  have h4 := zc_nel (1) (15) q2 h1 (zr_c (lo := 0) (hi := 0) (by decide)) (by decide)
  refine zok_bv (fun v11 e6 => ?_)
  refine zok_pi (s_X10_part hσ.P (zr_w h_x2 (by decide))) (fun v13 h7 => ?_)
  refine zok_if (fun q8 => ?_) (fun q8 => ?_)
  · have h9 := zc_eql (0) (0) q8 (zr_andr (lo := 0) (hi := 16) (zr_c (lo := 16) (hi := 16) (by decide)) (by decide)) (zr_c (lo := 0) (hi := 0) (by decide)) (by decide)
    refine zok_ck (by decide) ?_
    refine zok_bv (fun v14 e11 => ?_)
    exact (s_X10_moveLevel_52 hσ h_x1 h4)
  have h12 := zc_nel (1) (16) q8 (zr_andr (lo := 0) (hi := 16) (zr_c (lo := 16) (hi := 16) (by decide)) (by decide)) (zr_c (lo := 0) (hi := 0) (by decide)) (by decide)
  exact (s_X10_moveLevel_52 hσ h_x1 h4)
theorem s_X10_moveState_96 {σ : zSt} (hσ : zPC σ) : zok (fX10_moveState_96 σ ) (zPu σ) := by
  unfold fX10_moveState_96
  exact zok_spu
theorem s_X10_moveState_73 {G : Nat → Int} {σ : zSt} (hσ : zIC G σ) {x1 : Int32} (h_x1 : zr (128) (264) x1) {x2 : Int32} (h_x2 : zr (0) (15) x2) {x3 : Int32} {x4 : Int32} : zok (fX10_moveState_73 σ x1 x2 x3 x4) (zIC G) := by
  unfold fX10_moveState_73
  refine zok_if (fun q1 => ?_) (fun q1 => ?_)
  · have h2 := zc_eql (2) (2) q1 zr_any (zr_c (lo := 2) (hi := 2) (by decide)) (by decide)
    refine zok_ck (by decide) ?_
    refine zok_if (fun q3 => ?_) (fun q3 => ?_)
    · have h4 := zc_ltl (14) q3 zr_any h_x2 (by decide)
      exact zok_pau hσ (s_X10_moveState_96 hσ.P)
    have h5 := zc_ler (0) (z_nlt q3) h_x2 zr_any (by decide)
    refine zok_ck (zin_ok (zr_add (lo := 129) (hi := 265) h_x1 (zr_c (lo := 1) (hi := 1) (by decide)) (by decide)) (by decide)) ?_
    refine zok_bs (hσ.wi 129 265 (z_ix (zr_add (lo := 129) (hi := 265) h_x1 (zr_c (lo := 1) (hi := 1) (by decide)) (by decide)) (by decide)) (zr_c (lo := 3) (hi := 3) (by decide)) (by decide +kernel)) (fun σ1 e7 i6 => ?_)
    exact zok_pau i6 (s_X10_moveState_96 i6.P)
  exact zok_pau hσ (s_X10_moveState_96 hσ.P)
theorem s_X10_moveState_51 {G : Nat → Int} {σ : zSt} (hσ : zIC G σ) {x1 : Int32} (h_x1 : zr (128) (264) x1) {x2 : Int32} (h_x2 : zr (0) (15) x2) {x3 : Int32} {x4 : Int32} : zok (fX10_moveState_51 σ x1 x2 x3 x4) (zIC G) := by
  unfold fX10_moveState_51
  refine zok_if (fun q1 => ?_) (fun q1 => ?_)
  · have h2 := zc_eql (1) (1) q1 zr_any (zr_c (lo := 1) (hi := 1) (by decide)) (by decide)
    refine zok_if (fun q3 => ?_) (fun q3 => ?_)
    · have h4 := zc_eql (0) (0) q3 zr_any (zr_c (lo := 0) (hi := 0) (by decide)) (by decide)
      refine zok_ck (zin_ok (zr_add (lo := 129) (hi := 265) h_x1 (zr_c (lo := 1) (hi := 1) (by decide)) (by decide)) (by decide)) ?_
      refine zok_bs (hσ.wi 129 265 (z_ix (zr_add (lo := 129) (hi := 265) h_x1 (zr_c (lo := 1) (hi := 1) (by decide)) (by decide)) (by decide)) (zr_c (lo := 2) (hi := 2) (by decide)) (by decide +kernel)) (fun σ2 e6 i5 => ?_)
      exact zok_pau i5 (s_X10_moveState_96 i5.P)
    exact (s_X10_moveState_73 hσ h_x1 h_x2)
  exact (s_X10_moveState_73 hσ h_x1 h_x2)
theorem s_X10_moveState {G : Nat → Int} {σ : zSt} (hσ : zIC G σ) {x1 : Int32} (h_x1 : zr (128) (264) x1) {x2 : Int32} (h_x2 : zr (0) (15) x2) : zok (fX10_moveState σ x1 x2) (zIC G) := by
  unfold fX10_moveState
  refine zok_ck (zin_ok (zr_add (lo := 128) (hi := 264) h_x1 (zr_c (lo := 0) (hi := 0) (by decide)) (by decide)) (by decide)) ?_
  refine zok_bv (fun v3 e2 => ?_)
  refine zok_ck (zin_ok (zr_add (lo := 129) (hi := 265) h_x1 (zr_c (lo := 1) (hi := 1) (by decide)) (by decide)) (by decide)) ?_
  refine zok_bv (fun v4 e4 => ?_)
  refine zok_if (fun q5 => ?_) (fun q5 => ?_)
  · have h6 := zc_eql (0) (0) q5 zr_any (zr_c (lo := 0) (hi := 0) (by decide)) (by decide)
    refine zok_if (fun q7 => ?_) (fun q7 => ?_)
    · have h8 := zc_ltl (123) q7 zr_any (zr_c (lo := 124) (hi := 124) (by decide)) (by decide)
      exact (s_X10_moveState_51 hσ h_x1 h_x2)
    have h9 := zc_ler (124) (z_nlt q7) (zr_c (lo := 124) (hi := 124) (by decide)) zr_any (by decide)
    refine zok_ck (zin_ok (zr_add (lo := 129) (hi := 265) h_x1 (zr_c (lo := 1) (hi := 1) (by decide)) (by decide)) (by decide)) ?_
    refine zok_bs (hσ.wi 129 265 (z_ix (zr_add (lo := 129) (hi := 265) h_x1 (zr_c (lo := 1) (hi := 1) (by decide)) (by decide)) (by decide)) (zr_c (lo := 1) (hi := 1) (by decide)) (by decide +kernel)) (fun σ5 e11 i10 => ?_)
    refine zok_ck (zin_ok (zr_add (lo := 130) (hi := 266) h_x1 (zr_c (lo := 2) (hi := 2) (by decide)) (by decide)) (by decide)) ?_
    refine zok_bs (i10.wi 130 266 (z_ix (zr_add (lo := 130) (hi := 266) h_x1 (zr_c (lo := 2) (hi := 2) (by decide)) (by decide)) (by decide)) (zr_c (lo := 0) (hi := 0) (by decide)) (by decide +kernel)) (fun σ6 e13 i12 => ?_)
    exact zok_pau i12 (s_X10_moveState_96 i12.P)
  exact (s_X10_moveState_51 hσ h_x1 h_x2)
theorem s_X10_sway_56 {σ : zSt} (hσ : zPC σ) {x1 : Int32} : zok (fX10_sway_56 σ x1) (zPi σ (fun v : Int32 => True)) := by
  unfold fX10_sway_56
  refine zok_ck (by decide) ?_
  exact zok_spi trivial
theorem s_X10_sway_70 {σ : zSt} (hσ : zPC σ) : zok (fX10_sway_70 σ ) (zPi σ (fun v : Int32 => True)) := by
  unfold fX10_sway_70
  exact zok_spi trivial
theorem s_X10_sway_62 {σ : zSt} (hσ : zPC σ) {x1 : Int32} : zok (fX10_sway_62 σ x1) (zPi σ (fun v : Int32 => True)) := by
  unfold fX10_sway_62
  refine zok_ck (by decide) ?_
  exact zok_spi trivial
theorem s_X10_sway {σ : zSt} (hσ : zPC σ) {x1 : Int32} : zok (fX10_sway σ x1) (zPi σ (fun v : Int32 => True)) := by
  unfold fX10_sway
  refine zok_ck rfl ?_
  refine zok_if (fun q1 => ?_) (fun q1 => ?_)
  · have h2 := zc_eql (1) (1) q1 (zr_andr (lo := 0) (hi := 7) (zr_c (lo := 7) (hi := 7) (by decide)) (by decide)) (zr_c (lo := 1) (hi := 1) (by decide)) (by decide)
    exact (s_X10_sway_56 hσ)
  refine zok_if (fun q3 => ?_) (fun q3 => ?_)
  · have h4 := zc_eql (2) (2) q3 (zr_andr (lo := 0) (hi := 7) (zr_c (lo := 7) (hi := 7) (by decide)) (by decide)) (zr_c (lo := 2) (hi := 2) (by decide)) (by decide)
    exact zok_spi trivial
  refine zok_if (fun q5 => ?_) (fun q5 => ?_)
  · have h6 := zc_eql (3) (3) q5 (zr_andr (lo := 0) (hi := 7) (zr_c (lo := 7) (hi := 7) (by decide)) (by decide)) (zr_c (lo := 3) (hi := 3) (by decide)) (by decide)
    exact (s_X10_sway_56 hσ)
  refine zok_if (fun q7 => ?_) (fun q7 => ?_)
  · have h8 := zc_eql (4) (4) q7 (zr_andr (lo := 0) (hi := 7) (zr_c (lo := 7) (hi := 7) (by decide)) (by decide)) (zr_c (lo := 4) (hi := 4) (by decide)) (by decide)
    exact (s_X10_sway_70 hσ)
  refine zok_if (fun q9 => ?_) (fun q9 => ?_)
  · have h10 := zc_eql (5) (5) q9 (zr_andr (lo := 0) (hi := 7) (zr_c (lo := 7) (hi := 7) (by decide)) (by decide)) (zr_c (lo := 5) (hi := 5) (by decide)) (by decide)
    exact (s_X10_sway_62 hσ)
  refine zok_if (fun q11 => ?_) (fun q11 => ?_)
  · have h12 := zc_eql (6) (6) q11 (zr_andr (lo := 0) (hi := 7) (zr_c (lo := 7) (hi := 7) (by decide)) (by decide)) (zr_c (lo := 6) (hi := 6) (by decide)) (by decide)
    exact zok_spi trivial
  refine zok_if (fun q13 => ?_) (fun q13 => ?_)
  · have h14 := zc_eql (7) (7) q13 (zr_andr (lo := 0) (hi := 7) (zr_c (lo := 7) (hi := 7) (by decide)) (by decide)) (zr_c (lo := 7) (hi := 7) (by decide)) (by decide)
    exact (s_X10_sway_62 hσ)
  have h15 := zc_nel (0) (6) q13 (zr_andr (lo := 0) (hi := 7) (zr_c (lo := 7) (hi := 7) (by decide)) (by decide)) (zr_c (lo := 7) (hi := 7) (by decide)) (by decide)
  exact (s_X10_sway_70 hσ)
theorem s_X10_movePhase_22 {G : Nat → Int} {σ : zSt} (hσ : zIC G σ) {x1 : Int32} (h_x1 : zr (128) (264) x1) {x2 : Int32} (h_x2 : zr (0) (255) x2) {s0 : Int32} : zok (fX10_movePhase_22 σ x1 x2 s0) (zIC G) := by
  unfold fX10_movePhase_22
  refine zok_ck (zin_ok (zr_andr (lo := 0) (hi := 15) (zr_c (lo := 15) (hi := 15) (by decide)) (by decide)) (by decide)) ?_
  refine zok_ck (by decide) ?_
  refine zok_bv (fun v1 e2 => ?_)
  refine zok_ck (zin_ok (zr_add (lo := 130) (hi := 266) h_x1 (zr_c (lo := 2) (hi := 2) (by decide)) (by decide)) (by decide)) ?_
  refine zok_ck (zin_ok (zr_add (lo := 130) (hi := 266) h_x1 (zr_c (lo := 2) (hi := 2) (by decide)) (by decide)) (by decide)) ?_
  refine zok_bs (hσ.wi 130 266 (z_ix (zr_add (lo := 130) (hi := 266) h_x1 (zr_c (lo := 2) (hi := 2) (by decide)) (by decide)) (by decide)) (zr_andr (lo := 0) (hi := 524287) (zr_c (lo := 524287) (hi := 524287) (by decide)) (by decide)) (by decide +kernel)) (fun σ2 e4 i3 => ?_)
  exact zok_some i3
theorem s_X10_movePhase {G : Nat → Int} {σ : zSt} (hσ : zIC G σ) {x1 : Int32} (h_x1 : zr (128) (264) x1) {x2 : Int32} (h_x2 : zr (0) (255) x2) : zok (fX10_movePhase σ x1 x2) (zIC G) := by
  unfold fX10_movePhase
  refine zok_if (fun q1 => ?_) (fun q1 => ?_)
  · have h2 := zc_eql (0) (0) q1 (zr_andr (lo := 0) (hi := 64) (zr_c (lo := 64) (hi := 64) (by decide)) (by decide)) (zr_c (lo := 0) (hi := 0) (by decide)) (by decide)
    exact (s_X10_movePhase_22 hσ h_x1 h_x2)
  have h3 := zc_nel (1) (64) q1 (zr_andr (lo := 0) (hi := 64) (zr_c (lo := 64) (hi := 64) (by decide)) (by decide)) (zr_c (lo := 0) (hi := 0) (by decide)) (by decide)
  refine zok_ck (by decide) ?_
  refine zok_pi (s_X10_sway hσ.P) (fun v4 h4 => ?_)
  exact (s_X10_movePhase_22 hσ h_x1 h_x2)
theorem s_X10_drumPhase_115 {σ : zSt} (hσ : zPC σ) {s0 : Int32} (h_s0 : zr (-4194304) (4194303) s0) : zok (fX10_drumPhase_115 σ s0) (zPi σ (fun v : Int32 => zr (-4194304) (4194303) v)) := by
  unfold fX10_drumPhase_115
  exact zok_spi h_s0
theorem s_X10_drumPhase_155 {σ : zSt} (hσ : zPC σ) {s0 : Int32} (h_s0 : zr (52) (720) s0) : zok (fX10_drumPhase_155 σ s0) (zPi σ (fun v : Int32 => zr (-4194304) (4194303) v)) := by
  unfold fX10_drumPhase_155
  exact zok_spi (zr_w h_s0 (by decide))
theorem s_X10_drumPhase_193 {σ : zSt} (hσ : zPC σ) {s0 : Int32} (h_s0 : zr (0) (768) s0) : zok (fX10_drumPhase_193 σ s0) (zPi σ (fun v : Int32 => zr (-4194304) (4194303) v)) := by
  unfold fX10_drumPhase_193
  exact zok_spi (zr_w h_s0 (by decide))
theorem s_X10_drumPhase_82 {σ : zSt} (hσ : zPC σ) {x1 : Int32} (h_x1 : zr (-4194304) (4194303) x1) {x2 : Int32} (h_x2 : zr (0) (1) x2) {x5 : Int32} (h_x5 : zr (0) (1) x5) {s0 : Int32} (h_s0 : zr (0) (1) s0) : zok (fX10_drumPhase_82 σ x1 x2 x5 s0) (zPi σ (fun v : Int32 => zr (-4194304) (4194303) v)) := by
  unfold fX10_drumPhase_82
  refine zok_if (fun q1 => ?_) (fun q1 => ?_)
  · have h2 := zc_eql (8) (8) q1 (rC_10 hσ.sg _ (by decide)) (zr_c (lo := 8) (hi := 8) (by decide)) (by decide)
    refine zok_if (fun q3 => ?_) (fun q3 => ?_)
    · have h4 := zc_eql (0) (0) q3 h_x2 (zr_c (lo := 0) (hi := 0) (by decide)) (by decide)
      exact (s_X10_drumPhase_115 hσ h_x1)
    have h5 := zc_nel (1) (1) q3 h_x2 (zr_c (lo := 0) (hi := 0) (by decide)) (by decide)
    refine zok_if (fun q6 => ?_) (fun q6 => ?_)
    · have h7 := zc_eql (0) (0) q6 h_x5 (zr_c (lo := 0) (hi := 0) (by decide)) (by decide)
      exact (s_X10_drumPhase_115 hσ (zr_w (zr_c (lo := 256) (hi := 256) (by decide)) (by decide)))
    have h8 := zc_nel (1) (1) q6 h_x5 (zr_c (lo := 0) (hi := 0) (by decide)) (by decide)
    exact (s_X10_drumPhase_115 hσ (zr_w (zr_c (lo := 768) (hi := 768) (by decide)) (by decide)))
  have h9 := zc_nel (0) (7) q1 (rC_10 hσ.sg _ (by decide)) (zr_c (lo := 8) (hi := 8) (by decide)) (by decide)
  refine zok_if (fun q10 => ?_) (fun q10 => ?_)
  · have h11 := zc_eql (0) (0) q10 h_x2 (zr_c (lo := 0) (hi := 0) (by decide)) (by decide)
    refine zok_if (fun q12 => ?_) (fun q12 => ?_)
    · have h13 := zc_eql (0) (0) q12 h_x5 (zr_c (lo := 0) (hi := 0) (by decide)) (by decide)
      refine zok_if (fun q14 => ?_) (fun q14 => ?_)
      · have h15 := zc_eql (0) (0) q14 h_s0 (zr_c (lo := 0) (hi := 0) (by decide)) (by decide)
        exact (s_X10_drumPhase_155 hσ (zr_w (zr_c (lo := 208) (hi := 208) (by decide)) (by decide)))
      have h16 := zc_nel (1) (1) q14 h_s0 (zr_c (lo := 0) (hi := 0) (by decide)) (by decide)
      exact (s_X10_drumPhase_155 hσ (zr_w (zr_c (lo := 52) (hi := 52) (by decide)) (by decide)))
    have h17 := zc_nel (1) (1) q12 h_x5 (zr_c (lo := 0) (hi := 0) (by decide)) (by decide)
    refine zok_if (fun q18 => ?_) (fun q18 => ?_)
    · have h19 := zc_eql (0) (0) q18 h_s0 (zr_c (lo := 0) (hi := 0) (by decide)) (by decide)
      exact (s_X10_drumPhase_155 hσ (zr_w (zr_c (lo := 564) (hi := 564) (by decide)) (by decide)))
    have h20 := zc_nel (1) (1) q18 h_s0 (zr_c (lo := 0) (hi := 0) (by decide)) (by decide)
    exact (s_X10_drumPhase_155 hσ (zr_w (zr_c (lo := 720) (hi := 720) (by decide)) (by decide)))
  have h21 := zc_nel (1) (1) q10 h_x2 (zr_c (lo := 0) (hi := 0) (by decide)) (by decide)
  refine zok_if (fun q22 => ?_) (fun q22 => ?_)
  · have h23 := zc_eql (0) (0) q22 (zr_andr (lo := 0) (hi := 512) (zr_c (lo := 512) (hi := 512) (by decide)) (by decide)) (zr_c (lo := 0) (hi := 0) (by decide)) (by decide)
    refine zok_if (fun q24 => ?_) (fun q24 => ?_)
    · have h25 := zc_eql (0) (0) q24 h_s0 (zr_c (lo := 0) (hi := 0) (by decide)) (by decide)
      exact (s_X10_drumPhase_193 hσ (zr_w (zr_c (lo := 256) (hi := 256) (by decide)) (by decide)))
    have h26 := zc_nel (1) (1) q24 h_s0 (zr_c (lo := 0) (hi := 0) (by decide)) (by decide)
    exact (s_X10_drumPhase_193 hσ (zr_w (zr_c (lo := 0) (hi := 0) (by decide)) (by decide)))
  have h27 := zc_nel (1) (512) q22 (zr_andr (lo := 0) (hi := 512) (zr_c (lo := 512) (hi := 512) (by decide)) (by decide)) (zr_c (lo := 0) (hi := 0) (by decide)) (by decide)
  refine zok_if (fun q28 => ?_) (fun q28 => ?_)
  · have h29 := zc_eql (0) (0) q28 h_s0 (zr_c (lo := 0) (hi := 0) (by decide)) (by decide)
    exact (s_X10_drumPhase_193 hσ (zr_w (zr_c (lo := 512) (hi := 512) (by decide)) (by decide)))
  have h30 := zc_nel (1) (1) q28 h_s0 (zr_c (lo := 0) (hi := 0) (by decide)) (by decide)
  exact (s_X10_drumPhase_193 hσ (zr_w (zr_c (lo := 768) (hi := 768) (by decide)) (by decide)))
theorem s_X10_drumPhase_62 {σ : zSt} (hσ : zPC σ) {x1 : Int32} (h_x1 : zr (-4194304) (4194303) x1) {x2 : Int32} (h_x2 : zr (0) (1) x2) {s0 : Int32} (h_s0 : zr (0) (1) s0) : zok (fX10_drumPhase_62 σ x1 x2 s0) (zPi σ (fun v : Int32 => zr (-4194304) (4194303) v)) := by
  unfold fX10_drumPhase_62
  refine zok_ck rfl ?_
  refine zok_if (fun q1 => ?_) (fun q1 => ?_)
  · have h2 := zc_eql (1) (1) q1 (zr_andr (lo := 0) (hi := 1) (zr_c (lo := 1) (hi := 1) (by decide)) (by decide)) (zr_c (lo := 1) (hi := 1) (by decide)) (by decide)
    exact (s_X10_drumPhase_82 hσ h_x1 h_x2 h_s0 (zr_w (zr_c (lo := 1) (hi := 1) (by decide)) (by decide)))
  have h3 := zc_nel (0) (0) q1 (zr_andr (lo := 0) (hi := 1) (zr_c (lo := 1) (hi := 1) (by decide)) (by decide)) (zr_c (lo := 1) (hi := 1) (by decide)) (by decide)
  exact (s_X10_drumPhase_82 hσ h_x1 h_x2 h_s0 (zr_w (zr_c (lo := 0) (hi := 0) (by decide)) (by decide)))
theorem s_X10_drumPhase {σ : zSt} (hσ : zPC σ) {x1 : Int32} (h_x1 : zr (-4194304) (4194303) x1) {x2 : Int32} (h_x2 : zr (0) (1) x2) : zok (fX10_drumPhase σ x1 x2) (zPi σ (fun v : Int32 => zr (-4194304) (4194303) v)) := by
  unfold fX10_drumPhase
  refine zok_ck rfl ?_
  refine zok_br (zr_shr (lo := -4194304) (hi := 4194303) 9 (by decide) zr_any (by decide)) (fun v1 e2 h1 => ?_)
  refine zok_ck rfl ?_
  refine zok_br (zr_shr (lo := -4194304) (hi := 4194303) 9 (by decide) zr_any (by decide)) (fun v2 e4 h3 => ?_)
  refine zok_if (fun q5 => ?_) (fun q5 => ?_)
  · have h6 := zc_eql (0) (0) q5 (zr_andr (lo := 0) (hi := 1) (zr_c (lo := 1) (hi := 1) (by decide)) (by decide)) (zr_c (lo := 0) (hi := 0) (by decide)) (by decide)
    exact (s_X10_drumPhase_62 hσ h_x1 h_x2 (zr_w (zr_c (lo := 0) (hi := 0) (by decide)) (by decide)))
  have h7 := zc_nel (1) (1) q5 (zr_andr (lo := 0) (hi := 1) (zr_c (lo := 1) (hi := 1) (by decide)) (by decide)) (zr_c (lo := 0) (hi := 0) (by decide)) (by decide)
  exact (s_X10_drumPhase_62 hσ h_x1 h_x2 (zr_w (zr_c (lo := 1) (hi := 1) (by decide)) (by decide)))
theorem s_X10_turnedPhase_98 {σ : zSt} (hσ : zPC σ) {s0 : Int32} : zok (fX10_turnedPhase_98 σ s0) (zPi σ (fun v : Int32 => True)) := by
  unfold fX10_turnedPhase_98
  exact zok_spi trivial
theorem s_X10_turnedPhase_35 {σ : zSt} (hσ : zPC σ) {x1 : Int32} (h_x1 : zr (128) (264) x1) {x2 : Int32} (h_x2 : zr (0) (1) x2) {x3 : Int32} (h_x3 : zr (-4194304) (4194303) x3) : zok (fX10_turnedPhase_35 σ x1 x2 x3) (zPi σ (fun v : Int32 => True)) := by
  unfold fX10_turnedPhase_35
  refine zok_if (fun q1 => ?_) (fun q1 => ?_)
  · have h2 := zc_eql (1) (1) q1 h_x2 (zr_c (lo := 1) (hi := 1) (by decide)) (by decide)
    refine zok_ck (zin_ok (zr_add (lo := 123) (hi := 259) (zr_sub (lo := 120) (hi := 256) h_x1 (zr_c (lo := 8) (hi := 8) (by decide)) (by decide)) (zr_c (lo := 3) (hi := 3) (by decide)) (by decide)) (by decide)) ?_
    exact zok_spi trivial
  have h3 := zc_nel (0) (0) q1 h_x2 (zr_c (lo := 1) (hi := 1) (by decide)) (by decide)
  refine zok_pi (s_X10_part hσ (zr_w (zr_c (lo := 3) (hi := 3) (by decide)) (by decide))) (fun v2 h4 => ?_)
  refine zok_br (zr_andr (lo := 0) (hi := 7) (zr_c (lo := 7) (hi := 7) (by decide)) (by decide)) (fun v3 e6 h5 => ?_)
  refine zok_if (fun q7 => ?_) (fun q7 => ?_)
  · have h8 := zc_eql (0) (0) q7 h5 (zr_c (lo := 0) (hi := 0) (by decide)) (by decide)
    exact (s_X10_turnedPhase_98 hσ)
  have h9 := zc_nel (1) (7) q7 h5 (zr_c (lo := 0) (hi := 0) (by decide)) (by decide)
  refine zok_ck (zin_ok (zr_add (lo := 131) (hi := 267) h_x1 (zr_c (lo := 3) (hi := 3) (by decide)) (by decide)) (by decide)) ?_
  refine zok_ck (zin_ok (zr_add (lo := 132) (hi := 268) h_x1 (zr_c (lo := 4) (hi := 4) (by decide)) (by decide)) (by decide)) ?_
  exact (s_X10_turnedPhase_98 hσ)
theorem s_X10_turnedPhase {σ : zSt} (hσ : zPC σ) {x1 : Int32} (h_x1 : zr (128) (264) x1) {x2 : Int32} (h_x2 : zr (0) (1) x2) : zok (fX10_turnedPhase σ x1 x2) (zPi σ (fun v : Int32 => True)) := by
  unfold fX10_turnedPhase
  refine zok_ck (zin_ok (zr_add (lo := 130) (hi := 266) h_x1 (zr_c (lo := 2) (hi := 2) (by decide)) (by decide)) (by decide)) ?_
  refine zok_br (zr_shr (lo := -4194304) (hi := 4194303) 9 (by decide) zr_any (by decide)) (fun v4 e2 h1 => ?_)
  refine zok_if (fun q3 => ?_) (fun q3 => ?_)
  · have h4 := zc_eql (0) (0) q3 zr_any (zr_c (lo := 0) (hi := 0) (by decide)) (by decide)
    exact (s_X10_turnedPhase_35 hσ h_x1 h_x2 h1)
  refine zok_if (fun q5 => ?_) (fun q5 => ?_)
  · have h6 := zc_ltl (6) q5 (rC_10 hσ.sg _ (by decide)) (zr_c (lo := 7) (hi := 7) (by decide)) (by decide)
    exact (s_X10_turnedPhase_35 hσ h_x1 h_x2 h1)
  have h7 := zc_ler (7) (z_nlt q5) (zr_c (lo := 7) (hi := 7) (by decide)) (rC_10 hσ.sg _ (by decide)) (by decide)
  refine zok_pi (s_X10_drumPhase hσ h1 h_x2) (fun v6 h8 => ?_)
  exact zok_spi trivial
theorem s_X10_scaled_44 {σ : zSt} (hσ : zPC σ) {s0 : Int32} (h_s0 : zr (0) (2147483647) s0) : zok (fX10_scaled_44 σ s0) (zPi σ (fun v : Int32 => zr (0) (2147483647) v)) := by
  unfold fX10_scaled_44
  exact zok_spi h_s0
theorem s_X10_scaled {σ : zSt} (hσ : zPC σ) {x1 : Int32} (h_x1 : zr (0) (3) x1) : zok (fX10_scaled σ x1) (zPi σ (fun v : Int32 => zr (0) (2147483647) v)) := by
  unfold fX10_scaled
  refine zok_if (fun q1 => ?_) (fun q1 => ?_)
  · have h2 := zc_eql (0) (0) q1 h_x1 (zr_c (lo := 0) (hi := 0) (by decide)) (by decide)
    exact zok_spi (zr_w (zr_c (lo := 0) (hi := 0) (by decide)) (by decide))
  have h3 := zc_nel (1) (3) q1 h_x1 (zr_c (lo := 0) (hi := 0) (by decide)) (by decide)
  refine zok_ck (zin_ok (zr_andr (lo := 0) (hi := 15) (zr_c (lo := 15) (hi := 15) (by decide)) (by decide)) (by decide)) ?_
  refine zok_bv (fun v1 e5 => ?_)
  refine zok_if (fun q6 => ?_) (fun q6 => ?_)
  · have h7 := zc_lel (0) q6 zr_any (zr_c (lo := 0) (hi := 0) (by decide)) (by decide)
    exact (s_X10_scaled_44 hσ (zr_w (zr_c (lo := 0) (hi := 0) (by decide)) (by decide)))
  have h8 := zc_ltr (1) (z_nle q6) (zr_c (lo := 0) (hi := 0) (by decide)) zr_any (by decide)
  exact (s_X10_scaled_44 hσ (zr_shra (lo := 0) (hi := 2147483647) h8 (by decide)))
theorem s_X10_tremble_30 {σ : zSt} (hσ : zPC σ) {s0 : Int32} (h_s0 : zr (-2147483648) (105) s0) : zok (fX10_tremble_30 σ s0) (zPi σ (fun v : Int32 => True)) := by
  unfold fX10_tremble_30
  refine zok_ck (by decide) ?_
  exact zok_spi trivial
theorem s_X10_tremble {σ : zSt} (hσ : zPC σ) : zok (fX10_tremble σ ) (zPi σ (fun v : Int32 => True)) := by
  unfold fX10_tremble
  refine zok_ck rfl ?_
  refine zok_ck (by decide) ?_
  refine zok_ck (by decide) ?_
  refine zok_bv (fun v1 e2 => ?_)
  refine zok_if (fun q3 => ?_) (fun q3 => ?_)
  · have h4 := zc_ler (105) q3 (zr_c (lo := 105) (hi := 105) (by decide)) zr_any (by decide)
    exact (s_X10_tremble_30 hσ (zr_w (zr_sub (lo := -2147483437) (hi := 105) (zr_c (lo := 210) (hi := 210) (by decide)) h4 (by decide)) (by decide)))
  have h5 := zc_ltl (104) (z_nle q3) zr_any (zr_c (lo := 105) (hi := 105) (by decide)) (by decide)
  exact (s_X10_tremble_30 hσ (zr_w h5 (by decide)))
theorem s_X10_softness_124 {σ : zSt} (hσ : zPC σ) {x4 : Int32} : zok (fX10_softness_124 σ x4) (zPi σ (fun v : Int32 => zr (-2147483648) (127) v)) := by
  unfold fX10_softness_124
  exact zok_spi (zr_min (lo := -2147483648) (hi := 127) (zr_c (lo := 127) (hi := 127) (by decide)) zr_any (by decide))
theorem s_X10_softness_103 {σ : zSt} (hσ : zPC σ) {x2 : Int32} (h_x2 : zr (0) (1) x2) {x4 : Int32} : zok (fX10_softness_103 σ x2 x4) (zPi σ (fun v : Int32 => zr (-2147483648) (127) v)) := by
  unfold fX10_softness_103
  refine zok_pi (s_X10_part hσ (zr_w h_x2 (by decide))) (fun v2 h1 => ?_)
  refine zok_if (fun q2 => ?_) (fun q2 => ?_)
  · have h3 := zc_eql (0) (0) q2 (zr_andr (lo := 0) (hi := 128) (zr_c (lo := 128) (hi := 128) (by decide)) (by decide)) (zr_c (lo := 0) (hi := 0) (by decide)) (by decide)
    exact (s_X10_softness_124 hσ)
  have h4 := zc_nel (1) (128) q2 (zr_andr (lo := 0) (hi := 128) (zr_c (lo := 128) (hi := 128) (by decide)) (by decide)) (zr_c (lo := 0) (hi := 0) (by decide)) (by decide)
  refine zok_pi (s_X10_tremble hσ) (fun v4 h5 => ?_)
  refine zok_bv (fun v5 e7 => ?_)
  exact (s_X10_softness_124 hσ)
theorem s_X10_softness_88 {σ : zSt} (hσ : zPC σ) {x2 : Int32} (h_x2 : zr (0) (0) x2) {x4 : Int32} : zok (fX10_softness_88 σ x2 x4) (zPi σ (fun v : Int32 => zr (-2147483648) (127) v)) := by
  unfold fX10_softness_88
  refine zok_pi (s_X10_part hσ (zr_w (zr_c (lo := 2) (hi := 2) (by decide)) (by decide))) (fun v7 h1 => ?_)
  refine zok_bv (fun v8 e3 => ?_)
  exact (s_X10_softness_103 hσ (zr_w h_x2 (by decide)))
theorem s_X10_softness {σ : zSt} (hσ : zPC σ) {x1 : Int32} (h_x1 : zr (128) (264) x1) {x2 : Int32} (h_x2 : zr (0) (1) x2) : zok (fX10_softness σ x1 x2) (zPi σ (fun v : Int32 => zr (-2147483648) (127) v)) := by
  unfold fX10_softness
  refine zok_ck (zin_ok (zr_add (lo := 48) (hi := 56) (zr_c (lo := 48) (hi := 48) (by decide)) (rC_10 hσ.sg _ (by decide)) (by decide)) (by decide)) ?_
  refine zok_bv (fun v9 e2 => ?_)
  refine zok_ck (zin_ok (zr_add (lo := 128) (hi := 264) h_x1 (zr_c (lo := 0) (hi := 0) (by decide)) (by decide)) (by decide)) ?_
  refine zok_pi (s_X10_part hσ (zr_w (zr_add (lo := 2) (hi := 3) (zr_c (lo := 2) (hi := 2) (by decide)) h_x2 (by decide)) (by decide))) (fun v11 h3 => ?_)
  refine zok_pi (s_X10_scaled hσ (zr_shr (lo := 0) (hi := 3) 6 (by decide) h3 (by decide))) (fun v13 h4 => ?_)
  refine zok_bv (fun v14 e6 => ?_)
  refine zok_if (fun q7 => ?_) (fun q7 => ?_)
  · have h8 := zc_eql (1) (1) q7 h_x2 (zr_c (lo := 1) (hi := 1) (by decide)) (by decide)
    refine zok_bv (fun v16 e10 => ?_)
    exact (s_X10_softness_103 hσ (zr_w h8 (by decide)))
  have h11 := zc_nel (0) (0) q7 h_x2 (zr_c (lo := 1) (hi := 1) (by decide)) (by decide)
  refine zok_if (fun q12 => ?_) (fun q12 => ?_)
  · have h13 := zc_eql (0) (0) q12 zr_any (zr_c (lo := 0) (hi := 0) (by decide)) (by decide)
    exact (s_X10_softness_88 hσ h11)
  refine zok_if (fun q14 => ?_) (fun q14 => ?_)
  · have h15 := zc_ltl (6) q14 (rC_10 hσ.sg _ (by decide)) (zr_c (lo := 7) (hi := 7) (by decide)) (by decide)
    exact (s_X10_softness_88 hσ h11)
  have h16 := zc_ler (7) (z_nlt q14) (zr_c (lo := 7) (hi := 7) (by decide)) (rC_10 hσ.sg _ (by decide)) (by decide)
  refine zok_bv (fun v15 e18 => ?_)
  exact (s_X10_softness_103 hσ (zr_w h11 (by decide)))
theorem s_X10_waveAt_104 {σ : zSt} (hσ : zPC σ) {s0 : Int32} : zok (fX10_waveAt_104 σ s0) (zPi σ (fun v : Int32 => True)) := by
  unfold fX10_waveAt_104
  exact zok_spi trivial
theorem s_X10_waveAt_49 {σ : zSt} (hσ : zPC σ) {x1 : Int32} (h_x1 : zr (-2147483648) (127) x1) {x3 : Int32} (h_x3 : zr (0) (1) x3) {s0 : Int32} (h_s0 : zr (0) (255) s0) : zok (fX10_waveAt_49 σ x1 x3 s0) (zPi σ (fun v : Int32 => True)) := by
  unfold fX10_waveAt_49
  refine zok_ck (zin_ok h_s0 (by decide)) ?_
  refine zok_bv (fun v1 e2 => ?_)
  refine zok_ck (zin_ok (zr_sub (lo := 0) (hi := 255) (zr_c (lo := 255) (hi := 255) (by decide)) (zr_andr (lo := 0) (hi := 255) (zr_c (lo := 255) (hi := 255) (by decide)) (by decide)) (by decide)) (by decide)) ?_
  refine zok_bv (fun v2 e4 => ?_)
  refine zok_if (fun q5 => ?_) (fun q5 => ?_)
  · have h6 := zc_eql (0) (0) q5 h_x3 (zr_c (lo := 0) (hi := 0) (by decide)) (by decide)
    exact (s_X10_waveAt_104 hσ)
  have h7 := zc_nel (1) (1) q5 h_x3 (zr_c (lo := 0) (hi := 0) (by decide)) (by decide)
  exact (s_X10_waveAt_104 hσ)
theorem s_X10_waveAt_24 {σ : zSt} (hσ : zPC σ) {x0 : Int32} (h_x0 : zr (0) (1023) x0) {x1 : Int32} (h_x1 : zr (-2147483648) (127) x1) {x3 : Int32} (h_x3 : zr (0) (1) x3) : zok (fX10_waveAt_24 σ x0 x1 x3) (zPi σ (fun v : Int32 => True)) := by
  unfold fX10_waveAt_24
  refine zok_if (fun q1 => ?_) (fun q1 => ?_)
  · have h2 := zc_eql (0) (0) q1 (zr_andr (lo := 0) (hi := 256) (zr_c (lo := 256) (hi := 256) (by decide)) (by decide)) (zr_c (lo := 0) (hi := 0) (by decide)) (by decide)
    exact (s_X10_waveAt_49 hσ h_x1 h_x3 (zr_andr (lo := 0) (hi := 255) (zr_c (lo := 255) (hi := 255) (by decide)) (by decide)))
  have h3 := zc_nel (1) (256) q1 (zr_andr (lo := 0) (hi := 256) (zr_c (lo := 256) (hi := 256) (by decide)) (by decide)) (zr_c (lo := 0) (hi := 0) (by decide)) (by decide)
  exact (s_X10_waveAt_49 hσ h_x1 h_x3 (zr_sub (lo := 0) (hi := 255) (zr_c (lo := 255) (hi := 255) (by decide)) (zr_andr (lo := 0) (hi := 255) (zr_c (lo := 255) (hi := 255) (by decide)) (by decide)) (by decide)))
theorem s_X10_waveAt_13 {σ : zSt} (hσ : zPC σ) {x0 : Int32} (h_x0 : zr (0) (1023) x0) {x1 : Int32} (h_x1 : zr (-2147483648) (127) x1) {x2 : Int32} (h_x2 : zr (0) (1) x2) {s0 : Int32} (h_s0 : zr (0) (1) s0) : zok (fX10_waveAt_13 σ x0 x1 x2 s0) (zPi σ (fun v : Int32 => True)) := by
  unfold fX10_waveAt_13
  refine zok_if (fun q1 => ?_) (fun q1 => ?_)
  · have h2 := zc_eql (0) (0) q1 h_s0 (zr_c (lo := 0) (hi := 0) (by decide)) (by decide)
    exact (s_X10_waveAt_24 hσ h_x0 h_x1 (zr_w h2 (by decide)))
  have h3 := zc_nel (1) (1) q1 h_s0 (zr_c (lo := 0) (hi := 0) (by decide)) (by decide)
  refine zok_if (fun q4 => ?_) (fun q4 => ?_)
  · have h5 := zc_eql (0) (0) q4 h_x2 (zr_c (lo := 0) (hi := 0) (by decide)) (by decide)
    exact (s_X10_waveAt_24 hσ h_x0 h_x1 (zr_w h3 (by decide)))
  have h6 := zc_nel (1) (1) q4 h_x2 (zr_c (lo := 0) (hi := 0) (by decide)) (by decide)
  exact zok_spi trivial
theorem s_X10_waveAt {σ : zSt} (hσ : zPC σ) {x0 : Int32} (h_x0 : zr (0) (1023) x0) {x1 : Int32} (h_x1 : zr (-2147483648) (127) x1) {x2 : Int32} (h_x2 : zr (0) (1) x2) : zok (fX10_waveAt σ x0 x1 x2) (zPi σ (fun v : Int32 => True)) := by
  unfold fX10_waveAt
  refine zok_if (fun q1 => ?_) (fun q1 => ?_)
  · have h2 := zc_eql (0) (0) q1 (zr_andr (lo := 0) (hi := 512) (zr_c (lo := 512) (hi := 512) (by decide)) (by decide)) (zr_c (lo := 0) (hi := 0) (by decide)) (by decide)
    exact (s_X10_waveAt_13 hσ h_x0 h_x1 h_x2 (zr_w (zr_c (lo := 0) (hi := 0) (by decide)) (by decide)))
  have h3 := zc_nel (1) (512) q1 (zr_andr (lo := 0) (hi := 512) (zr_c (lo := 512) (hi := 512) (by decide)) (by decide)) (zr_c (lo := 0) (hi := 0) (by decide)) (by decide)
  exact (s_X10_waveAt_13 hσ h_x0 h_x1 h_x2 (zr_w (zr_c (lo := 1) (hi := 1) (by decide)) (by decide)))
theorem s_X10_moveOut_55 {G : Nat → Int} {σ : zSt} (hσ : zIC G σ) {x1 : Int32} (h_x1 : zr (128) (264) x1) {x3 : Int32} : zok (fX10_moveOut_55 σ x1 x3) (zIC G) := by
  unfold fX10_moveOut_55
  refine zok_ck (zin_ok (zr_add (lo := 131) (hi := 267) h_x1 (zr_c (lo := 3) (hi := 3) (by decide)) (by decide)) (by decide)) ?_
  refine zok_ck (zin_ok (zr_add (lo := 132) (hi := 268) h_x1 (zr_c (lo := 4) (hi := 4) (by decide)) (by decide)) (by decide)) ?_
  refine zok_bs (hσ.wi 132 268 (z_ix (zr_add (lo := 132) (hi := 268) h_x1 (zr_c (lo := 4) (hi := 4) (by decide)) (by decide)) (by decide)) zr_any (by decide +kernel)) (fun σ1 e2 i1 => ?_)
  refine zok_ck (zin_ok (zr_add (lo := 131) (hi := 267) h_x1 (zr_c (lo := 3) (hi := 3) (by decide)) (by decide)) (by decide)) ?_
  refine zok_bs (i1.wi 131 267 (z_ix (zr_add (lo := 131) (hi := 267) h_x1 (zr_c (lo := 3) (hi := 3) (by decide)) (by decide)) (by decide)) zr_any (by decide +kernel)) (fun σ2 e4 i3 => ?_)
  exact zok_some i3
theorem s_X10_moveOut_51 {G : Nat → Int} {σ : zSt} (hσ : zIC G σ) {x1 : Int32} (h_x1 : zr (128) (264) x1) {s0 : Int32} (h_s0 : zr (0) (1) s0) {s1 : Int32} (h_s1 : zr (-2147483648) (127) s1) {s2 : Int32} (h_s2 : zr (0) (1023) s2) : zok (fX10_moveOut_51 σ x1 s0 s1 s2) (zIC G) := by
  unfold fX10_moveOut_51
  refine zok_pi (s_X10_waveAt hσ.P h_s2 h_s1 h_s0) (fun v4 h1 => ?_)
  exact (s_X10_moveOut_55 hσ h_x1)
theorem s_X10_moveOut {G : Nat → Int} {σ : zSt} (hσ : zIC G σ) {x1 : Int32} (h_x1 : zr (128) (264) x1) {x2 : Int32} (h_x2 : zr (0) (1) x2) : zok (fX10_moveOut σ x1 x2) (zIC G) := by
  unfold fX10_moveOut
  refine zok_ck (zin_ok (zr_add (lo := 128) (hi := 264) h_x1 (zr_c (lo := 0) (hi := 0) (by decide)) (by decide)) (by decide)) ?_
  refine zok_if (fun q1 => ?_) (fun q1 => ?_)
  · have h2 := zc_ler (124) q1 (zr_c (lo := 124) (hi := 124) (by decide)) zr_any (by decide)
    exact (s_X10_moveOut_55 hσ h_x1)
  have h3 := zc_ltl (123) (z_nle q1) zr_any (zr_c (lo := 124) (hi := 124) (by decide)) (by decide)
  refine zok_pi (s_X10_turnedPhase hσ.P h_x1 h_x2) (fun v6 h4 => ?_)
  refine zok_pi (s_X10_softness hσ.P h_x1 h_x2) (fun v8 h5 => ?_)
  refine zok_pi (s_X10_part hσ.P (zr_w (zr_c (lo := 3) (hi := 3) (by decide)) (by decide))) (fun v10 h6 => ?_)
  refine zok_if (fun q7 => ?_) (fun q7 => ?_)
  · have h8 := zc_eql (1) (1) q7 (zr_andr (lo := 0) (hi := 1) (zr_c (lo := 1) (hi := 1) (by decide)) (by decide)) (zr_c (lo := 1) (hi := 1) (by decide)) (by decide)
    exact (s_X10_moveOut_51 hσ h_x1 (zr_w (zr_c (lo := 1) (hi := 1) (by decide)) (by decide)) h5 (zr_andr (lo := 0) (hi := 1023) (zr_c (lo := 1023) (hi := 1023) (by decide)) (by decide)))
  have h9 := zc_nel (0) (0) q7 (zr_andr (lo := 0) (hi := 1) (zr_c (lo := 1) (hi := 1) (by decide)) (by decide)) (zr_c (lo := 1) (hi := 1) (by decide)) (by decide)
  exact (s_X10_moveOut_51 hσ h_x1 (zr_w (zr_c (lo := 0) (hi := 0) (by decide)) (by decide)) h5 (zr_andr (lo := 0) (hi := 1023) (zr_c (lo := 1023) (hi := 1023) (by decide)) (by decide)))
theorem s_X10_moveOperator_99 {G : Nat → Int} {σ : zSt} (hσ : zIC G σ) {x1 : Int32} (h_x1 : zr (128) (264) x1) {x2 : Int32} (h_x2 : zr (0) (1) x2) : zok (fX10_moveOperator_99 σ x1 x2) (zIC G) := by
  unfold fX10_moveOperator_99
  refine zok_pi (s_X10_part hσ.P (zr_w h_x2 (by decide))) (fun v2 h1 => ?_)
  refine zok_bu (s_X10_movePhase hσ h_x1 h1) (fun σ3 i2 => ?_)
  refine zok_bu (s_X10_moveOut i2 h_x1 h_x2) (fun σ4 i3 => ?_)
  exact zok_some i3
theorem s_X10_moveOperator_78 {G : Nat → Int} {σ : zSt} (hσ : zIC G σ) {x1 : Int32} (h_x1 : zr (128) (264) x1) {x2 : Int32} (h_x2 : zr (0) (1) x2) : zok (fX10_moveOperator_78 σ x1 x2) (zIC G) := by
  unfold fX10_moveOperator_78
  refine zok_bu (s_X10_moveLevel hσ h_x1 h_x2) (fun σ5 i1 => ?_)
  refine zok_pi (s_X10_part i1.P (zr_w (zr_add (lo := 6) (hi := 7) (zr_c (lo := 6) (hi := 6) (by decide)) h_x2 (by decide)) (by decide))) (fun v7 h2 => ?_)
  refine zok_bu (s_X10_moveState i1 h_x1 (zr_shr (lo := 0) (hi := 15) 4 (by decide) h2 (by decide))) (fun σ8 i3 => ?_)
  exact (s_X10_moveOperator_99 i3 h_x1 h_x2)
theorem s_X10_moveOperator_53 {G : Nat → Int} {σ : zSt} (hσ : zIC G σ) {x1 : Int32} (h_x1 : zr (128) (264) x1) {x2 : Int32} (h_x2 : zr (0) (1) x2) : zok (fX10_moveOperator_53 σ x1 x2) (zIC G) := by
  unfold fX10_moveOperator_53
  refine zok_ck (zin_ok (zr_add (lo := 129) (hi := 265) h_x1 (zr_c (lo := 1) (hi := 1) (by decide)) (by decide)) (by decide)) ?_
  refine zok_if (fun q1 => ?_) (fun q1 => ?_)
  · have h2 := zc_eql (4) (4) q1 zr_any (zr_c (lo := 4) (hi := 4) (by decide)) (by decide)
    refine zok_ck (zin_ok (zr_add (lo := 128) (hi := 264) h_x1 (zr_c (lo := 0) (hi := 0) (by decide)) (by decide)) (by decide)) ?_
    refine zok_if (fun q3 => ?_) (fun q3 => ?_)
    · have h4 := zc_ler (127) q3 (zr_c (lo := 127) (hi := 127) (by decide)) zr_any (by decide)
      exact (s_X10_moveOperator_99 hσ h_x1 h_x2)
    have h5 := zc_ltl (126) (z_nle q3) zr_any (zr_c (lo := 127) (hi := 127) (by decide)) (by decide)
    exact (s_X10_moveOperator_78 hσ h_x1 h_x2)
  exact (s_X10_moveOperator_78 hσ h_x1 h_x2)
theorem s_X10_moveOperator_52 {G : Nat → Int} {σ : zSt} (hσ : zIC G σ) {x1 : Int32} (h_x1 : zr (128) (264) x1) {x2 : Int32} (h_x2 : zr (0) (1) x2) {s0 : Int32} (h_s0 : zr (0) (4) s0) {s1 : Int32} (h_s1 : zr (129) (265) s1) : zok (fX10_moveOperator_52 σ x1 x2 s0 s1) (zIC G) := by
  unfold fX10_moveOperator_52
  refine zok_ck (zin_ok h_s1 (by decide)) ?_
  refine zok_bs (hσ.wi 129 265 (z_ix h_s1 (by decide)) h_s0 (by decide +kernel)) (fun σ9 e2 i1 => ?_)
  exact (s_X10_moveOperator_53 i1 h_x1 h_x2)
theorem s_X10_moveOperator_13 {G : Nat → Int} {σ : zSt} (hσ : zIC G σ) {x1 : Int32} (h_x1 : zr (128) (264) x1) {x2 : Int32} (h_x2 : zr (0) (1) x2) {s0 : Int32} (h_s0 : zr (0) (1) s0) : zok (fX10_moveOperator_13 σ x1 x2 s0) (zIC G) := by
  unfold fX10_moveOperator_13
  refine zok_ck (zin_ok (zr_add (lo := 133) (hi := 269) h_x1 (zr_c (lo := 5) (hi := 5) (by decide)) (by decide)) (by decide)) ?_
  refine zok_if (fun q1 => ?_) (fun q1 => ?_)
  · have h2 := zc_eqr (0) (1) q1 h_s0 zr_any (by decide)
    exact (s_X10_moveOperator_53 hσ h_x1 h_x2)
  refine zok_ck (zin_ok (zr_add (lo := 133) (hi := 269) h_x1 (zr_c (lo := 5) (hi := 5) (by decide)) (by decide)) (by decide)) ?_
  refine zok_bs (hσ.wi 133 269 (z_ix (zr_add (lo := 133) (hi := 269) h_x1 (zr_c (lo := 5) (hi := 5) (by decide)) (by decide)) (by decide)) h_s0 (by decide +kernel)) (fun σ10 e4 i3 => ?_)
  refine zok_if (fun q5 => ?_) (fun q5 => ?_)
  · have h6 := zc_eql (1) (1) q5 h_s0 (zr_c (lo := 1) (hi := 1) (by decide)) (by decide)
    exact (s_X10_moveOperator_52 i3 h_x1 h_x2 (zr_w (zr_c (lo := 0) (hi := 0) (by decide)) (by decide)) (zr_add (lo := 129) (hi := 265) h_x1 (zr_c (lo := 1) (hi := 1) (by decide)) (by decide)))
  have h7 := zc_nel (0) (0) q5 h_s0 (zr_c (lo := 1) (hi := 1) (by decide)) (by decide)
  exact (s_X10_moveOperator_52 i3 h_x1 h_x2 (zr_w (zr_c (lo := 4) (hi := 4) (by decide)) (by decide)) (zr_add (lo := 129) (hi := 265) h_x1 (zr_c (lo := 1) (hi := 1) (by decide)) (by decide)))
theorem s_X10_moveOperator {G : Nat → Int} {σ : zSt} (hσ : zIC G σ) {x1 : Int32} (h_x1 : zr (128) (264) x1) {x2 : Int32} (h_x2 : zr (0) (1) x2) : zok (fX10_moveOperator σ x1 x2) (zIC G) := by
  unfold fX10_moveOperator
  refine zok_pi (s_X10_isOn hσ.P h_x2) (fun v12 h1 => ?_)
  refine zok_if (fun q2 => ?_) (fun q2 => ?_)
  · have h3 := zc_eql (0) (0) q2 h1 (zr_c (lo := 0) (hi := 0) (by decide)) (by decide)
    exact (s_X10_moveOperator_13 hσ h_x1 h_x2 (zr_w (zr_c (lo := 0) (hi := 0) (by decide)) (by decide)))
  have h4 := zc_nel (1) (1) q2 h1 (zr_c (lo := 0) (hi := 0) (by decide)) (by decide)
  exact (s_X10_moveOperator_13 hσ h_x1 h_x2 (zr_w (zr_c (lo := 1) (hi := 1) (by decide)) (by decide)))
theorem s_X10_makeNext_136 {G : Nat → Int} {σ : zSt} {k41 : zSt → Int32 → Int32 → Option (zSt)} {Mk41 : Int} (hk41 : ∀ (σ : zSt) (x1 : Int32) (x2 : Int32), zIC G σ → zr (0) (9) x2 → (9) - x2.toInt < Mk41 → zok (k41 σ x1 x2) (zIC G)) (hσ : zIC G σ) {x2 : Int32} (h_x2 : zr (0) (8) x2) {s0 : Int32} (h_s0 : zr (1) (2) s0) {s1 : Int32} {s2 : Int32} (hMk41 : (9) - x2.toInt ≤ Mk41) : zok (fX10_makeNext_136 k41 σ x2 s0 s1 s2) (zIC G) := by
  unfold fX10_makeNext_136
  refine zok_bv (fun v1 e2 => ?_)
  refine zok_br (zr_add (lo := 1) (hi := 9) h_x2 (zr_c (lo := 1) (hi := 1) (by decide)) (by decide)) (fun v2 e4 h3 => ?_)
  exact hk41 _ _ _ hσ (zr_w h3 (by decide)) (by rw [e4]; have := z_tadd (y := (1 : Int32)) h_x2 (zr_c (lo := 1) (hi := 1) (by decide)) (by decide); have e9 : (1 : Int32).toInt = 1 := rfl; omega) 
theorem s_X10_makeNext_135 {G : Nat → Int} {σ : zSt} {k41 : zSt → Int32 → Int32 → Option (zSt)} {Mk41 : Int} (hk41 : ∀ (σ : zSt) (x1 : Int32) (x2 : Int32), zIC G σ → zr (0) (9) x2 → (9) - x2.toInt < Mk41 → zok (k41 σ x1 x2) (zIC G)) (hσ : zIC G σ) {x2 : Int32} (h_x2 : zr (0) (8) x2) {s0 : Int32} {s1 : Int32} (hMk41 : (9) - x2.toInt ≤ Mk41) : zok (fX10_makeNext_135 k41 σ x2 s0 s1) (zIC G) := by
  unfold fX10_makeNext_135
  exact (s_X10_makeNext_136 hk41 hσ h_x2 (zr_w (zr_c (lo := 1) (hi := 1) (by decide)) (by decide)) hMk41)
theorem s_X10_makeNext_101 {G : Nat → Int} {σ : zSt} {k41 : zSt → Int32 → Int32 → Option (zSt)} {Mk41 : Int} (hk41 : ∀ (σ : zSt) (x1 : Int32) (x2 : Int32), zIC G σ → zr (0) (9) x2 → (9) - x2.toInt < Mk41 → zok (k41 σ x1 x2) (zIC G)) (hσ : zIC G σ) {x1 : Int32} {x2 : Int32} (h_x2 : zr (0) (8) x2) {x3 : Int32} (h_x3 : zr (128) (256) x3) {s0 : Int32} (hMk41 : (9) - x2.toInt ≤ Mk41) : zok (fX10_makeNext_101 k41 σ x1 x2 x3 s0) (zIC G) := by
  unfold fX10_makeNext_101
  refine zok_ck (zin_ok (zr_add (lo := 139) (hi := 267) (zr_add (lo := 136) (hi := 264) h_x3 (zr_c (lo := 8) (hi := 8) (by decide)) (by decide)) (zr_c (lo := 3) (hi := 3) (by decide)) (by decide)) (by decide)) ?_
  refine zok_if (fun q1 => ?_) (fun q1 => ?_)
  · have h2 := zc_eql (0) (0) q1 zr_any (zr_c (lo := 0) (hi := 0) (by decide)) (by decide)
    exact (s_X10_makeNext_135 hk41 hσ h_x2 hMk41)
  refine zok_if (fun q3 => ?_) (fun q3 => ?_)
  · have h4 := zc_ltl (5) q3 h_x2 (zr_c (lo := 6) (hi := 6) (by decide)) (by decide)
    exact (s_X10_makeNext_135 hk41 hσ (zr_w h4 (by decide)) hMk41)
  have h5 := zc_ler (6) (z_nlt q3) (zr_c (lo := 6) (hi := 6) (by decide)) h_x2 (by decide)
  exact (s_X10_makeNext_136 hk41 hσ (zr_w h5 (by decide)) (zr_w (zr_c (lo := 2) (hi := 2) (by decide)) (by decide)) hMk41)
theorem s_X10_makeNext_100 {G : Nat → Int} {σ : zSt} {k41 : zSt → Int32 → Int32 → Option (zSt)} {Mk41 : Int} (hk41 : ∀ (σ : zSt) (x1 : Int32) (x2 : Int32), zIC G σ → zr (0) (9) x2 → (9) - x2.toInt < Mk41 → zok (k41 σ x1 x2) (zIC G)) (hσ : zIC G σ) {x1 : Int32} {x2 : Int32} (h_x2 : zr (0) (8) x2) {x3 : Int32} (h_x3 : zr (128) (256) x3) (hMk41 : (9) - x2.toInt ≤ Mk41) : zok (fX10_makeNext_100 k41 σ x1 x2 x3) (zIC G) := by
  unfold fX10_makeNext_100
  exact (s_X10_makeNext_101 hk41 hσ h_x2 h_x3 hMk41)
theorem s_X10_makeNext_174 {G : Nat → Int} {σ : zSt} (hσ : zIC G σ) {x1 : Int32} {s0 : Int32} {s1 : Int32} (h_s1 : zr (65) (65) s1) : zok (fX10_makeNext_174 σ x1 s0 s1) (zIC G) := by
  unfold fX10_makeNext_174
  refine zok_ck (zin_ok h_s1 (by decide)) ?_
  refine zok_bs (hσ.wi 65 65 (z_ix h_s1 (by decide)) (zr_shr (lo := -1073741824) (hi := 1073741823) 1 (by decide) zr_any (by decide)) (by decide +kernel)) (fun σ3 e2 i1 => ?_)
  refine zok_ck rfl ?_
  refine zok_bs (i1.wi 67 67 (by decide) zr_any (by decide +kernel)) (fun σ4 e4 i3 => ?_)
  exact zok_some i3
theorem s_X10_makeNext_41_body {G : Nat → Int} {σ : zSt} {k41 : zSt → Int32 → Int32 → Option (zSt)} {Mk41 : Int} (hk41 : ∀ (σ : zSt) (x1 : Int32) (x2 : Int32), zIC G σ → zr (0) (9) x2 → (9) - x2.toInt < Mk41 → zok (k41 σ x1 x2) (zIC G)) (hσ : zIC G σ) {x1 : Int32} {x2 : Int32} (h_x2 : zr (0) (9) x2) (hMk41 : (9) - x2.toInt ≤ Mk41) : zok (fX10_makeNext_41_body k41 σ x1 x2) (zIC G) := by
  unfold fX10_makeNext_41_body
  refine zok_if (fun q1 => ?_) (fun q1 => ?_)
  · have h2 := zc_ler (9) q1 (zr_c (lo := 9) (hi := 9) (by decide)) h_x2 (by decide)
    refine zok_ck rfl ?_
    refine zok_bv (fun v5 e4 => ?_)
    refine zok_if (fun q5 => ?_) (fun q5 => ?_)
    · have h6 := zc_eql (1) (1) q5 (zr_andr (lo := 0) (hi := 1) (zr_c (lo := 1) (hi := 1) (by decide)) (by decide)) (zr_c (lo := 1) (hi := 1) (by decide)) (by decide)
      exact (s_X10_makeNext_174 hσ (zr_c (lo := 65) (hi := 65) (by decide)))
    have h7 := zc_nel (0) (0) q5 (zr_andr (lo := 0) (hi := 1) (zr_c (lo := 1) (hi := 1) (by decide)) (by decide)) (zr_c (lo := 1) (hi := 1) (by decide)) (by decide)
    exact (s_X10_makeNext_174 hσ (zr_c (lo := 65) (hi := 65) (by decide)))
  have h8 := zc_ltl (8) (z_nle q1) h_x2 (zr_c (lo := 9) (hi := 9) (by decide)) (by decide)
  refine zok_bu (s_X10_takeChannel hσ h8) (fun σ6 i9 => ?_)
  refine zok_br (zr_add (lo := 128) (hi := 256) (zr_c (lo := 128) (hi := 128) (by decide)) (zr_mul (lo := 0) (hi := 128) (zr_c (lo := 16) (hi := 16) (by decide)) h8 (by decide)) (by decide)) (fun v7 e11 h10 => ?_)
  refine zok_bu (s_X10_moveOperator i9 (zr_w h10 (by decide)) (zr_w (zr_c (lo := 0) (hi := 0) (by decide)) (by decide))) (fun σ8 i12 => ?_)
  refine zok_bu (s_X10_moveOperator i12 (zr_w (zr_add (lo := 136) (hi := 264) h10 (zr_c (lo := 8) (hi := 8) (by decide)) (by decide)) (by decide)) (zr_w (zr_c (lo := 1) (hi := 1) (by decide)) (by decide))) (fun σ9 i13 => ?_)
  refine zok_if (fun q14 => ?_) (fun q14 => ?_)
  · have h15 := zc_eql (0) (0) q14 zr_any (zr_c (lo := 0) (hi := 0) (by decide)) (by decide)
    exact (s_X10_makeNext_100 hk41 i13 h8 h10 hMk41)
  refine zok_if (fun q16 => ?_) (fun q16 => ?_)
  · have h17 := zc_ltl (6) q16 h8 (zr_c (lo := 7) (hi := 7) (by decide)) (by decide)
    exact (s_X10_makeNext_100 hk41 i13 (zr_w h17 (by decide)) h10 hMk41)
  have h18 := zc_ler (7) (z_nlt q16) (zr_c (lo := 7) (hi := 7) (by decide)) h8 (by decide)
  refine zok_ck (zin_ok (zr_add (lo := 131) (hi := 259) h10 (zr_c (lo := 3) (hi := 3) (by decide)) (by decide)) (by decide)) ?_
  exact (s_X10_makeNext_101 hk41 i13 (zr_w h18 (by decide)) h10 hMk41)
theorem s_X10_makeNext_41 {G : Nat → Int} : ∀ (n : Nat) {σ : zSt} (hσ : zIC G σ) {x1 : Int32} {x2 : Int32} (h_x2 : zr (0) (9) x2) (hm : (9) - x2.toInt < n), zok (fX10_makeNext_41 n σ x1 x2) (zIC G) := by
  intro n
  induction n with
  | zero => intro σ hσ x1 x2 h_x2 hm ; have h9 := h_x2.1; have h8 := h_x2.2; exfalso; omega
  | succ n ih => intro σ hσ x1 x2 h_x2 hm ; exact s_X10_makeNext_41_body (fun σ x1 x2 hσ h_x2 hm1 => ih hσ h_x2 (by omega)) hσ h_x2 (Int.le_refl _)
theorem s_X10_makeNext_30 {G : Nat → Int} {σ : zSt} (hσ : zIC G σ) {s0 : Int32} (h_s0 : zr (0) (1) s0) : zok (fX10_makeNext_30 σ s0) (zIC G) := by
  unfold fX10_makeNext_30
  refine zok_ck (zbo_ok h_s0 (by decide)) ?_
  refine zok_bs (hσ.wi 2 2 (by decide) h_s0 (by decide +kernel)) (fun σ10 e2 i1 => ?_)
  refine zok_bu (s_X10_takeOwnPatch i1) (fun σ11 i3 => ?_)
  exact (s_X10_makeNext_41 zfuel i3 (zr_w (zr_c (lo := 0) (hi := 0) (by decide)) (by decide)) (by decide))
theorem s_X10_makeNext {G : Nat → Int} {σ : zSt} (hσ : zIC G σ) : zok (fX10_makeNext σ ) (zIC G) := by
  unfold fX10_makeNext
  refine zok_ck rfl ?_
  refine zok_ck rfl ?_
  refine zok_bs (hσ.wi 66 66 (by decide) zr_any (by decide +kernel)) (fun σ12 e2 i1 => ?_)
  refine zok_ck rfl ?_
  refine zok_if (fun q3 => ?_) (fun q3 => ?_)
  · have h4 := zc_eql (0) (0) q3 (zr_andr (lo := 0) (hi := 32) (zr_c (lo := 32) (hi := 32) (by decide)) (by decide)) (zr_c (lo := 0) (hi := 0) (by decide)) (by decide)
    exact (s_X10_makeNext_30 i1 (zr_w (zr_c (lo := 0) (hi := 0) (by decide)) (by decide)))
  have h5 := zc_nel (1) (32) q3 (zr_andr (lo := 0) (hi := 32) (zr_c (lo := 32) (hi := 32) (by decide)) (by decide)) (zr_c (lo := 0) (hi := 0) (by decide)) (by decide)
  exact (s_X10_makeNext_30 i1 (zr_w (zr_c (lo := 1) (hi := 1) (by decide)) (by decide)))
theorem s_X10_heard_24 {σ : zSt} (hσ : zPC σ) {s0 : Int32} : zok (fX10_heard_24 σ s0) (zPi σ (fun v : Int32 => True)) := by
  unfold fX10_heard_24
  exact zok_spi trivial
theorem s_X10_heard {σ : zSt} (hσ : zPC σ) : zok (fX10_heard σ ) (zPi σ (fun v : Int32 => True)) := by
  unfold fX10_heard
  refine zok_ck rfl ?_
  refine zok_if (fun q1 => ?_) (fun q1 => ?_)
  · have h2 := zc_eql (1) (1) q1 (zr_andr (lo := 0) (hi := 1) (zr_c (lo := 1) (hi := 1) (by decide)) (by decide)) (zr_c (lo := 1) (hi := 1) (by decide)) (by decide)
    refine zok_ck rfl ?_
    exact (s_X10_heard_24 hσ)
  have h3 := zc_nel (0) (0) q1 (zr_andr (lo := 0) (hi := 1) (zr_c (lo := 1) (hi := 1) (by decide)) (by decide)) (zr_c (lo := 1) (hi := 1) (by decide)) (by decide)
  exact (s_X10_heard_24 hσ)
theorem s_X6_add_k12_56 {σ : zSt} (hσ : zPC σ) : zok (fX6_add_k12_56 σ ) (zPu σ) := by
  unfold fX6_add_k12_56
  exact zok_spu
theorem s_X6_add_k12 {G : Nat → Int} {σ : zSt} (hσ : zIC G σ) {x1 : Int64} : zok (fX6_add_k12 σ x1) (zIC G) := by
  unfold fX6_add_k12
  refine zok_ck (zin_ok (zr_andr (lo := 0) (hi := 4095) (zr_c (lo := 4095) (hi := 4095) (by decide)) (by decide)) (by decide)) ?_
  refine zok_bs (hσ.wl 0 4095 (z_ix (zr_andr (lo := 0) (hi := 4095) (zr_c (lo := 4095) (hi := 4095) (by decide)) (by decide)) (by decide)) (by decide)) (fun σ1 e2 i1 => ?_)
  refine zok_if (fun q3 => ?_) (fun q3 => ?_)
  · have h4 := zc_ler (4096) q3 (zr_c (lo := 4096) (hi := 4096) (by decide)) zr_any (by decide)
    refine zok_bs (i1.wk (by decide)) (fun σ2 e6 i5 => ?_)
    exact zok_pau i5 (s_X6_add_k12_56 i5.P)
  have h7 := zc_ltl (4095) (z_nle q3) zr_any (zr_c (lo := 4096) (hi := 4096) (by decide)) (by decide)
  refine zok_bs (i1.wk (by decide)) (fun σ3 e9 i8 => ?_)
  exact zok_pau i8 (s_X6_add_k12_56 i8.P)
theorem s_X0_addMix {G : Nat → Int} {σ : zSt} (hσ : zIC G σ) : zok (fX0_addMix σ ) (zIC G) := by
  unfold fX0_addMix
  refine zok_ck rfl ?_
  refine zok_bl (zrl_max (lo := 1) (hi := 9223372036854775807) (zrl_c (lo := 1) (hi := 1) (by decide)) zrl_any (by decide)) (fun v1 e2 h1 => ?_)
  refine zok_ck rfl ?_
  refine zok_ck (zdvl_ok h1 (by decide)) ?_
  refine zok_pi (s_X10_heard hσ.P) (fun v3 h3 => ?_)
  refine zok_bv (fun v4 e5 => ?_)
  refine zok_ck rfl ?_
  refine zok_ck (zdvl_ok h1 (by decide)) ?_
  refine zok_pi (s_X10_heard hσ.P) (fun v6 h6 => ?_)
  refine zok_bv (fun v7 e8 => ?_)
  refine zok_bu (s_X6_add_k12 hσ) (fun σ8 i9 => ?_)
  refine zok_ck rfl ?_
  refine zok_bs (i9.wl 4 4 (by decide) (by decide)) (fun σ9 e11 i10 => ?_)
  refine zok_ck rfl ?_
  refine zok_bs (i10.wl 5 5 (by decide) (by decide)) (fun σ10 e13 i12 => ?_)
  refine zok_ck rfl ?_
  refine zok_bs (i12.wl 6 6 (by decide) (by decide)) (fun σ11 e15 i14 => ?_)
  exact zok_some i14
theorem z_wrap {x y : Int64} (h : 0 ≤ y.toInt) : (x + y).toInt = x.toInt + y.toInt ∨ (0 ≤ x.toInt ∧ (x + y).toInt < 0) := by
  have a1 := Int64.le_toInt x
  have a2 := Int64.toInt_lt x
  have b2 := Int64.toInt_lt y
  rw [Int64.toInt_add]
  by_cases q : x.toInt + y.toInt ≤ 9223372036854775807
  · exact Or.inl (z_bml (by omega) q)
  · refine Or.inr ⟨by omega, ?_⟩
    have e : (x.toInt + y.toInt).bmod (2 ^ 64) = (x.toInt + y.toInt - 18446744073709551616).bmod (2 ^ 64) := by
      exact (Int.sub_bmod_right (x.toInt + y.toInt) (2 ^ 64)).symm
    rw [e, z_bml (by omega) (by omega)]; omega
theorem z_tdivb {a : Int} {c : Int} (hc : 0 < c) : a - c < c * a.tdiv c ∧ c * a.tdiv c < a + c := by
  have h1 := Int.mul_tdiv_add_tmod a c
  have h2 := Int.tmod_lt_of_pos a hc
  have h3 := Int.lt_tmod_of_pos a hc
  omega
theorem z_bt {x2 x4 : Int64} {b : Int32} (hb : zr (1) (31) b) (e : x4 = x2 + b.toInt64) (c : Int64) (hc : 16 ≤ c.toInt) : (x4 / c).toInt - (x2 / c).toInt < 100 := by
  have b1 := hb.1
  have b2 := hb.2
  have eb : b.toInt64.toInt = b.toInt := Int32.toInt_toInt64 b
  have dv : ∀ x : Int64, (x / c).toInt = x.toInt.tdiv c.toInt := fun x => Int64.toInt_div_of_ne_right x c (fun r => by rw [r] at hc; exact absurd hc (by decide))
  have w := z_wrap (x := x2) (y := b.toInt64) (by omega)
  rw [← e, eb] at w
  rw [dv, dv]
  have d4 := z_tdivb (a := x4.toInt) (c := c.toInt) (by omega)
  have d2 := z_tdivb (a := x2.toInt) (c := c.toInt) (by omega)
  rcases w with w | w
  · rw [w] at d4 ⊢
    have hd : c.toInt * ((x2.toInt + b.toInt).tdiv c.toInt - x2.toInt.tdiv c.toInt) < c.toInt * 100 := by
      rw [Int.mul_sub]; omega
    exact Int.lt_of_mul_lt_mul_left hd (by omega)
  · have h4 : x4.toInt.tdiv c.toInt ≤ 0 := by
      have hn := Int.tdiv_nonneg (a := -x4.toInt) (b := c.toInt) (by omega) (by omega)
      rw [Int.neg_tdiv] at hn; omega
    have h2 : 0 ≤ x2.toInt.tdiv c.toInt := Int.tdiv_nonneg w.1 (by omega)
    omega
theorem s_pass81_h {G : Nat → Int} {x2 x4 : Int64} : ∀ (n : Nat) {σ : zSt} (hσ : zIC G σ) {x6 : Int64} (hn : 1 ≤ n) (hm : (x4 / 81).toInt - x6.toInt < n), zok (fX0_pass_105 n σ x4 x6) (zIC G) := by
  intro n
  induction n with
  | zero => intro σ hσ x6 hn hm; exfalso; omega
  | succ n ih =>
    intro σ hσ x6 hn hm
    show zok (fX0_pass_105_body (fX0_pass_105 n) σ x4 x6) (zIC G)
    unfold fX0_pass_105_body
    refine zok_ck (by decide) ?_
    refine zok_if (fun q => zok_some hσ) (fun q => ?_)
    have q1 : ¬ (x4 / 81).toInt ≤ x6.toInt := fun r => q (z_cmp_ge.mpr r)
    refine zok_bu (s_X0_addMix hσ) (fun σ1 i1 => ?_)
    refine zok_bv (fun v2 e2 => ?_)
    have l := Int64.toInt_lt (x4 / 81)
    have c1 : (1 : Int64).toInt = 1 := rfl
    have e3 : (x6 + 1).toInt = x6.toInt + 1 := by rw [Int64.toInt_add, c1]; exact z_bml (by have := Int64.le_toInt x6; omega) (by omega)
    exact ih i1 (by omega) (by rw [e2, e3]; omega)
theorem s_pass72_h {G : Nat → Int} {x2 x4 : Int64} (h81 : (x4 / 81).toInt - (x2 / 81).toInt < 100) : ∀ (n : Nat) {σ : zSt} (hσ : zIC G σ) {x6 : Int64} (hn : 1 ≤ n) (hm : (x4 / 72).toInt - x6.toInt < n), zok (fX0_pass_70 n σ x2 x4 x6) (zIC G) := by
  intro n
  induction n with
  | zero => intro σ hσ x6 hn hm; exfalso; omega
  | succ n ih =>
    intro σ hσ x6 hn hm
    show zok (fX0_pass_70_body (fX0_pass_70 n) σ x2 x4 x6) (zIC G)
    unfold fX0_pass_70_body
    refine zok_ck (by decide) ?_
    refine zok_if (fun q => zok_ck (by decide) (zok_bv (fun v3 e3 => s_pass81_h (x2 := x2) zfuel hσ (by decide) (by rw [e3]; unfold zfuel; omega)))) (fun q => ?_)
    have q1 : ¬ (x4 / 72).toInt ≤ x6.toInt := fun r => q (z_cmp_ge.mpr r)
    refine zok_bu (s_X10_makeNext hσ) (fun σ1 i1 => ?_)
    refine zok_bv (fun v2 e2 => ?_)
    have l := Int64.toInt_lt (x4 / 72)
    have c1 : (1 : Int64).toInt = 1 := rfl
    have e3 : (x6 + 1).toInt = x6.toInt + 1 := by rw [Int64.toInt_add, c1]; exact z_bml (by have := Int64.le_toInt x6; omega) (by omega)
    exact ih i1 (by omega) (by rw [e2, e3]; omega)
theorem s_pass16_h {G : Nat → Int} {x2 x4 : Int64} (h81 : (x4 / 81).toInt - (x2 / 81).toInt < 100) (h72 : (x4 / 72).toInt - (x2 / 72).toInt < 100) : ∀ (n : Nat) {σ : zSt} (hσ : zIC G σ) {x6 : Int64} (hn : 1 ≤ n) (hm : (x4 / 16).toInt - x6.toInt < n), zok (fX0_pass_38 n σ x2 x4 x6) (zIC G) := by
  intro n
  induction n with
  | zero => intro σ hσ x6 hn hm; exfalso; omega
  | succ n ih =>
    intro σ hσ x6 hn hm
    show zok (fX0_pass_38_body (fX0_pass_38 n) σ x2 x4 x6) (zIC G)
    unfold fX0_pass_38_body
    refine zok_ck (by decide) ?_
    refine zok_if (fun q => zok_ck (by decide) (zok_bv (fun v3 e3 => s_pass72_h h81 zfuel hσ (by decide) (by rw [e3]; unfold zfuel; omega)))) (fun q => ?_)
    have q1 : ¬ (x4 / 16).toInt ≤ x6.toInt := fun r => q (z_cmp_ge.mpr r)
    refine zok_bu (s_X0_addSample hσ) (fun σ1 i1 => ?_)
    refine zok_bv (fun v2 e2 => ?_)
    have l := Int64.toInt_lt (x4 / 16)
    have c1 : (1 : Int64).toInt = 1 := rfl
    have e3 : (x6 + 1).toInt = x6.toInt + 1 := by rw [Int64.toInt_add, c1]; exact z_bml (by have := Int64.le_toInt x6; omega) (by omega)
    exact ih i1 (by omega) (by rw [e2, e3]; omega)
theorem s_X0_pass {G : Nat → Int} {σ : zSt} (hσ : zIC G σ) {x1 : Int32} (h_x1 : zr (1) (31) x1) : zok (fX0_pass σ x1) (zIC G) := by
  unfold fX0_pass
  refine zok_ck rfl ?_
  refine zok_bv (fun v9 e9 => ?_)
  refine zok_bv (fun v10 e10 => ?_)
  refine zok_ck rfl ?_
  refine zok_bs (hσ.wl 0 0 (by decide) (by decide)) (fun σ11 e11 i11 => ?_)
  refine zok_ck rfl (zok_ck rfl ?_)
  refine zok_bs (i11.wl 1 1 (by decide) (by decide)) (fun σ12 e12 i12 => ?_)
  refine zok_ck (by decide) ?_
  refine zok_bv (fun v13 e13 => ?_)
  exact s_pass16_h (z_bt h_x1 e10 81 (by decide)) (z_bt h_x1 e10 72 (by decide)) zfuel i12 (by decide) (by have := z_bt h_x1 e10 16 (by decide); rw [e13]; unfold zfuel; omega)
