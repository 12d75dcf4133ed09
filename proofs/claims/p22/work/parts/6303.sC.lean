section ZJN0
theorem s_X3_fillBack_25 {G : Nat → Int} {σ : zSt} {k2 : zSt → Int32 → Int32 → Option (zSt)} {Mk2 : Int} (hk2 : ∀ (σ : zSt) (x1 : Int32) (x2 : Int32), zIC G σ → zr (0) (31) x1 → zr (0) (256) x2 → (256) - x2.toInt < Mk2 → zok (k2 σ x1 x2) (zIC G)) (hσ : zIC G σ) {x1 : Int32} (h_x1 : zr (0) (31) x1) {x2 : Int32} (h_x2 : zr (0) (255) x2) (hMk2 : (256) - x2.toInt ≤ Mk2) : zok (fX3_fillBack_25 k2 σ x1 x2) (zIC G) := by
  unfold fX3_fillBack_25
  refine zok_br (zr_add (lo := 1) (hi := 256) h_x2 (zr_c (lo := 1) (hi := 1) (by decide)) (by decide)) (fun v1 e2 h1 => ?_)
  exact hk2 _ _ _ hσ h_x1 (zr_w h1 (by decide)) (by rw [e2]; have := z_tadd (y := (1 : Int32)) h_x2 (zr_c (lo := 1) (hi := 1) (by decide)) (by decide); have e9 : (1 : Int32).toInt = 1 := rfl; omega) 
theorem s_X3_fillBack_2_body {G : Nat → Int} {σ : zSt} {k2 : zSt → Int32 → Int32 → Option (zSt)} {Mk2 : Int} (hk2 : ∀ (σ : zSt) (x1 : Int32) (x2 : Int32), zIC G σ → zr (0) (31) x1 → zr (0) (256) x2 → (256) - x2.toInt < Mk2 → zok (k2 σ x1 x2) (zIC G)) (hσ : zIC G σ) {x1 : Int32} (h_x1 : zr (0) (31) x1) {x2 : Int32} (h_x2 : zr (0) (256) x2) (hMk2 : (256) - x2.toInt ≤ Mk2) : zok (fX3_fillBack_2_body k2 σ x1 x2) (zIC G) := by
  unfold fX3_fillBack_2_body
  refine zok_if (fun q1 => ?_) (fun q1 => ?_)
  · have h2 := zc_ler (256) q1 (zr_c (lo := 256) (hi := 256) (by decide)) h_x2 (by decide)
    exact zok_some hσ
  have h3 := zc_ltl (255) (z_nle q1) h_x2 (zr_c (lo := 256) (hi := 256) (by decide)) (by decide)
  refine zok_ck (zin_ok h3 (by decide)) ?_
  refine zok_if (fun q4 => ?_) (fun q4 => ?_)
  · have h5 := zc_eql (0) (0) q4 zr_any (zr_c (lo := 0) (hi := 0) (by decide)) (by decide)
    refine zok_ck (zin_ok h3 (by decide)) ?_
    refine zok_bs (hσ.wk (by decide)) (fun σ2 e7 i6 => ?_)
    exact (s_X3_fillBack_25 hk2 i6 h_x1 h3 hMk2)
  exact (s_X3_fillBack_25 hk2 hσ h_x1 h3 hMk2)
theorem s_X3_fillBack_2 {G : Nat → Int} : ∀ (n : Nat) {σ : zSt} (hσ : zIC G σ) {x1 : Int32} (h_x1 : zr (0) (31) x1) {x2 : Int32} (h_x2 : zr (0) (256) x2) (hm : (256) - x2.toInt < n), zok (fX3_fillBack_2 n σ x1 x2) (zIC G) := by
  intro n
  induction n with
  | zero => intro σ hσ x1 h_x1 x2 h_x2 hm ; have h9 := h_x2.1; have h8 := h_x2.2; exfalso; omega
  | succ n ih => intro σ hσ x1 h_x1 x2 h_x2 hm ; exact s_X3_fillBack_2_body (fun σ x1 x2 hσ h_x1 h_x2 hm1 => ih hσ h_x1 h_x2 (by omega)) hσ h_x1 h_x2 (Int.le_refl _)
theorem s_X3_fillBack {G : Nat → Int} {σ : zSt} (hσ : zIC G σ) {x1 : Int32} (h_x1 : zr (0) (31) x1) : zok (fX3_fillBack σ x1) (zIC G) := by
  unfold fX3_fillBack
  exact (s_X3_fillBack_2 zfuel hσ h_x1 (zr_w (zr_c (lo := 0) (hi := 0) (by decide)) (by decide)) (by decide))
theorem s_X3_draw_21 {σ : zSt} (hσ : zPC σ) : zok (fX3_draw_21 σ ) (zPu σ) := by
  unfold fX3_draw_21
  exact zok_spu
theorem s_X3_draw_152_body {G : Nat → Int} {σ : zSt} {k152 : zSt → Int32 → Int32 → Option (zSt)} {Mk152 : Int} (hk152 : ∀ (σ : zSt) (x1 : Int32) (x4 : Int32), zIC G σ → zr (0) (239) x1 → zr (0) (256) x4 → (256) - x4.toInt < Mk152 → zok (k152 σ x1 x4) (zIC G)) (hσ : zIC G σ) {x1 : Int32} (h_x1 : zr (0) (239) x1) {x4 : Int32} (h_x4 : zr (0) (256) x4) (hMk152 : (256) - x4.toInt ≤ Mk152) : zok (fX3_draw_152_body k152 σ x1 x4) (zIC G) := by
  unfold fX3_draw_152_body
  refine zok_if (fun q1 => ?_) (fun q1 => ?_)
  · have h2 := zc_ler (256) q1 (zr_c (lo := 256) (hi := 256) (by decide)) h_x4 (by decide)
    exact zok_some hσ
  have h3 := zc_ltl (255) (z_nle q1) h_x4 (zr_c (lo := 256) (hi := 256) (by decide)) (by decide)
  refine zok_ck (zin_ok h3 (by decide)) ?_
  refine zok_ck (zin_ok (zr_andr (lo := 0) (hi := 31) (zr_c (lo := 31) (hi := 31) (by decide)) (by decide)) (by decide)) ?_
  refine zok_ck (zin_ok (zr_add (lo := 0) (hi := 61439) (zr_mul (lo := 0) (hi := 61184) h_x1 (zr_c (lo := 256) (hi := 256) (by decide)) (by decide)) h3 (by decide)) (by decide)) ?_
  refine zok_bs (hσ.wk (by decide)) (fun σ1 e5 i4 => ?_)
  refine zok_br (zr_add (lo := 1) (hi := 256) h3 (zr_c (lo := 1) (hi := 1) (by decide)) (by decide)) (fun v2 e7 h6 => ?_)
  exact hk152 _ _ _ i4 h_x1 (zr_w h6 (by decide)) (by rw [e7]; have := z_tadd (y := (1 : Int32)) h3 (zr_c (lo := 1) (hi := 1) (by decide)) (by decide); have e9 : (1 : Int32).toInt = 1 := rfl; omega) 
theorem s_X3_draw_152 {G : Nat → Int} : ∀ (n : Nat) {σ : zSt} (hσ : zIC G σ) {x1 : Int32} (h_x1 : zr (0) (239) x1) {x4 : Int32} (h_x4 : zr (0) (256) x4) (hm : (256) - x4.toInt < n), zok (fX3_draw_152 n σ x1 x4) (zIC G) := by
  intro n
  induction n with
  | zero => intro σ hσ x1 h_x1 x4 h_x4 hm ; have h9 := h_x4.1; have h8 := h_x4.2; exfalso; omega
  | succ n ih => intro σ hσ x1 h_x1 x4 h_x4 hm ; exact s_X3_draw_152_body (fun σ x1 x4 hσ h_x1 h_x4 hm1 => ih hσ h_x1 h_x4 (by omega)) hσ h_x1 h_x4 (Int.le_refl _)
theorem s_X3_draw_144 {G : Nat → Int} {σ : zSt} (hσ : zIC G σ) {x1 : Int32} (h_x1 : zr (0) (239) x1) {x2 : Int32} (h_x2 : zr (0) (4) x2) : zok (fX3_draw_144 σ x1 x2) (zIC G) := by
  unfold fX3_draw_144
  refine zok_bu (s_X3_mixColours hσ h_x2) (fun σ3 i1 => ?_)
  exact (s_X3_draw_152 zfuel i1 h_x1 (zr_w (zr_c (lo := 0) (hi := 0) (by decide)) (by decide)) (by decide))
theorem s_X3_draw_139 {G : Nat → Int} {σ : zSt} (hσ : zIC G σ) {x1 : Int32} (h_x1 : zr (0) (239) x1) {x2 : Int32} (h_x2 : zr (0) (3) x2) {x3 : Int32} (h_x3 : zr (0) (31) x3) : zok (fX3_draw_139 σ x1 x2 x3) (zIC G) := by
  unfold fX3_draw_139
  refine zok_bu (s_X3_fillBack hσ h_x3) (fun σ4 i1 => ?_)
  exact (s_X3_draw_144 i1 h_x1 (zr_w h_x2 (by decide)))
theorem s_X3_draw_41 {G : Nat → Int} {σ : zSt} (hσ : zIC G σ) {x1 : Int32} (h_x1 : zr (0) (239) x1) {x2 : Int32} (h_x2 : zr (0) (4) x2) {s0 : Int32} (h_s0 : zr (0) (16) s0) : zok (fX3_draw_41 σ x1 x2 s0) (zIC G) := by
  unfold fX3_draw_41
  refine zok_pi (s_X9_held hσ.P) (fun v6 h1 => ?_)
  refine zok_br (zr_add (lo := 0) (hi := 31) h_s0 (zr_andr (lo := 0) (hi := 15) (zr_c (lo := 15) (hi := 15) (by decide)) (by decide)) (by decide)) (fun v7 e3 h2 => ?_)
  refine zok_pi (s_X9_held hσ.P) (fun v9 h4 => ?_)
  refine zok_if (fun q5 => ?_) (fun q5 => ?_)
  · have h6 := zc_eql (0) (0) q5 (zr_andr (lo := 0) (hi := 64) (zr_c (lo := 64) (hi := 64) (by decide)) (by decide)) (zr_c (lo := 0) (hi := 0) (by decide)) (by decide)
    refine zok_bu (s_J7_fill_53178_k27 hσ h2) (fun σ17 i7 => ?_)
    exact (s_X3_draw_144 i7 h_x1 h_x2)
  have h8 := zc_nel (1) (64) q5 (zr_andr (lo := 0) (hi := 64) (zr_c (lo := 64) (hi := 64) (by decide)) (by decide)) (zr_c (lo := 0) (hi := 0) (by decide)) (by decide)
  refine zok_if (fun q9 => ?_) (fun q9 => ?_)
  · have h10 := zc_eql (4) (4) q9 h_x2 (zr_c (lo := 4) (hi := 4) (by decide)) (by decide)
    refine zok_bu (s_X3_drawTiles hσ h_x1) (fun σ12 i11 => ?_)
    refine zok_bu (s_X3_drawSprites i11 h_x1) (fun σ13 i12 => ?_)
    refine zok_pi (s_X9_held i12.P) (fun v15 h13 => ?_)
    refine zok_if (fun q14 => ?_) (fun q14 => ?_)
    · have h15 := zc_eql (0) (0) q14 (zr_andr (lo := 0) (hi := 32) (zr_c (lo := 32) (hi := 32) (by decide)) (by decide)) (zr_c (lo := 0) (hi := 0) (by decide)) (by decide)
      exact (s_X3_draw_144 i12 h_x1 (zr_w h10 (by decide)))
    have h16 := zc_nel (1) (32) q14 (zr_andr (lo := 0) (hi := 32) (zr_c (lo := 32) (hi := 32) (by decide)) (by decide)) (zr_c (lo := 0) (hi := 0) (by decide)) (by decide)
    refine zok_bu (s_J7_fill_fda19_k27 i12 (zr_c (lo := 0) (hi := 0) (by decide)) (zr_c (lo := 8) (hi := 8) (by decide)) h2) (fun σ16 i17 => ?_)
    exact (s_X3_draw_144 i17 h_x1 (zr_w h10 (by decide)))
  have h18 := zc_nel (0) (3) q9 h_x2 (zr_c (lo := 4) (hi := 4) (by decide)) (by decide)
  refine zok_bu (s_X3_drawOld hσ h18 h_x1) (fun σ10 i19 => ?_)
  refine zok_if (fun q20 => ?_) (fun q20 => ?_)
  · have h21 := zc_eql (1) (1) q20 h18 (zr_c (lo := 1) (hi := 1) (by decide)) (by decide)
    exact (s_X3_draw_139 i19 h_x1 (zr_w h21 (by decide)) h2)
  refine zok_bu (s_X3_drawOldSprites i19 h_x1) (fun σ11 i22 => ?_)
  exact (s_X3_draw_139 i22 h_x1 h18 h2)
theorem s_X3_draw {G : Nat → Int} {σ : zSt} (hσ : zIC G σ) : zok (fX3_draw σ ) (zIC G) := by
  unfold fX3_draw
  refine zok_pi (s_X9_held hσ.P) (fun v19 h1 => ?_)
  refine zok_if (fun q2 => ?_) (fun q2 => ?_)
  · have h3 := zc_ltl (-1) q2 zr_any (zr_c (lo := 0) (hi := 0) (by decide)) (by decide)
    exact zok_pau hσ (s_X3_draw_21 hσ.P)
  have h4 := zc_ler (0) (z_nlt q2) (zr_c (lo := 0) (hi := 0) (by decide)) zr_any (by decide)
  refine zok_if (fun q5 => ?_) (fun q5 => ?_)
  · have h6 := zc_ltl (239) q5 h4 (zr_c (lo := 240) (hi := 240) (by decide)) (by decide)
    refine zok_pi (s_X9_mode hσ.P) (fun v21 h7 => ?_)
    refine zok_if (fun q8 => ?_) (fun q8 => ?_)
    · have h9 := zc_eql (4) (4) q8 h7 (zr_c (lo := 4) (hi := 4) (by decide)) (by decide)
      exact (s_X3_draw_41 hσ h6 (zr_w h9 (by decide)) (zr_w (zr_c (lo := 16) (hi := 16) (by decide)) (by decide)))
    have h10 := zc_nel (0) (3) q8 h7 (zr_c (lo := 4) (hi := 4) (by decide)) (by decide)
    exact (s_X3_draw_41 hσ h6 (zr_w h10 (by decide)) (zr_w (zr_c (lo := 0) (hi := 0) (by decide)) (by decide)))
  have h11 := zc_ler (240) (z_nlt q5) (zr_c (lo := 240) (hi := 240) (by decide)) h4 (by decide)
  exact zok_pau hσ (s_X3_draw_21 hσ.P)
theorem s_X4_clear {G : Nat → Int} {σ : zSt} (hσ : zIC G σ) : zok (fX4_clear σ ) (zIC G) := by
  unfold fX4_clear
  refine zok_ck rfl ?_
  refine zok_bs (hσ.wi 0 0 (by decide) (zr_c (lo := 255) (hi := 255) (by decide)) (by decide +kernel)) (fun σ1 e2 i1 => ?_)
  refine zok_ck rfl ?_
  refine zok_bs (i1.wi 1 1 (by decide) (zr_c (lo := 127) (hi := 127) (by decide)) (by decide +kernel)) (fun σ2 e4 i3 => ?_)
  refine zok_ck rfl ?_
  refine zok_bs (i3.wi 2 2 (by decide) (zr_c (lo := 255) (hi := 255) (by decide)) (by decide +kernel)) (fun σ3 e6 i5 => ?_)
  refine zok_ck rfl ?_
  refine zok_bs (i5.wi 3 3 (by decide) (zr_c (lo := 0) (hi := 0) (by decide)) (by decide +kernel)) (fun σ4 e8 i7 => ?_)
  refine zok_ck rfl ?_
  refine zok_bs (i7.wi 4 4 (by decide) (zr_c (lo := 255) (hi := 255) (by decide)) (by decide +kernel)) (fun σ5 e10 i9 => ?_)
  refine zok_ck rfl ?_
  refine zok_bs (i9.wi 5 5 (by decide) (zr_c (lo := 0) (hi := 0) (by decide)) (by decide +kernel)) (fun σ6 e12 i11 => ?_)
  refine zok_ck rfl ?_
  refine zok_bs (i11.wi 6 6 (by decide) (zr_c (lo := 0) (hi := 0) (by decide)) (by decide +kernel)) (fun σ7 e14 i13 => ?_)
  exact zok_some i13
theorem s_X4_keep {G : Nat → Int} {σ : zSt} (hσ : zIC G σ) : zok (fX4_keep σ ) (zIC G) := by
  unfold fX4_keep
  refine zok_ck (by decide) ?_
  refine zok_bs (hσ.wc (by decide +kernel) rfl rfl) (fun σ1 e2 i1 => ?_)
  exact zok_some i1
theorem s_X4_bringBack {G : Nat → Int} {σ : zSt} (hσ : zIC G σ) : zok (fX4_bringBack σ ) (zIC G) := by
  unfold fX4_bringBack
  refine zok_ck (by decide) ?_
  refine zok_bs (hσ.wc (by decide +kernel) rfl rfl) (fun σ1 e2 i1 => ?_)
  exact zok_some i1
theorem s_X4_value_20 {σ : zSt} (hσ : zPC σ) {s0 : Int32} (h_s0 : zr (0) (255) s0) : zok (fX4_value_20 σ s0) (zPi σ (fun v : Int32 => zr (0) (255) v)) := by
  unfold fX4_value_20
  exact zok_spi h_s0
theorem s_X4_value {σ : zSt} (hσ : zPC σ) {x1 : Int32} (h_x1 : zr (0) (6) x1) : zok (fX4_value σ x1) (zPi σ (fun v : Int32 => zr (0) (255) v)) := by
  unfold fX4_value
  refine zok_if (fun q1 => ?_) (fun q1 => ?_)
  · exact zr_no (zc_ltl (-1) q1 h_x1 (zr_c (lo := 0) (hi := 0) (by decide)) (by decide)) (by decide)
  refine zok_if (fun q2 => ?_) (fun q2 => ?_)
  · exact zr_no (zc_lel (6) q2 (zr_c (lo := 12) (hi := 12) (by decide)) h_x1 (by decide)) (by decide)
  refine zok_ck (zin_ok h_x1 (by decide)) ?_
  exact (s_X4_value_20 hσ (rC_55 hσ.sg _ (z_ix h_x1 (by decide))))
theorem s_X4_canPress_24 {σ : zSt} (hσ : zPC σ) {s0 : Int32} (h_s0 : zr (0) (1) s0) : zok (fX4_canPress_24 σ s0) (zPi σ (fun v : Int32 => zr (0) (1) v)) := by
  unfold fX4_canPress_24
  refine zok_ck (zbo_ok h_s0 (by decide)) ?_
  exact zok_spi h_s0
theorem s_X4_canPress_23 {σ : zSt} (hσ : zPC σ) : zok (fX4_canPress_23 σ ) (zPi σ (fun v : Int32 => zr (0) (1) v)) := by
  unfold fX4_canPress_23
  exact (s_X4_canPress_24 hσ (zr_w (zr_c (lo := 0) (hi := 0) (by decide)) (by decide)))
theorem s_X4_canPress {σ : zSt} (hσ : zPC σ) {x0 : Int32} {x1 : Int32} : zok (fX4_canPress σ x0 x1) (zPi σ (fun v : Int32 => zr (0) (1) v)) := by
  unfold fX4_canPress
  refine zok_if (fun q1 => ?_) (fun q1 => ?_)
  · have h2 := zc_ltl (-1) q1 zr_any (zr_c (lo := 0) (hi := 0) (by decide)) (by decide)
    exact (s_X4_canPress_23 hσ)
  have h3 := zc_ler (0) (z_nlt q1) (zr_c (lo := 0) (hi := 0) (by decide)) zr_any (by decide)
  refine zok_if (fun q4 => ?_) (fun q4 => ?_)
  · have h5 := zc_ltr (2) q4 (zr_c (lo := 1) (hi := 1) (by decide)) h3 (by decide)
    exact (s_X4_canPress_23 hσ)
  have h6 := zc_lel (1) (z_nlt q4) h3 (zr_c (lo := 1) (hi := 1) (by decide)) (by decide)
  refine zok_if (fun q7 => ?_) (fun q7 => ?_)
  · have h8 := zc_ltl (-1) q7 zr_any (zr_c (lo := 0) (hi := 0) (by decide)) (by decide)
    exact (s_X4_canPress_23 hσ)
  have h9 := zc_ler (0) (z_nlt q7) (zr_c (lo := 0) (hi := 0) (by decide)) zr_any (by decide)
  refine zok_if (fun q10 => ?_) (fun q10 => ?_)
  · have h11 := zc_ltr (64) q10 (zr_c (lo := 63) (hi := 63) (by decide)) h9 (by decide)
    exact (s_X4_canPress_23 hσ)
  have h12 := zc_lel (63) (z_nlt q10) h9 (zr_c (lo := 63) (hi := 63) (by decide)) (by decide)
  exact (s_X4_canPress_24 hσ (zr_w (zr_c (lo := 1) (hi := 1) (by decide)) (by decide)))
theorem s_X4_holdStart_15 {G : Nat → Int} {σ : zSt} (hσ : zIC G σ) {s0 : Int32} (h_s0 : zr (0) (1) s0) {s1 : Int32} (h_s1 : zr (9) (9) s1) : zok (fX4_holdStart_15 σ s0 s1) (zIC G) := by
  unfold fX4_holdStart_15
  refine zok_ck (zin_ok h_s1 (by decide)) ?_
  refine zok_bs (hσ.wi 9 9 (z_ix h_s1 (by decide)) h_s0 (by decide +kernel)) (fun σ1 e2 i1 => ?_)
  exact zok_some i1
theorem s_X4_holdStart {G : Nat → Int} {σ : zSt} (hσ : zIC G σ) {x1 : Int32} (h_x1 : zr (0) (1) x1) : zok (fX4_holdStart σ x1) (zIC G) := by
  unfold fX4_holdStart
  refine zok_if (fun q1 => ?_) (fun q1 => ?_)
  · have h2 := zc_eql (0) (0) q1 h_x1 (zr_c (lo := 0) (hi := 0) (by decide)) (by decide)
    exact (s_X4_holdStart_15 hσ (zr_w (zr_c (lo := 0) (hi := 0) (by decide)) (by decide)) (zr_c (lo := 9) (hi := 9) (by decide)))
  have h3 := zc_nel (1) (1) q1 h_x1 (zr_c (lo := 0) (hi := 0) (by decide)) (by decide)
  exact (s_X4_holdStart_15 hσ (zr_w (zr_c (lo := 1) (hi := 1) (by decide)) (by decide)) (zr_c (lo := 9) (hi := 9) (by decide)))
theorem s_X4_lines_52 {σ : zSt} (hσ : zPC σ) {x2 : Int32} (h_x2 : zr (0) (1) x2) {s0 : Int32} (h_s0 : zr (0) (1) s0) : zok (fX4_lines_52 σ x2 s0) (zPi σ (fun v : Int32 => zr (0) (3) v)) := by
  unfold fX4_lines_52
  exact zok_spi (zr_or (lo := 0) (hi := 3) 2 h_x2 (zr_shl (lo := 0) (hi := 2) 1 (by decide) h_s0 (by decide)) (by decide))
theorem s_X4_lines_28 {σ : zSt} (hσ : zPC σ) {x1 : Int32} (h_x1 : zr (0) (255) x1) {s0 : Int32} (h_s0 : zr (0) (1) s0) : zok (fX4_lines_28 σ x1 s0) (zPi σ (fun v : Int32 => zr (0) (3) v)) := by
  unfold fX4_lines_28
  refine zok_if (fun q1 => ?_) (fun q1 => ?_)
  · have h2 := zc_eql (0) (0) q1 (zr_andr (lo := 0) (hi := 8) (zr_c (lo := 8) (hi := 8) (by decide)) (by decide)) (zr_c (lo := 0) (hi := 0) (by decide)) (by decide)
    exact (s_X4_lines_52 hσ h_s0 (zr_andr (lo := 0) (hi := 1) (zr_c (lo := 1) (hi := 1) (by decide)) (by decide)))
  have h3 := zc_nel (1) (8) q1 (zr_andr (lo := 0) (hi := 8) (zr_c (lo := 8) (hi := 8) (by decide)) (by decide)) (zr_c (lo := 0) (hi := 0) (by decide)) (by decide)
  refine zok_ck rfl ?_
  exact (s_X4_lines_52 hσ h_s0 (rC_56 hσ.sg _ (by decide)))
theorem s_X4_lines {σ : zSt} (hσ : zPC σ) : zok (fX4_lines σ ) (zPi σ (fun v : Int32 => zr (0) (3) v)) := by
  unfold fX4_lines
  refine zok_ck rfl ?_
  refine zok_br (rC_55 hσ.sg _ (by decide)) (fun v1 e2 h1 => ?_)
  refine zok_if (fun q3 => ?_) (fun q3 => ?_)
  · have h4 := zc_eql (0) (0) q3 (zr_andr (lo := 0) (hi := 2) (zr_c (lo := 2) (hi := 2) (by decide)) (by decide)) (zr_c (lo := 0) (hi := 0) (by decide)) (by decide)
    exact (s_X4_lines_28 hσ h1 (zr_andr (lo := 0) (hi := 1) (zr_c (lo := 1) (hi := 1) (by decide)) (by decide)))
  have h5 := zc_nel (1) (2) q3 (zr_andr (lo := 0) (hi := 2) (zr_c (lo := 2) (hi := 2) (by decide)) (by decide)) (zr_c (lo := 0) (hi := 0) (by decide)) (by decide)
  refine zok_ck rfl ?_
  exact (s_X4_lines_28 hσ h1 (rC_56 hσ.sg _ (by decide)))
theorem s_X9_hCount_27 {σ : zSt} (hσ : zPC σ) {s0 : Int32} (h_s0 : zr (0) (255) s0) : zok (fX9_hCount_27 σ s0) (zPi σ (fun v : Int32 => zr (0) (255) v)) := by
  unfold fX9_hCount_27
  exact zok_spi h_s0
theorem s_X9_hCount {σ : zSt} (hσ : zPC σ) : zok (fX9_hCount σ ) (zPi σ (fun v : Int32 => zr (0) (255) v)) := by
  unfold fX9_hCount
  refine zok_ck rfl ?_
  refine zok_ck (by decide) ?_
  refine zok_br (zr_div (lo := 0) (hi := 170) 4 (by decide) (zr_mul (lo := 0) (hi := 681) (rC_42 hσ.sg _ (by decide)) (zr_c (lo := 3) (hi := 3) (by decide)) (by decide)) (by decide)) (fun v1 e2 h1 => ?_)
  refine zok_if (fun q3 => ?_) (fun q3 => ?_)
  · have h4 := zc_ltl (147) q3 h1 (zr_c (lo := 148) (hi := 148) (by decide)) (by decide)
    exact (s_X9_hCount_27 hσ (zr_w h4 (by decide)))
  have h5 := zc_ler (148) (z_nlt q3) (zr_c (lo := 148) (hi := 148) (by decide)) h1 (by decide)
  exact (s_X9_hCount_27 hσ (zr_w (zr_add (lo := 233) (hi := 255) h5 (zr_c (lo := 85) (hi := 85) (by decide)) (by decide)) (by decide)))
theorem s_X4_changeLines_37 {σ : zSt} (hσ : zPC σ) : zok (fX4_changeLines_37 σ ) (zPu σ) := by
  unfold fX4_changeLines_37
  exact zok_spu
theorem s_X4_changeLines {G : Nat → Int} {σ : zSt} (hσ : zIC G σ) {x1 : Int32} (h_x1 : zr (10) (11) x1) {x2 : Int32} (h_x2 : zr (0) (1) x2) : zok (fX4_changeLines σ x1 x2) (zIC G) := by
  unfold fX4_changeLines
  refine zok_pi (s_X4_lines hσ.P) (fun v2 h1 => ?_)
  refine zok_ck (zin_ok h_x1 (by decide)) ?_
  refine zok_bs (hσ.wi 10 11 (z_ix h_x1 (by decide)) h_x2 (by decide +kernel)) (fun σ3 e3 i2 => ?_)
  refine zok_pi (s_X4_lines i2.P) (fun v5 h4 => ?_)
  refine zok_if (fun q5 => ?_) (fun q5 => ?_)
  · have h6 := zc_eql (0) (0) q5 (zr_andl (lo := 0) (hi := 3) h4 (by decide)) (zr_c (lo := 0) (hi := 0) (by decide)) (by decide)
    exact zok_pau i2 (s_X4_changeLines_37 i2.P)
  have h7 := zc_nel (1) (3) q5 (zr_andl (lo := 0) (hi := 3) h4 (by decide)) (zr_c (lo := 0) (hi := 0) (by decide)) (by decide)
  refine zok_pi (s_X9_hCount i2.P) (fun v7 h8 => ?_)
  refine zok_ck rfl ?_
  refine zok_bs (i2.wi 6 6 (by decide) h8 (by decide +kernel)) (fun σ8 e10 i9 => ?_)
  exact zok_pau i9 (s_X4_changeLines_37 i9.P)
theorem s_X4_changeLines__0 {G : Nat → Int} {σ : zSt} (hσ : zIC G σ) {x1 : Int32} (h_x1 : zr (0) (0) x1) {x2 : Int32} (h_x2 : zr (0) (255) x2) : zok (fX4_changeLines σ x1 x2) (zIC G) := by
  unfold fX4_changeLines
  refine zok_pi (s_X4_lines hσ.P) (fun v2 h1 => ?_)
  refine zok_ck (zin_ok h_x1 (by decide)) ?_
  refine zok_bs (hσ.wi 0 0 (z_ix h_x1 (by decide)) h_x2 (by decide +kernel)) (fun σ3 e3 i2 => ?_)
  refine zok_pi (s_X4_lines i2.P) (fun v5 h4 => ?_)
  refine zok_if (fun q5 => ?_) (fun q5 => ?_)
  · have h6 := zc_eql (0) (0) q5 (zr_andl (lo := 0) (hi := 3) h4 (by decide)) (zr_c (lo := 0) (hi := 0) (by decide)) (by decide)
    exact zok_pau i2 (s_X4_changeLines_37 i2.P)
  have h7 := zc_nel (1) (3) q5 (zr_andl (lo := 0) (hi := 3) h4 (by decide)) (zr_c (lo := 0) (hi := 0) (by decide)) (by decide)
  refine zok_pi (s_X9_hCount i2.P) (fun v7 h8 => ?_)
  refine zok_ck rfl ?_
  refine zok_bs (i2.wi 6 6 (by decide) h8 (by decide +kernel)) (fun σ8 e10 i9 => ?_)
  exact zok_pau i9 (s_X4_changeLines_37 i9.P)
theorem s_X4_moveLine_16 {G : Nat → Int} {σ : zSt} (hσ : zIC G σ) {s0 : Int32} (h_s0 : zr (0) (1) s0) {s1 : Int32} (h_s1 : zr (10) (11) s1) : zok (fX4_moveLine_16 σ s0 s1) (zIC G) := by
  unfold fX4_moveLine_16
  refine zok_bu (s_X4_changeLines hσ h_s1 h_s0) (fun σ1 i1 => ?_)
  exact zok_some i1
theorem s_X4_moveLine {G : Nat → Int} {σ : zSt} (hσ : zIC G σ) {x1 : Int32} (h_x1 : zr (0) (1) x1) {x2 : Int32} (h_x2 : zr (0) (1) x2) : zok (fX4_moveLine σ x1 x2) (zIC G) := by
  unfold fX4_moveLine
  refine zok_if (fun q1 => ?_) (fun q1 => ?_)
  · have h2 := zc_eql (0) (0) q1 h_x2 (zr_c (lo := 0) (hi := 0) (by decide)) (by decide)
    exact (s_X4_moveLine_16 hσ (zr_w (zr_c (lo := 0) (hi := 0) (by decide)) (by decide)) (zr_add (lo := 10) (hi := 11) (zr_c (lo := 10) (hi := 10) (by decide)) (zr_andr (lo := 0) (hi := 1) (zr_c (lo := 1) (hi := 1) (by decide)) (by decide)) (by decide)))
  have h3 := zc_nel (1) (1) q1 h_x2 (zr_c (lo := 0) (hi := 0) (by decide)) (by decide)
  exact (s_X4_moveLine_16 hσ (zr_w (zr_c (lo := 1) (hi := 1) (by decide)) (by decide)) (zr_add (lo := 10) (hi := 11) (zr_c (lo := 10) (hi := 10) (by decide)) (zr_andr (lo := 0) (hi := 1) (zr_c (lo := 1) (hi := 1) (by decide)) (by decide)) (by decide)))
theorem s_X10_value {σ : zSt} (hσ : zPC σ) {x1 : Int32} : zok (fX10_value σ x1) (zPi σ (fun v : Int32 => True)) := by
  unfold fX10_value
  refine zok_if (fun q1 => ?_) (fun q1 => ?_)
  · have h2 := zc_ltl (-1) q1 zr_any (zr_c (lo := 0) (hi := 0) (by decide)) (by decide)
    unfold fX10_value_11
    exact zok_spi trivial
  have h3 := zc_ler (0) (z_nlt q1) (zr_c (lo := 0) (hi := 0) (by decide)) zr_any (by decide)
  refine zok_if (fun q4 => ?_) (fun q4 => ?_)
  · have h5 := zc_ltl (271) q4 h3 (zr_c (lo := 272) (hi := 272) (by decide)) (by decide)
    refine zok_if (fun q6 => ?_) (fun q6 => ?_)
    · have h7 := zc_eql (66) (66) q6 h5 (zr_c (lo := 66) (hi := 66) (by decide)) (by decide)
      refine zok_ck rfl ?_
      unfold fX10_value_38
      exact zok_spi trivial
    refine zok_ck (zin_ok h5 (by decide)) ?_
    unfold fX10_value_38
    exact zok_spi trivial
  have h8 := zc_ler (272) (z_nlt q4) (zr_c (lo := 272) (hi := 272) (by decide)) h3 (by decide)
  unfold fX10_value_11
  exact zok_spi trivial
theorem s_X10_value__64 {σ : zSt} (hσ : zPC σ) {x1 : Int32} (h_x1 : zr (64) (64) x1) : zok (fX10_value σ x1) (zPi σ (fun v : Int32 => zr (0) (3) v)) := by
  unfold fX10_value
  refine zok_if (fun q1 => ?_) (fun q1 => ?_)
  · exact zr_no (zc_ltl (-1) q1 h_x1 (zr_c (lo := 0) (hi := 0) (by decide)) (by decide)) (by decide)
  refine zok_if (fun q2 => ?_) (fun q2 => ?_)
  · refine zok_if (fun q3 => ?_) (fun q3 => ?_)
    · have h4 := zc_eql (66) (64) q3 h_x1 (zr_c (lo := 66) (hi := 66) (by decide)) (by decide)
      exact zr_no h4 (by decide)
    refine zok_ck (zin_ok h_x1 (by decide)) ?_
    unfold fX10_value_38
    exact zok_spi (rC_61 hσ.sg _ (z_ix h_x1 (by decide)))
  exact zr_no (zc_lel (64) (z_nlt q2) (zr_c (lo := 272) (hi := 272) (by decide)) h_x1 (by decide)) (by decide)
theorem s_X4_readEvenPads_56 {σ : zSt} (hσ : zPC σ) {s0 : Int32} (h_s0 : zr (0) (255) s0) : zok (fX4_readEvenPads_56 σ s0) (zPi σ (fun v : Int32 => zr (0) (255) v)) := by
  unfold fX4_readEvenPads_56
  exact zok_spi h_s0
theorem s_X4_readEvenPads {σ : zSt} (hσ : zPC σ) : zok (fX4_readEvenPads σ ) (zPi σ (fun v : Int32 => zr (0) (255) v)) := by
  unfold fX4_readEvenPads
  refine zok_ck rfl ?_
  refine zok_ck rfl ?_
  refine zok_br (zr_andr (lo := 0) (hi := 255) (zr_c (lo := 255) (hi := 255) (by decide)) (by decide)) (fun v1 e2 h1 => ?_)
  refine zok_ck rfl ?_
  refine zok_if (fun q3 => ?_) (fun q3 => ?_)
  · have h4 := zc_eql (0) (0) q3 (zr_andr (lo := 0) (hi := 1) (zr_c (lo := 1) (hi := 1) (by decide)) (by decide)) (zr_c (lo := 0) (hi := 0) (by decide)) (by decide)
    refine zok_ck rfl ?_
    exact (s_X4_readEvenPads_56 hσ (zr_or (lo := 0) (hi := 255) 8 (zr_andl (lo := 0) (hi := 255) h1 (by decide)) (zr_shl (lo := 0) (hi := 32) 1 (by decide) (zr_andr (lo := 0) (hi := 16) (zr_c (lo := 16) (hi := 16) (by decide)) (by decide)) (by decide)) (by decide)))
  have h5 := zc_nel (1) (1) q3 (zr_andr (lo := 0) (hi := 1) (zr_c (lo := 1) (hi := 1) (by decide)) (by decide)) (zr_c (lo := 0) (hi := 0) (by decide)) (by decide)
  exact (s_X4_readEvenPads_56 hσ h1)
theorem s_X4_readOddPads_57 {σ : zSt} (hσ : zPC σ) {s0 : Int32} (h_s0 : zr (0) (255) s0) : zok (fX4_readOddPads_57 σ s0) (zPi σ (fun v : Int32 => zr (0) (255) v)) := by
  unfold fX4_readOddPads_57
  exact zok_spi h_s0
theorem s_X4_readOddPads {σ : zSt} (hσ : zPC σ) : zok (fX4_readOddPads σ ) (zPi σ (fun v : Int32 => zr (0) (255) v)) := by
  unfold fX4_readOddPads
  refine zok_ck rfl ?_
  refine zok_pi (s_X4_lines hσ) (fun v2 h1 => ?_)
  refine zok_br (zr_or (lo := 0) (hi := 255) 8 (zr_or (lo := 0) (hi := 63) 6 (zr_andr (lo := 0) (hi := 15) (zr_c (lo := 15) (hi := 15) (by decide)) (by decide)) (zr_c (lo := 48) (hi := 48) (by decide)) (by decide)) (zr_shl (lo := 0) (hi := 192) 6 (by decide) h1 (by decide)) (by decide)) (fun v3 e3 h2 => ?_)
  refine zok_ck rfl ?_
  refine zok_if (fun q4 => ?_) (fun q4 => ?_)
  · have h5 := zc_eql (0) (0) q4 (zr_andr (lo := 0) (hi := 4) (zr_c (lo := 4) (hi := 4) (by decide)) (by decide)) (zr_c (lo := 0) (hi := 0) (by decide)) (by decide)
    refine zok_ck rfl ?_
    exact (s_X4_readOddPads_57 hσ (zr_or (lo := 0) (hi := 255) 8 (zr_andl (lo := 0) (hi := 255) h2 (by decide)) (zr_shr (lo := 0) (hi := 8) 3 (by decide) (zr_andr (lo := 0) (hi := 64) (zr_c (lo := 64) (hi := 64) (by decide)) (by decide)) (by decide)) (by decide)))
  have h6 := zc_nel (1) (4) q4 (zr_andr (lo := 0) (hi := 4) (zr_c (lo := 4) (hi := 4) (by decide)) (by decide)) (zr_c (lo := 0) (hi := 0) (by decide)) (by decide)
  exact (s_X4_readOddPads_57 hσ h2)
theorem s_X9_readAhead {G : Nat → Int} {σ : zSt} (hσ : zIC G σ) : zok (fX9_readAhead σ ) (zIC G) := by
  unfold fX9_readAhead
  refine zok_ck rfl ?_
  refine zok_ck (zin_ok (zr_andr (lo := 0) (hi := 16383) (zr_c (lo := 16383) (hi := 16383) (by decide)) (by decide)) (by decide)) ?_
  refine zok_ck rfl ?_
  refine zok_bs (hσ.wi 13 13 (by decide) (rC_19 hσ.sg _ (z_ix (zr_andr (lo := 0) (hi := 16383) (zr_c (lo := 16383) (hi := 16383) (by decide)) (by decide)) (by decide))) (by decide +kernel)) (fun σ1 e2 i1 => ?_)
  refine zok_ck rfl ?_
  refine zok_ck rfl ?_
  refine zok_bs (i1.wi 11 11 (by decide) (zr_andr (lo := 0) (hi := 16383) (zr_c (lo := 16383) (hi := 16383) (by decide)) (by decide)) (by decide +kernel)) (fun σ2 e4 i3 => ?_)
  exact zok_some i3
theorem s_X9_readData {G : Nat → Int} {σ : zSt} (hσ : zIC G σ) : zok (fX9_readData σ ) (zAi (zIC G) (fun v : Int32 => zr (0) (255) v)) := by
  unfold fX9_readData
  refine zok_ck rfl ?_
  refine zok_br (rC_38 hσ.sg _ (by decide)) (fun v1 e2 h1 => ?_)
  refine zok_ck rfl ?_
  refine zok_bs (hσ.wi 14 14 (by decide) (zr_c (lo := 0) (hi := 0) (by decide)) (by decide +kernel)) (fun σ2 e4 i3 => ?_)
  refine zok_bu (s_X9_readAhead i3) (fun σ3 i5 => ?_)
  exact zok_sai i5 h1
theorem s_X9_readStatus {G : Nat → Int} {σ : zSt} (hσ : zIC G σ) : zok (fX9_readStatus σ ) (zAi (zIC G) (fun v : Int32 => zr (0) (255) v)) := by
  unfold fX9_readStatus
  refine zok_ck rfl ?_
  refine zok_br (rC_40 hσ.sg _ (by decide)) (fun v1 e2 h1 => ?_)
  refine zok_ck rfl ?_
  refine zok_bs (hσ.wi 14 14 (by decide) (zr_c (lo := 0) (hi := 0) (by decide)) (by decide +kernel)) (fun σ2 e4 i3 => ?_)
  refine zok_ck rfl ?_
  refine zok_bs (i3.wi 15 15 (by decide) (zr_c (lo := 0) (hi := 0) (by decide)) (by decide +kernel)) (fun σ3 e6 i5 => ?_)
  refine zok_ck rfl ?_
  refine zok_bs (i5.wi 16 16 (by decide) (zr_c (lo := 0) (hi := 0) (by decide)) (by decide +kernel)) (fun σ4 e8 i7 => ?_)
  exact zok_sai i7 h1
theorem s_X9_vCount_137 {σ : zSt} (hσ : zPC σ) {s0 : Int32} : zok (fX9_vCount_137 σ s0) (zPi σ (fun v : Int32 => zr (0) (255) v)) := by
  unfold fX9_vCount_137
  exact zok_spi (zr_andr (lo := 0) (hi := 255) (zr_c (lo := 255) (hi := 255) (by decide)) (by decide))
theorem s_X9_vCount_136 {σ : zSt} (hσ : zPC σ) {s0 : Int32} (h_s0 : zr (6) (57) s0) {s1 : Int32} : zok (fX9_vCount_136 σ s0 s1) (zPi σ (fun v : Int32 => zr (0) (255) v)) := by
  unfold fX9_vCount_136
  exact (s_X9_vCount_137 hσ)
theorem s_X9_vCount_97 {σ : zSt} (hσ : zPC σ) {x2 : Int32} (h_x2 : zr (0) (1) x2) {x3 : Int32} : zok (fX9_vCount_97 σ x2 x3) (zPi σ (fun v : Int32 => zr (0) (255) v)) := by
  unfold fX9_vCount_97
  refine zok_ck rfl ?_
  refine zok_if (fun q1 => ?_) (fun q1 => ?_)
  · refine zok_ck rfl ?_
    refine zok_if (fun q2 => ?_) (fun q2 => ?_)
    · have h3 := zc_eql (0) (0) q2 h_x2 (zr_c (lo := 0) (hi := 0) (by decide)) (by decide)
      exact (s_X9_vCount_136 hσ (zr_w (zr_c (lo := 6) (hi := 6) (by decide)) (by decide)))
    have h4 := zc_nel (1) (1) q2 h_x2 (zr_c (lo := 0) (hi := 0) (by decide)) (by decide)
    exact (s_X9_vCount_136 hσ (zr_w (zr_c (lo := 57) (hi := 57) (by decide)) (by decide)))
  have h5 := zc_ltl (2147483646) (z_nle q1) zr_any zr_any (by decide)
  have h6 := zc_ltr (-2147483647) (z_nle q1) zr_any zr_any (by decide)
  refine zok_ck rfl ?_
  exact (s_X9_vCount_137 hσ)
theorem s_X9_vCount_96 {σ : zSt} (hσ : zPC σ) {x2 : Int32} (h_x2 : zr (0) (1) x2) {s0 : Int32} : zok (fX9_vCount_96 σ x2 s0) (zPi σ (fun v : Int32 => zr (0) (255) v)) := by
  unfold fX9_vCount_96
  exact (s_X9_vCount_97 hσ h_x2)
theorem s_X9_vCount_78 {σ : zSt} (hσ : zPC σ) {x2 : Int32} (h_x2 : zr (0) (1) x2) {s0 : Int32} (h_s0 : zr (235) (259) s0) : zok (fX9_vCount_78 σ x2 s0) (zPi σ (fun v : Int32 => zr (0) (255) v)) := by
  unfold fX9_vCount_78
  exact (s_X9_vCount_97 hσ h_x2)
theorem s_X9_vCount_61 {σ : zSt} (hσ : zPC σ) {x2 : Int32} (h_x2 : zr (0) (1) x2) {s0 : Int32} (h_s0 : zr (219) (243) s0) : zok (fX9_vCount_61 σ x2 s0) (zPi σ (fun v : Int32 => zr (0) (255) v)) := by
  unfold fX9_vCount_61
  exact (s_X9_vCount_97 hσ h_x2)
theorem s_X9_vCount_20 {σ : zSt} (hσ : zPC σ) {x1 : Int32} (h_x1 : zr (192) (240) x1) {s0 : Int32} (h_s0 : zr (0) (1) s0) : zok (fX9_vCount_20 σ x1 s0) (zPi σ (fun v : Int32 => zr (0) (255) v)) := by
  unfold fX9_vCount_20
  refine zok_if (fun q1 => ?_) (fun q1 => ?_)
  · have h2 := zc_eql (192) (192) q1 h_x1 (zr_c (lo := 192) (hi := 192) (by decide)) (by decide)
    refine zok_if (fun q3 => ?_) (fun q3 => ?_)
    · have h4 := zc_eql (0) (0) q3 h_s0 (zr_c (lo := 0) (hi := 0) (by decide)) (by decide)
      exact (s_X9_vCount_61 hσ (zr_w h4 (by decide)) (zr_w (zr_c (lo := 219) (hi := 219) (by decide)) (by decide)))
    have h5 := zc_nel (1) (1) q3 h_s0 (zr_c (lo := 0) (hi := 0) (by decide)) (by decide)
    exact (s_X9_vCount_61 hσ (zr_w h5 (by decide)) (zr_w (zr_c (lo := 243) (hi := 243) (by decide)) (by decide)))
  have h6 := zc_nel (193) (240) q1 h_x1 (zr_c (lo := 192) (hi := 192) (by decide)) (by decide)
  refine zok_if (fun q7 => ?_) (fun q7 => ?_)
  · have h8 := zc_eql (224) (224) q7 h6 (zr_c (lo := 224) (hi := 224) (by decide)) (by decide)
    refine zok_if (fun q9 => ?_) (fun q9 => ?_)
    · have h10 := zc_eql (0) (0) q9 h_s0 (zr_c (lo := 0) (hi := 0) (by decide)) (by decide)
      exact (s_X9_vCount_78 hσ (zr_w h10 (by decide)) (zr_w (zr_c (lo := 235) (hi := 235) (by decide)) (by decide)))
    have h11 := zc_nel (1) (1) q9 h_s0 (zr_c (lo := 0) (hi := 0) (by decide)) (by decide)
    exact (s_X9_vCount_78 hσ (zr_w h11 (by decide)) (zr_w (zr_c (lo := 259) (hi := 259) (by decide)) (by decide)))
  refine zok_if (fun q12 => ?_) (fun q12 => ?_)
  · have h13 := zc_eql (0) (0) q12 h_s0 (zr_c (lo := 0) (hi := 0) (by decide)) (by decide)
    exact (s_X9_vCount_96 hσ (zr_w h13 (by decide)))
  have h14 := zc_nel (1) (1) q12 h_s0 (zr_c (lo := 0) (hi := 0) (by decide)) (by decide)
  exact (s_X9_vCount_96 hσ (zr_w h14 (by decide)))
theorem s_X9_vCount {σ : zSt} (hσ : zPC σ) : zok (fX9_vCount σ ) (zPi σ (fun v : Int32 => zr (0) (255) v)) := by
  unfold fX9_vCount
  refine zok_pi (s_X9_height hσ) (fun v2 h1 => ?_)
  refine zok_if (fun q2 => ?_) (fun q2 => ?_)
  · have h3 := zc_eql (313) (313) q2 zr_any (zr_c (lo := 313) (hi := 313) (by decide)) (by decide)
    exact (s_X9_vCount_20 hσ h1 (zr_w (zr_c (lo := 1) (hi := 1) (by decide)) (by decide)))
  exact (s_X9_vCount_20 hσ h1 (zr_w (zr_c (lo := 0) (hi := 0) (by decide)) (by decide)))
theorem s_X4_readHandy_23 {σ : zSt} (hσ : zPC σ) {s0 : Int32} (h_s0 : zr (64) (192) s0) : zok (fX4_readHandy_23 σ s0) (zPi σ (fun v : Int32 => zr (0) (255) v)) := by
  unfold fX4_readHandy_23
  exact zok_spi (zr_w h_s0 (by decide))
theorem s_X4_readHandy_46 {σ : zSt} (hσ : zPC σ) {s0 : Int32} (h_s0 : zr (0) (255) s0) : zok (fX4_readHandy_46 σ s0) (zPi σ (fun v : Int32 => zr (0) (255) v)) := by
  unfold fX4_readHandy_46
  exact zok_spi h_s0
theorem s_X4_readHandy_43 {σ : zSt} (hσ : zPC σ) : zok (fX4_readHandy_43 σ ) (zPi σ (fun v : Int32 => zr (0) (255) v)) := by
  unfold fX4_readHandy_43
  exact (s_X4_readHandy_46 hσ (zr_w (zr_c (lo := 255) (hi := 255) (by decide)) (by decide)))
theorem s_X4_readHandy {σ : zSt} (hσ : zPC σ) {x1 : Int32} (h_x1 : zr (0) (255) x1) : zok (fX4_readHandy σ x1) (zPi σ (fun v : Int32 => zr (0) (255) v)) := by
  unfold fX4_readHandy
  refine zok_if (fun q1 => ?_) (fun q1 => ?_)
  · have h2 := zc_eql (0) (0) q1 h_x1 (zr_c (lo := 0) (hi := 0) (by decide)) (by decide)
    refine zok_ck rfl ?_
    refine zok_if (fun q3 => ?_) (fun q3 => ?_)
    · have h4 := zc_eql (1) (1) q3 zr_any (zr_c (lo := 1) (hi := 1) (by decide)) (by decide)
      exact (s_X4_readHandy_23 hσ (zr_w (zr_c (lo := 64) (hi := 64) (by decide)) (by decide)))
    exact (s_X4_readHandy_23 hσ (zr_w (zr_c (lo := 192) (hi := 192) (by decide)) (by decide)))
  have h5 := zc_nel (1) (255) q1 h_x1 (zr_c (lo := 0) (hi := 0) (by decide)) (by decide)
  refine zok_if (fun q6 => ?_) (fun q6 => ?_)
  · exact zr_no (zc_ltl (0) q6 h5 (zr_c (lo := 1) (hi := 1) (by decide)) (by decide)) (by decide)
  refine zok_if (fun q7 => ?_) (fun q7 => ?_)
  · have h8 := zc_ltr (6) q7 (zr_c (lo := 5) (hi := 5) (by decide)) h5 (by decide)
    exact (s_X4_readHandy_43 hσ)
  have h9 := zc_lel (5) (z_nlt q7) h5 (zr_c (lo := 5) (hi := 5) (by decide)) (by decide)
  refine zok_ck (zin_ok h9 (by decide)) ?_
  exact (s_X4_readHandy_46 hσ (rC_55 hσ.sg _ (z_ix h9 (by decide))))
theorem s_X4_read_146 {σ : zSt} (hσ : zPC σ) {s0 : Int32} (h_s0 : zr (0) (255) s0) : zok (fX4_read_146 σ s0) (zPi σ (fun v : Int32 => zr (0) (255) v)) := by
  unfold fX4_read_146
  exact zok_spi h_s0
theorem s_X4_read_131 {σ : zSt} (hσ : zPC σ) {x2 : Int32} (h_x2 : zr (0) (1) x2) : zok (fX4_read_131 σ x2) (zPi σ (fun v : Int32 => zr (0) (255) v)) := by
  unfold fX4_read_131
  refine zok_if (fun q1 => ?_) (fun q1 => ?_)
  · have h2 := zc_eql (0) (0) q1 h_x2 (zr_c (lo := 0) (hi := 0) (by decide)) (by decide)
    refine zok_pi (s_X4_readOddPads hσ) (fun v2 h3 => ?_)
    exact (s_X4_read_146 hσ h3)
  have h4 := zc_nel (1) (1) q1 h_x2 (zr_c (lo := 0) (hi := 0) (by decide)) (by decide)
  refine zok_pi (s_X4_readEvenPads hσ) (fun v4 h5 => ?_)
  exact (s_X4_read_146 hσ h5)
theorem s_X4_read_106 {σ : zSt} (hσ : zPC σ) {s0 : Int32} (h_s0 : zr (0) (255) s0) : zok (fX4_read_106 σ s0) (zPi σ (fun v : Int32 => zr (0) (255) v)) := by
  unfold fX4_read_106
  exact zok_spi h_s0
theorem s_X4_read_84 {σ : zSt} (hσ : zPC σ) {s0 : Int32} (h_s0 : zr (0) (255) s0) : zok (fX4_read_84 σ s0) (zPi σ (fun v : Int32 => zr (0) (255) v)) := by
  unfold fX4_read_84
  exact zok_spi h_s0
theorem s_X4_read_62 {σ : zSt} (hσ : zPC σ) {s0 : Int32} (h_s0 : zr (0) (255) s0) : zok (fX4_read_62 σ s0) (zPi σ (fun v : Int32 => zr (0) (255) v)) := by
  unfold fX4_read_62
  exact zok_spi h_s0
theorem s_X4_read_11 {G : Nat → Int} {σ : zSt} (hσ : zIC G σ) {x1 : Int32} (h_x1 : zr (0) (255) x1) {s0 : Int32} (h_s0 : zr (0) (1) s0) : zok (fX4_read_11 σ x1 s0) (zAi (zIC G) (fun v : Int32 => zr (0) (255) v)) := by
  unfold fX4_read_11
  refine zok_if (fun q1 => ?_) (fun q1 => ?_)
  · have h2 := zc_eql (0) (0) q1 (zr_shr (lo := 0) (hi := 3) 6 (by decide) h_x1 (by decide)) (zr_c (lo := 0) (hi := 0) (by decide)) (by decide)
    refine zok_if (fun q3 => ?_) (fun q3 => ?_)
    · have h4 := zc_eql (0) (0) q3 zr_any (zr_c (lo := 0) (hi := 0) (by decide)) (by decide)
      exact zok_pai hσ (s_X4_read_62 hσ.P (zr_w (zr_c (lo := 255) (hi := 255) (by decide)) (by decide)))
    refine zok_pi (s_X4_readHandy hσ.P h_x1) (fun v6 h5 => ?_)
    exact zok_pai hσ (s_X4_read_62 hσ.P h5)
  have h6 := zc_nel (1) (3) q1 (zr_shr (lo := 0) (hi := 3) 6 (by decide) h_x1 (by decide)) (zr_c (lo := 0) (hi := 0) (by decide)) (by decide)
  refine zok_if (fun q7 => ?_) (fun q7 => ?_)
  · have h8 := zc_eql (1) (1) q7 h6 (zr_c (lo := 1) (hi := 1) (by decide)) (by decide)
    refine zok_if (fun q9 => ?_) (fun q9 => ?_)
    · have h10 := zc_eql (0) (0) q9 h_s0 (zr_c (lo := 0) (hi := 0) (by decide)) (by decide)
      refine zok_ck rfl ?_
      exact zok_pai hσ (s_X4_read_84 hσ.P (rC_55 hσ.sg _ (by decide)))
    have h11 := zc_nel (1) (1) q9 h_s0 (zr_c (lo := 0) (hi := 0) (by decide)) (by decide)
    refine zok_pi (s_X9_vCount hσ.P) (fun v8 h12 => ?_)
    exact zok_pai hσ (s_X4_read_84 hσ.P h12)
  have h13 := zc_nel (2) (3) q7 h6 (zr_c (lo := 1) (hi := 1) (by decide)) (by decide)
  refine zok_if (fun q14 => ?_) (fun q14 => ?_)
  · have h15 := zc_eql (2) (2) q14 h13 (zr_c (lo := 2) (hi := 2) (by decide)) (by decide)
    refine zok_if (fun q16 => ?_) (fun q16 => ?_)
    · have h17 := zc_eql (0) (0) q16 h_s0 (zr_c (lo := 0) (hi := 0) (by decide)) (by decide)
      refine zok_ai (s_X9_readStatus hσ) (fun σ9 v10 i18 h19 => ?_)
      exact zok_pai i18 (s_X4_read_106 i18.P h19)
    have h20 := zc_nel (1) (1) q16 h_s0 (zr_c (lo := 0) (hi := 0) (by decide)) (by decide)
    refine zok_ai (s_X9_readData hσ) (fun σ11 v12 i21 h22 => ?_)
    exact zok_pai i21 (s_X4_read_106 i21.P h22)
  have h23 := zc_nel (3) (3) q14 h13 (zr_c (lo := 2) (hi := 2) (by decide)) (by decide)
  refine zok_if (fun q24 => ?_) (fun q24 => ?_)
  · have h25 := zc_eql (242) (242) q24 h_x1 (zr_c (lo := 242) (hi := 242) (by decide)) (by decide)
    refine zok_if (fun q26 => ?_) (fun q26 => ?_)
    · have h27 := zc_eql (0) (0) q26 zr_any (zr_c (lo := 0) (hi := 0) (by decide)) (by decide)
      refine zok_pi (s_X10_value__64 hσ.P (zr_c (lo := 64) (hi := 64) (by decide))) (fun v14 h28 => ?_)
      exact zok_sai hσ (zr_w h28 (by decide))
    exact zok_pai hσ (s_X4_read_131 hσ.P h_s0)
  exact zok_pai hσ (s_X4_read_131 hσ.P h_s0)
theorem s_X4_read {G : Nat → Int} {σ : zSt} (hσ : zIC G σ) {x1 : Int32} (h_x1 : zr (0) (255) x1) : zok (fX4_read σ x1) (zAi (zIC G) (fun v : Int32 => zr (0) (255) v)) := by
  unfold fX4_read
  refine zok_if (fun q1 => ?_) (fun q1 => ?_)
  · have h2 := zc_eql (0) (0) q1 (zr_andr (lo := 0) (hi := 1) (zr_c (lo := 1) (hi := 1) (by decide)) (by decide)) (zr_c (lo := 0) (hi := 0) (by decide)) (by decide)
    exact (s_X4_read_11 hσ h_x1 (zr_w (zr_c (lo := 1) (hi := 1) (by decide)) (by decide)))
  have h3 := zc_nel (1) (1) q1 (zr_andr (lo := 0) (hi := 1) (zr_c (lo := 1) (hi := 1) (by decide)) (by decide)) (zr_c (lo := 0) (hi := 0) (by decide)) (by decide)
  exact (s_X4_read_11 hσ h_x1 (zr_w (zr_c (lo := 0) (hi := 0) (by decide)) (by decide)))
theorem s_X10_take_57 {σ : zSt} (hσ : zPC σ) : zok (fX10_take_57 σ ) (zPu σ) := by
  unfold fX10_take_57
  exact zok_spu
theorem s_X10_take {G : Nat → Int} {σ : zSt} (hσ : zIC G σ) {x1 : Int32} (h_x1 : zr (240) (242) x1) {x2 : Int32} (h_x2 : zr (0) (255) x2) : zok (fX10_take σ x1 x2) (zIC G) := by
  unfold fX10_take
  refine zok_if (fun q1 => ?_) (fun q1 => ?_)
  · have h2 := zc_eql (240) (240) q1 h_x1 (zr_c (lo := 240) (hi := 240) (by decide)) (by decide)
    refine zok_ck rfl ?_
    refine zok_bs (hσ.wi 68 68 (by decide) (zr_andr (lo := 0) (hi := 63) (zr_c (lo := 63) (hi := 63) (by decide)) (by decide)) (by decide +kernel)) (fun σ3 e4 i3 => ?_)
    exact zok_pau i3 (s_X10_take_57 i3.P)
  have h5 := zc_nel (241) (242) q1 h_x1 (zr_c (lo := 240) (hi := 240) (by decide)) (by decide)
  refine zok_if (fun q6 => ?_) (fun q6 => ?_)
  · have h7 := zc_eql (241) (241) q6 h5 (zr_c (lo := 241) (hi := 241) (by decide)) (by decide)
    refine zok_ck rfl ?_
    refine zok_ck (zin_ok (zr_andr (lo := 0) (hi := 63) (zr_c (lo := 63) (hi := 63) (by decide)) (by decide)) (by decide)) ?_
    refine zok_bs (hσ.wi 0 63 (z_ix (zr_andr (lo := 0) (hi := 63) (zr_c (lo := 63) (hi := 63) (by decide)) (by decide)) (by decide)) h_x2 (by decide +kernel)) (fun σ2 e9 i8 => ?_)
    exact zok_pau i8 (s_X10_take_57 i8.P)
  have h10 := zc_nel (242) (242) q6 h5 (zr_c (lo := 241) (hi := 241) (by decide)) (by decide)
  refine zok_ck rfl ?_
  refine zok_bs (hσ.wi 64 64 (by decide) (zr_andr (lo := 0) (hi := 3) (zr_c (lo := 3) (hi := 3) (by decide)) (by decide)) (by decide +kernel)) (fun σ1 e12 i11 => ?_)
  exact zok_pau i11 (s_X10_take_57 i11.P)
theorem s_X9_writeColour_72 {σ : zSt} (hσ : zPC σ) : zok (fX9_writeColour_72 σ ) (zPu σ) := by
  unfold fX9_writeColour_72
  exact zok_spu
theorem s_X9_writeColour {G : Nat → Int} {σ : zSt} (hσ : zIC G σ) {x1 : Int32} (h_x1 : zr (0) (16383) x1) {x2 : Int32} (h_x2 : zr (0) (255) x2) : zok (fX9_writeColour σ x1 x2) (zIC G) := by
  unfold fX9_writeColour
  refine zok_if (fun q1 => ?_) (fun q1 => ?_)
  · have h2 := zc_eql (0) (0) q1 zr_any (zr_c (lo := 0) (hi := 0) (by decide)) (by decide)
    refine zok_ck (zin_ok (zr_add (lo := 32) (hi := 63) (zr_c (lo := 32) (hi := 32) (by decide)) (zr_andr (lo := 0) (hi := 31) (zr_c (lo := 31) (hi := 31) (by decide)) (by decide)) (by decide)) (by decide)) ?_
    refine zok_bs (hσ.wi 32 63 (z_ix (zr_add (lo := 32) (hi := 63) (zr_c (lo := 32) (hi := 32) (by decide)) (zr_andr (lo := 0) (hi := 31) (zr_c (lo := 31) (hi := 31) (by decide)) (by decide)) (by decide)) (by decide)) h_x2 (by decide +kernel)) (fun σ4 e4 i3 => ?_)
    exact zok_pau i3 (s_X9_writeColour_72 i3.P)
  refine zok_if (fun q5 => ?_) (fun q5 => ?_)
  · have h6 := zc_eql (0) (0) q5 (zr_andr (lo := 0) (hi := 1) (zr_c (lo := 1) (hi := 1) (by decide)) (by decide)) (zr_c (lo := 0) (hi := 0) (by decide)) (by decide)
    refine zok_ck rfl ?_
    refine zok_bs (hσ.wi 26 26 (by decide) h_x2 (by decide +kernel)) (fun σ3 e8 i7 => ?_)
    exact zok_pau i7 (s_X9_writeColour_72 i7.P)
  have h9 := zc_nel (1) (1) q5 (zr_andr (lo := 0) (hi := 1) (zr_c (lo := 1) (hi := 1) (by decide)) (by decide)) (zr_c (lo := 0) (hi := 0) (by decide)) (by decide)
  refine zok_ck rfl ?_
  refine zok_ck (zin_ok (zr_add (lo := 32) (hi := 94) (zr_c (lo := 32) (hi := 32) (by decide)) (zr_andr (lo := 0) (hi := 62) (zr_c (lo := 62) (hi := 62) (by decide)) (by decide)) (by decide)) (by decide)) ?_
  refine zok_bs (hσ.wi 32 94 (z_ix (zr_add (lo := 32) (hi := 94) (zr_c (lo := 32) (hi := 32) (by decide)) (zr_andr (lo := 0) (hi := 62) (zr_c (lo := 62) (hi := 62) (by decide)) (by decide)) (by decide)) (by decide)) (rC_43 hσ.sg _ (by decide)) (by decide +kernel)) (fun σ1 e11 i10 => ?_)
  refine zok_ck (zin_ok (zr_add (lo := 32) (hi := 95) (zr_c (lo := 32) (hi := 32) (by decide)) (zr_andr (lo := 0) (hi := 63) (zr_c (lo := 63) (hi := 63) (by decide)) (by decide)) (by decide)) (by decide)) ?_
  refine zok_bs (i10.wi 32 95 (z_ix (zr_add (lo := 32) (hi := 95) (zr_c (lo := 32) (hi := 32) (by decide)) (zr_andr (lo := 0) (hi := 63) (zr_c (lo := 63) (hi := 63) (by decide)) (by decide)) (by decide)) (by decide)) h_x2 (by decide +kernel)) (fun σ2 e13 i12 => ?_)
  exact zok_pau i12 (s_X9_writeColour_72 i12.P)
theorem s_X9_writeData_69 {σ : zSt} (hσ : zPC σ) : zok (fX9_writeData_69 σ ) (zPu σ) := by
  unfold fX9_writeData_69
  exact zok_spu
theorem s_X9_writeData {G : Nat → Int} {σ : zSt} (hσ : zIC G σ) {x1 : Int32} (h_x1 : zr (0) (255) x1) : zok (fX9_writeData σ x1) (zIC G) := by
  unfold fX9_writeData
  refine zok_ck rfl ?_
  refine zok_br (zr_andr (lo := 0) (hi := 16383) (zr_c (lo := 16383) (hi := 16383) (by decide)) (by decide)) (fun v1 e2 h1 => ?_)
  refine zok_ck rfl ?_
  refine zok_bs (hσ.wi 14 14 (by decide) (zr_c (lo := 0) (hi := 0) (by decide)) (by decide +kernel)) (fun σ2 e4 i3 => ?_)
  refine zok_ck rfl ?_
  refine zok_bs (i3.wi 13 13 (by decide) h_x1 (by decide +kernel)) (fun σ3 e6 i5 => ?_)
  refine zok_ck rfl ?_
  refine zok_bs (i5.wi 11 11 (by decide) (zr_andr (lo := 0) (hi := 16383) (zr_c (lo := 16383) (hi := 16383) (by decide)) (by decide)) (by decide +kernel)) (fun σ4 e8 i7 => ?_)
  refine zok_ck rfl ?_
  refine zok_if (fun q9 => ?_) (fun q9 => ?_)
  · have h10 := zc_eql (3) (3) q9 (rC_37 i7.sg _ (by decide)) (zr_c (lo := 3) (hi := 3) (by decide)) (by decide)
    refine zok_bu (s_X9_writeColour i7 h1 h_x1) (fun σ6 i11 => ?_)
    exact zok_pau i11 (s_X9_writeData_69 i11.P)
  have h12 := zc_nel (0) (2) q9 (rC_37 i7.sg _ (by decide)) (zr_c (lo := 3) (hi := 3) (by decide)) (by decide)
  refine zok_ck (zin_ok h1 (by decide)) ?_
  refine zok_bs (i7.wi 0 16383 (z_ix h1 (by decide)) h_x1 (by decide +kernel)) (fun σ5 e14 i13 => ?_)
  exact zok_pau i13 (s_X9_writeData_69 i13.P)
theorem s_X9_writeControl_141 {σ : zSt} (hσ : zPC σ) : zok (fX9_writeControl_141 σ ) (zPu σ) := by
  unfold fX9_writeControl_141
  exact zok_spu
theorem s_X9_writeControl {G : Nat → Int} {σ : zSt} (hσ : zIC G σ) {x1 : Int32} (h_x1 : zr (0) (255) x1) : zok (fX9_writeControl σ x1) (zIC G) := by
  unfold fX9_writeControl
  refine zok_ck rfl ?_
  refine zok_if (fun q1 => ?_) (fun q1 => ?_)
  · have h2 := zc_eql (0) (0) q1 (rC_39 hσ.sg _ (by decide)) (zr_c (lo := 0) (hi := 0) (by decide)) (by decide)
    refine zok_ck rfl ?_
    refine zok_ck rfl ?_
    refine zok_bs (hσ.wi 11 11 (by decide) (zr_or (lo := 0) (hi := 16383) 14 (zr_andr (lo := 0) (hi := 16128) (zr_c (lo := 16128) (hi := 16128) (by decide)) (by decide)) h_x1 (by decide)) (by decide +kernel)) (fun σ6 e4 i3 => ?_)
    refine zok_ck rfl ?_
    refine zok_bs (i3.wi 14 14 (by decide) (zr_c (lo := 1) (hi := 1) (by decide)) (by decide +kernel)) (fun σ7 e6 i5 => ?_)
    exact zok_some i5
  have h7 := zc_nel (1) (1) q1 (rC_39 hσ.sg _ (by decide)) (zr_c (lo := 0) (hi := 0) (by decide)) (by decide)
  refine zok_ck rfl ?_
  refine zok_bs (hσ.wi 14 14 (by decide) (zr_c (lo := 0) (hi := 0) (by decide)) (by decide +kernel)) (fun σ1 e9 i8 => ?_)
  refine zok_ck rfl ?_
  refine zok_ck rfl ?_
  refine zok_bs (i8.wi 11 11 (by decide) (zr_or (lo := 0) (hi := 16383) 14 (zr_shl (lo := 0) (hi := 16128) 8 (by decide) (zr_andr (lo := 0) (hi := 63) (zr_c (lo := 63) (hi := 63) (by decide)) (by decide)) (by decide)) (zr_andr (lo := 0) (hi := 255) (zr_c (lo := 255) (hi := 255) (by decide)) (by decide)) (by decide)) (by decide +kernel)) (fun σ2 e11 i10 => ?_)
  refine zok_ck rfl ?_
  refine zok_bs (i10.wi 12 12 (by decide) (zr_shr (lo := 0) (hi := 3) 6 (by decide) h_x1 (by decide)) (by decide +kernel)) (fun σ3 e13 i12 => ?_)
  refine zok_ck rfl ?_
  refine zok_if (fun q14 => ?_) (fun q14 => ?_)
  · have h15 := zc_eql (0) (0) q14 (rC_37 i12.sg _ (by decide)) (zr_c (lo := 0) (hi := 0) (by decide)) (by decide)
    refine zok_bu (s_X9_readAhead i12) (fun σ5 i16 => ?_)
    exact zok_pau i16 (s_X9_writeControl_141 i16.P)
  have h17 := zc_nel (1) (3) q14 (rC_37 i12.sg _ (by decide)) (zr_c (lo := 0) (hi := 0) (by decide)) (by decide)
  refine zok_ck rfl ?_
  refine zok_if (fun q18 => ?_) (fun q18 => ?_)
  · have h19 := zc_eql (2) (2) q18 h17 (zr_c (lo := 2) (hi := 2) (by decide)) (by decide)
    refine zok_if (fun q20 => ?_) (fun q20 => ?_)
    · have h21 := zc_ltr (11) q20 (zr_c (lo := 10) (hi := 10) (by decide)) (zr_andr (lo := 0) (hi := 15) (zr_c (lo := 15) (hi := 15) (by decide)) (by decide)) (by decide)
      exact zok_pau i12 (s_X9_writeControl_141 i12.P)
    have h22 := zc_lel (10) (z_nlt q20) (zr_andr (lo := 0) (hi := 15) (zr_c (lo := 15) (hi := 15) (by decide)) (by decide)) (zr_c (lo := 10) (hi := 10) (by decide)) (by decide)
    refine zok_ck rfl ?_
    refine zok_ck (zin_ok h22 (by decide)) ?_
    refine zok_bs (i12.wi 0 10 (z_ix h22 (by decide)) (zr_andr (lo := 0) (hi := 255) (zr_c (lo := 255) (hi := 255) (by decide)) (by decide)) (by decide +kernel)) (fun σ4 e24 i23 => ?_)
    exact zok_pau i23 (s_X9_writeControl_141 i23.P)
  exact zok_pau i12 (s_X9_writeControl_141 i12.P)
theorem s_X7_take_155 {σ : zSt} (hσ : zPC σ) : zok (fX7_take_155 σ ) (zPu σ) := by
  unfold fX7_take_155
  exact zok_spu
theorem s_X7_take_30 {G : Nat → Int} {σ : zSt} (hσ : zIC G σ) {x1 : Int32} (h_x1 : zr (0) (255) x1) {x2 : Int32} (h_x2 : zr (0) (1) x2) : zok (fX7_take_30 σ x1 x2) (zIC G) := by
  unfold fX7_take_30
  refine zok_ck rfl ?_
  refine zok_br (zr_shr (lo := 0) (hi := 3) 1 (by decide) (rC_59 hσ.sg _ (by decide)) (by decide)) (fun v1 e2 h1 => ?_)
  refine zok_ck rfl ?_
  refine zok_if (fun q3 => ?_) (fun q3 => ?_)
  · have h4 := zc_eql (1) (1) q3 (zr_andr (lo := 0) (hi := 1) (zr_c (lo := 1) (hi := 1) (by decide)) (by decide)) (zr_c (lo := 1) (hi := 1) (by decide)) (by decide)
    refine zok_ck (zin_ok (zr_add (lo := 9) (hi := 12) (zr_c (lo := 9) (hi := 9) (by decide)) h1 (by decide)) (by decide)) ?_
    refine zok_bs (hσ.wi 9 12 (z_ix (zr_add (lo := 9) (hi := 12) (zr_c (lo := 9) (hi := 9) (by decide)) h1 (by decide)) (by decide)) (zr_andr (lo := 0) (hi := 15) (zr_c (lo := 15) (hi := 15) (by decide)) (by decide)) (by decide +kernel)) (fun σ6 e6 i5 => ?_)
    exact zok_pau i5 (s_X7_take_155 i5.P)
  have h7 := zc_nel (0) (0) q3 (zr_andr (lo := 0) (hi := 1) (zr_c (lo := 1) (hi := 1) (by decide)) (by decide)) (zr_c (lo := 1) (hi := 1) (by decide)) (by decide)
  refine zok_if (fun q8 => ?_) (fun q8 => ?_)
  · have h9 := zc_eql (3) (3) q8 h1 (zr_c (lo := 3) (hi := 3) (by decide)) (by decide)
    refine zok_ck rfl ?_
    refine zok_bs (hσ.wi 13 13 (by decide) (zr_andr (lo := 0) (hi := 7) (zr_c (lo := 7) (hi := 7) (by decide)) (by decide)) (by decide +kernel)) (fun σ4 e11 i10 => ?_)
    refine zok_ck rfl ?_
    refine zok_bs (i10.wi 16 16 (by decide) (zr_c (lo := 32768) (hi := 32768) (by decide)) (by decide +kernel)) (fun σ5 e13 i12 => ?_)
    exact zok_pau i12 (s_X7_take_155 i12.P)
  have h14 := zc_nel (0) (2) q8 h1 (zr_c (lo := 3) (hi := 3) (by decide)) (by decide)
  refine zok_if (fun q15 => ?_) (fun q15 => ?_)
  · have h16 := zc_eql (0) (0) q15 h_x2 (zr_c (lo := 0) (hi := 0) (by decide)) (by decide)
    refine zok_ck (zin_ok (zr_add (lo := 0) (hi := 2) (zr_c (lo := 0) (hi := 0) (by decide)) h14 (by decide)) (by decide)) ?_
    refine zok_ck (zin_ok (zr_add (lo := 0) (hi := 2) (zr_c (lo := 0) (hi := 0) (by decide)) h14 (by decide)) (by decide)) ?_
    refine zok_bs (hσ.wi 0 2 (z_ix (zr_add (lo := 0) (hi := 2) (zr_c (lo := 0) (hi := 0) (by decide)) h14 (by decide)) (by decide)) (zr_or (lo := 0) (hi := 1023) 10 (zr_andr (lo := 0) (hi := 15) (zr_c (lo := 15) (hi := 15) (by decide)) (by decide)) (zr_shl (lo := 0) (hi := 1008) 4 (by decide) (zr_andr (lo := 0) (hi := 63) (zr_c (lo := 63) (hi := 63) (by decide)) (by decide)) (by decide)) (by decide)) (by decide +kernel)) (fun σ2 e18 i17 => ?_)
    exact zok_pau i17 (s_X7_take_155 i17.P)
  have h19 := zc_nel (1) (1) q15 h_x2 (zr_c (lo := 0) (hi := 0) (by decide)) (by decide)
  refine zok_ck (zin_ok (zr_add (lo := 0) (hi := 2) (zr_c (lo := 0) (hi := 0) (by decide)) h14 (by decide)) (by decide)) ?_
  refine zok_ck (zin_ok (zr_add (lo := 0) (hi := 2) (zr_c (lo := 0) (hi := 0) (by decide)) h14 (by decide)) (by decide)) ?_
  refine zok_bs (hσ.wi 0 2 (z_ix (zr_add (lo := 0) (hi := 2) (zr_c (lo := 0) (hi := 0) (by decide)) h14 (by decide)) (by decide)) (zr_or (lo := 0) (hi := 1023) 10 (zr_andr (lo := 0) (hi := 1008) (zr_c (lo := 1008) (hi := 1008) (by decide)) (by decide)) (zr_andr (lo := 0) (hi := 15) (zr_c (lo := 15) (hi := 15) (by decide)) (by decide)) (by decide)) (by decide +kernel)) (fun σ3 e21 i20 => ?_)
  exact zok_pau i20 (s_X7_take_155 i20.P)
theorem s_X7_take_12 {G : Nat → Int} {σ : zSt} (hσ : zIC G σ) {x1 : Int32} (h_x1 : zr (0) (255) x1) {s0 : Int32} (h_s0 : zr (0) (1) s0) : zok (fX7_take_12 σ x1 s0) (zIC G) := by
  unfold fX7_take_12
  refine zok_if (fun q1 => ?_) (fun q1 => ?_)
  · have h2 := zc_eql (0) (0) q1 h_s0 (zr_c (lo := 0) (hi := 0) (by decide)) (by decide)
    exact (s_X7_take_30 hσ h_x1 (zr_w h2 (by decide)))
  have h3 := zc_nel (1) (1) q1 h_s0 (zr_c (lo := 0) (hi := 0) (by decide)) (by decide)
  refine zok_ck rfl ?_
  refine zok_bs (hσ.wi 17 17 (by decide) (zr_andr (lo := 0) (hi := 7) (zr_c (lo := 7) (hi := 7) (by decide)) (by decide)) (by decide +kernel)) (fun σ7 e5 i4 => ?_)
  exact (s_X7_take_30 i4 h_x1 (zr_w h3 (by decide)))
theorem s_X7_take {G : Nat → Int} {σ : zSt} (hσ : zIC G σ) {x1 : Int32} (h_x1 : zr (0) (255) x1) : zok (fX7_take σ x1) (zIC G) := by
  unfold fX7_take
  refine zok_if (fun q1 => ?_) (fun q1 => ?_)
  · have h2 := zc_ltl (127) q1 h_x1 (zr_c (lo := 128) (hi := 128) (by decide)) (by decide)
    exact (s_X7_take_12 hσ (zr_w h2 (by decide)) (zr_w (zr_c (lo := 0) (hi := 0) (by decide)) (by decide)))
  have h3 := zc_ler (128) (z_nlt q1) (zr_c (lo := 128) (hi := 128) (by decide)) h_x1 (by decide)
  exact (s_X7_take_12 hσ (zr_w h3 (by decide)) (zr_w (zr_c (lo := 1) (hi := 1) (by decide)) (by decide)))
theorem s_X7_takeStereo {G : Nat → Int} {σ : zSt} (hσ : zIC G σ) {x1 : Int32} (h_x1 : zr (0) (255) x1) : zok (fX7_takeStereo σ x1) (zIC G) := by
  unfold fX7_takeStereo
  refine zok_ck rfl ?_
  refine zok_bs (hσ.wi 18 18 (by decide) h_x1 (by decide +kernel)) (fun σ1 e2 i1 => ?_)
  exact zok_some i1
theorem s_X4_writeHandy_34 {σ : zSt} (hσ : zPC σ) : zok (fX4_writeHandy_34 σ ) (zPu σ) := by
  unfold fX4_writeHandy_34
  exact zok_spu
theorem s_X4_writeHandy {G : Nat → Int} {σ : zSt} (hσ : zIC G σ) {x1 : Int32} (h_x1 : zr (1) (6) x1) {x2 : Int32} (h_x2 : zr (0) (255) x2) : zok (fX4_writeHandy σ x1 x2) (zIC G) := by
  unfold fX4_writeHandy
  refine zok_if (fun q1 => ?_) (fun q1 => ?_)
  · have h2 := zc_eql (6) (6) q1 h_x1 (zr_c (lo := 6) (hi := 6) (by decide)) (by decide)
    refine zok_bu (s_X7_takeStereo hσ h_x2) (fun σ2 i3 => ?_)
    exact zok_pau i3 (s_X4_writeHandy_34 i3.P)
  have h4 := zc_nel (1) (5) q1 h_x1 (zr_c (lo := 6) (hi := 6) (by decide)) (by decide)
  refine zok_if (fun q5 => ?_) (fun q5 => ?_)
  · exact zr_no (zc_ltl (0) q5 h4 (zr_c (lo := 1) (hi := 1) (by decide)) (by decide)) (by decide)
  refine zok_if (fun q6 => ?_) (fun q6 => ?_)
  · exact zr_no (zc_ltl (4) q6 (zr_c (lo := 5) (hi := 5) (by decide)) h4 (by decide)) (by decide)
  refine zok_ck (zin_ok h4 (by decide)) ?_
  refine zok_bs (hσ.wi 1 5 (z_ix h4 (by decide)) h_x2 (by decide +kernel)) (fun σ1 e8 i7 => ?_)
  exact zok_pau i7 (s_X4_writeHandy_34 i7.P)
theorem s_X4_write_151 {σ : zSt} (hσ : zPC σ) : zok (fX4_write_151 σ ) (zPu σ) := by
  unfold fX4_write_151
  exact zok_spu
theorem s_X4_write_71 {G : Nat → Int} {σ : zSt} (hσ : zIC G σ) {x2 : Int32} (h_x2 : zr (0) (255) x2) {x3 : Int32} (h_x3 : zr (0) (1) x3) : zok (fX4_write_71 σ x2 x3) (zIC G) := by
  unfold fX4_write_71
  refine zok_if (fun q1 => ?_) (fun q1 => ?_)
  · have h2 := zc_eql (0) (0) q1 h_x3 (zr_c (lo := 0) (hi := 0) (by decide)) (by decide)
    refine zok_bu (s_X4_changeLines__0 hσ (zr_c (lo := 0) (hi := 0) (by decide)) h_x2) (fun σ1 i3 => ?_)
    exact zok_pau i3 (s_X4_write_151 i3.P)
  have h4 := zc_nel (1) (1) q1 h_x3 (zr_c (lo := 0) (hi := 0) (by decide)) (by decide)
  exact zok_pau hσ (s_X4_write_151 hσ.P)
theorem s_X4_write_11 {G : Nat → Int} {σ : zSt} (hσ : zIC G σ) {x1 : Int32} (h_x1 : zr (0) (255) x1) {x2 : Int32} (h_x2 : zr (0) (255) x2) {s0 : Int32} (h_s0 : zr (0) (1) s0) : zok (fX4_write_11 σ x1 x2 s0) (zIC G) := by
  unfold fX4_write_11
  refine zok_if (fun q1 => ?_) (fun q1 => ?_)
  · have h2 := zc_eql (0) (0) q1 (zr_shr (lo := 0) (hi := 3) 6 (by decide) h_x1 (by decide)) (zr_c (lo := 0) (hi := 0) (by decide)) (by decide)
    refine zok_if (fun q3 => ?_) (fun q3 => ?_)
    · have h4 := zc_eql (0) (0) q3 zr_any (zr_c (lo := 0) (hi := 0) (by decide)) (by decide)
      exact (s_X4_write_71 hσ h_x2 h_s0)
    refine zok_if (fun q5 => ?_) (fun q5 => ?_)
    · have h6 := zc_ltl (0) q5 h_x1 (zr_c (lo := 1) (hi := 1) (by decide)) (by decide)
      exact (s_X4_write_71 hσ h_x2 h_s0)
    have h7 := zc_ler (1) (z_nlt q5) (zr_c (lo := 1) (hi := 1) (by decide)) h_x1 (by decide)
    refine zok_if (fun q8 => ?_) (fun q8 => ?_)
    · have h9 := zc_ltr (7) q8 (zr_c (lo := 6) (hi := 6) (by decide)) h7 (by decide)
      exact (s_X4_write_71 hσ h_x2 h_s0)
    have h10 := zc_lel (6) (z_nlt q8) h7 (zr_c (lo := 6) (hi := 6) (by decide)) (by decide)
    refine zok_bu (s_X4_writeHandy hσ h10 h_x2) (fun σ2 i11 => ?_)
    exact zok_pau i11 (s_X4_write_151 i11.P)
  have h12 := zc_nel (1) (3) q1 (zr_shr (lo := 0) (hi := 3) 6 (by decide) h_x1 (by decide)) (zr_c (lo := 0) (hi := 0) (by decide)) (by decide)
  refine zok_if (fun q13 => ?_) (fun q13 => ?_)
  · have h14 := zc_eql (1) (1) q13 h12 (zr_c (lo := 1) (hi := 1) (by decide)) (by decide)
    refine zok_bu (s_X7_take hσ h_x2) (fun σ3 i15 => ?_)
    exact zok_pau i15 (s_X4_write_151 i15.P)
  have h16 := zc_nel (2) (3) q13 h12 (zr_c (lo := 1) (hi := 1) (by decide)) (by decide)
  refine zok_if (fun q17 => ?_) (fun q17 => ?_)
  · have h18 := zc_eql (2) (2) q17 h16 (zr_c (lo := 2) (hi := 2) (by decide)) (by decide)
    refine zok_if (fun q19 => ?_) (fun q19 => ?_)
    · have h20 := zc_eql (0) (0) q19 h_s0 (zr_c (lo := 0) (hi := 0) (by decide)) (by decide)
      refine zok_bu (s_X9_writeControl hσ h_x2) (fun σ4 i21 => ?_)
      exact zok_pau i21 (s_X4_write_151 i21.P)
    have h22 := zc_nel (1) (1) q19 h_s0 (zr_c (lo := 0) (hi := 0) (by decide)) (by decide)
    refine zok_bu (s_X9_writeData hσ h_x2) (fun σ5 i23 => ?_)
    exact zok_pau i23 (s_X4_write_151 i23.P)
  have h24 := zc_nel (3) (3) q17 h16 (zr_c (lo := 2) (hi := 2) (by decide)) (by decide)
  refine zok_if (fun q25 => ?_) (fun q25 => ?_)
  · have h26 := zc_eql (0) (0) q25 zr_any (zr_c (lo := 0) (hi := 0) (by decide)) (by decide)
    refine zok_if (fun q27 => ?_) (fun q27 => ?_)
    · have h28 := zc_ltl (239) q27 h_x1 (zr_c (lo := 240) (hi := 240) (by decide)) (by decide)
      exact zok_pau hσ (s_X4_write_151 hσ.P)
    have h29 := zc_ler (240) (z_nlt q27) (zr_c (lo := 240) (hi := 240) (by decide)) h_x1 (by decide)
    refine zok_if (fun q30 => ?_) (fun q30 => ?_)
    · have h31 := zc_ltr (243) q30 (zr_c (lo := 242) (hi := 242) (by decide)) h29 (by decide)
      exact zok_pau hσ (s_X4_write_151 hσ.P)
    have h32 := zc_lel (242) (z_nlt q30) h29 (zr_c (lo := 242) (hi := 242) (by decide)) (by decide)
    refine zok_bu (s_X10_take hσ h32 h_x2) (fun σ6 i33 => ?_)
    exact zok_pau i33 (s_X4_write_151 i33.P)
  exact zok_pau hσ (s_X4_write_151 hσ.P)
theorem s_X4_write {G : Nat → Int} {σ : zSt} (hσ : zIC G σ) {x1 : Int32} (h_x1 : zr (0) (255) x1) {x2 : Int32} (h_x2 : zr (0) (255) x2) : zok (fX4_write σ x1 x2) (zIC G) := by
  unfold fX4_write
  refine zok_if (fun q1 => ?_) (fun q1 => ?_)
  · have h2 := zc_eql (0) (0) q1 (zr_andr (lo := 0) (hi := 1) (zr_c (lo := 1) (hi := 1) (by decide)) (by decide)) (zr_c (lo := 0) (hi := 0) (by decide)) (by decide)
    exact (s_X4_write_11 hσ h_x1 h_x2 (zr_w (zr_c (lo := 1) (hi := 1) (by decide)) (by decide)))
  have h3 := zc_nel (1) (1) q1 (zr_andr (lo := 0) (hi := 1) (zr_c (lo := 1) (hi := 1) (by decide)) (by decide)) (zr_c (lo := 0) (hi := 0) (by decide)) (by decide)
  exact (s_X4_write_11 hσ h_x1 h_x2 (zr_w (zr_c (lo := 0) (hi := 0) (by decide)) (by decide)))
theorem s_J7_fill_53178_k36_5_body {G : Nat → Int} {σ : zSt} {k5 : zSt → Int32 → Int32 → Int32 → Option (zSt)} {Mk5 : Int} (hk5 : ∀ (σ : zSt) (x1 : Int32) (x2 : Int32) (x3 : Int32), zIC G σ → zr (0) (0) x1 → zr (0) (29) x2 → zr (29) (29) x3 → (29) - x2.toInt < Mk5 → zok (k5 σ x1 x2 x3) (zIC G)) (hσ : zIC G σ) {x1 : Int32} (h_x1 : zr (0) (0) x1) {x2 : Int32} (h_x2 : zr (0) (29) x2) {x3 : Int32} (h_x3 : zr (29) (29) x3) (hMk5 : (29) - x2.toInt ≤ Mk5) : zok (fJ7_fill_53178_k36_5_body k5 σ x1 x2 x3) (zIC G) := by
  unfold fJ7_fill_53178_k36_5_body
  refine zok_if (fun q1 => ?_) (fun q1 => ?_)
  · have h2 := zc_ler (29) q1 h_x3 h_x2 (by decide)
    exact zok_some hσ
  have h3 := zc_ltl (28) (z_nle q1) h_x2 h_x3 (by decide)
  refine zok_ck (zin_ok h3 (by decide)) ?_
  refine zok_bs (hσ.wi 0 28 (z_ix h3 (by decide)) h_x1 (by decide +kernel)) (fun σ1 e5 i4 => ?_)
  refine zok_br (zr_add (lo := 1) (hi := 29) h3 (zr_c (lo := 1) (hi := 1) (by decide)) (by decide)) (fun v2 e7 h6 => ?_)
  exact hk5 _ _ _ _ i4 h_x1 (zr_w h6 (by decide)) h_x3 (by rw [e7]; have := z_tadd (y := (1 : Int32)) h3 (zr_c (lo := 1) (hi := 1) (by decide)) (by decide); have e9 : (1 : Int32).toInt = 1 := rfl; omega) 
theorem s_J7_fill_53178_k36_5 {G : Nat → Int} : ∀ (n : Nat) {σ : zSt} (hσ : zIC G σ) {x1 : Int32} (h_x1 : zr (0) (0) x1) {x2 : Int32} (h_x2 : zr (0) (29) x2) {x3 : Int32} (h_x3 : zr (29) (29) x3) (hm : (29) - x2.toInt < n), zok (fJ7_fill_53178_k36_5 n σ x1 x2 x3) (zIC G) := by
  intro n
  induction n with
  | zero => intro σ hσ x1 h_x1 x2 h_x2 x3 h_x3 hm ; have h9 := h_x2.1; have h8 := h_x2.2; exfalso; omega
  | succ n ih => intro σ hσ x1 h_x1 x2 h_x2 x3 h_x3 hm ; exact s_J7_fill_53178_k36_5_body (fun σ x1 x2 x3 hσ h_x1 h_x2 h_x3 hm1 => ih hσ h_x1 h_x2 h_x3 (by omega)) hσ h_x1 h_x2 h_x3 (Int.le_refl _)
theorem s_J7_fill_53178_k36 {G : Nat → Int} {σ : zSt} (hσ : zIC G σ) {x1 : Int32} (h_x1 : zr (0) (0) x1) : zok (fJ7_fill_53178_k36 σ x1) (zIC G) := by
  unfold fJ7_fill_53178_k36
  exact (s_J7_fill_53178_k36_5 zfuel hσ h_x1 (zr_w (zr_c (lo := 0) (hi := 0) (by decide)) (by decide)) (zr_c (lo := 29) (hi := 29) (by decide)) (by decide))
theorem s_X5_clear {G : Nat → Int} {σ : zSt} (hσ : zIC G σ) : zok (fX5_clear σ ) (zIC G) := by
  unfold fX5_clear
  refine zok_bu (s_J7_fill_53178_k36 hσ (zr_c (lo := 0) (hi := 0) (by decide))) (fun σ1 i1 => ?_)
  refine zok_ck rfl ?_
  refine zok_bs (i1.wi 18 18 (by decide) (zr_c (lo := 57328) (hi := 57328) (by decide)) (by decide +kernel)) (fun σ2 e3 i2 => ?_)
  exact zok_some i2
theorem s_X5_keep {G : Nat → Int} {σ : zSt} (hσ : zIC G σ) : zok (fX5_keep σ ) (zIC G) := by
  unfold fX5_keep
  refine zok_ck (by decide) ?_
  refine zok_bs (hσ.wc (by decide +kernel) rfl rfl) (fun σ1 e2 i1 => ?_)
  exact zok_some i1
theorem s_X5_bringBack {G : Nat → Int} {σ : zSt} (hσ : zIC G σ) : zok (fX5_bringBack σ ) (zIC G) := by
  unfold fX5_bringBack
  refine zok_ck (by decide) ?_
  refine zok_bs (hσ.wc (by decide +kernel) rfl rfl) (fun σ1 e2 i1 => ?_)
  exact zok_some i1
theorem s_X5_value_20 {σ : zSt} (hσ : zPC σ) {s0 : Int32} : zok (fX5_value_20 σ s0) (zPi σ (fun v : Int32 => True)) := by
  unfold fX5_value_20
  exact zok_spi trivial
theorem s_X5_value {σ : zSt} (hσ : zPC σ) {x1 : Int32} (h_x1 : zr (0) (27) x1) : zok (fX5_value σ x1) (zPi σ (fun v : Int32 => True)) := by
  unfold fX5_value
  refine zok_if (fun q1 => ?_) (fun q1 => ?_)
  · exact zr_no (zc_ltl (-1) q1 h_x1 (zr_c (lo := 0) (hi := 0) (by decide)) (by decide)) (by decide)
  refine zok_if (fun q2 => ?_) (fun q2 => ?_)
  · exact zr_no (zc_lel (27) q2 (zr_c (lo := 29) (hi := 29) (by decide)) h_x1 (by decide)) (by decide)
  refine zok_ck (zin_ok h_x1 (by decide)) ?_
  exact (s_X5_value_20 hσ)
theorem s_X5_change_81 {σ : zSt} (hσ : zPC σ) : zok (fX5_change_81 σ ) (zPu σ) := by
  unfold fX5_change_81
  exact zok_spu
theorem s_X5_change_75 {G : Nat → Int} {σ : zSt} (hσ : zIC G σ) {x2 : Int32} {s0 : Int32} (h_s0 : zr (0) (22) s0) : zok (fX5_change_75 σ x2 s0) (zIC G) := by
  unfold fX5_change_75
  unfold fX5_change_80
  refine zok_ck (zin_ok h_s0 (by decide)) ?_
  refine zok_bs (hσ.wi 0 22 (z_ix h_s0 (by decide)) (zr_andr (lo := 0) (hi := 255) (zr_c (lo := 255) (hi := 255) (by decide)) (by decide)) (by decide +kernel)) (fun σ1 e2 i1 => ?_)
  exact zok_pau i1 (s_X5_change_81 i1.P)
theorem s_X5_change {G : Nat → Int} {σ : zSt} (hσ : zIC G σ) {x1 : Int32} (h_x1 : zr (0) (25) x1) {x2 : Int32} : zok (fX5_change σ x1 x2) (zIC G) := by
  unfold fX5_change
  refine zok_if (fun q1 => ?_) (fun q1 => ?_)
  · exact zr_no (zc_ltl (-1) q1 h_x1 (zr_c (lo := 0) (hi := 0) (by decide)) (by decide)) (by decide)
  refine zok_if (fun q2 => ?_) (fun q2 => ?_)
  · refine zok_if (fun q3 => ?_) (fun q3 => ?_)
    · have h4 := zc_eql (25) (25) q3 h_x1 (zr_c (lo := 25) (hi := 25) (by decide)) (by decide)
      refine zok_ck (zin_ok h4 (by decide)) ?_
      refine zok_bs (hσ.wi 25 25 (z_ix h4 (by decide)) (zr_min (lo := 0) (hi := 2) (zr_c (lo := 2) (hi := 2) (by decide)) (zr_andr (lo := 0) (hi := 3) (zr_c (lo := 3) (hi := 3) (by decide)) (by decide)) (by decide)) (by decide +kernel)) (fun σ3 e6 i5 => ?_)
      exact zok_pau i5 (s_X5_change_81 i5.P)
    have h7 := zc_nel (0) (24) q3 h_x1 (zr_c (lo := 25) (hi := 25) (by decide)) (by decide)
    refine zok_if (fun q8 => ?_) (fun q8 => ?_)
    · have h9 := zc_ltl (22) q8 h7 (zr_c (lo := 23) (hi := 23) (by decide)) (by decide)
      refine zok_if (fun q10 => ?_) (fun q10 => ?_)
      · have h11 := zc_ltl (15) q10 h9 (zr_c (lo := 16) (hi := 16) (by decide)) (by decide)
        exact (s_X5_change_75 hσ (zr_w h11 (by decide)))
      have h12 := zc_ler (16) (z_nlt q10) (zr_c (lo := 16) (hi := 16) (by decide)) h9 (by decide)
      refine zok_if (fun q13 => ?_) (fun q13 => ?_)
      · have h14 := zc_ltr (21) q13 (zr_c (lo := 20) (hi := 20) (by decide)) h12 (by decide)
        exact (s_X5_change_75 hσ (zr_w h14 (by decide)))
      have h15 := zc_lel (20) (z_nlt q13) h12 (zr_c (lo := 20) (hi := 20) (by decide)) (by decide)
      unfold fX5_change_80
      refine zok_ck (zin_ok h15 (by decide)) ?_
      refine zok_bs (hσ.wi 16 20 (z_ix h15 (by decide)) (zr_andr (lo := 0) (hi := 65535) (zr_c (lo := 65535) (hi := 65535) (by decide)) (by decide)) (by decide +kernel)) (fun σ1 e17 i16 => ?_)
      exact zok_pau i16 (s_X5_change_81 i16.P)
    have h18 := zc_ler (23) (z_nlt q8) (zr_c (lo := 23) (hi := 23) (by decide)) h7 (by decide)
    refine zok_ck (zin_ok h18 (by decide)) ?_
    refine zok_bs (hσ.wi 23 24 (z_ix h18 (by decide)) (zr_andr (lo := 0) (hi := 1) (zr_c (lo := 1) (hi := 1) (by decide)) (by decide)) (by decide +kernel)) (fun σ2 e20 i19 => ?_)
    exact zok_pau i19 (s_X5_change_81 i19.P)
  exact zr_no (zc_ltl (24) (z_nle q2) (zr_c (lo := 25) (hi := 25) (by decide)) h_x1 (by decide)) (by decide)
theorem s_X5_askForPause {G : Nat → Int} {σ : zSt} (hσ : zIC G σ) : zok (fX5_askForPause σ ) (zIC G) := by
  unfold fX5_askForPause
  refine zok_ck rfl ?_
  refine zok_bs (hσ.wi 27 27 (by decide) (zr_c (lo := 1) (hi := 1) (by decide)) (by decide +kernel)) (fun σ1 e2 i1 => ?_)
  exact zok_some i1
theorem s_X5_growR {G : Nat → Int} {σ : zSt} (hσ : zIC G σ) : zok (fX5_growR σ ) (zIC G) := by
  unfold fX5_growR
  refine zok_ck rfl ?_
  refine zok_ck rfl ?_
  refine zok_ck rfl ?_
  refine zok_bs (hσ.wi 22 22 (by decide) (zr_or (lo := 0) (hi := 255) 8 (zr_andr (lo := 0) (hi := 128) (zr_c (lo := 128) (hi := 128) (by decide)) (by decide)) (zr_andr (lo := 0) (hi := 127) (zr_c (lo := 127) (hi := 127) (by decide)) (by decide)) (by decide)) (by decide +kernel)) (fun σ1 e2 i1 => ?_)
  exact zok_some i1
theorem s_X5_push {G : Nat → Int} {σ : zSt} (hσ : zIC G σ) {x1 : Int32} (h_x1 : zr (0) (65535) x1) : zok (fX5_push σ x1) (zIC G) := by
  unfold fX5_push
  refine zok_ck rfl ?_
  refine zok_bu (s_X2_write hσ (zr_w (zr_sub (lo := -1) (hi := 65534) (rC_22 hσ.sg _ (by decide)) (zr_c (lo := 1) (hi := 1) (by decide)) (by decide)) (by decide)) (zr_shr (lo := 0) (hi := 255) 8 (by decide) h_x1 (by decide))) (fun σ1 i1 => ?_)
  refine zok_ck rfl ?_
  refine zok_bu (s_X2_write i1 (zr_w (zr_sub (lo := -2) (hi := 65533) (rC_22 i1.sg _ (by decide)) (zr_c (lo := 2) (hi := 2) (by decide)) (by decide)) (by decide)) (zr_andr (lo := 0) (hi := 255) (zr_c (lo := 255) (hi := 255) (by decide)) (by decide))) (fun σ2 i2 => ?_)
  refine zok_ck rfl ?_
  refine zok_ck rfl ?_
  refine zok_bs (i2.wi 18 18 (by decide) (zr_andr (lo := 0) (hi := 65535) (zr_c (lo := 65535) (hi := 65535) (by decide)) (by decide)) (by decide +kernel)) (fun σ3 e4 i3 => ?_)
  exact zok_some i3
theorem s_X5_goTo {G : Nat → Int} {σ : zSt} (hσ : zIC G σ) {x1 : Int32} (h_x1 : zr (0) (65535) x1) : zok (fX5_goTo σ x1) (zIC G) := by
  unfold fX5_goTo
  refine zok_ck rfl ?_
  refine zok_bs (hσ.wi 19 19 (by decide) h_x1 (by decide +kernel)) (fun σ1 e2 i1 => ?_)
  refine zok_ck rfl ?_
  refine zok_bs (i1.wi 20 20 (by decide) h_x1 (by decide +kernel)) (fun σ2 e4 i3 => ?_)
  exact zok_some i3
theorem s_X5_breakOff {G : Nat → Int} {σ : zSt} (hσ : zIC G σ) {x1 : Int32} (h_x1 : zr (0) (65535) x1) : zok (fX5_breakOff σ x1) (zIC G) := by
  unfold fX5_breakOff
  refine zok_bu (s_X5_growR hσ) (fun σ1 i1 => ?_)
  refine zok_ck rfl ?_
  refine zok_bs (i1.wi 26 26 (by decide) (zr_c (lo := 0) (hi := 0) (by decide)) (by decide +kernel)) (fun σ2 e3 i2 => ?_)
  refine zok_ck rfl ?_
  refine zok_bu (s_X5_push i2 (rC_22 i2.sg _ (by decide))) (fun σ3 i4 => ?_)
  refine zok_bu (s_X5_goTo i4 h_x1) (fun σ4 i5 => ?_)
  exact zok_some i5
theorem s_X5_readWord {σ : zSt} (hσ : zPC σ) {x1 : Int32} (h_x1 : zr (0) (65535) x1) : zok (fX5_readWord σ x1) (zPi σ (fun v : Int32 => zr (0) (65535) v)) := by
  unfold fX5_readWord
  refine zok_pi (s_X2_read hσ) (fun v2 h1 => ?_)
  refine zok_pi (s_X2_read hσ) (fun v4 h2 => ?_)
  exact zok_spi (zr_or (lo := 0) (hi := 65535) 16 h1 (zr_shl (lo := 0) (hi := 65280) 8 (by decide) h2 (by decide)) (by decide))
theorem s_X5_answerCalls_82 {σ : zSt} (hσ : zPC σ) : zok (fX5_answerCalls_82 σ ) (zPi σ (fun v : Int32 => zr (0) (19) v)) := by
  unfold fX5_answerCalls_82
  exact zok_spi (zr_w (zr_c (lo := 0) (hi := 0) (by decide)) (by decide))
theorem s_X5_answerCalls_64 {G : Nat → Int} {σ : zSt} (hσ : zIC G σ) {x1 : Int32} (h_x1 : zr (0) (1) x1) {x2 : Int32} (h_x2 : zr (0) (1) x2) : zok (fX5_answerCalls_64 σ x1 x2) (zAi (zIC G) (fun v : Int32 => zr (0) (19) v)) := by
  unfold fX5_answerCalls_64
  refine zok_if (fun q1 => ?_) (fun q1 => ?_)
  · have h2 := zc_eql (0) (0) q1 h_x2 (zr_c (lo := 0) (hi := 0) (by decide)) (by decide)
    exact zok_pai hσ (s_X5_answerCalls_82 hσ.P)
  have h3 := zc_nel (1) (1) q1 h_x2 (zr_c (lo := 0) (hi := 0) (by decide)) (by decide)
  refine zok_if (fun q4 => ?_) (fun q4 => ?_)
  · have h5 := zc_eql (0) (0) q4 h_x1 (zr_c (lo := 0) (hi := 0) (by decide)) (by decide)
    exact zok_pai hσ (s_X5_answerCalls_82 hσ.P)
  have h6 := zc_nel (1) (1) q4 h_x1 (zr_c (lo := 0) (hi := 0) (by decide)) (by decide)
  refine zok_ck rfl ?_
  refine zok_if (fun q7 => ?_) (fun q7 => ?_)
  · have h8 := zc_eql (0) (0) q7 (rC_24 hσ.sg _ (by decide)) (zr_c (lo := 0) (hi := 0) (by decide)) (by decide)
    exact zok_pai hσ (s_X5_answerCalls_82 hσ.P)
  have h9 := zc_nel (1) (1) q7 (rC_24 hσ.sg _ (by decide)) (zr_c (lo := 0) (hi := 0) (by decide)) (by decide)
  refine zok_ck rfl ?_
  refine zok_bs (hσ.wi 23 23 (by decide) (zr_c (lo := 0) (hi := 0) (by decide)) (by decide +kernel)) (fun σ1 e11 i10 => ?_)
  refine zok_ck rfl ?_
  refine zok_bs (i10.wi 24 24 (by decide) (zr_c (lo := 0) (hi := 0) (by decide)) (by decide +kernel)) (fun σ2 e13 i12 => ?_)
  refine zok_ck rfl ?_
  refine zok_if (fun q14 => ?_) (fun q14 => ?_)
  · have h15 := zc_eql (2) (2) q14 (rC_25 i12.sg _ (by decide)) (zr_c (lo := 2) (hi := 2) (by decide)) (by decide)
    refine zok_ck rfl ?_
    refine zok_pi (s_X5_readWord i12.P (zr_or (lo := 0) (hi := 65535) 16 (zr_shl (lo := 0) (hi := 65280) 8 (by decide) (rC_23 i12.sg _ (by decide)) (by decide)) (zr_c (lo := 255) (hi := 255) (by decide)) (by decide))) (fun v5 h16 => ?_)
    refine zok_bu (s_X5_breakOff i12 h16) (fun σ6 i17 => ?_)
    exact zok_sai i17 (zr_w (zr_c (lo := 19) (hi := 19) (by decide)) (by decide))
  have h18 := zc_nel (0) (1) q14 (rC_25 i12.sg _ (by decide)) (zr_c (lo := 2) (hi := 2) (by decide)) (by decide)
  refine zok_bu (s_X5_breakOff i12 (zr_w (zr_c (lo := 56) (hi := 56) (by decide)) (by decide))) (fun σ3 i19 => ?_)
  exact zok_sai i19 (zr_w (zr_c (lo := 13) (hi := 13) (by decide)) (by decide))
theorem s_X5_answerCalls_15 {G : Nat → Int} {σ : zSt} (hσ : zIC G σ) {x1 : Int32} (h_x1 : zr (0) (1) x1) {s0 : Int32} (h_s0 : zr (0) (1) s0) : zok (fX5_answerCalls_15 σ x1 s0) (zAi (zIC G) (fun v : Int32 => zr (0) (19) v)) := by
  unfold fX5_answerCalls_15
  refine zok_ck rfl ?_
  refine zok_bs (hσ.wi 28 28 (by decide) (zr_c (lo := 0) (hi := 0) (by decide)) (by decide +kernel)) (fun σ7 e2 i1 => ?_)
  refine zok_if (fun q3 => ?_) (fun q3 => ?_)
  · have h4 := zc_eql (0) (0) q3 h_s0 (zr_c (lo := 0) (hi := 0) (by decide)) (by decide)
    exact (s_X5_answerCalls_64 i1 h_x1 (zr_w h4 (by decide)))
  have h5 := zc_nel (1) (1) q3 h_s0 (zr_c (lo := 0) (hi := 0) (by decide)) (by decide)
  refine zok_ck rfl ?_
  refine zok_if (fun q6 => ?_) (fun q6 => ?_)
  · have h7 := zc_eql (1) (1) q6 (rC_26 i1.sg _ (by decide)) (zr_c (lo := 1) (hi := 1) (by decide)) (by decide)
    refine zok_ck rfl ?_
    refine zok_bs (i1.wi 27 27 (by decide) (zr_c (lo := 0) (hi := 0) (by decide)) (by decide +kernel)) (fun σ8 e9 i8 => ?_)
    refine zok_ck rfl ?_
    refine zok_bs (i8.wi 23 23 (by decide) (zr_c (lo := 0) (hi := 0) (by decide)) (by decide +kernel)) (fun σ9 e11 i10 => ?_)
    refine zok_bu (s_X5_breakOff i10 (zr_w (zr_c (lo := 102) (hi := 102) (by decide)) (by decide))) (fun σ10 i12 => ?_)
    exact zok_sai i12 (zr_w (zr_c (lo := 11) (hi := 11) (by decide)) (by decide))
  have h13 := zc_nel (0) (0) q6 (rC_26 i1.sg _ (by decide)) (zr_c (lo := 1) (hi := 1) (by decide)) (by decide)
  exact (s_X5_answerCalls_64 i1 h_x1 (zr_w h5 (by decide)))
theorem s_X5_answerCalls {G : Nat → Int} {σ : zSt} (hσ : zIC G σ) {x1 : Int32} (h_x1 : zr (0) (1) x1) : zok (fX5_answerCalls σ x1) (zAi (zIC G) (fun v : Int32 => zr (0) (19) v)) := by
  unfold fX5_answerCalls
  refine zok_ck rfl ?_
  refine zok_if (fun q1 => ?_) (fun q1 => ?_)
  · have h2 := zc_eql (0) (0) q1 (rC_26 hσ.sg _ (by decide)) (zr_c (lo := 0) (hi := 0) (by decide)) (by decide)
    exact (s_X5_answerCalls_15 hσ h_x1 (zr_w (zr_c (lo := 1) (hi := 1) (by decide)) (by decide)))
  have h3 := zc_nel (1) (1) q1 (rC_26 hσ.sg _ (by decide)) (zr_c (lo := 0) (hi := 0) (by decide)) (by decide)
  exact (s_X5_answerCalls_15 hσ h_x1 (zr_w (zr_c (lo := 0) (hi := 0) (by decide)) (by decide)))
theorem s_X5_pairAt {σ : zSt} (hσ : zPC σ) {x1 : Int32} (h_x1 : zr (0) (6) x1) : zok (fX5_pairAt σ x1) (zPi σ (fun v : Int32 => zr (0) (65535) v)) := by
  unfold fX5_pairAt
  refine zok_ck (zin_ok h_x1 (by decide)) ?_
  refine zok_ck (zin_ok (zr_add (lo := 1) (hi := 7) h_x1 (zr_c (lo := 1) (hi := 1) (by decide)) (by decide)) (by decide)) ?_
  exact zok_spi (zr_or (lo := 0) (hi := 65535) 16 (zr_shl (lo := 0) (hi := 65280) 8 (by decide) (rC_21 hσ.sg _ (z_ix h_x1 (by decide))) (by decide)) (rC_21 hσ.sg _ (z_ix (zr_add (lo := 1) (hi := 7) h_x1 (zr_c (lo := 1) (hi := 1) (by decide)) (by decide)) (by decide))) (by decide))
theorem s_X5_fetch {G : Nat → Int} {σ : zSt} (hσ : zIC G σ) : zok (fX5_fetch σ ) (zAi (zIC G) (fun v : Int32 => zr (0) (255) v)) := by
  unfold fX5_fetch
  refine zok_ck rfl ?_
  refine zok_pi (s_X2_read hσ.P) (fun v2 h1 => ?_)
  refine zok_ck rfl ?_
  refine zok_ck rfl ?_
  refine zok_bs (hσ.wi 19 19 (by decide) (zr_andr (lo := 0) (hi := 65535) (zr_c (lo := 65535) (hi := 65535) (by decide)) (by decide)) (by decide +kernel)) (fun σ3 e3 i2 => ?_)
  exact zok_sai i2 h1
theorem s_X5_fetchOp {G : Nat → Int} {σ : zSt} (hσ : zIC G σ) : zok (fX5_fetchOp σ ) (zAi (zIC G) (fun v : Int32 => zr (0) (255) v)) := by
  unfold fX5_fetchOp
  refine zok_bu (s_X5_growR hσ) (fun σ1 i1 => ?_)
  refine zok_ai (s_X5_fetch i1) (fun σ2 v3 i2 h3 => ?_)
  exact zok_sai i2 h3
theorem s_X5_askBit_38 {G : Nat → Int} {σ : zSt} (hσ : zIC G σ) {x3 : Int32} (h_x3 : zr (0) (255) x3) {s0 : Int32} (h_s0 : zr (0) (68) s0) {s1 : Int32} (h_s1 : zr (0) (255) s1) {s2 : Int32} (h_s2 : zr (1) (1) s2) : zok (fX5_askBit_38 σ x3 s0 s1 s2) (zIC G) := by
  unfold fX5_askBit_38
  refine zok_ck (zin_ok h_s2 (by decide)) ?_
  refine zok_bs (hσ.wi 1 1 (z_ix h_s2 (by decide)) (zr_or (lo := 0) (hi := 255) 8 (zr_or (lo := 0) (hi := 255) 8 (zr_or (lo := 0) (hi := 255) 8 h_s1 h_s0 (by decide)) (zr_c (lo := 16) (hi := 16) (by decide)) (by decide)) (zr_andr (lo := 0) (hi := 40) (zr_c (lo := 40) (hi := 40) (by decide)) (by decide)) (by decide)) (by decide +kernel)) (fun σ1 e2 i1 => ?_)
  exact zok_some i1
theorem s_X5_askBit {G : Nat → Int} {σ : zSt} (hσ : zIC G σ) {x1 : Int32} (h_x1 : zr (0) (7) x1) {x2 : Int32} (h_x2 : zr (0) (255) x2) {x3 : Int32} (h_x3 : zr (0) (255) x3) : zok (fX5_askBit σ x1 x2 x3) (zIC G) := by
  unfold fX5_askBit
  refine zok_br (zr_andr (lo := 0) (hi := 128) (zr_shld (lo := 0) (hi := 128) (zr_c (lo := 1) (hi := 1) (by decide)) h_x1 (by decide)) (by decide)) (fun v2 e2 h1 => ?_)
  refine zok_ck rfl ?_
  refine zok_if (fun q3 => ?_) (fun q3 => ?_)
  · have h4 := zc_eql (0) (0) q3 h1 (zr_c (lo := 0) (hi := 0) (by decide)) (by decide)
    exact (s_X5_askBit_38 hσ h_x3 (zr_w (zr_c (lo := 68) (hi := 68) (by decide)) (by decide)) (zr_w (zr_or (lo := 0) (hi := 1) 1 (zr_andr (lo := 0) (hi := 1) (zr_c (lo := 1) (hi := 1) (by decide)) (by decide)) (zr_andl (lo := 0) (hi := 0) h4 (by decide)) (by decide)) (by decide)) (zr_c (lo := 1) (hi := 1) (by decide)))
  have h5 := zc_nel (1) (128) q3 h1 (zr_c (lo := 0) (hi := 0) (by decide)) (by decide)
  exact (s_X5_askBit_38 hσ h_x3 (zr_w (zr_c (lo := 0) (hi := 0) (by decide)) (by decide)) (zr_or (lo := 0) (hi := 255) 8 (zr_andr (lo := 0) (hi := 1) (zr_c (lo := 1) (hi := 1) (by decide)) (by decide)) (zr_andr (lo := 0) (hi := 128) (zr_c (lo := 128) (hi := 128) (by decide)) (by decide)) (by decide)) (zr_c (lo := 1) (hi := 1) (by decide)))
theorem s_X5_by_15 {σ : zSt} (hσ : zPC σ) {s0 : Int32} (h_s0 : zr (0) (64) s0) {s1 : Int32} (h_s1 : zr (0) (168) s1) : zok (fX5_by_15 σ s0 s1) (zPi σ (fun v : Int32 => zr (0) (255) v)) := by
  unfold fX5_by_15
  exact zok_spi (zr_or (lo := 0) (hi := 255) 8 h_s1 h_s0 (by decide))
theorem s_X5_by {σ : zSt} (hσ : zPC σ) {x0 : Int32} (h_x0 : zr (0) (255) x0) : zok (fX5_by σ x0) (zPi σ (fun v : Int32 => zr (0) (255) v)) := by
  unfold fX5_by
  refine zok_if (fun q1 => ?_) (fun q1 => ?_)
  · have h2 := zc_eql (0) (0) q1 h_x0 (zr_c (lo := 0) (hi := 0) (by decide)) (by decide)
    exact (s_X5_by_15 hσ (zr_w (zr_c (lo := 64) (hi := 64) (by decide)) (by decide)) (zr_w (zr_andl (lo := 0) (hi := 0) h2 (by decide)) (by decide)))
  have h3 := zc_nel (1) (255) q1 h_x0 (zr_c (lo := 0) (hi := 0) (by decide)) (by decide)
  exact (s_X5_by_15 hσ (zr_w (zr_c (lo := 0) (hi := 0) (by decide)) (by decide)) (zr_andr (lo := 0) (hi := 168) (zr_c (lo := 168) (hi := 168) (by decide)) (by decide)))
theorem s_J6_bitCount_0f7a4 {σ : zSt} (hσ : zPC σ) {x0 : Int32} (h_x0 : zr (0) (255) x0) : zok (fJ6_bitCount_0f7a4 σ x0) (zPi σ (fun v : Int32 => zr (0) (63) v)) := by
  unfold fJ6_bitCount_0f7a4
  refine zok_br (zr_sub (lo := -1431655765) (hi := 255) h_x0 (zr_andr (lo := 0) (hi := 1431655765) (zr_c (lo := 1431655765) (hi := 1431655765) (by decide)) (by decide)) (by decide)) (fun v1 e2 h1 => ?_)
  refine zok_br (zr_add (lo := 0) (hi := 1717986918) (zr_andr (lo := 0) (hi := 858993459) (zr_c (lo := 858993459) (hi := 858993459) (by decide)) (by decide)) (zr_andr (lo := 0) (hi := 858993459) (zr_c (lo := 858993459) (hi := 858993459) (by decide)) (by decide)) (by decide)) (fun v2 e4 h3 => ?_)
  refine zok_br (zr_andr (lo := 0) (hi := 252645135) (zr_c (lo := 252645135) (hi := 252645135) (by decide)) (by decide)) (fun v3 e6 h5 => ?_)
  refine zok_bv (fun v4 e8 => ?_)
  refine zok_bv (fun v5 e10 => ?_)
  exact zok_spi (zr_andr (lo := 0) (hi := 63) (zr_c (lo := 63) (hi := 63) (by decide)) (by decide))
theorem s_X5_parity_14 {σ : zSt} (hσ : zPC σ) {s0 : Int32} (h_s0 : zr (0) (4) s0) : zok (fX5_parity_14 σ s0) (zPi σ (fun v : Int32 => zr (0) (4) v)) := by
  unfold fX5_parity_14
  exact zok_spi h_s0
theorem s_X5_parity {σ : zSt} (hσ : zPC σ) {x0 : Int32} (h_x0 : zr (0) (255) x0) : zok (fX5_parity σ x0) (zPi σ (fun v : Int32 => zr (0) (4) v)) := by
  unfold fX5_parity
  refine zok_pi (s_J6_bitCount_0f7a4 hσ h_x0) (fun v2 h1 => ?_)
  refine zok_if (fun q2 => ?_) (fun q2 => ?_)
  · have h3 := zc_eql (0) (0) q2 (zr_andr (lo := 0) (hi := 1) (zr_c (lo := 1) (hi := 1) (by decide)) (by decide)) (zr_c (lo := 0) (hi := 0) (by decide)) (by decide)
    exact (s_X5_parity_14 hσ (zr_w (zr_c (lo := 4) (hi := 4) (by decide)) (by decide)))
  have h4 := zc_nel (1) (1) q2 (zr_andr (lo := 0) (hi := 1) (zr_c (lo := 1) (hi := 1) (by decide)) (by decide)) (zr_c (lo := 0) (hi := 0) (by decide)) (by decide)
  exact (s_X5_parity_14 hσ (zr_w (zr_c (lo := 0) (hi := 0) (by decide)) (by decide)))
theorem s_X5_turn_136 {G : Nat → Int} {σ : zSt} (hσ : zIC G σ) {x4 : Int32} (h_x4 : zr (0) (1) x4) {s0 : Int32} (h_s0 : zr (0) (255) s0) : zok (fX5_turn_136 σ x4 s0) (zAi (zIC G) (fun v : Int32 => zr (0) (255) v)) := by
  unfold fX5_turn_136
  refine zok_pi (s_X5_by hσ.P h_s0) (fun v2 h1 => ?_)
  refine zok_pi (s_X5_parity hσ.P h_s0) (fun v4 h2 => ?_)
  refine zok_ck rfl ?_
  refine zok_bs (hσ.wi 1 1 (by decide) (zr_or (lo := 0) (hi := 255) 8 (zr_or (lo := 0) (hi := 255) 8 h1 h2 (by decide)) h_x4 (by decide)) (by decide +kernel)) (fun σ5 e4 i3 => ?_)
  exact zok_sai i3 h_s0
theorem s_X5_turn_110 {G : Nat → Int} {σ : zSt} (hσ : zIC G σ) {x2 : Int32} (h_x2 : zr (0) (255) x2) {x3 : Int32} (h_x3 : zr (0) (1) x3) {x4 : Int32} (h_x4 : zr (0) (1) x4) {x5 : Int32} (h_x5 : zr (0) (1) x5) : zok (fX5_turn_110 σ x2 x3 x4 x5) (zAi (zIC G) (fun v : Int32 => zr (0) (255) v)) := by
  unfold fX5_turn_110
  refine zok_if (fun q1 => ?_) (fun q1 => ?_)
  · have h2 := zc_eql (0) (0) q1 h_x3 (zr_c (lo := 0) (hi := 0) (by decide)) (by decide)
    exact (s_X5_turn_136 hσ h_x4 (zr_or (lo := 0) (hi := 255) 8 (zr_shr (lo := 0) (hi := 127) 1 (by decide) h_x2 (by decide)) (zr_shl (lo := 0) (hi := 128) 7 (by decide) h_x5 (by decide)) (by decide)))
  have h3 := zc_nel (1) (1) q1 h_x3 (zr_c (lo := 0) (hi := 0) (by decide)) (by decide)
  exact (s_X5_turn_136 hσ h_x4 (zr_or (lo := 0) (hi := 255) 8 (zr_andr (lo := 0) (hi := 255) (zr_c (lo := 255) (hi := 255) (by decide)) (by decide)) h_x5 (by decide)))
theorem s_X5_turn_72 {G : Nat → Int} {σ : zSt} (hσ : zIC G σ) {x2 : Int32} (h_x2 : zr (0) (255) x2) {x3 : Int32} (h_x3 : zr (0) (1) x3) {x4 : Int32} (h_x4 : zr (0) (1) x4) : zok (fX5_turn_72 σ x2 x3 x4) (zAi (zIC G) (fun v : Int32 => zr (0) (255) v)) := by
  unfold fX5_turn_72
  exact (s_X5_turn_110 hσ h_x2 h_x3 h_x4 h_x4)
theorem s_X5_turn_79 {G : Nat → Int} {σ : zSt} (hσ : zIC G σ) {x2 : Int32} (h_x2 : zr (0) (255) x2) {x3 : Int32} (h_x3 : zr (0) (1) x3) {x4 : Int32} (h_x4 : zr (0) (1) x4) : zok (fX5_turn_79 σ x2 x3 x4) (zAi (zIC G) (fun v : Int32 => zr (0) (255) v)) := by
  unfold fX5_turn_79
  refine zok_ck rfl ?_
  refine zok_br (zr_andr (lo := 0) (hi := 1) (zr_c (lo := 1) (hi := 1) (by decide)) (by decide)) (fun v6 e2 h1 => ?_)
  exact (s_X5_turn_110 hσ h_x2 h_x3 h_x4 h1)
theorem s_X5_turn_107 {G : Nat → Int} {σ : zSt} (hσ : zIC G σ) {x2 : Int32} (h_x2 : zr (0) (255) x2) {x3 : Int32} (h_x3 : zr (0) (1) x3) {x4 : Int32} (h_x4 : zr (0) (1) x4) : zok (fX5_turn_107 σ x2 x3 x4) (zAi (zIC G) (fun v : Int32 => zr (0) (255) v)) := by
  unfold fX5_turn_107
  exact (s_X5_turn_110 hσ h_x2 h_x3 h_x4 (zr_w (zr_c (lo := 0) (hi := 0) (by decide)) (by decide)))
theorem s_X5_turn_26 {G : Nat → Int} {σ : zSt} (hσ : zIC G σ) {x1 : Int32} (h_x1 : zr (0) (7) x1) {x2 : Int32} (h_x2 : zr (0) (255) x2) {x3 : Int32} (h_x3 : zr (0) (1) x3) {s0 : Int32} (h_s0 : zr (0) (1) s0) : zok (fX5_turn_26 σ x1 x2 x3 s0) (zAi (zIC G) (fun v : Int32 => zr (0) (255) v)) := by
  unfold fX5_turn_26
  refine zok_if (fun q1 => ?_) (fun q1 => ?_)
  · have h2 := zc_eql (0) (0) q1 h_x1 (zr_c (lo := 0) (hi := 0) (by decide)) (by decide)
    exact (s_X5_turn_72 hσ h_x2 h_x3 h_s0)
  have h3 := zc_nel (1) (7) q1 h_x1 (zr_c (lo := 0) (hi := 0) (by decide)) (by decide)
  refine zok_if (fun q4 => ?_) (fun q4 => ?_)
  · have h5 := zc_eql (1) (1) q4 h3 (zr_c (lo := 1) (hi := 1) (by decide)) (by decide)
    exact (s_X5_turn_72 hσ h_x2 h_x3 h_s0)
  have h6 := zc_nel (2) (7) q4 h3 (zr_c (lo := 1) (hi := 1) (by decide)) (by decide)
  refine zok_if (fun q7 => ?_) (fun q7 => ?_)
  · have h8 := zc_eql (2) (2) q7 h6 (zr_c (lo := 2) (hi := 2) (by decide)) (by decide)
    exact (s_X5_turn_79 hσ h_x2 h_x3 h_s0)
  have h9 := zc_nel (3) (7) q7 h6 (zr_c (lo := 2) (hi := 2) (by decide)) (by decide)
  refine zok_if (fun q10 => ?_) (fun q10 => ?_)
  · have h11 := zc_eql (3) (3) q10 h9 (zr_c (lo := 3) (hi := 3) (by decide)) (by decide)
    exact (s_X5_turn_79 hσ h_x2 h_x3 h_s0)
  have h12 := zc_nel (4) (7) q10 h9 (zr_c (lo := 3) (hi := 3) (by decide)) (by decide)
  refine zok_if (fun q13 => ?_) (fun q13 => ?_)
  · have h14 := zc_eql (4) (4) q13 h12 (zr_c (lo := 4) (hi := 4) (by decide)) (by decide)
    exact (s_X5_turn_107 hσ h_x2 h_x3 h_s0)
  have h15 := zc_nel (5) (7) q13 h12 (zr_c (lo := 4) (hi := 4) (by decide)) (by decide)
  refine zok_if (fun q16 => ?_) (fun q16 => ?_)
  · have h17 := zc_eql (5) (5) q16 h15 (zr_c (lo := 5) (hi := 5) (by decide)) (by decide)
    refine zok_br (zr_shr (lo := 0) (hi := 1) 7 (by decide) h_x2 (by decide)) (fun v7 e19 h18 => ?_)
    exact (s_X5_turn_110 hσ h_x2 h_x3 h_s0 h18)
  have h20 := zc_nel (6) (7) q16 h15 (zr_c (lo := 5) (hi := 5) (by decide)) (by decide)
  refine zok_if (fun q21 => ?_) (fun q21 => ?_)
  · have h22 := zc_eql (6) (6) q21 h20 (zr_c (lo := 6) (hi := 6) (by decide)) (by decide)
    exact (s_X5_turn_110 hσ h_x2 h_x3 h_s0 (zr_w (zr_c (lo := 1) (hi := 1) (by decide)) (by decide)))
  have h23 := zc_nel (7) (7) q21 h20 (zr_c (lo := 6) (hi := 6) (by decide)) (by decide)
  exact (s_X5_turn_107 hσ h_x2 h_x3 h_s0)
theorem s_X5_turn_11 {G : Nat → Int} {σ : zSt} (hσ : zIC G σ) {x1 : Int32} (h_x1 : zr (0) (7) x1) {x2 : Int32} (h_x2 : zr (0) (255) x2) {s0 : Int32} (h_s0 : zr (0) (1) s0) : zok (fX5_turn_11 σ x1 x2 s0) (zAi (zIC G) (fun v : Int32 => zr (0) (255) v)) := by
  unfold fX5_turn_11
  refine zok_if (fun q1 => ?_) (fun q1 => ?_)
  · have h2 := zc_eql (0) (0) q1 h_s0 (zr_c (lo := 0) (hi := 0) (by decide)) (by decide)
    exact (s_X5_turn_26 hσ h_x1 h_x2 (zr_w h2 (by decide)) (zr_andr (lo := 0) (hi := 1) (zr_c (lo := 1) (hi := 1) (by decide)) (by decide)))
  have h3 := zc_nel (1) (1) q1 h_s0 (zr_c (lo := 0) (hi := 0) (by decide)) (by decide)
  exact (s_X5_turn_26 hσ h_x1 h_x2 (zr_w h3 (by decide)) (zr_shr (lo := 0) (hi := 1) 7 (by decide) h_x2 (by decide)))
theorem s_X5_turn {G : Nat → Int} {σ : zSt} (hσ : zIC G σ) {x1 : Int32} (h_x1 : zr (0) (7) x1) {x2 : Int32} (h_x2 : zr (0) (255) x2) : zok (fX5_turn σ x1 x2) (zAi (zIC G) (fun v : Int32 => zr (0) (255) v)) := by
  unfold fX5_turn
  refine zok_if (fun q1 => ?_) (fun q1 => ?_)
  · have h2 := zc_eql (0) (0) q1 (zr_andr (lo := 0) (hi := 1) (zr_c (lo := 1) (hi := 1) (by decide)) (by decide)) (zr_c (lo := 0) (hi := 0) (by decide)) (by decide)
    exact (s_X5_turn_11 hσ h_x1 h_x2 (zr_w (zr_c (lo := 1) (hi := 1) (by decide)) (by decide)))
  have h3 := zc_nel (1) (1) q1 (zr_andr (lo := 0) (hi := 1) (zr_c (lo := 1) (hi := 1) (by decide)) (by decide)) (zr_c (lo := 0) (hi := 0) (by decide)) (by decide)
  exact (s_X5_turn_11 hσ h_x1 h_x2 (zr_w (zr_c (lo := 0) (hi := 0) (by decide)) (by decide)))
theorem s_X5_turned {G : Nat → Int} {σ : zSt} (hσ : zIC G σ) {x1 : Int32} (h_x1 : zr (0) (255) x1) {x2 : Int32} (h_x2 : zr (0) (255) x2) : zok (fX5_turned σ x1 x2) (zAi (zIC G) (fun v : Int32 => zr (0) (255) v)) := by
  unfold fX5_turned
  refine zok_br (zr_andr (lo := 0) (hi := 7) (zr_c (lo := 7) (hi := 7) (by decide)) (by decide)) (fun v1 e2 h1 => ?_)
  refine zok_if (fun q3 => ?_) (fun q3 => ?_)
  · have h4 := zc_eql (0) (0) q3 (zr_shr (lo := 0) (hi := 3) 6 (by decide) h_x1 (by decide)) (zr_c (lo := 0) (hi := 0) (by decide)) (by decide)
    refine zok_ai (s_X5_turn hσ h1 h_x2) (fun σ2 v3 i5 h6 => ?_)
    exact zok_sai i5 h6
  have h7 := zc_nel (1) (3) q3 (zr_shr (lo := 0) (hi := 3) 6 (by decide) h_x1 (by decide)) (zr_c (lo := 0) (hi := 0) (by decide)) (by decide)
  refine zok_if (fun q8 => ?_) (fun q8 => ?_)
  · have h9 := zc_eql (2) (2) q8 h7 (zr_c (lo := 2) (hi := 2) (by decide)) (by decide)
    exact zok_sai hσ (zr_andl (lo := 0) (hi := 255) h_x2 (by decide))
  exact zok_sai hσ (zr_or (lo := 0) (hi := 255) 8 h_x2 (zr_shld (lo := 0) (hi := 128) (zr_c (lo := 1) (hi := 1) (by decide)) h1 (by decide)) (by decide))
theorem s_X5_putPairHalf_69 {σ : zSt} (hσ : zPC σ) : zok (fX5_putPairHalf_69 σ ) (zPu σ) := by
  unfold fX5_putPairHalf_69
  exact zok_spu
theorem s_X5_putPairHalf_68 {G : Nat → Int} {σ : zSt} (hσ : zIC G σ) {s0 : Int32} (h_s0 : zr (0) (65535) s0) {s1 : Int32} (h_s1 : zr (16) (17) s1) : zok (fX5_putPairHalf_68 σ s0 s1) (zIC G) := by
  unfold fX5_putPairHalf_68
  refine zok_ck (zin_ok h_s1 (by decide)) ?_
  refine zok_bs (hσ.wi 16 17 (z_ix h_s1 (by decide)) h_s0 (by decide +kernel)) (fun σ1 e2 i1 => ?_)
  exact zok_pau i1 (s_X5_putPairHalf_69 i1.P)
theorem s_X5_putPairHalf {G : Nat → Int} {σ : zSt} (hσ : zIC G σ) {x1 : Int32} (h_x1 : zr (6) (7) x1) {x2 : Int32} (h_x2 : zr (0) (255) x2) : zok (fX5_putPairHalf σ x1 x2) (zIC G) := by
  unfold fX5_putPairHalf
  refine zok_if (fun q1 => ?_) (fun q1 => ?_)
  · have h2 := zc_eql (6) (6) q1 (rC_5 hσ.sg _ (by decide)) (zr_c (lo := 6) (hi := 6) (by decide)) (by decide)
    refine zok_ck (zin_ok h_x1 (by decide)) ?_
    refine zok_bs (hσ.wi 6 7 (z_ix h_x1 (by decide)) h_x2 (by decide +kernel)) (fun σ2 e4 i3 => ?_)
    exact zok_pau i3 (s_X5_putPairHalf_69 i3.P)
  have h5 := zc_nel (7) (17) q1 (rC_5 hσ.sg _ (by decide)) (zr_c (lo := 6) (hi := 6) (by decide)) (by decide)
  have h6 := xC_sp hσ.sp h5 (by decide)
  refine zok_if (fun q7 => ?_) (fun q7 => ?_)
  · have h8 := zc_eql (6) (6) q7 h_x1 (zr_c (lo := 6) (hi := 6) (by decide)) (by decide)
    refine zok_ck (zin_ok h6 (by decide)) ?_
    exact (s_X5_putPairHalf_68 hσ (zr_or (lo := 0) (hi := 65535) 16 (zr_shl (lo := 0) (hi := 65280) 8 (by decide) h_x2 (by decide)) (zr_andr (lo := 0) (hi := 255) (zr_c (lo := 255) (hi := 255) (by decide)) (by decide)) (by decide)) h6)
  have h9 := zc_nel (7) (7) q7 h_x1 (zr_c (lo := 6) (hi := 6) (by decide)) (by decide)
  refine zok_ck (zin_ok h6 (by decide)) ?_
  exact (s_X5_putPairHalf_68 hσ (zr_or (lo := 0) (hi := 65535) 16 (zr_andr (lo := 0) (hi := 65280) (zr_c (lo := 65280) (hi := 65280) (by decide)) (by decide)) h_x2 (by decide)) h6)
theorem s_X5_putOne_88 {σ : zSt} (hσ : zPC σ) : zok (fX5_putOne_88 σ ) (zPu σ) := by
  unfold fX5_putOne_88
  exact zok_spu
end ZJN0
section ZJN1
theorem s_X5_putOne {G : Nat → Int} {σ : zSt} (hσ : zIC G σ) {x1 : Int32} (h_x1 : zr (0) (7) x1) {x2 : Int32} (h_x2 : zr (0) (255) x2) : zok (fX5_putOne σ x1 x2) (zIC G) := by
  unfold fX5_putOne
  refine zok_if (fun q1 => ?_) (fun q1 => ?_)
  · have h2 := zc_eql (4) (4) q1 h_x1 (zr_c (lo := 4) (hi := 4) (by decide)) (by decide)
    refine zok_bu (s_X5_putPairHalf hσ (zr_w (zr_c (lo := 6) (hi := 6) (by decide)) (by decide)) h_x2) (fun σ1 i3 => ?_)
    exact zok_pau i3 (s_X5_putOne_88 i3.P)
  refine zok_if (fun q4 => ?_) (fun q4 => ?_)
  · have h5 := zc_eql (5) (5) q4 h_x1 (zr_c (lo := 5) (hi := 5) (by decide)) (by decide)
    refine zok_bu (s_X5_putPairHalf hσ (zr_w (zr_c (lo := 7) (hi := 7) (by decide)) (by decide)) h_x2) (fun σ2 i6 => ?_)
    exact zok_pau i6 (s_X5_putOne_88 i6.P)
  refine zok_if (fun q7 => ?_) (fun q7 => ?_)
  · have h8 := zc_eql (6) (6) q7 h_x1 (zr_c (lo := 6) (hi := 6) (by decide)) (by decide)
    refine zok_bu (s_X2_write hσ (zr_w (rC_6 hσ.sg _ (by decide)) (by decide)) h_x2) (fun σ3 i9 => ?_)
    exact zok_pau i9 (s_X5_putOne_88 i9.P)
  refine zok_if (fun q10 => ?_) (fun q10 => ?_)
  · have h11 := zc_eql (7) (7) q10 h_x1 (zr_c (lo := 7) (hi := 7) (by decide)) (by decide)
    refine zok_ck rfl ?_
    refine zok_bs (hσ.wi 0 0 (by decide) h_x2 (by decide +kernel)) (fun σ4 e13 i12 => ?_)
    exact zok_pau i12 (s_X5_putOne_88 i12.P)
  have h14 := zc_nel (0) (6) q10 h_x1 (zr_c (lo := 7) (hi := 7) (by decide)) (by decide)
  refine zok_ck (zin_ok (zr_add (lo := 2) (hi := 5) (zr_c (lo := 2) (hi := 2) (by decide)) (zr_andr (lo := 0) (hi := 3) (zr_c (lo := 3) (hi := 3) (by decide)) (by decide)) (by decide)) (by decide)) ?_
  refine zok_bs (hσ.wi 2 5 (z_ix (zr_add (lo := 2) (hi := 5) (zr_c (lo := 2) (hi := 2) (by decide)) (zr_andr (lo := 0) (hi := 3) (zr_c (lo := 3) (hi := 3) (by decide)) (by decide)) (by decide)) (by decide)) h_x2 (by decide +kernel)) (fun σ5 e16 i15 => ?_)
  exact zok_pau i15 (s_X5_putOne_88 i15.P)
theorem s_X5_turnBeside_128 {σ : zSt} (hσ : zPC σ) : zok (fX5_turnBeside_128 σ ) (zPi σ (fun v : Int32 => zr (20) (23) v)) := by
  unfold fX5_turnBeside_128
  exact zok_spi (zr_w (zr_c (lo := 23) (hi := 23) (by decide)) (by decide))
theorem s_X5_turnBeside {G : Nat → Int} {σ : zSt} (hσ : zIC G σ) : zok (fX5_turnBeside σ ) (zAi (zIC G) (fun v : Int32 => zr (20) (23) v)) := by
  unfold fX5_turnBeside
  refine zok_ck (zin_ok (rC_5 hσ.sg _ (by decide)) (by decide)) ?_
  refine zok_ai (s_X5_fetch hσ) (fun σ1 v2 i1 h2 => ?_)
  refine zok_ck rfl ?_
  refine zok_bs (i1.wi 20 20 (by decide) (zr_andr (lo := 0) (hi := 65535) (zr_c (lo := 65535) (hi := 65535) (by decide)) (by decide)) (by decide +kernel)) (fun σ3 e4 i3 => ?_)
  refine zok_ck rfl ?_
  refine zok_bs (i3.wi 5 5 (by decide) (rC_22 i3.sg _ (by decide)) (by decide +kernel)) (fun σ4 e6 i5 => ?_)
  refine zok_bs (i5.sp0 (zr_c (lo := 6) (hi := 6) (by decide)) (by decide)) (fun σ5 e8 i7 => ?_)
  refine zok_ai (s_X5_fetch i7) (fun σ6 v7 i9 h10 => ?_)
  refine zok_pi (s_X2_read i9.P) (fun v9 h11 => ?_)
  refine zok_if (fun q12 => ?_) (fun q12 => ?_)
  · have h13 := zc_eql (1) (1) q12 (zr_shr (lo := 0) (hi := 3) 6 (by decide) h10 (by decide)) (zr_c (lo := 1) (hi := 1) (by decide)) (by decide)
    refine zok_ck rfl ?_
    refine zok_bu (s_X5_askBit i9 (zr_andr (lo := 0) (hi := 7) (zr_c (lo := 7) (hi := 7) (by decide)) (by decide)) h11 (zr_shr (lo := 0) (hi := 255) 8 (by decide) (rC_22 i9.sg _ (by decide)) (by decide))) (fun σ14 i14 => ?_)
    exact zok_sai i14 (zr_w (zr_c (lo := 20) (hi := 20) (by decide)) (by decide))
  refine zok_ai (s_X5_turned i9 h10 h11) (fun σ10 v11 i15 h16 => ?_)
  refine zok_bu (s_X2_write i15 (zr_w (rC_6 i15.sg _ (by decide)) (by decide)) h16) (fun σ12 i17 => ?_)
  refine zok_if (fun q18 => ?_) (fun q18 => ?_)
  · have h19 := zc_eql (6) (6) q18 (zr_andr (lo := 0) (hi := 7) (zr_c (lo := 7) (hi := 7) (by decide)) (by decide)) (zr_c (lo := 6) (hi := 6) (by decide)) (by decide)
    exact zok_pai i17 (s_X5_turnBeside_128 i17.P)
  refine zok_bu (s_X5_putOne i17 (zr_andr (lo := 0) (hi := 7) (zr_c (lo := 7) (hi := 7) (by decide)) (by decide)) h16) (fun σ13 i20 => ?_)
  exact zok_pai i20 (s_X5_turnBeside_128 i20.P)
theorem s_X5_meansPlace_97 {σ : zSt} (hσ : zPC σ) {s0 : Int32} (h_s0 : zr (0) (1) s0) : zok (fX5_meansPlace_97 σ s0) (zPi σ (fun v : Int32 => zr (0) (1) v)) := by
  unfold fX5_meansPlace_97
  refine zok_ck (zbo_ok h_s0 (by decide)) ?_
  exact zok_spi h_s0
theorem s_X5_meansPlace_86 {σ : zSt} (hσ : zPC σ) {s0 : Int32} (h_s0 : zr (0) (1) s0) : zok (fX5_meansPlace_86 σ s0) (zPi σ (fun v : Int32 => zr (0) (1) v)) := by
  unfold fX5_meansPlace_86
  refine zok_ck (zbo_ok h_s0 (by decide)) ?_
  exact zok_spi h_s0
theorem s_X5_meansPlace_85 {σ : zSt} (hσ : zPC σ) : zok (fX5_meansPlace_85 σ ) (zPi σ (fun v : Int32 => zr (0) (1) v)) := by
  unfold fX5_meansPlace_85
  exact (s_X5_meansPlace_86 hσ (zr_w (zr_c (lo := 0) (hi := 0) (by decide)) (by decide)))
theorem s_X5_meansPlace_29 {σ : zSt} (hσ : zPC σ) {x0 : Int32} (h_x0 : zr (0) (255) x0) {x1 : Int32} (h_x1 : zr (0) (1) x1) {s0 : Int32} (h_s0 : zr (0) (1) s0) : zok (fX5_meansPlace_29 σ x0 x1 s0) (zPi σ (fun v : Int32 => zr (0) (1) v)) := by
  unfold fX5_meansPlace_29
  refine zok_if (fun q1 => ?_) (fun q1 => ?_)
  · have h2 := zc_eql (0) (0) q1 (zr_shr (lo := 0) (hi := 3) 6 (by decide) h_x0 (by decide)) (zr_c (lo := 0) (hi := 0) (by decide)) (by decide)
    refine zok_if (fun q3 => ?_) (fun q3 => ?_)
    · have h4 := zc_eql (0) (0) q3 h_x1 (zr_c (lo := 0) (hi := 0) (by decide)) (by decide)
      exact (s_X5_meansPlace_85 hσ)
    have h5 := zc_nel (1) (1) q3 h_x1 (zr_c (lo := 0) (hi := 0) (by decide)) (by decide)
    refine zok_if (fun q6 => ?_) (fun q6 => ?_)
    · have h7 := zc_ltl (3) q6 (zr_andr (lo := 0) (hi := 7) (zr_c (lo := 7) (hi := 7) (by decide)) (by decide)) (zr_c (lo := 4) (hi := 4) (by decide)) (by decide)
      exact (s_X5_meansPlace_85 hσ)
    have h8 := zc_ler (4) (z_nlt q6) (zr_c (lo := 4) (hi := 4) (by decide)) (zr_andr (lo := 0) (hi := 7) (zr_c (lo := 7) (hi := 7) (by decide)) (by decide)) (by decide)
    refine zok_if (fun q9 => ?_) (fun q9 => ?_)
    · have h10 := zc_ltr (7) q9 (zr_c (lo := 6) (hi := 6) (by decide)) h8 (by decide)
      exact (s_X5_meansPlace_85 hσ)
    have h11 := zc_lel (6) (z_nlt q9) h8 (zr_c (lo := 6) (hi := 6) (by decide)) (by decide)
    exact (s_X5_meansPlace_86 hσ (zr_w (zr_c (lo := 1) (hi := 1) (by decide)) (by decide)))
  have h12 := zc_nel (1) (3) q1 (zr_shr (lo := 0) (hi := 3) 6 (by decide) h_x0 (by decide)) (zr_c (lo := 0) (hi := 0) (by decide)) (by decide)
  refine zok_if (fun q13 => ?_) (fun q13 => ?_)
  · have h14 := zc_eql (1) (1) q13 h12 (zr_c (lo := 1) (hi := 1) (by decide)) (by decide)
    refine zok_if (fun q15 => ?_) (fun q15 => ?_)
    · exact (s_X5_meansPlace_97 hσ (zr_w (zr_c (lo := 0) (hi := 0) (by decide)) (by decide)))
    exact (s_X5_meansPlace_97 hσ (zr_w (zr_c (lo := 1) (hi := 1) (by decide)) (by decide)))
  have h16 := zc_nel (2) (3) q13 h12 (zr_c (lo := 1) (hi := 1) (by decide)) (by decide)
  refine zok_if (fun q17 => ?_) (fun q17 => ?_)
  · have h18 := zc_eql (2) (2) q17 h16 (zr_c (lo := 2) (hi := 2) (by decide)) (by decide)
    refine zok_ck (zbo_ok h_s0 (by decide)) ?_
    exact zok_spi h_s0
  have h19 := zc_nel (3) (3) q17 h16 (zr_c (lo := 2) (hi := 2) (by decide)) (by decide)
  refine zok_ck rfl ?_
  exact zok_spi (zr_w (zr_c (lo := 0) (hi := 0) (by decide)) (by decide))
theorem s_X5_meansPlace_14 {σ : zSt} (hσ : zPC σ) {x0 : Int32} (h_x0 : zr (0) (255) x0) {s0 : Int32} (h_s0 : zr (0) (1) s0) : zok (fX5_meansPlace_14 σ x0 s0) (zPi σ (fun v : Int32 => zr (0) (1) v)) := by
  unfold fX5_meansPlace_14
  refine zok_if (fun q1 => ?_) (fun q1 => ?_)
  · have h2 := zc_eql (6) (6) q1 (zr_andr (lo := 0) (hi := 7) (zr_c (lo := 7) (hi := 7) (by decide)) (by decide)) (zr_c (lo := 6) (hi := 6) (by decide)) (by decide)
    exact (s_X5_meansPlace_29 hσ h_x0 h_s0 (zr_w (zr_c (lo := 1) (hi := 1) (by decide)) (by decide)))
  exact (s_X5_meansPlace_29 hσ h_x0 h_s0 (zr_w (zr_c (lo := 0) (hi := 0) (by decide)) (by decide)))
theorem s_X5_meansPlace {σ : zSt} (hσ : zPC σ) {x0 : Int32} (h_x0 : zr (0) (255) x0) : zok (fX5_meansPlace σ x0) (zPi σ (fun v : Int32 => zr (0) (1) v)) := by
  unfold fX5_meansPlace
  refine zok_if (fun q1 => ?_) (fun q1 => ?_)
  · have h2 := zc_eql (48) (48) q1 (zr_andr (lo := 0) (hi := 56) (zr_c (lo := 56) (hi := 56) (by decide)) (by decide)) (zr_c (lo := 48) (hi := 48) (by decide)) (by decide)
    exact (s_X5_meansPlace_14 hσ h_x0 (zr_w (zr_c (lo := 1) (hi := 1) (by decide)) (by decide)))
  exact (s_X5_meansPlace_14 hσ h_x0 (zr_w (zr_c (lo := 0) (hi := 0) (by decide)) (by decide)))
theorem s_X5_takePlace_64 {σ : zSt} (hσ : zPC σ) {s0 : Int32} (h_s0 : zr (9) (12) s0) : zok (fX5_takePlace_64 σ s0) (zPi σ (fun v : Int32 => zr (4) (12) v)) := by
  unfold fX5_takePlace_64
  exact zok_spi (zr_w h_s0 (by decide))
theorem s_X5_takePlace {G : Nat → Int} {σ : zSt} (hσ : zIC G σ) {x1 : Int32} (h_x1 : zr (0) (255) x1) : zok (fX5_takePlace σ x1) (zAi (zIC G) (fun v : Int32 => zr (4) (12) v)) := by
  unfold fX5_takePlace
  refine zok_pi (s_X5_meansPlace hσ.P h_x1) (fun v2 h1 => ?_)
  refine zok_if (fun q2 => ?_) (fun q2 => ?_)
  · have h3 := zc_eql (0) (0) q2 h1 (zr_c (lo := 0) (hi := 0) (by decide)) (by decide)
    exact zok_sai hσ (zr_w (zr_c (lo := 4) (hi := 4) (by decide)) (by decide))
  have h4 := zc_nel (1) (1) q2 h1 (zr_c (lo := 0) (hi := 0) (by decide)) (by decide)
  refine zok_ck (zin_ok (rC_5 hσ.sg _ (by decide)) (by decide)) ?_
  refine zok_ai (s_X5_fetch hσ) (fun σ3 v4 i5 h6 => ?_)
  refine zok_ck rfl ?_
  refine zok_bs (i5.wi 20 20 (by decide) (zr_andr (lo := 0) (hi := 65535) (zr_c (lo := 65535) (hi := 65535) (by decide)) (by decide)) (by decide +kernel)) (fun σ5 e8 i7 => ?_)
  refine zok_ck rfl ?_
  refine zok_bs (i7.wi 5 5 (by decide) (rC_22 i7.sg _ (by decide)) (by decide +kernel)) (fun σ6 e10 i9 => ?_)
  refine zok_bs (i9.sp0 (zr_c (lo := 6) (hi := 6) (by decide)) (by decide)) (fun σ7 e12 i11 => ?_)
  refine zok_if (fun q13 => ?_) (fun q13 => ?_)
  · have h14 := zc_eql (54) (54) q13 h_x1 (zr_c (lo := 54) (hi := 54) (by decide)) (by decide)
    exact zok_pai i11 (s_X5_takePlace_64 i11.P (zr_w (zr_c (lo := 9) (hi := 9) (by decide)) (by decide)))
  exact zok_pai i11 (s_X5_takePlace_64 i11.P (zr_w (zr_c (lo := 12) (hi := 12) (by decide)) (by decide)))
theorem s_X5_one_96 {σ : zSt} (hσ : zPC σ) {s0 : Int32} (h_s0 : zr (0) (255) s0) : zok (fX5_one_96 σ s0) (zPi σ (fun v : Int32 => zr (0) (255) v)) := by
  unfold fX5_one_96
  exact zok_spi h_s0
theorem s_X5_one_63 {σ : zSt} (hσ : zPC σ) {s0 : Int32} (h_s0 : zr (0) (255) s0) : zok (fX5_one_63 σ s0) (zPi σ (fun v : Int32 => zr (0) (255) v)) := by
  unfold fX5_one_63
  exact zok_spi h_s0
theorem s_X5_one {σ : zSt} (hσ : zPC σ) {x1 : Int32} (h_x1 : zr (0) (7) x1) : zok (fX5_one σ x1) (zPi σ (fun v : Int32 => zr (0) (255) v)) := by
  unfold fX5_one
  refine zok_if (fun q1 => ?_) (fun q1 => ?_)
  · have h2 := zc_eql (4) (4) q1 h_x1 (zr_c (lo := 4) (hi := 4) (by decide)) (by decide)
    refine zok_if (fun q3 => ?_) (fun q3 => ?_)
    · have h4 := zc_eql (6) (6) q3 (rC_5 hσ.sg _ (by decide)) (zr_c (lo := 6) (hi := 6) (by decide)) (by decide)
      refine zok_ck rfl ?_
      exact (s_X5_one_63 hσ (rC_21 hσ.sg _ (by decide)))
    have h5 := zc_nel (7) (17) q3 (rC_5 hσ.sg _ (by decide)) (zr_c (lo := 6) (hi := 6) (by decide)) (by decide)
    have h6 := xC_sp hσ.sp h5 (by decide)
    refine zok_ck (zin_ok h6 (by decide)) ?_
    exact (s_X5_one_63 hσ (zr_shr (lo := 0) (hi := 255) 8 (by decide) (rC_22 hσ.sg _ (z_ix h6 (by decide))) (by decide)))
  refine zok_if (fun q7 => ?_) (fun q7 => ?_)
  · have h8 := zc_eql (5) (5) q7 h_x1 (zr_c (lo := 5) (hi := 5) (by decide)) (by decide)
    refine zok_if (fun q9 => ?_) (fun q9 => ?_)
    · have h10 := zc_eql (6) (6) q9 (rC_5 hσ.sg _ (by decide)) (zr_c (lo := 6) (hi := 6) (by decide)) (by decide)
      refine zok_ck rfl ?_
      exact (s_X5_one_96 hσ (rC_21 hσ.sg _ (by decide)))
    have h11 := zc_nel (7) (17) q9 (rC_5 hσ.sg _ (by decide)) (zr_c (lo := 6) (hi := 6) (by decide)) (by decide)
    have h12 := xC_sp hσ.sp h11 (by decide)
    refine zok_ck (zin_ok h12 (by decide)) ?_
    exact (s_X5_one_96 hσ (zr_andr (lo := 0) (hi := 255) (zr_c (lo := 255) (hi := 255) (by decide)) (by decide)))
  refine zok_if (fun q13 => ?_) (fun q13 => ?_)
  · have h14 := zc_eql (6) (6) q13 h_x1 (zr_c (lo := 6) (hi := 6) (by decide)) (by decide)
    refine zok_pi (s_X2_read hσ) (fun v2 h15 => ?_)
    exact zok_spi h15
  refine zok_if (fun q16 => ?_) (fun q16 => ?_)
  · have h17 := zc_eql (7) (7) q16 h_x1 (zr_c (lo := 7) (hi := 7) (by decide)) (by decide)
    refine zok_ck rfl ?_
    exact zok_spi (rC_21 hσ.sg _ (by decide))
  have h18 := zc_nel (0) (6) q16 h_x1 (zr_c (lo := 7) (hi := 7) (by decide)) (by decide)
  refine zok_ck (zin_ok (zr_add (lo := 2) (hi := 5) (zr_c (lo := 2) (hi := 2) (by decide)) (zr_andr (lo := 0) (hi := 3) (zr_c (lo := 3) (hi := 3) (by decide)) (by decide)) (by decide)) (by decide)) ?_
  exact zok_spi (rC_21 hσ.sg _ (z_ix (zr_add (lo := 2) (hi := 5) (zr_c (lo := 2) (hi := 2) (by decide)) (zr_andr (lo := 0) (hi := 3) (zr_c (lo := 3) (hi := 3) (by decide)) (by decide)) (by decide)) (by decide)))
theorem s_X5_turns_63 {σ : zSt} (hσ : zPC σ) {s0 : Int32} (h_s0 : zr (8) (12) s0) : zok (fX5_turns_63 σ s0) (zPi σ (fun v : Int32 => zr (8) (15) v)) := by
  unfold fX5_turns_63
  exact zok_spi (zr_w h_s0 (by decide))
theorem s_X5_turns_47 {G : Nat → Int} {σ : zSt} (hσ : zIC G σ) {x2 : Int32} (h_x2 : zr (0) (7) x2) {s0 : Int32} (h_s0 : zr (0) (255) s0) {s1 : Int32} (h_s1 : zr (0) (255) s1) {s2 : Int32} (h_s2 : zr (0) (7) s2) : zok (fX5_turns_47 σ x2 s0 s1 s2) (zAi (zIC G) (fun v : Int32 => zr (8) (15) v)) := by
  unfold fX5_turns_47
  refine zok_bu (s_X5_askBit hσ h_s2 h_s1 h_s0) (fun σ1 i1 => ?_)
  refine zok_if (fun q2 => ?_) (fun q2 => ?_)
  · have h3 := zc_eql (6) (6) q2 h_x2 (zr_c (lo := 6) (hi := 6) (by decide)) (by decide)
    exact zok_pai i1 (s_X5_turns_63 i1.P (zr_w (zr_c (lo := 12) (hi := 12) (by decide)) (by decide)))
  exact zok_pai i1 (s_X5_turns_63 i1.P (zr_w (zr_c (lo := 8) (hi := 8) (by decide)) (by decide)))
theorem s_X5_turns_88 {σ : zSt} (hσ : zPC σ) {s0 : Int32} (h_s0 : zr (8) (15) s0) : zok (fX5_turns_88 σ s0) (zPi σ (fun v : Int32 => zr (8) (15) v)) := by
  unfold fX5_turns_88
  exact zok_spi h_s0
theorem s_X5_turns {G : Nat → Int} {σ : zSt} (hσ : zIC G σ) {x1 : Int32} (h_x1 : zr (0) (255) x1) : zok (fX5_turns σ x1) (zAi (zIC G) (fun v : Int32 => zr (8) (15) v)) := by
  unfold fX5_turns
  refine zok_br (zr_andr (lo := 0) (hi := 7) (zr_c (lo := 7) (hi := 7) (by decide)) (by decide)) (fun v2 e2 h1 => ?_)
  refine zok_pi (s_X5_one hσ.P h1) (fun v4 h3 => ?_)
  refine zok_if (fun q4 => ?_) (fun q4 => ?_)
  · have h5 := zc_eql (1) (1) q4 (zr_shr (lo := 0) (hi := 3) 6 (by decide) h_x1 (by decide)) (zr_c (lo := 1) (hi := 1) (by decide)) (by decide)
    refine zok_if (fun q6 => ?_) (fun q6 => ?_)
    · have h7 := zc_eql (6) (6) q6 h1 (zr_c (lo := 6) (hi := 6) (by decide)) (by decide)
      refine zok_ck rfl ?_
      exact (s_X5_turns_47 hσ (zr_w h7 (by decide)) (zr_shr (lo := 0) (hi := 255) 8 (by decide) (rC_22 hσ.sg _ (by decide)) (by decide)) h3 (zr_andr (lo := 0) (hi := 7) (zr_c (lo := 7) (hi := 7) (by decide)) (by decide)))
    exact (s_X5_turns_47 hσ h1 h3 h3 (zr_andr (lo := 0) (hi := 7) (zr_c (lo := 7) (hi := 7) (by decide)) (by decide)))
  refine zok_ai (s_X5_turned hσ h_x1 h3) (fun σ5 v6 i8 h9 => ?_)
  refine zok_bu (s_X5_putOne i8 h1 h9) (fun σ7 i10 => ?_)
  refine zok_if (fun q11 => ?_) (fun q11 => ?_)
  · have h12 := zc_eql (6) (6) q11 h1 (zr_c (lo := 6) (hi := 6) (by decide)) (by decide)
    exact zok_pai i10 (s_X5_turns_88 i10.P (zr_w (zr_c (lo := 15) (hi := 15) (by decide)) (by decide)))
  exact zok_pai i10 (s_X5_turns_88 i10.P (zr_w (zr_c (lo := 8) (hi := 8) (by decide)) (by decide)))
theorem s_X5_putPairAt {G : Nat → Int} {σ : zSt} (hσ : zIC G σ) {x1 : Int32} (h_x1 : zr (0) (6) x1) {x2 : Int32} (h_x2 : zr (-65536) (131071) x2) : zok (fX5_putPairAt σ x1 x2) (zIC G) := by
  unfold fX5_putPairAt
  refine zok_ck (zin_ok h_x1 (by decide)) ?_
  refine zok_bs (hσ.wi 0 6 (z_ix h_x1 (by decide)) (zr_andr (lo := 0) (hi := 255) (zr_c (lo := 255) (hi := 255) (by decide)) (by decide)) (by decide +kernel)) (fun σ1 e2 i1 => ?_)
  refine zok_ck (zin_ok (zr_add (lo := 1) (hi := 7) h_x1 (zr_c (lo := 1) (hi := 1) (by decide)) (by decide)) (by decide)) ?_
  refine zok_bs (i1.wi 1 7 (z_ix (zr_add (lo := 1) (hi := 7) h_x1 (zr_c (lo := 1) (hi := 1) (by decide)) (by decide)) (by decide)) (zr_andr (lo := 0) (hi := 255) (zr_c (lo := 255) (hi := 255) (by decide)) (by decide)) (by decide +kernel)) (fun σ2 e4 i3 => ?_)
  exact zok_some i3
theorem s_X5_tellOfPort_34 {G : Nat → Int} {σ : zSt} (hσ : zIC G σ) {x2 : Int32} (h_x2 : zr (0) (510) x2) {s0 : Int32} (h_s0 : zr (0) (17) s0) {s1 : Int32} (h_s1 : zr (0) (255) s1) {s2 : Int32} (h_s2 : zr (1) (1) s2) : zok (fX5_tellOfPort_34 σ x2 s0 s1 s2) (zIC G) := by
  unfold fX5_tellOfPort_34
  refine zok_ck rfl ?_
  refine zok_pi (s_X5_parity hσ.P (zr_xor (lo := 0) (hi := 255) 8 (zr_andr (lo := 0) (hi := 7) (zr_c (lo := 7) (hi := 7) (by decide)) (by decide)) (rC_21 hσ.sg _ (by decide)) (by decide))) (fun v2 h1 => ?_)
  refine zok_ck (zin_ok h_s2 (by decide)) ?_
  refine zok_bs (hσ.wi 1 1 (z_ix h_s2 (by decide)) (zr_or (lo := 0) (hi := 255) 8 (zr_or (lo := 0) (hi := 255) 8 h_s1 h_s0 (by decide)) h1 (by decide)) (by decide +kernel)) (fun σ3 e3 i2 => ?_)
  exact zok_some i2
theorem s_X5_tellOfPort {G : Nat → Int} {σ : zSt} (hσ : zIC G σ) {x1 : Int32} (h_x1 : zr (0) (255) x1) {x2 : Int32} (h_x2 : zr (0) (510) x2) : zok (fX5_tellOfPort σ x1 x2) (zIC G) := by
  unfold fX5_tellOfPort
  refine zok_ck rfl ?_
  refine zok_pi (s_X5_by hσ.P (rC_21 hσ.sg _ (by decide))) (fun v5 h1 => ?_)
  refine zok_if (fun q2 => ?_) (fun q2 => ?_)
  · have h3 := zc_lel (255) q2 h_x2 (zr_c (lo := 255) (hi := 255) (by decide)) (by decide)
    exact (s_X5_tellOfPort_34 hσ (zr_w h3 (by decide)) (zr_w (zr_c (lo := 0) (hi := 0) (by decide)) (by decide)) (zr_or (lo := 0) (hi := 255) 8 h1 (zr_andr (lo := 0) (hi := 2) (zr_c (lo := 2) (hi := 2) (by decide)) (by decide)) (by decide)) (zr_c (lo := 1) (hi := 1) (by decide)))
  have h4 := zc_ltr (256) (z_nle q2) (zr_c (lo := 255) (hi := 255) (by decide)) h_x2 (by decide)
  exact (s_X5_tellOfPort_34 hσ (zr_w h4 (by decide)) (zr_w (zr_c (lo := 17) (hi := 17) (by decide)) (by decide)) (zr_or (lo := 0) (hi := 255) 8 h1 (zr_andr (lo := 0) (hi := 2) (zr_c (lo := 2) (hi := 2) (by decide)) (by decide)) (by decide)) (zr_c (lo := 1) (hi := 1) (by decide)))
theorem s_X5_giveOne_105 {σ : zSt} (hσ : zPC σ) {s0 : Int32} (h_s0 : zr (0) (1) s0) : zok (fX5_giveOne_105 σ s0) (zPi σ (fun v : Int32 => zr (0) (1) v)) := by
  unfold fX5_giveOne_105
  refine zok_ck (zbo_ok h_s0 (by decide)) ?_
  exact zok_spi h_s0
theorem s_X5_giveOne {G : Nat → Int} {σ : zSt} (hσ : zIC G σ) {x1 : Int32} (h_x1 : zr (-1) (1) x1) : zok (fX5_giveOne σ x1) (zAi (zIC G) (fun v : Int32 => zr (0) (1) v)) := by
  unfold fX5_giveOne
  refine zok_pi (s_X5_pairAt hσ.P (zr_w (zr_c (lo := 6) (hi := 6) (by decide)) (by decide))) (fun v2 h1 => ?_)
  refine zok_pi (s_X2_read hσ.P) (fun v4 h2 => ?_)
  refine zok_ck rfl ?_
  refine zok_ck rfl ?_
  refine zok_bs (hσ.wi 2 2 (by decide) (zr_andr (lo := 0) (hi := 255) (zr_c (lo := 255) (hi := 255) (by decide)) (by decide)) (by decide +kernel)) (fun σ5 e4 i3 => ?_)
  refine zok_ck rfl ?_
  refine zok_bu (s_X4_write i3 (rC_21 i3.sg _ (by decide)) h2) (fun σ6 i5 => ?_)
  refine zok_pi (s_X5_pairAt i5.P (zr_w (zr_c (lo := 6) (hi := 6) (by decide)) (by decide))) (fun v8 h6 => ?_)
  refine zok_bu (s_X5_putPairAt i5 (zr_w (zr_c (lo := 6) (hi := 6) (by decide)) (by decide)) (zr_w (zr_add (lo := -1) (hi := 65536) h6 h_x1 (by decide)) (by decide))) (fun σ9 i7 => ?_)
  refine zok_pi (s_X5_pairAt i7.P (zr_w (zr_c (lo := 2) (hi := 2) (by decide)) (by decide))) (fun v11 h8 => ?_)
  refine zok_ck rfl ?_
  refine zok_bs (i7.wi 20 20 (by decide) (zr_andr (lo := 0) (hi := 65535) (zr_c (lo := 65535) (hi := 65535) (by decide)) (by decide)) (by decide +kernel)) (fun σ12 e10 i9 => ?_)
  refine zok_ck rfl ?_
  refine zok_bu (s_X5_tellOfPort i9 h2 (zr_add (lo := 0) (hi := 510) h2 (rC_21 i9.sg _ (by decide)) (by decide))) (fun σ13 i11 => ?_)
  refine zok_ck rfl ?_
  refine zok_if (fun q12 => ?_) (fun q12 => ?_)
  · have h13 := zc_eql (0) (0) q12 (rC_21 i11.sg _ (by decide)) (zr_c (lo := 0) (hi := 0) (by decide)) (by decide)
    exact zok_pai i11 (s_X5_giveOne_105 i11.P (zr_w (zr_c (lo := 0) (hi := 0) (by decide)) (by decide)))
  have h14 := zc_nel (1) (255) q12 (rC_21 i11.sg _ (by decide)) (zr_c (lo := 0) (hi := 0) (by decide)) (by decide)
  exact zok_pai i11 (s_X5_giveOne_105 i11.P (zr_w (zr_c (lo := 1) (hi := 1) (by decide)) (by decide)))
theorem s_X5_takeOne_110 {σ : zSt} (hσ : zPC σ) {s0 : Int32} (h_s0 : zr (0) (1) s0) : zok (fX5_takeOne_110 σ s0) (zPi σ (fun v : Int32 => zr (0) (1) v)) := by
  unfold fX5_takeOne_110
  refine zok_ck (zbo_ok h_s0 (by decide)) ?_
  exact zok_spi h_s0
theorem s_X5_takeOne {G : Nat → Int} {σ : zSt} (hσ : zIC G σ) {x1 : Int32} (h_x1 : zr (-1) (1) x1) : zok (fX5_takeOne σ x1) (zAi (zIC G) (fun v : Int32 => zr (0) (1) v)) := by
  unfold fX5_takeOne
  refine zok_pi (s_X5_pairAt hσ.P (zr_w (zr_c (lo := 2) (hi := 2) (by decide)) (by decide))) (fun v2 h1 => ?_)
  refine zok_ck rfl ?_
  refine zok_bs (hσ.wi 20 20 (by decide) (zr_andr (lo := 0) (hi := 65535) (zr_c (lo := 65535) (hi := 65535) (by decide)) (by decide)) (by decide +kernel)) (fun σ3 e3 i2 => ?_)
  refine zok_ck rfl ?_
  refine zok_ai (s_X4_read i2 (rC_21 i2.sg _ (by decide))) (fun σ4 v5 i4 h5 => ?_)
  refine zok_ck rfl ?_
  refine zok_ck rfl ?_
  refine zok_bs (i4.wi 2 2 (by decide) (zr_andr (lo := 0) (hi := 255) (zr_c (lo := 255) (hi := 255) (by decide)) (by decide)) (by decide +kernel)) (fun σ6 e7 i6 => ?_)
  refine zok_pi (s_X5_pairAt i6.P (zr_w (zr_c (lo := 6) (hi := 6) (by decide)) (by decide))) (fun v8 h8 => ?_)
  refine zok_bu (s_X2_write i6 (zr_w h8 (by decide)) h5) (fun σ9 i9 => ?_)
  refine zok_pi (s_X5_pairAt i9.P (zr_w (zr_c (lo := 6) (hi := 6) (by decide)) (by decide))) (fun v11 h10 => ?_)
  refine zok_bu (s_X5_putPairAt i9 (zr_w (zr_c (lo := 6) (hi := 6) (by decide)) (by decide)) (zr_w (zr_add (lo := -1) (hi := 65536) h10 h_x1 (by decide)) (by decide))) (fun σ12 i11 => ?_)
  refine zok_ck rfl ?_
  refine zok_bu (s_X5_tellOfPort i11 h5 (zr_add (lo := 0) (hi := 510) h5 (zr_andr (lo := 0) (hi := 255) (zr_c (lo := 255) (hi := 255) (by decide)) (by decide)) (by decide))) (fun σ13 i12 => ?_)
  refine zok_ck rfl ?_
  refine zok_if (fun q13 => ?_) (fun q13 => ?_)
  · have h14 := zc_eql (0) (0) q13 (rC_21 i12.sg _ (by decide)) (zr_c (lo := 0) (hi := 0) (by decide)) (by decide)
    exact zok_pai i12 (s_X5_takeOne_110 i12.P (zr_w (zr_c (lo := 0) (hi := 0) (by decide)) (by decide)))
  have h15 := zc_nel (1) (255) q13 (rC_21 i12.sg _ (by decide)) (zr_c (lo := 0) (hi := 0) (by decide)) (by decide)
  exact zok_pai i12 (s_X5_takeOne_110 i12.P (zr_w (zr_c (lo := 1) (hi := 1) (by decide)) (by decide)))
theorem s_X5_compareOne_184 {σ : zSt} (hσ : zPC σ) {s0 : Int32} (h_s0 : zr (0) (1) s0) : zok (fX5_compareOne_184 σ s0) (zPi σ (fun v : Int32 => zr (0) (1) v)) := by
  unfold fX5_compareOne_184
  refine zok_ck (zbo_ok h_s0 (by decide)) ?_
  exact zok_spi h_s0
theorem s_X5_compareOne_183 {σ : zSt} (hσ : zPC σ) : zok (fX5_compareOne_183 σ ) (zPi σ (fun v : Int32 => zr (0) (1) v)) := by
  unfold fX5_compareOne_183
  exact (s_X5_compareOne_184 hσ (zr_w (zr_c (lo := 0) (hi := 0) (by decide)) (by decide)))
theorem s_X5_compareOne_166 {G : Nat → Int} {σ : zSt} (hσ : zIC G σ) {x3 : Int32} (h_x3 : zr (0) (255) x3) {x5 : Int32} (h_x5 : zr (0) (1) x5) {s0 : Int32} (h_s0 : zr (0) (4) s0) {s1 : Int32} (h_s1 : zr (0) (255) s1) {s2 : Int32} (h_s2 : zr (1) (1) s2) : zok (fX5_compareOne_166 σ x3 x5 s0 s1 s2) (zAi (zIC G) (fun v : Int32 => zr (0) (1) v)) := by
  unfold fX5_compareOne_166
  refine zok_ck (zin_ok h_s2 (by decide)) ?_
  refine zok_bs (hσ.wi 1 1 (z_ix h_s2 (by decide)) (zr_or (lo := 0) (hi := 255) 8 (zr_or (lo := 0) (hi := 255) 8 h_s1 h_s0 (by decide)) (zr_c (lo := 2) (hi := 2) (by decide)) (by decide)) (by decide +kernel)) (fun σ1 e2 i1 => ?_)
  refine zok_if (fun q3 => ?_) (fun q3 => ?_)
  · have h4 := zc_eql (0) (0) q3 h_x5 (zr_c (lo := 0) (hi := 0) (by decide)) (by decide)
    exact zok_pai i1 (s_X5_compareOne_183 i1.P)
  have h5 := zc_nel (1) (1) q3 h_x5 (zr_c (lo := 0) (hi := 0) (by decide)) (by decide)
  refine zok_if (fun q6 => ?_) (fun q6 => ?_)
  · have h7 := zc_eql (0) (0) q6 h_x3 (zr_c (lo := 0) (hi := 0) (by decide)) (by decide)
    exact zok_pai i1 (s_X5_compareOne_183 i1.P)
  have h8 := zc_nel (1) (255) q6 h_x3 (zr_c (lo := 0) (hi := 0) (by decide)) (by decide)
  exact zok_pai i1 (s_X5_compareOne_184 i1.P (zr_w (zr_c (lo := 1) (hi := 1) (by decide)) (by decide)))
theorem s_X5_compareOne_139 {G : Nat → Int} {σ : zSt} (hσ : zIC G σ) {x3 : Int32} (h_x3 : zr (0) (255) x3) {x4 : Int32} (h_x4 : zr (0) (16) x4) {x5 : Int32} (h_x5 : zr (0) (1) x5) {x6 : Int32} (h_x6 : zr (-1) (255) x6) {s0 : Int32} (h_s0 : zr (0) (64) s0) {s1 : Int32} (h_s1 : zr (0) (255) s1) {s2 : Int32} (h_s2 : zr (1) (1) s2) : zok (fX5_compareOne_139 σ x3 x4 x5 x6 s0 s1 s2) (zAi (zIC G) (fun v : Int32 => zr (0) (1) v)) := by
  unfold fX5_compareOne_139
  refine zok_if (fun q1 => ?_) (fun q1 => ?_)
  · have h2 := zc_eql (0) (0) q1 h_x5 (zr_c (lo := 0) (hi := 0) (by decide)) (by decide)
    exact (s_X5_compareOne_166 hσ h_x3 (zr_w h2 (by decide)) (zr_w (zr_c (lo := 0) (hi := 0) (by decide)) (by decide)) (zr_or (lo := 0) (hi := 255) 8 (zr_or (lo := 0) (hi := 255) 8 (zr_or (lo := 0) (hi := 255) 8 (zr_or (lo := 0) (hi := 255) 8 h_s1 h_s0 (by decide)) h_x4 (by decide)) (zr_shl (lo := 0) (hi := 32) 4 (by decide) (zr_andr (lo := 0) (hi := 2) (zr_c (lo := 2) (hi := 2) (by decide)) (by decide)) (by decide)) (by decide)) (zr_andr (lo := 0) (hi := 8) (zr_c (lo := 8) (hi := 8) (by decide)) (by decide)) (by decide)) h_s2)
  have h3 := zc_nel (1) (1) q1 h_x5 (zr_c (lo := 0) (hi := 0) (by decide)) (by decide)
  exact (s_X5_compareOne_166 hσ h_x3 (zr_w h3 (by decide)) (zr_w (zr_c (lo := 4) (hi := 4) (by decide)) (by decide)) (zr_or (lo := 0) (hi := 255) 8 (zr_or (lo := 0) (hi := 255) 8 (zr_or (lo := 0) (hi := 255) 8 (zr_or (lo := 0) (hi := 255) 8 h_s1 h_s0 (by decide)) h_x4 (by decide)) (zr_shl (lo := 0) (hi := 32) 4 (by decide) (zr_andr (lo := 0) (hi := 2) (zr_c (lo := 2) (hi := 2) (by decide)) (by decide)) (by decide)) (by decide)) (zr_andr (lo := 0) (hi := 8) (zr_c (lo := 8) (hi := 8) (by decide)) (by decide)) (by decide)) h_s2)
theorem s_X5_compareOne_100 {G : Nat → Int} {σ : zSt} (hσ : zIC G σ) {x3 : Int32} (h_x3 : zr (0) (255) x3) {x4 : Int32} (h_x4 : zr (0) (16) x4) {s0 : Int32} (h_s0 : zr (0) (1) s0) : zok (fX5_compareOne_100 σ x3 x4 s0) (zAi (zIC G) (fun v : Int32 => zr (0) (1) v)) := by
  unfold fX5_compareOne_100
  refine zok_br (zr_sub (lo := -1) (hi := 255) h_x3 (zr_shr (lo := 0) (hi := 1) 4 (by decide) h_x4 (by decide)) (by decide)) (fun v2 e2 h1 => ?_)
  refine zok_ck rfl ?_
  refine zok_if (fun q3 => ?_) (fun q3 => ?_)
  · have h4 := zc_eql (0) (0) q3 h_x3 (zr_c (lo := 0) (hi := 0) (by decide)) (by decide)
    exact (s_X5_compareOne_139 hσ (zr_w h4 (by decide)) h_x4 h_s0 h1 (zr_w (zr_c (lo := 64) (hi := 64) (by decide)) (by decide)) (zr_w (zr_or (lo := 0) (hi := 1) 1 (zr_andr (lo := 0) (hi := 1) (zr_c (lo := 1) (hi := 1) (by decide)) (by decide)) (zr_andl (lo := 0) (hi := 0) h4 (by decide)) (by decide)) (by decide)) (zr_c (lo := 1) (hi := 1) (by decide)))
  have h5 := zc_nel (1) (255) q3 h_x3 (zr_c (lo := 0) (hi := 0) (by decide)) (by decide)
  exact (s_X5_compareOne_139 hσ (zr_w h5 (by decide)) h_x4 h_s0 h1 (zr_w (zr_c (lo := 0) (hi := 0) (by decide)) (by decide)) (zr_or (lo := 0) (hi := 255) 8 (zr_andr (lo := 0) (hi := 1) (zr_c (lo := 1) (hi := 1) (by decide)) (by decide)) (zr_andr (lo := 0) (hi := 128) (zr_c (lo := 128) (hi := 128) (by decide)) (by decide)) (by decide)) (zr_c (lo := 1) (hi := 1) (by decide)))
theorem s_X5_compareOne {G : Nat → Int} {σ : zSt} (hσ : zIC G σ) {x1 : Int32} (h_x1 : zr (-1) (1) x1) : zok (fX5_compareOne σ x1) (zAi (zIC G) (fun v : Int32 => zr (0) (1) v)) := by
  unfold fX5_compareOne
  refine zok_pi (s_X5_pairAt hσ.P (zr_w (zr_c (lo := 6) (hi := 6) (by decide)) (by decide))) (fun v4 h1 => ?_)
  refine zok_pi (s_X2_read hσ.P) (fun v6 h2 => ?_)
  refine zok_ck rfl ?_
  refine zok_br (zr_andr (lo := 0) (hi := 255) (zr_c (lo := 255) (hi := 255) (by decide)) (by decide)) (fun v7 e4 h3 => ?_)
  refine zok_ck rfl ?_
  refine zok_br (zr_andr (lo := 0) (hi := 16) (zr_c (lo := 16) (hi := 16) (by decide)) (by decide)) (fun v8 e6 h5 => ?_)
  refine zok_pi (s_X5_pairAt hσ.P (zr_w (zr_c (lo := 6) (hi := 6) (by decide)) (by decide))) (fun v10 h7 => ?_)
  refine zok_bu (s_X5_putPairAt hσ (zr_w (zr_c (lo := 6) (hi := 6) (by decide)) (by decide)) (zr_w (zr_add (lo := -1) (hi := 65536) h7 h_x1 (by decide)) (by decide))) (fun σ11 i8 => ?_)
  refine zok_pi (s_X5_pairAt i8.P (zr_w (zr_c (lo := 2) (hi := 2) (by decide)) (by decide))) (fun v13 h9 => ?_)
  refine zok_bu (s_X5_putPairAt i8 (zr_w (zr_c (lo := 2) (hi := 2) (by decide)) (by decide)) (zr_w (zr_sub (lo := -1) (hi := 65534) h9 (zr_c (lo := 1) (hi := 1) (by decide)) (by decide)) (by decide))) (fun σ14 i10 => ?_)
  refine zok_ck rfl ?_
  refine zok_ck rfl ?_
  refine zok_bs (i10.wi 20 20 (by decide) (zr_andr (lo := 0) (hi := 65535) (zr_c (lo := 65535) (hi := 65535) (by decide)) (by decide)) (by decide +kernel)) (fun σ15 e12 i11 => ?_)
  refine zok_pi (s_X5_pairAt i11.P (zr_w (zr_c (lo := 2) (hi := 2) (by decide)) (by decide))) (fun v17 h13 => ?_)
  refine zok_if (fun q14 => ?_) (fun q14 => ?_)
  · have h15 := zc_eql (0) (0) q14 h13 (zr_c (lo := 0) (hi := 0) (by decide)) (by decide)
    exact (s_X5_compareOne_100 i11 h3 h5 (zr_w (zr_c (lo := 0) (hi := 0) (by decide)) (by decide)))
  have h16 := zc_nel (1) (65535) q14 h13 (zr_c (lo := 0) (hi := 0) (by decide)) (by decide)
  exact (s_X5_compareOne_100 i11 h3 h5 (zr_w (zr_c (lo := 1) (hi := 1) (by decide)) (by decide)))
theorem s_X5_copyOne_126 {G : Nat → Int} {σ : zSt} (hσ : zIC G σ) {x3 : Int32} (h_x3 : zr (0) (1) x3) {s0 : Int32} (h_s0 : zr (0) (4) s0) {s1 : Int32} (h_s1 : zr (0) (255) s1) {s2 : Int32} (h_s2 : zr (1) (1) s2) : zok (fX5_copyOne_126 σ x3 s0 s1 s2) (zAi (zIC G) (fun v : Int32 => zr (0) (1) v)) := by
  unfold fX5_copyOne_126
  refine zok_ck (zin_ok h_s2 (by decide)) ?_
  refine zok_bs (hσ.wi 1 1 (z_ix h_s2 (by decide)) (zr_or (lo := 0) (hi := 255) 8 h_s1 h_s0 (by decide)) (by decide +kernel)) (fun σ1 e2 i1 => ?_)
  refine zok_ck (zbo_ok h_x3 (by decide)) ?_
  exact zok_sai i1 h_x3
theorem s_X5_copyOne_78 {G : Nat → Int} {σ : zSt} (hσ : zIC G σ) {x2 : Int32} (h_x2 : zr (0) (255) x2) {s0 : Int32} (h_s0 : zr (0) (1) s0) : zok (fX5_copyOne_78 σ x2 s0) (zAi (zIC G) (fun v : Int32 => zr (0) (1) v)) := by
  unfold fX5_copyOne_78
  refine zok_ck rfl ?_
  refine zok_br (zr_add (lo := 0) (hi := 510) (rC_21 hσ.sg _ (by decide)) h_x2 (by decide)) (fun v2 e2 h1 => ?_)
  refine zok_ck rfl ?_
  refine zok_if (fun q3 => ?_) (fun q3 => ?_)
  · have h4 := zc_eql (0) (0) q3 h_s0 (zr_c (lo := 0) (hi := 0) (by decide)) (by decide)
    exact (s_X5_copyOne_126 hσ (zr_w h4 (by decide)) (zr_w (zr_c (lo := 0) (hi := 0) (by decide)) (by decide)) (zr_or (lo := 0) (hi := 255) 8 (zr_or (lo := 0) (hi := 255) 8 (zr_andr (lo := 0) (hi := 193) (zr_c (lo := 193) (hi := 193) (by decide)) (by decide)) (zr_shl (lo := 0) (hi := 32) 4 (by decide) (zr_andr (lo := 0) (hi := 2) (zr_c (lo := 2) (hi := 2) (by decide)) (by decide)) (by decide)) (by decide)) (zr_andr (lo := 0) (hi := 8) (zr_c (lo := 8) (hi := 8) (by decide)) (by decide)) (by decide)) (zr_c (lo := 1) (hi := 1) (by decide)))
  have h5 := zc_nel (1) (1) q3 h_s0 (zr_c (lo := 0) (hi := 0) (by decide)) (by decide)
  exact (s_X5_copyOne_126 hσ (zr_w h5 (by decide)) (zr_w (zr_c (lo := 4) (hi := 4) (by decide)) (by decide)) (zr_or (lo := 0) (hi := 255) 8 (zr_or (lo := 0) (hi := 255) 8 (zr_andr (lo := 0) (hi := 193) (zr_c (lo := 193) (hi := 193) (by decide)) (by decide)) (zr_shl (lo := 0) (hi := 32) 4 (by decide) (zr_andr (lo := 0) (hi := 2) (zr_c (lo := 2) (hi := 2) (by decide)) (by decide)) (by decide)) (by decide)) (zr_andr (lo := 0) (hi := 8) (zr_c (lo := 8) (hi := 8) (by decide)) (by decide)) (by decide)) (zr_c (lo := 1) (hi := 1) (by decide)))
theorem s_X5_copyOne {G : Nat → Int} {σ : zSt} (hσ : zIC G σ) {x1 : Int32} (h_x1 : zr (-1) (1) x1) : zok (fX5_copyOne σ x1) (zAi (zIC G) (fun v : Int32 => zr (0) (1) v)) := by
  unfold fX5_copyOne
  refine zok_pi (s_X5_pairAt hσ.P (zr_w (zr_c (lo := 6) (hi := 6) (by decide)) (by decide))) (fun v4 h1 => ?_)
  refine zok_pi (s_X2_read hσ.P) (fun v6 h2 => ?_)
  refine zok_pi (s_X5_pairAt hσ.P (zr_w (zr_c (lo := 4) (hi := 4) (by decide)) (by decide))) (fun v8 h3 => ?_)
  refine zok_bu (s_X2_write hσ (zr_w h3 (by decide)) h2) (fun σ9 i4 => ?_)
  refine zok_pi (s_X5_pairAt i4.P (zr_w (zr_c (lo := 6) (hi := 6) (by decide)) (by decide))) (fun v11 h5 => ?_)
  refine zok_bu (s_X5_putPairAt i4 (zr_w (zr_c (lo := 6) (hi := 6) (by decide)) (by decide)) (zr_w (zr_add (lo := -1) (hi := 65536) h5 h_x1 (by decide)) (by decide))) (fun σ12 i6 => ?_)
  refine zok_pi (s_X5_pairAt i6.P (zr_w (zr_c (lo := 4) (hi := 4) (by decide)) (by decide))) (fun v14 h7 => ?_)
  refine zok_bu (s_X5_putPairAt i6 (zr_w (zr_c (lo := 4) (hi := 4) (by decide)) (by decide)) (zr_w (zr_add (lo := -1) (hi := 65536) h7 h_x1 (by decide)) (by decide))) (fun σ15 i8 => ?_)
  refine zok_pi (s_X5_pairAt i8.P (zr_w (zr_c (lo := 2) (hi := 2) (by decide)) (by decide))) (fun v17 h9 => ?_)
  refine zok_bu (s_X5_putPairAt i8 (zr_w (zr_c (lo := 2) (hi := 2) (by decide)) (by decide)) (zr_w (zr_sub (lo := -1) (hi := 65534) h9 (zr_c (lo := 1) (hi := 1) (by decide)) (by decide)) (by decide))) (fun σ18 i10 => ?_)
  refine zok_pi (s_X5_pairAt i10.P (zr_w (zr_c (lo := 2) (hi := 2) (by decide)) (by decide))) (fun v20 h11 => ?_)
  refine zok_if (fun q12 => ?_) (fun q12 => ?_)
  · have h13 := zc_eql (0) (0) q12 h11 (zr_c (lo := 0) (hi := 0) (by decide)) (by decide)
    exact (s_X5_copyOne_78 i10 h2 (zr_w (zr_c (lo := 0) (hi := 0) (by decide)) (by decide)))
  have h14 := zc_nel (1) (65535) q12 h11 (zr_c (lo := 0) (hi := 0) (by decide)) (by decide)
  exact (s_X5_copyOne_78 i10 h2 (zr_w (zr_c (lo := 1) (hi := 1) (by decide)) (by decide)))
theorem s_X5_block_88 {σ : zSt} (hσ : zPC σ) : zok (fX5_block_88 σ ) (zPi σ (fun v : Int32 => zr (16) (21) v)) := by
  unfold fX5_block_88
  exact zok_spi (zr_w (zr_c (lo := 16) (hi := 16) (by decide)) (by decide))
theorem s_X5_block_135 {σ : zSt} (hσ : zPC σ) : zok (fX5_block_135 σ ) (zPi σ (fun v : Int32 => zr (16) (21) v)) := by
  unfold fX5_block_135
  exact zok_spi (zr_w (zr_c (lo := 21) (hi := 21) (by decide)) (by decide))
theorem s_X5_block_77 {G : Nat → Int} {σ : zSt} (hσ : zIC G σ) {x1 : Int32} (h_x1 : zr (0) (255) x1) {x3 : Int32} (h_x3 : zr (0) (1) x3) : zok (fX5_block_77 σ x1 x3) (zAi (zIC G) (fun v : Int32 => zr (16) (21) v)) := by
  unfold fX5_block_77
  refine zok_if (fun q1 => ?_) (fun q1 => ?_)
  · have h2 := zc_eql (0) (0) q1 h_x3 (zr_c (lo := 0) (hi := 0) (by decide)) (by decide)
    exact zok_pai hσ (s_X5_block_88 hσ.P)
  have h3 := zc_nel (1) (1) q1 h_x3 (zr_c (lo := 0) (hi := 0) (by decide)) (by decide)
  refine zok_if (fun q4 => ?_) (fun q4 => ?_)
  · have h5 := zc_eql (0) (0) q4 (zr_andr (lo := 0) (hi := 16) (zr_c (lo := 16) (hi := 16) (by decide)) (by decide)) (zr_c (lo := 0) (hi := 0) (by decide)) (by decide)
    exact zok_pai hσ (s_X5_block_88 hσ.P)
  have h6 := zc_nel (1) (16) q4 (zr_andr (lo := 0) (hi := 16) (zr_c (lo := 16) (hi := 16) (by decide)) (by decide)) (zr_c (lo := 0) (hi := 0) (by decide)) (by decide)
  refine zok_ck rfl ?_
  refine zok_ck rfl ?_
  refine zok_bs (hσ.wi 19 19 (by decide) (zr_andr (lo := 0) (hi := 65535) (zr_c (lo := 65535) (hi := 65535) (by decide)) (by decide)) (by decide +kernel)) (fun σ1 e8 i7 => ?_)
  refine zok_if (fun q9 => ?_) (fun q9 => ?_)
  · have h10 := zc_eql (0) (0) q9 (zr_andr (lo := 0) (hi := 2) (zr_c (lo := 2) (hi := 2) (by decide)) (by decide)) (zr_c (lo := 0) (hi := 0) (by decide)) (by decide)
    refine zok_ck rfl ?_
    refine zok_ck rfl ?_
    refine zok_bs (i7.wi 20 20 (by decide) (zr_andr (lo := 0) (hi := 65535) (zr_c (lo := 65535) (hi := 65535) (by decide)) (by decide)) (by decide +kernel)) (fun σ2 e12 i11 => ?_)
    exact zok_pai i11 (s_X5_block_135 i11.P)
  have h13 := zc_nel (1) (2) q9 (zr_andr (lo := 0) (hi := 2) (zr_c (lo := 2) (hi := 2) (by decide)) (by decide)) (zr_c (lo := 0) (hi := 0) (by decide)) (by decide)
  exact zok_pai i7 (s_X5_block_135 i7.P)
theorem s_X5_block_12 {G : Nat → Int} {σ : zSt} (hσ : zIC G σ) {x1 : Int32} (h_x1 : zr (0) (255) x1) {s0 : Int32} (h_s0 : zr (-1) (1) s0) : zok (fX5_block_12 σ x1 s0) (zAi (zIC G) (fun v : Int32 => zr (16) (21) v)) := by
  unfold fX5_block_12
  refine zok_if (fun q1 => ?_) (fun q1 => ?_)
  · have h2 := zc_eql (0) (0) q1 (zr_andr (lo := 0) (hi := 3) (zr_c (lo := 3) (hi := 3) (by decide)) (by decide)) (zr_c (lo := 0) (hi := 0) (by decide)) (by decide)
    refine zok_ai (s_X5_copyOne hσ h_s0) (fun σ3 v4 i3 h4 => ?_)
    exact (s_X5_block_77 i3 h_x1 h4)
  have h5 := zc_nel (1) (3) q1 (zr_andr (lo := 0) (hi := 3) (zr_c (lo := 3) (hi := 3) (by decide)) (by decide)) (zr_c (lo := 0) (hi := 0) (by decide)) (by decide)
  refine zok_if (fun q6 => ?_) (fun q6 => ?_)
  · have h7 := zc_eql (1) (1) q6 h5 (zr_c (lo := 1) (hi := 1) (by decide)) (by decide)
    refine zok_ai (s_X5_compareOne hσ h_s0) (fun σ5 v6 i8 h9 => ?_)
    exact (s_X5_block_77 i8 h_x1 h9)
  have h10 := zc_nel (2) (3) q6 h5 (zr_c (lo := 1) (hi := 1) (by decide)) (by decide)
  refine zok_if (fun q11 => ?_) (fun q11 => ?_)
  · have h12 := zc_eql (2) (2) q11 h10 (zr_c (lo := 2) (hi := 2) (by decide)) (by decide)
    refine zok_ai (s_X5_takeOne hσ h_s0) (fun σ7 v8 i13 h14 => ?_)
    exact (s_X5_block_77 i13 h_x1 h14)
  have h15 := zc_nel (3) (3) q11 h10 (zr_c (lo := 2) (hi := 2) (by decide)) (by decide)
  refine zok_ai (s_X5_giveOne hσ h_s0) (fun σ9 v10 i16 h17 => ?_)
  exact (s_X5_block_77 i16 h_x1 h17)
theorem s_X5_block {G : Nat → Int} {σ : zSt} (hσ : zIC G σ) {x1 : Int32} (h_x1 : zr (0) (255) x1) : zok (fX5_block σ x1) (zAi (zIC G) (fun v : Int32 => zr (16) (21) v)) := by
  unfold fX5_block
  refine zok_if (fun q1 => ?_) (fun q1 => ?_)
  · have h2 := zc_eql (0) (0) q1 (zr_andr (lo := 0) (hi := 8) (zr_c (lo := 8) (hi := 8) (by decide)) (by decide)) (zr_c (lo := 0) (hi := 0) (by decide)) (by decide)
    exact (s_X5_block_12 hσ h_x1 (zr_w (zr_c (lo := 1) (hi := 1) (by decide)) (by decide)))
  have h3 := zc_nel (1) (8) q1 (zr_andr (lo := 0) (hi := 8) (zr_c (lo := 8) (hi := 8) (by decide)) (by decide)) (zr_c (lo := 0) (hi := 0) (by decide)) (by decide)
  exact (s_X5_block_12 hσ h_x1 (zr_w (zr_c (lo := -1) (hi := -1) (by decide)) (by decide)))
theorem s_X5_turnDigits_102 {G : Nat → Int} {σ : zSt} (hσ : zIC G σ) {s0 : Int32} (h_s0 : zr (0) (15) s0) {s1 : Int32} (h_s1 : zr (0) (240) s1) {s2 : Int32} (h_s2 : zr (0) (0) s2) : zok (fX5_turnDigits_102 σ s0 s1 s2) (zIC G) := by
  unfold fX5_turnDigits_102
  refine zok_ck (zin_ok h_s2 (by decide)) ?_
  refine zok_bs (hσ.wi 0 0 (z_ix h_s2 (by decide)) (zr_or (lo := 0) (hi := 255) 8 h_s1 h_s0 (by decide)) (by decide +kernel)) (fun σ1 e2 i1 => ?_)
  refine zok_ck rfl ?_
  refine zok_ck rfl ?_
  refine zok_pi (s_X5_by i1.P (rC_21 i1.sg _ (by decide))) (fun v3 h3 => ?_)
  refine zok_ck rfl ?_
  refine zok_pi (s_X5_parity i1.P (rC_21 i1.sg _ (by decide))) (fun v5 h4 => ?_)
  refine zok_ck rfl ?_
  refine zok_bs (i1.wi 1 1 (by decide) (zr_or (lo := 0) (hi := 255) 8 (zr_or (lo := 0) (hi := 255) 8 (zr_andr (lo := 0) (hi := 1) (zr_c (lo := 1) (hi := 1) (by decide)) (by decide)) h3 (by decide)) h4 (by decide)) (by decide +kernel)) (fun σ6 e6 i5 => ?_)
  exact zok_some i5
theorem s_X5_turnDigits_70 {G : Nat → Int} {σ : zSt} (hσ : zIC G σ) {x1 : Int32} (h_x1 : zr (0) (1) x1) {x3 : Int32} (h_x3 : zr (0) (255) x3) {s0 : Int32} (h_s0 : zr (0) (255) s0) {s1 : Int32} (h_s1 : zr (0) (65535) s1) : zok (fX5_turnDigits_70 σ x1 x3 s0 s1) (zIC G) := by
  unfold fX5_turnDigits_70
  refine zok_bu (s_X2_write hσ (zr_w h_s1 (by decide)) h_s0) (fun σ7 i1 => ?_)
  refine zok_ck rfl ?_
  refine zok_if (fun q2 => ?_) (fun q2 => ?_)
  · have h3 := zc_eql (0) (0) q2 h_x1 (zr_c (lo := 0) (hi := 0) (by decide)) (by decide)
    exact (s_X5_turnDigits_102 i1 (zr_shr (lo := 0) (hi := 15) 4 (by decide) h_x3 (by decide)) (zr_andr (lo := 0) (hi := 240) (zr_c (lo := 240) (hi := 240) (by decide)) (by decide)) (zr_c (lo := 0) (hi := 0) (by decide)))
  have h4 := zc_nel (1) (1) q2 h_x1 (zr_c (lo := 0) (hi := 0) (by decide)) (by decide)
  exact (s_X5_turnDigits_102 i1 (zr_andr (lo := 0) (hi := 15) (zr_c (lo := 15) (hi := 15) (by decide)) (by decide)) (zr_andr (lo := 0) (hi := 240) (zr_c (lo := 240) (hi := 240) (by decide)) (by decide)) (zr_c (lo := 0) (hi := 0) (by decide)))
theorem s_X5_turnDigits {G : Nat → Int} {σ : zSt} (hσ : zIC G σ) {x1 : Int32} (h_x1 : zr (0) (1) x1) : zok (fX5_turnDigits σ x1) (zIC G) := by
  unfold fX5_turnDigits
  refine zok_pi (s_X5_pairAt hσ.P (zr_w (zr_c (lo := 6) (hi := 6) (by decide)) (by decide))) (fun v9 h1 => ?_)
  refine zok_pi (s_X2_read hσ.P) (fun v11 h2 => ?_)
  refine zok_ck rfl ?_
  refine zok_br (zr_andr (lo := 0) (hi := 15) (zr_c (lo := 15) (hi := 15) (by decide)) (by decide)) (fun v12 e4 h3 => ?_)
  refine zok_ck rfl ?_
  refine zok_bs (hσ.wi 20 20 (by decide) (zr_andr (lo := 0) (hi := 65535) (zr_c (lo := 65535) (hi := 65535) (by decide)) (by decide)) (by decide +kernel)) (fun σ13 e6 i5 => ?_)
  refine zok_if (fun q7 => ?_) (fun q7 => ?_)
  · have h8 := zc_eql (0) (0) q7 h_x1 (zr_c (lo := 0) (hi := 0) (by decide)) (by decide)
    exact (s_X5_turnDigits_70 i5 (zr_w h8 (by decide)) h2 (zr_or (lo := 0) (hi := 255) 8 (zr_andr (lo := 0) (hi := 255) (zr_c (lo := 255) (hi := 255) (by decide)) (by decide)) h3 (by decide)) h1)
  have h9 := zc_nel (1) (1) q7 h_x1 (zr_c (lo := 0) (hi := 0) (by decide)) (by decide)
  exact (s_X5_turnDigits_70 i5 (zr_w h9 (by decide)) h2 (zr_or (lo := 0) (hi := 255) 8 (zr_shl (lo := 0) (hi := 240) 4 (by decide) h3 (by decide)) (zr_shr (lo := 0) (hi := 15) 4 (by decide) h2 (by decide)) (by decide)) h1)
theorem s_X5_moreOfA_139 {G : Nat → Int} {σ : zSt} (hσ : zIC G σ) {s0 : Int32} (h_s0 : zr (0) (4) s0) {s1 : Int32} (h_s1 : zr (0) (255) s1) {s2 : Int32} (h_s2 : zr (1) (1) s2) : zok (fX5_moreOfA_139 σ s0 s1 s2) (zAi (zIC G) (fun v : Int32 => zr (8) (18) v)) := by
  unfold fX5_moreOfA_139
  refine zok_ck (zin_ok h_s2 (by decide)) ?_
  refine zok_bs (hσ.wi 1 1 (z_ix h_s2 (by decide)) (zr_or (lo := 0) (hi := 255) 8 h_s1 h_s0 (by decide)) (by decide +kernel)) (fun σ1 e2 i1 => ?_)
  exact zok_sai i1 (zr_w (zr_c (lo := 9) (hi := 9) (by decide)) (by decide))
theorem s_X5_moreOfA_99 {G : Nat → Int} {σ : zSt} (hσ : zIC G σ) {s0 : Int32} (h_s0 : zr (0) (255) s0) {s1 : Int32} (h_s1 : zr (0) (0) s1) : zok (fX5_moreOfA_99 σ s0 s1) (zAi (zIC G) (fun v : Int32 => zr (8) (18) v)) := by
  unfold fX5_moreOfA_99
  refine zok_ck (zin_ok h_s1 (by decide)) ?_
  refine zok_bs (hσ.wi 0 0 (z_ix h_s1 (by decide)) h_s0 (by decide +kernel)) (fun σ2 e2 i1 => ?_)
  refine zok_ck rfl ?_
  refine zok_ck rfl ?_
  refine zok_pi (s_X5_by i1.P (rC_21 i1.sg _ (by decide))) (fun v4 h3 => ?_)
  refine zok_ck rfl ?_
  refine zok_if (fun q4 => ?_) (fun q4 => ?_)
  · have h5 := zc_eql (1) (1) q4 (rC_24 i1.sg _ (by decide)) (zr_c (lo := 1) (hi := 1) (by decide)) (by decide)
    exact (s_X5_moreOfA_139 i1 (zr_w (zr_c (lo := 4) (hi := 4) (by decide)) (by decide)) (zr_or (lo := 0) (hi := 255) 8 (zr_andr (lo := 0) (hi := 1) (zr_c (lo := 1) (hi := 1) (by decide)) (by decide)) h3 (by decide)) (zr_c (lo := 1) (hi := 1) (by decide)))
  have h6 := zc_nel (0) (0) q4 (rC_24 i1.sg _ (by decide)) (zr_c (lo := 1) (hi := 1) (by decide)) (by decide)
  exact (s_X5_moreOfA_139 i1 (zr_w (zr_c (lo := 0) (hi := 0) (by decide)) (by decide)) (zr_or (lo := 0) (hi := 255) 8 (zr_andr (lo := 0) (hi := 1) (zr_c (lo := 1) (hi := 1) (by decide)) (by decide)) h3 (by decide)) (zr_c (lo := 1) (hi := 1) (by decide)))
theorem s_X5_moreOfA_72 {G : Nat → Int} {σ : zSt} (hσ : zIC G σ) {x1 : Int32} (h_x1 : zr (2) (3) x1) : zok (fX5_moreOfA_72 σ x1) (zAi (zIC G) (fun v : Int32 => zr (8) (18) v)) := by
  unfold fX5_moreOfA_72
  refine zok_if (fun q1 => ?_) (fun q1 => ?_)
  · have h2 := zc_eql (2) (2) q1 h_x1 (zr_c (lo := 2) (hi := 2) (by decide)) (by decide)
    refine zok_ck rfl ?_
    exact (s_X5_moreOfA_99 hσ (rC_23 hσ.sg _ (by decide)) (zr_c (lo := 0) (hi := 0) (by decide)))
  have h3 := zc_nel (3) (3) q1 h_x1 (zr_c (lo := 2) (hi := 2) (by decide)) (by decide)
  refine zok_ck rfl ?_
  exact (s_X5_moreOfA_99 hσ (rC_23 hσ.sg _ (by decide)) (zr_c (lo := 0) (hi := 0) (by decide)))
theorem s_X5_moreOfA_155 {G : Nat → Int} {σ : zSt} (hσ : zIC G σ) {s0 : Int32} (h_s0 : zr (0) (1) s0) : zok (fX5_moreOfA_155 σ s0) (zAi (zIC G) (fun v : Int32 => zr (8) (18) v)) := by
  unfold fX5_moreOfA_155
  refine zok_bu (s_X5_turnDigits hσ h_s0) (fun σ5 i1 => ?_)
  exact zok_sai i1 (zr_w (zr_c (lo := 18) (hi := 18) (by decide)) (by decide))
theorem s_X5_moreOfA_144 {G : Nat → Int} {σ : zSt} (hσ : zIC G σ) {x1 : Int32} (h_x1 : zr (4) (5) x1) : zok (fX5_moreOfA_144 σ x1) (zAi (zIC G) (fun v : Int32 => zr (8) (18) v)) := by
  unfold fX5_moreOfA_144
  refine zok_if (fun q1 => ?_) (fun q1 => ?_)
  · have h2 := zc_eql (4) (4) q1 h_x1 (zr_c (lo := 4) (hi := 4) (by decide)) (by decide)
    exact (s_X5_moreOfA_155 hσ (zr_w (zr_c (lo := 1) (hi := 1) (by decide)) (by decide)))
  have h3 := zc_nel (5) (5) q1 h_x1 (zr_c (lo := 4) (hi := 4) (by decide)) (by decide)
  exact (s_X5_moreOfA_155 hσ (zr_w (zr_c (lo := 0) (hi := 0) (by decide)) (by decide)))
theorem s_X5_moreOfA {G : Nat → Int} {σ : zSt} (hσ : zIC G σ) {x1 : Int32} (h_x1 : zr (0) (7) x1) : zok (fX5_moreOfA σ x1) (zAi (zIC G) (fun v : Int32 => zr (8) (18) v)) := by
  unfold fX5_moreOfA
  refine zok_if (fun q1 => ?_) (fun q1 => ?_)
  · have h2 := zc_eql (0) (0) q1 h_x1 (zr_c (lo := 0) (hi := 0) (by decide)) (by decide)
    refine zok_ck rfl ?_
    refine zok_ck rfl ?_
    refine zok_bs (hσ.wi 21 21 (by decide) (rC_21 hσ.sg _ (by decide)) (by decide +kernel)) (fun σ6 e4 i3 => ?_)
    exact zok_sai i3 (zr_w (zr_c (lo := 9) (hi := 9) (by decide)) (by decide))
  have h5 := zc_nel (1) (7) q1 h_x1 (zr_c (lo := 0) (hi := 0) (by decide)) (by decide)
  refine zok_if (fun q6 => ?_) (fun q6 => ?_)
  · have h7 := zc_eql (1) (1) q6 h5 (zr_c (lo := 1) (hi := 1) (by decide)) (by decide)
    refine zok_ck rfl ?_
    refine zok_ck rfl ?_
    refine zok_bs (hσ.wi 22 22 (by decide) (rC_21 hσ.sg _ (by decide)) (by decide +kernel)) (fun σ7 e9 i8 => ?_)
    exact zok_sai i8 (zr_w (zr_c (lo := 9) (hi := 9) (by decide)) (by decide))
  have h10 := zc_nel (2) (7) q6 h5 (zr_c (lo := 1) (hi := 1) (by decide)) (by decide)
  refine zok_if (fun q11 => ?_) (fun q11 => ?_)
  · have h12 := zc_eql (2) (2) q11 h10 (zr_c (lo := 2) (hi := 2) (by decide)) (by decide)
    exact (s_X5_moreOfA_72 hσ (zr_w h12 (by decide)))
  have h13 := zc_nel (3) (7) q11 h10 (zr_c (lo := 2) (hi := 2) (by decide)) (by decide)
  refine zok_if (fun q14 => ?_) (fun q14 => ?_)
  · have h15 := zc_eql (3) (3) q14 h13 (zr_c (lo := 3) (hi := 3) (by decide)) (by decide)
    exact (s_X5_moreOfA_72 hσ (zr_w h15 (by decide)))
  have h16 := zc_nel (4) (7) q14 h13 (zr_c (lo := 3) (hi := 3) (by decide)) (by decide)
  refine zok_if (fun q17 => ?_) (fun q17 => ?_)
  · have h18 := zc_eql (4) (4) q17 h16 (zr_c (lo := 4) (hi := 4) (by decide)) (by decide)
    exact (s_X5_moreOfA_144 hσ (zr_w h18 (by decide)))
  have h19 := zc_nel (5) (7) q17 h16 (zr_c (lo := 4) (hi := 4) (by decide)) (by decide)
  refine zok_if (fun q20 => ?_) (fun q20 => ?_)
  · have h21 := zc_eql (5) (5) q20 h19 (zr_c (lo := 5) (hi := 5) (by decide)) (by decide)
    exact (s_X5_moreOfA_144 hσ (zr_w h21 (by decide)))
  have h22 := zc_nel (6) (7) q20 h19 (zr_c (lo := 5) (hi := 5) (by decide)) (by decide)
  exact zok_sai hσ (zr_w (zr_c (lo := 8) (hi := 8) (by decide)) (by decide))
theorem s_X5_pop {G : Nat → Int} {σ : zSt} (hσ : zIC G σ) : zok (fX5_pop σ ) (zAi (zIC G) (fun v : Int32 => zr (0) (65535) v)) := by
  unfold fX5_pop
  refine zok_ck rfl ?_
  refine zok_pi (s_X2_read hσ.P) (fun v2 h1 => ?_)
  refine zok_ck rfl ?_
  refine zok_pi (s_X2_read hσ.P) (fun v4 h2 => ?_)
  refine zok_br (zr_or (lo := 0) (hi := 65535) 16 h1 (zr_shl (lo := 0) (hi := 65280) 8 (by decide) h2 (by decide)) (by decide)) (fun v5 e4 h3 => ?_)
  refine zok_ck rfl ?_
  refine zok_ck rfl ?_
  refine zok_bs (hσ.wi 18 18 (by decide) (zr_andr (lo := 0) (hi := 65535) (zr_c (lo := 65535) (hi := 65535) (by decide)) (by decide)) (by decide +kernel)) (fun σ6 e6 i5 => ?_)
  exact zok_sai i5 h3
theorem s_X5_difference_72 {G : Nat → Int} {σ : zSt} (hσ : zIC G σ) {x5 : Int32} (h_x5 : zr (0) (255) x5) {s0 : Int32} (h_s0 : zr (0) (1) s0) {s1 : Int32} (h_s1 : zr (0) (255) s1) {s2 : Int32} (h_s2 : zr (1) (1) s2) : zok (fX5_difference_72 σ x5 s0 s1 s2) (zAi (zIC G) (fun v : Int32 => zr (0) (255) v)) := by
  unfold fX5_difference_72
  refine zok_ck (zin_ok h_s2 (by decide)) ?_
  refine zok_bs (hσ.wi 1 1 (z_ix h_s2 (by decide)) (zr_or (lo := 0) (hi := 255) 8 h_s1 h_s0 (by decide)) (by decide +kernel)) (fun σ1 e2 i1 => ?_)
  exact zok_sai i1 h_x5
theorem s_X5_difference_59 {G : Nat → Int} {σ : zSt} (hσ : zIC G σ) {x4 : Int32} (h_x4 : zr (-256) (255) x4) {x5 : Int32} (h_x5 : zr (0) (255) x5) {s0 : Int32} (h_s0 : zr (0) (4) s0) {s1 : Int32} (h_s1 : zr (0) (255) s1) {s2 : Int32} (h_s2 : zr (1) (1) s2) : zok (fX5_difference_59 σ x4 x5 s0 s1 s2) (zAi (zIC G) (fun v : Int32 => zr (0) (255) v)) := by
  unfold fX5_difference_59
  refine zok_if (fun q1 => ?_) (fun q1 => ?_)
  · have h2 := zc_ler (0) q1 (zr_c (lo := 0) (hi := 0) (by decide)) h_x4 (by decide)
    exact (s_X5_difference_72 hσ h_x5 (zr_w (zr_c (lo := 0) (hi := 0) (by decide)) (by decide)) (zr_or (lo := 0) (hi := 255) 8 (zr_or (lo := 0) (hi := 255) 8 h_s1 h_s0 (by decide)) (zr_c (lo := 2) (hi := 2) (by decide)) (by decide)) h_s2)
  have h3 := zc_ltl (-1) (z_nle q1) h_x4 (zr_c (lo := 0) (hi := 0) (by decide)) (by decide)
  exact (s_X5_difference_72 hσ h_x5 (zr_w (zr_c (lo := 1) (hi := 1) (by decide)) (by decide)) (zr_or (lo := 0) (hi := 255) 8 (zr_or (lo := 0) (hi := 255) 8 h_s1 h_s0 (by decide)) (zr_c (lo := 2) (hi := 2) (by decide)) (by decide)) h_s2)
theorem s_X5_difference {G : Nat → Int} {σ : zSt} (hσ : zIC G σ) {x1 : Int32} (h_x1 : zr (0) (255) x1) {x2 : Int32} (h_x2 : zr (0) (255) x2) {x3 : Int32} (h_x3 : zr (0) (1) x3) : zok (fX5_difference σ x1 x2 x3) (zAi (zIC G) (fun v : Int32 => zr (0) (255) v)) := by
  unfold fX5_difference
  refine zok_br (zr_sub (lo := -256) (hi := 255) (zr_sub (lo := -255) (hi := 255) h_x1 h_x2 (by decide)) h_x3 (by decide)) (fun v2 e2 h1 => ?_)
  refine zok_br (zr_andr (lo := 0) (hi := 255) (zr_c (lo := 255) (hi := 255) (by decide)) (by decide)) (fun v3 e4 h3 => ?_)
  refine zok_br (zr_andr (lo := 0) (hi := 128) (zr_c (lo := 128) (hi := 128) (by decide)) (by decide)) (fun v4 e6 h5 => ?_)
  refine zok_pi (s_X5_by hσ.P h3) (fun v6 h7 => ?_)
  refine zok_if (fun q8 => ?_) (fun q8 => ?_)
  · have h9 := zc_eql (0) (0) q8 h5 (zr_c (lo := 0) (hi := 0) (by decide)) (by decide)
    exact (s_X5_difference_59 hσ h1 h3 (zr_w (zr_c (lo := 0) (hi := 0) (by decide)) (by decide)) (zr_or (lo := 0) (hi := 255) 8 h7 (zr_andr (lo := 0) (hi := 16) (zr_c (lo := 16) (hi := 16) (by decide)) (by decide)) (by decide)) (zr_c (lo := 1) (hi := 1) (by decide)))
  have h10 := zc_nel (1) (128) q8 h5 (zr_c (lo := 0) (hi := 0) (by decide)) (by decide)
  exact (s_X5_difference_59 hσ h1 h3 (zr_w (zr_c (lo := 4) (hi := 4) (by decide)) (by decide)) (zr_or (lo := 0) (hi := 255) 8 h7 (zr_andr (lo := 0) (hi := 16) (zr_c (lo := 16) (hi := 16) (by decide)) (by decide)) (by decide)) (zr_c (lo := 1) (hi := 1) (by decide)))
theorem s_X5_fetchWord {G : Nat → Int} {σ : zSt} (hσ : zIC G σ) : zok (fX5_fetchWord σ ) (zAi (zIC G) (fun v : Int32 => zr (0) (65535) v)) := by
  unfold fX5_fetchWord
  refine zok_ck rfl ?_
  refine zok_pi (s_X2_read hσ.P) (fun v2 h1 => ?_)
  refine zok_ck rfl ?_
  refine zok_pi (s_X2_read hσ.P) (fun v4 h2 => ?_)
  refine zok_br (zr_or (lo := 0) (hi := 65535) 16 h1 (zr_shl (lo := 0) (hi := 65280) 8 (by decide) h2 (by decide)) (by decide)) (fun v5 e4 h3 => ?_)
  refine zok_ck rfl ?_
  refine zok_ck rfl ?_
  refine zok_bs (hσ.wi 19 19 (by decide) (zr_andr (lo := 0) (hi := 65535) (zr_c (lo := 65535) (hi := 65535) (by decide)) (by decide)) (by decide +kernel)) (fun σ6 e6 i5 => ?_)
  exact zok_sai i5 h3
theorem s_X5_hl_27 {σ : zSt} (hσ : zPC σ) {s0 : Int32} (h_s0 : zr (0) (65535) s0) : zok (fX5_hl_27 σ s0) (zPi σ (fun v : Int32 => zr (0) (65535) v)) := by
  unfold fX5_hl_27
  exact zok_spi h_s0
theorem s_X5_hl {σ : zSt} (hσ : zPC σ) : zok (fX5_hl σ ) (zPi σ (fun v : Int32 => zr (0) (65535) v)) := by
  unfold fX5_hl
  refine zok_if (fun q1 => ?_) (fun q1 => ?_)
  · have h2 := zc_eql (6) (6) q1 (rC_5 hσ.sg _ (by decide)) (zr_c (lo := 6) (hi := 6) (by decide)) (by decide)
    refine zok_pi (s_X5_pairAt hσ (zr_w (zr_c (lo := 6) (hi := 6) (by decide)) (by decide))) (fun v2 h3 => ?_)
    exact (s_X5_hl_27 hσ h3)
  have h4 := zc_nel (7) (17) q1 (rC_5 hσ.sg _ (by decide)) (zr_c (lo := 6) (hi := 6) (by decide)) (by decide)
  have h5 := xC_sp hσ.sp h4 (by decide)
  refine zok_ck (zin_ok h5 (by decide)) ?_
  exact (s_X5_hl_27 hσ (rC_22 hσ.sg _ (z_ix h5 (by decide))))
theorem s_X5_pair {σ : zSt} (hσ : zPC σ) {x1 : Int32} (h_x1 : zr (0) (3) x1) : zok (fX5_pair σ x1) (zPi σ (fun v : Int32 => zr (0) (65535) v)) := by
  unfold fX5_pair
  refine zok_if (fun q1 => ?_) (fun q1 => ?_)
  · have h2 := zc_eql (0) (0) q1 h_x1 (zr_c (lo := 0) (hi := 0) (by decide)) (by decide)
    refine zok_pi (s_X5_pairAt hσ (zr_w (zr_c (lo := 2) (hi := 2) (by decide)) (by decide))) (fun v2 h3 => ?_)
    exact zok_spi h3
  have h4 := zc_nel (1) (3) q1 h_x1 (zr_c (lo := 0) (hi := 0) (by decide)) (by decide)
  refine zok_if (fun q5 => ?_) (fun q5 => ?_)
  · have h6 := zc_eql (1) (1) q5 h4 (zr_c (lo := 1) (hi := 1) (by decide)) (by decide)
    refine zok_pi (s_X5_pairAt hσ (zr_w (zr_c (lo := 4) (hi := 4) (by decide)) (by decide))) (fun v4 h7 => ?_)
    exact zok_spi h7
  have h8 := zc_nel (2) (3) q5 h4 (zr_c (lo := 1) (hi := 1) (by decide)) (by decide)
  refine zok_if (fun q9 => ?_) (fun q9 => ?_)
  · have h10 := zc_eql (2) (2) q9 h8 (zr_c (lo := 2) (hi := 2) (by decide)) (by decide)
    refine zok_pi (s_X5_hl hσ) (fun v6 h11 => ?_)
    exact zok_spi h11
  have h12 := zc_nel (3) (3) q9 h8 (zr_c (lo := 2) (hi := 2) (by decide)) (by decide)
  refine zok_ck rfl ?_
  exact zok_spi (rC_22 hσ.sg _ (by decide))
theorem s_X5_writeWord {G : Nat → Int} {σ : zSt} (hσ : zIC G σ) {x1 : Int32} (h_x1 : zr (0) (65535) x1) {x2 : Int32} (h_x2 : zr (0) (65535) x2) : zok (fX5_writeWord σ x1 x2) (zIC G) := by
  unfold fX5_writeWord
  refine zok_bu (s_X2_write hσ (zr_w h_x1 (by decide)) (zr_andr (lo := 0) (hi := 255) (zr_c (lo := 255) (hi := 255) (by decide)) (by decide))) (fun σ1 i1 => ?_)
  refine zok_bu (s_X2_write i1 (zr_w (zr_add (lo := 1) (hi := 65536) h_x1 (zr_c (lo := 1) (hi := 1) (by decide)) (by decide)) (by decide)) (zr_shr (lo := 0) (hi := 255) 8 (by decide) h_x2 (by decide))) (fun σ2 i2 => ?_)
  exact zok_some i2
theorem s_X5_putHl_32 {σ : zSt} (hσ : zPC σ) : zok (fX5_putHl_32 σ ) (zPu σ) := by
  unfold fX5_putHl_32
  exact zok_spu
theorem s_X5_putHl {G : Nat → Int} {σ : zSt} (hσ : zIC G σ) {x1 : Int32} (h_x1 : zr (-65536) (131071) x1) : zok (fX5_putHl σ x1) (zIC G) := by
  unfold fX5_putHl
  refine zok_if (fun q1 => ?_) (fun q1 => ?_)
  · have h2 := zc_eql (6) (6) q1 (rC_5 hσ.sg _ (by decide)) (zr_c (lo := 6) (hi := 6) (by decide)) (by decide)
    refine zok_bu (s_X5_putPairAt hσ (zr_w (zr_c (lo := 6) (hi := 6) (by decide)) (by decide)) h_x1) (fun σ2 i3 => ?_)
    exact zok_pau i3 (s_X5_putHl_32 i3.P)
  have h4 := zc_nel (7) (17) q1 (rC_5 hσ.sg _ (by decide)) (zr_c (lo := 6) (hi := 6) (by decide)) (by decide)
  have h5 := xC_sp hσ.sp h4 (by decide)
  refine zok_ck (zin_ok h5 (by decide)) ?_
  refine zok_bs (hσ.wi 16 17 (z_ix h5 (by decide)) (zr_andr (lo := 0) (hi := 65535) (zr_c (lo := 65535) (hi := 65535) (by decide)) (by decide)) (by decide +kernel)) (fun σ1 e7 i6 => ?_)
  exact zok_pau i6 (s_X5_putHl_32 i6.P)
theorem s_X5_putPair_65 {σ : zSt} (hσ : zPC σ) : zok (fX5_putPair_65 σ ) (zPu σ) := by
  unfold fX5_putPair_65
  exact zok_spu
theorem s_X5_putPair {G : Nat → Int} {σ : zSt} (hσ : zIC G σ) {x1 : Int32} (h_x1 : zr (0) (3) x1) {x2 : Int32} (h_x2 : zr (-1) (65536) x2) : zok (fX5_putPair σ x1 x2) (zIC G) := by
  unfold fX5_putPair
  refine zok_if (fun q1 => ?_) (fun q1 => ?_)
  · have h2 := zc_eql (0) (0) q1 h_x1 (zr_c (lo := 0) (hi := 0) (by decide)) (by decide)
    refine zok_bu (s_X5_putPairAt hσ (zr_w (zr_c (lo := 2) (hi := 2) (by decide)) (by decide)) (zr_w h_x2 (by decide))) (fun σ1 i3 => ?_)
    exact zok_pau i3 (s_X5_putPair_65 i3.P)
  have h4 := zc_nel (1) (3) q1 h_x1 (zr_c (lo := 0) (hi := 0) (by decide)) (by decide)
  refine zok_if (fun q5 => ?_) (fun q5 => ?_)
  · have h6 := zc_eql (1) (1) q5 h4 (zr_c (lo := 1) (hi := 1) (by decide)) (by decide)
    refine zok_bu (s_X5_putPairAt hσ (zr_w (zr_c (lo := 4) (hi := 4) (by decide)) (by decide)) (zr_w h_x2 (by decide))) (fun σ2 i7 => ?_)
    exact zok_pau i7 (s_X5_putPair_65 i7.P)
  have h8 := zc_nel (2) (3) q5 h4 (zr_c (lo := 1) (hi := 1) (by decide)) (by decide)
  refine zok_if (fun q9 => ?_) (fun q9 => ?_)
  · have h10 := zc_eql (2) (2) q9 h8 (zr_c (lo := 2) (hi := 2) (by decide)) (by decide)
    refine zok_bu (s_X5_putHl hσ (zr_w h_x2 (by decide))) (fun σ3 i11 => ?_)
    exact zok_pau i11 (s_X5_putPair_65 i11.P)
  have h12 := zc_nel (3) (3) q9 h8 (zr_c (lo := 2) (hi := 2) (by decide)) (by decide)
  refine zok_ck rfl ?_
  refine zok_bs (hσ.wi 18 18 (by decide) (zr_andr (lo := 0) (hi := 65535) (zr_c (lo := 65535) (hi := 65535) (by decide)) (by decide)) (by decide +kernel)) (fun σ4 e14 i13 => ?_)
  exact zok_pau i13 (s_X5_putPair_65 i13.P)
theorem s_X5_farPair_51 {σ : zSt} (hσ : zPC σ) : zok (fX5_farPair_51 σ ) (zPi σ (fun v : Int32 => zr (20) (20) v)) := by
  unfold fX5_farPair_51
  exact zok_spi (zr_c (lo := 20) (hi := 20) (by decide))
theorem s_X5_farPair {G : Nat → Int} {σ : zSt} (hσ : zIC G σ) {x1 : Int32} (h_x1 : zr (0) (7) x1) : zok (fX5_farPair σ x1) (zAi (zIC G) (fun v : Int32 => zr (20) (20) v)) := by
  unfold fX5_farPair
  refine zok_ai (s_X5_fetchWord hσ) (fun σ1 v2 i1 h2 => ?_)
  refine zok_ck rfl ?_
  refine zok_bs (i1.wi 20 20 (by decide) (zr_andr (lo := 0) (hi := 65535) (zr_c (lo := 65535) (hi := 65535) (by decide)) (by decide)) (by decide +kernel)) (fun σ3 e4 i3 => ?_)
  refine zok_if (fun q5 => ?_) (fun q5 => ?_)
  · have h6 := zc_eql (0) (0) q5 (zr_andr (lo := 0) (hi := 1) (zr_c (lo := 1) (hi := 1) (by decide)) (by decide)) (zr_c (lo := 0) (hi := 0) (by decide)) (by decide)
    refine zok_pi (s_X5_pair i3.P (zr_shr (lo := 0) (hi := 3) 1 (by decide) h_x1 (by decide))) (fun v8 h7 => ?_)
    refine zok_bu (s_X5_writeWord i3 h2 h7) (fun σ9 i8 => ?_)
    exact zok_pai i8 (s_X5_farPair_51 i8.P)
  have h9 := zc_nel (1) (1) q5 (zr_andr (lo := 0) (hi := 1) (zr_c (lo := 1) (hi := 1) (by decide)) (by decide)) (zr_c (lo := 0) (hi := 0) (by decide)) (by decide)
  refine zok_pi (s_X5_readWord i3.P h2) (fun v5 h10 => ?_)
  refine zok_bu (s_X5_putPair i3 (zr_shr (lo := 0) (hi := 3) 1 (by decide) h_x1 (by decide)) (zr_w h10 (by decide))) (fun σ6 i11 => ?_)
  exact zok_pai i11 (s_X5_farPair_51 i11.P)
theorem s_X5_putWide_44 {G : Nat → Int} {σ : zSt} (hσ : zIC G σ) {x1 : Int32} (h_x1 : zr (0) (65535) x1) {x2 : Int32} (h_x2 : zr (0) (65535) x2) {x3 : Int32} (h_x3 : zr (-65536) (131071) x3) {s0 : Int32} (h_s0 : zr (0) (64) s0) {s1 : Int32} (h_s1 : zr (0) (168) s1) {s2 : Int32} (h_s2 : zr (1) (1) s2) : zok (fX5_putWide_44 σ x1 x2 x3 s0 s1 s2) (zIC G) := by
  unfold fX5_putWide_44
  refine zok_ck (zin_ok h_s2 (by decide)) ?_
  refine zok_bs (hσ.wi 1 1 (z_ix h_s2 (by decide)) (zr_or (lo := 0) (hi := 255) 8 (zr_or (lo := 0) (hi := 255) 8 (zr_or (lo := 0) (hi := 255) 8 h_s1 h_s0 (by decide)) (zr_andr (lo := 0) (hi := 16) (zr_c (lo := 16) (hi := 16) (by decide)) (by decide)) (by decide)) (zr_andr (lo := 0) (hi := 1) (zr_c (lo := 1) (hi := 1) (by decide)) (by decide)) (by decide)) (by decide +kernel)) (fun σ1 e2 i1 => ?_)
  exact zok_some i1
theorem s_X5_putWide {G : Nat → Int} {σ : zSt} (hσ : zIC G σ) {x1 : Int32} (h_x1 : zr (0) (65535) x1) {x2 : Int32} (h_x2 : zr (0) (65535) x2) {x3 : Int32} (h_x3 : zr (-65536) (131071) x3) : zok (fX5_putWide σ x1 x2 x3) (zIC G) := by
  unfold fX5_putWide
  refine zok_ck rfl ?_
  refine zok_bs (hσ.wi 20 20 (by decide) (zr_andr (lo := 0) (hi := 65535) (zr_c (lo := 65535) (hi := 65535) (by decide)) (by decide)) (by decide +kernel)) (fun σ2 e2 i1 => ?_)
  refine zok_bu (s_X5_putHl i1 h_x3) (fun σ3 i3 => ?_)
  refine zok_if (fun q4 => ?_) (fun q4 => ?_)
  · have h5 := zc_eql (0) (0) q4 (zr_andr (lo := 0) (hi := 65535) (zr_c (lo := 65535) (hi := 65535) (by decide)) (by decide)) (zr_c (lo := 0) (hi := 0) (by decide)) (by decide)
    exact (s_X5_putWide_44 i3 h_x1 h_x2 h_x3 (zr_w (zr_c (lo := 64) (hi := 64) (by decide)) (by decide)) (zr_andr (lo := 0) (hi := 168) (zr_c (lo := 168) (hi := 168) (by decide)) (by decide)) (zr_c (lo := 1) (hi := 1) (by decide)))
  have h6 := zc_nel (1) (65535) q4 (zr_andr (lo := 0) (hi := 65535) (zr_c (lo := 65535) (hi := 65535) (by decide)) (by decide)) (zr_c (lo := 0) (hi := 0) (by decide)) (by decide)
  exact (s_X5_putWide_44 i3 h_x1 h_x2 h_x3 (zr_w (zr_c (lo := 0) (hi := 0) (by decide)) (by decide)) (zr_andr (lo := 0) (hi := 168) (zr_c (lo := 168) (hi := 168) (by decide)) (by decide)) (zr_c (lo := 1) (hi := 1) (by decide)))
theorem s_X5_takePair_63 {G : Nat → Int} {σ : zSt} (hσ : zIC G σ) {s0 : Int32} (h_s0 : zr (0) (4) s0) {s1 : Int32} (h_s1 : zr (0) (255) s1) {s2 : Int32} (h_s2 : zr (1) (1) s2) : zok (fX5_takePair_63 σ s0 s1 s2) (zAi (zIC G) (fun v : Int32 => zr (15) (15) v)) := by
  unfold fX5_takePair_63
  refine zok_ck (zin_ok h_s2 (by decide)) ?_
  refine zok_bs (hσ.wi 1 1 (z_ix h_s2 (by decide)) (zr_or (lo := 0) (hi := 255) 8 h_s1 (zr_or (lo := 0) (hi := 7) 3 h_s0 (zr_c (lo := 2) (hi := 2) (by decide)) (by decide)) (by decide)) (by decide +kernel)) (fun σ1 e2 i1 => ?_)
  exact zok_sai i1 (zr_c (lo := 15) (hi := 15) (by decide))
theorem s_X5_takePair {G : Nat → Int} {σ : zSt} (hσ : zIC G σ) {x1 : Int32} (h_x1 : zr (0) (3) x1) : zok (fX5_takePair σ x1) (zAi (zIC G) (fun v : Int32 => zr (15) (15) v)) := by
  unfold fX5_takePair
  refine zok_pi (s_X5_hl hσ.P) (fun v3 h1 => ?_)
  refine zok_pi (s_X5_pair hσ.P h_x1) (fun v5 h2 => ?_)
  refine zok_ck rfl ?_
  refine zok_br (zr_sub (lo := -65536) (hi := 65535) (zr_sub (lo := -65535) (hi := 65535) h1 h2 (by decide)) (zr_andr (lo := 0) (hi := 1) (zr_c (lo := 1) (hi := 1) (by decide)) (by decide)) (by decide)) (fun v6 e4 h3 => ?_)
  refine zok_bu (s_X5_putWide hσ h1 h2 (zr_w h3 (by decide))) (fun σ7 i5 => ?_)
  refine zok_br (zr_andr (lo := 0) (hi := 32768) (zr_c (lo := 32768) (hi := 32768) (by decide)) (by decide)) (fun v8 e7 h6 => ?_)
  refine zok_ck rfl ?_
  refine zok_if (fun q8 => ?_) (fun q8 => ?_)
  · have h9 := zc_eql (0) (0) q8 h6 (zr_c (lo := 0) (hi := 0) (by decide)) (by decide)
    exact (s_X5_takePair_63 i5 (zr_w (zr_c (lo := 0) (hi := 0) (by decide)) (by decide)) (rC_21 i5.sg _ (by decide)) (zr_c (lo := 1) (hi := 1) (by decide)))
  have h10 := zc_nel (1) (32768) q8 h6 (zr_c (lo := 0) (hi := 0) (by decide)) (by decide)
  exact (s_X5_takePair_63 i5 (zr_w (zr_c (lo := 4) (hi := 4) (by decide)) (by decide)) (rC_21 i5.sg _ (by decide)) (zr_c (lo := 1) (hi := 1) (by decide)))
theorem s_X5_addPairAndCarry_65 {G : Nat → Int} {σ : zSt} (hσ : zIC G σ) {s0 : Int32} (h_s0 : zr (0) (4) s0) {s1 : Int32} (h_s1 : zr (0) (255) s1) {s2 : Int32} (h_s2 : zr (1) (1) s2) : zok (fX5_addPairAndCarry_65 σ s0 s1 s2) (zAi (zIC G) (fun v : Int32 => zr (15) (15) v)) := by
  unfold fX5_addPairAndCarry_65
  refine zok_ck (zin_ok h_s2 (by decide)) ?_
  refine zok_bs (hσ.wi 1 1 (z_ix h_s2 (by decide)) (zr_or (lo := 0) (hi := 255) 8 h_s1 h_s0 (by decide)) (by decide +kernel)) (fun σ1 e2 i1 => ?_)
  exact zok_sai i1 (zr_c (lo := 15) (hi := 15) (by decide))
theorem s_X5_addPairAndCarry {G : Nat → Int} {σ : zSt} (hσ : zIC G σ) {x1 : Int32} (h_x1 : zr (0) (3) x1) : zok (fX5_addPairAndCarry σ x1) (zAi (zIC G) (fun v : Int32 => zr (15) (15) v)) := by
  unfold fX5_addPairAndCarry
  refine zok_pi (s_X5_hl hσ.P) (fun v3 h1 => ?_)
  refine zok_pi (s_X5_pair hσ.P h_x1) (fun v5 h2 => ?_)
  refine zok_ck rfl ?_
  refine zok_br (zr_add (lo := 0) (hi := 131071) (zr_add (lo := 0) (hi := 131070) h1 h2 (by decide)) (zr_andr (lo := 0) (hi := 1) (zr_c (lo := 1) (hi := 1) (by decide)) (by decide)) (by decide)) (fun v6 e4 h3 => ?_)
  refine zok_bu (s_X5_putWide hσ h1 h2 (zr_w h3 (by decide))) (fun σ7 i5 => ?_)
  refine zok_br (zr_andr (lo := 0) (hi := 32768) (zr_c (lo := 32768) (hi := 32768) (by decide)) (by decide)) (fun v8 e7 h6 => ?_)
  refine zok_ck rfl ?_
  refine zok_if (fun q8 => ?_) (fun q8 => ?_)
  · have h9 := zc_eql (0) (0) q8 h6 (zr_c (lo := 0) (hi := 0) (by decide)) (by decide)
    exact (s_X5_addPairAndCarry_65 i5 (zr_w (zr_c (lo := 0) (hi := 0) (by decide)) (by decide)) (rC_21 i5.sg _ (by decide)) (zr_c (lo := 1) (hi := 1) (by decide)))
  have h10 := zc_nel (1) (32768) q8 h6 (zr_c (lo := 0) (hi := 0) (by decide)) (by decide)
  exact (s_X5_addPairAndCarry_65 i5 (zr_w (zr_c (lo := 4) (hi := 4) (by decide)) (by decide)) (rC_21 i5.sg _ (by decide)) (zr_c (lo := 1) (hi := 1) (by decide)))
theorem s_X5_takeFromPort_26 {G : Nat → Int} {σ : zSt} (hσ : zIC G σ) {x2 : Int32} (h_x2 : zr (0) (255) x2) : zok (fX5_takeFromPort_26 σ x2) (zIC G) := by
  unfold fX5_takeFromPort_26
  refine zok_ck rfl ?_
  refine zok_pi (s_X5_by hσ.P h_x2) (fun v2 h1 => ?_)
  refine zok_pi (s_X5_parity hσ.P h_x2) (fun v4 h2 => ?_)
  refine zok_ck rfl ?_
  refine zok_bs (hσ.wi 1 1 (by decide) (zr_or (lo := 0) (hi := 255) 8 (zr_or (lo := 0) (hi := 255) 8 (zr_andr (lo := 0) (hi := 1) (zr_c (lo := 1) (hi := 1) (by decide)) (by decide)) h1 (by decide)) h2 (by decide)) (by decide +kernel)) (fun σ5 e4 i3 => ?_)
  exact zok_some i3
theorem s_X5_takeFromPort {G : Nat → Int} {σ : zSt} (hσ : zIC G σ) {x1 : Int32} (h_x1 : zr (0) (7) x1) : zok (fX5_takeFromPort σ x1) (zIC G) := by
  unfold fX5_takeFromPort
  refine zok_ck rfl ?_
  refine zok_ai (s_X4_read hσ (rC_21 hσ.sg _ (by decide))) (fun σ6 v7 i1 h2 => ?_)
  refine zok_if (fun q3 => ?_) (fun q3 => ?_)
  · have h4 := zc_eql (6) (6) q3 h_x1 (zr_c (lo := 6) (hi := 6) (by decide)) (by decide)
    exact (s_X5_takeFromPort_26 i1 h2)
  refine zok_bu (s_X5_putOne i1 h_x1 h2) (fun σ8 i5 => ?_)
  exact (s_X5_takeFromPort_26 i5 h2)
theorem s_X5_behindEd_160 {σ : zSt} (hσ : zPC σ) {s0 : Int32} (h_s0 : zr (15) (15) s0) : zok (fX5_behindEd_160 σ s0) (zPi σ (fun v : Int32 => zr (8) (20) v)) := by
  unfold fX5_behindEd_160
  exact zok_spi (zr_w h_s0 (by decide))
theorem s_X5_behindEd_131 {G : Nat → Int} {σ : zSt} (hσ : zIC G σ) {s0 : Int32} (h_s0 : zr (0) (255) s0) {s1 : Int32} (h_s1 : zr (0) (255) s1) : zok (fX5_behindEd_131 σ s0 s1) (zAi (zIC G) (fun v : Int32 => zr (8) (20) v)) := by
  unfold fX5_behindEd_131
  refine zok_bu (s_X4_write hσ h_s1 h_s0) (fun σ1 i1 => ?_)
  exact zok_sai i1 (zr_w (zr_c (lo := 12) (hi := 12) (by decide)) (by decide))
theorem s_X5_behindEd {G : Nat → Int} {σ : zSt} (hσ : zIC G σ) {x1 : Int32} (h_x1 : zr (0) (255) x1) : zok (fX5_behindEd σ x1) (zAi (zIC G) (fun v : Int32 => zr (8) (20) v)) := by
  unfold fX5_behindEd
  refine zok_if (fun q1 => ?_) (fun q1 => ?_)
  · have h2 := zc_eql (1) (1) q1 (zr_shr (lo := 0) (hi := 3) 6 (by decide) h_x1 (by decide)) (zr_c (lo := 1) (hi := 1) (by decide)) (by decide)
    refine zok_br (zr_andr (lo := 0) (hi := 7) (zr_c (lo := 7) (hi := 7) (by decide)) (by decide)) (fun v2 e4 h3 => ?_)
    refine zok_if (fun q5 => ?_) (fun q5 => ?_)
    · have h6 := zc_eql (0) (0) q5 (zr_andr (lo := 0) (hi := 7) (zr_c (lo := 7) (hi := 7) (by decide)) (by decide)) (zr_c (lo := 0) (hi := 0) (by decide)) (by decide)
      refine zok_pi (s_X5_pairAt hσ.P (zr_w (zr_c (lo := 2) (hi := 2) (by decide)) (by decide))) (fun v4 h7 => ?_)
      refine zok_ck rfl ?_
      refine zok_bs (hσ.wi 20 20 (by decide) (zr_andr (lo := 0) (hi := 65535) (zr_c (lo := 65535) (hi := 65535) (by decide)) (by decide)) (by decide +kernel)) (fun σ5 e9 i8 => ?_)
      refine zok_bu (s_X5_takeFromPort i8 h3) (fun σ6 i10 => ?_)
      exact zok_sai i10 (zr_w (zr_c (lo := 12) (hi := 12) (by decide)) (by decide))
    have h11 := zc_nel (1) (7) q5 (zr_andr (lo := 0) (hi := 7) (zr_c (lo := 7) (hi := 7) (by decide)) (by decide)) (zr_c (lo := 0) (hi := 0) (by decide)) (by decide)
    refine zok_if (fun q12 => ?_) (fun q12 => ?_)
    · have h13 := zc_eql (1) (1) q12 h11 (zr_c (lo := 1) (hi := 1) (by decide)) (by decide)
      refine zok_pi (s_X5_pairAt hσ.P (zr_w (zr_c (lo := 2) (hi := 2) (by decide)) (by decide))) (fun v8 h14 => ?_)
      refine zok_ck rfl ?_
      refine zok_bs (hσ.wi 20 20 (by decide) (zr_andr (lo := 0) (hi := 65535) (zr_c (lo := 65535) (hi := 65535) (by decide)) (by decide)) (by decide +kernel)) (fun σ9 e16 i15 => ?_)
      refine zok_ck rfl ?_
      refine zok_if (fun q17 => ?_) (fun q17 => ?_)
      · have h18 := zc_eql (6) (6) q17 h3 (zr_c (lo := 6) (hi := 6) (by decide)) (by decide)
        exact (s_X5_behindEd_131 i15 (zr_w (zr_c (lo := 0) (hi := 0) (by decide)) (by decide)) (rC_21 i15.sg _ (by decide)))
      refine zok_pi (s_X5_one i15.P h3) (fun v11 h19 => ?_)
      exact (s_X5_behindEd_131 i15 h19 (rC_21 i15.sg _ (by decide)))
    have h20 := zc_nel (2) (7) q12 h11 (zr_c (lo := 1) (hi := 1) (by decide)) (by decide)
    refine zok_if (fun q21 => ?_) (fun q21 => ?_)
    · have h22 := zc_eql (2) (2) q21 h20 (zr_c (lo := 2) (hi := 2) (by decide)) (by decide)
      refine zok_if (fun q23 => ?_) (fun q23 => ?_)
      · have h24 := zc_eql (0) (0) q23 (zr_andr (lo := 0) (hi := 1) (zr_c (lo := 1) (hi := 1) (by decide)) (by decide)) (zr_c (lo := 0) (hi := 0) (by decide)) (by decide)
        refine zok_ai (s_X5_takePair hσ (zr_shr (lo := 0) (hi := 3) 1 (by decide) h3 (by decide))) (fun σ14 v15 i25 h26 => ?_)
        exact zok_pai i25 (s_X5_behindEd_160 i25.P h26)
      have h27 := zc_nel (1) (1) q23 (zr_andr (lo := 0) (hi := 1) (zr_c (lo := 1) (hi := 1) (by decide)) (by decide)) (zr_c (lo := 0) (hi := 0) (by decide)) (by decide)
      refine zok_ai (s_X5_addPairAndCarry hσ (zr_shr (lo := 0) (hi := 3) 1 (by decide) h3 (by decide))) (fun σ12 v13 i28 h29 => ?_)
      exact zok_pai i28 (s_X5_behindEd_160 i28.P h29)
    have h30 := zc_nel (3) (7) q21 h20 (zr_c (lo := 2) (hi := 2) (by decide)) (by decide)
    refine zok_if (fun q31 => ?_) (fun q31 => ?_)
    · have h32 := zc_eql (3) (3) q31 h30 (zr_c (lo := 3) (hi := 3) (by decide)) (by decide)
      refine zok_ai (s_X5_farPair hσ h3) (fun σ16 v17 i33 h34 => ?_)
      exact zok_sai i33 (zr_w h34 (by decide))
    have h35 := zc_nel (4) (7) q31 h30 (zr_c (lo := 3) (hi := 3) (by decide)) (by decide)
    refine zok_if (fun q36 => ?_) (fun q36 => ?_)
    · have h37 := zc_eql (4) (4) q36 h35 (zr_c (lo := 4) (hi := 4) (by decide)) (by decide)
      refine zok_ck rfl ?_
      refine zok_ai (s_X5_difference hσ (zr_w (zr_c (lo := 0) (hi := 0) (by decide)) (by decide)) (rC_21 hσ.sg _ (by decide)) (zr_w (zr_c (lo := 0) (hi := 0) (by decide)) (by decide))) (fun σ18 v19 i38 h39 => ?_)
      refine zok_ck rfl ?_
      refine zok_bs (i38.wi 0 0 (by decide) h39 (by decide +kernel)) (fun σ20 e41 i40 => ?_)
      exact zok_sai i40 (zr_w (zr_c (lo := 8) (hi := 8) (by decide)) (by decide))
    have h42 := zc_nel (5) (7) q36 h35 (zr_c (lo := 4) (hi := 4) (by decide)) (by decide)
    refine zok_if (fun q43 => ?_) (fun q43 => ?_)
    · have h44 := zc_eql (5) (5) q43 h42 (zr_c (lo := 5) (hi := 5) (by decide)) (by decide)
      refine zok_ai (s_X5_pop hσ) (fun σ21 v22 i45 h46 => ?_)
      refine zok_bu (s_X5_goTo i45 h46) (fun σ23 i47 => ?_)
      refine zok_ck rfl ?_
      refine zok_ck rfl ?_
      refine zok_bs (i47.wi 23 23 (by decide) (rC_24 i47.sg _ (by decide)) (by decide +kernel)) (fun σ24 e49 i48 => ?_)
      exact zok_sai i48 (zr_w (zr_c (lo := 14) (hi := 14) (by decide)) (by decide))
    have h50 := zc_nel (6) (7) q43 h42 (zr_c (lo := 5) (hi := 5) (by decide)) (by decide)
    refine zok_if (fun q51 => ?_) (fun q51 => ?_)
    · have h52 := zc_eql (6) (6) q51 h50 (zr_c (lo := 6) (hi := 6) (by decide)) (by decide)
      refine zok_ck rfl ?_
      refine zok_bs (hσ.wi 25 25 (by decide) (zr_max (lo := 0) (hi := 2) (zr_c (lo := 0) (hi := 0) (by decide)) (zr_sub (lo := -1) (hi := 2) (zr_andr (lo := 0) (hi := 3) (zr_c (lo := 3) (hi := 3) (by decide)) (by decide)) (zr_c (lo := 1) (hi := 1) (by decide)) (by decide)) (by decide)) (by decide +kernel)) (fun σ25 e54 i53 => ?_)
      exact zok_sai i53 (zr_w (zr_c (lo := 8) (hi := 8) (by decide)) (by decide))
    have h55 := zc_nel (7) (7) q51 h50 (zr_c (lo := 6) (hi := 6) (by decide)) (by decide)
    refine zok_ai (s_X5_moreOfA hσ h3) (fun σ26 v27 i56 h57 => ?_)
    exact zok_sai i56 (zr_w h57 (by decide))
  exact zok_sai hσ (zr_w (zr_c (lo := 8) (hi := 8) (by decide)) (by decide))
theorem s_X5_exchange_211 {G : Nat → Int} {σ : zSt} (hσ : zIC G σ) {x1 : Int32} (h_x1 : zr (1) (7) x1) : zok (fX5_exchange_211 σ x1) (zAi (zIC G) (fun v : Int32 => zr (4) (19) v)) := by
  unfold fX5_exchange_211
  refine zok_ck rfl ?_
  refine zok_bs (hσ.wi 23 23 (by decide) (zr_andr (lo := 0) (hi := 1) (zr_c (lo := 1) (hi := 1) (by decide)) (by decide)) (by decide +kernel)) (fun σ1 e2 i1 => ?_)
  refine zok_ck rfl ?_
  refine zok_bs (i1.wi 24 24 (by decide) (zr_andr (lo := 0) (hi := 1) (zr_c (lo := 1) (hi := 1) (by decide)) (by decide)) (by decide +kernel)) (fun σ2 e4 i3 => ?_)
  refine zok_ck rfl ?_
  refine zok_bs (i3.wi 28 28 (by decide) (zr_andr (lo := 0) (hi := 1) (zr_c (lo := 1) (hi := 1) (by decide)) (by decide)) (by decide +kernel)) (fun σ3 e6 i5 => ?_)
  exact zok_sai i5 (zr_w (zr_c (lo := 4) (hi := 4) (by decide)) (by decide))
theorem s_X5_exchange {G : Nat → Int} {σ : zSt} (hσ : zIC G σ) {x1 : Int32} (h_x1 : zr (0) (7) x1) : zok (fX5_exchange σ x1) (zAi (zIC G) (fun v : Int32 => zr (4) (19) v)) := by
  unfold fX5_exchange
  refine zok_if (fun q1 => ?_) (fun q1 => ?_)
  · have h2 := zc_eql (0) (0) q1 h_x1 (zr_c (lo := 0) (hi := 0) (by decide)) (by decide)
    refine zok_ai (s_X5_fetchWord hσ) (fun σ4 v5 i3 h4 => ?_)
    refine zok_bu (s_X5_goTo i3 h4) (fun σ6 i5 => ?_)
    exact zok_sai i5 (zr_w (zr_c (lo := 10) (hi := 10) (by decide)) (by decide))
  have h6 := zc_nel (1) (7) q1 h_x1 (zr_c (lo := 0) (hi := 0) (by decide)) (by decide)
  refine zok_if (fun q7 => ?_) (fun q7 => ?_)
  · have h8 := zc_eql (1) (1) q7 h6 (zr_c (lo := 1) (hi := 1) (by decide)) (by decide)
    exact (s_X5_exchange_211 hσ (zr_w h8 (by decide)))
  have h9 := zc_nel (2) (7) q7 h6 (zr_c (lo := 1) (hi := 1) (by decide)) (by decide)
  refine zok_if (fun q10 => ?_) (fun q10 => ?_)
  · have h11 := zc_eql (2) (2) q10 h9 (zr_c (lo := 2) (hi := 2) (by decide)) (by decide)
    refine zok_ai (s_X5_fetch hσ) (fun σ7 v8 i12 h13 => ?_)
    refine zok_ck rfl ?_
    refine zok_bu (s_X4_write i12 h13 (rC_21 i12.sg _ (by decide))) (fun σ9 i14 => ?_)
    refine zok_ck rfl ?_
    refine zok_ck rfl ?_
    refine zok_bs (i14.wi 20 20 (by decide) (zr_or (lo := 0) (hi := 65535) 16 (zr_shl (lo := 0) (hi := 65280) 8 (by decide) (rC_21 i14.sg _ (by decide)) (by decide)) (zr_andr (lo := 0) (hi := 255) (zr_c (lo := 255) (hi := 255) (by decide)) (by decide)) (by decide)) (by decide +kernel)) (fun σ10 e16 i15 => ?_)
    exact zok_sai i15 (zr_w (zr_c (lo := 11) (hi := 11) (by decide)) (by decide))
  have h17 := zc_nel (3) (7) q10 h9 (zr_c (lo := 2) (hi := 2) (by decide)) (by decide)
  refine zok_if (fun q18 => ?_) (fun q18 => ?_)
  · have h19 := zc_eql (3) (3) q18 h17 (zr_c (lo := 3) (hi := 3) (by decide)) (by decide)
    refine zok_ai (s_X5_fetch hσ) (fun σ11 v12 i20 h21 => ?_)
    refine zok_ck rfl ?_
    refine zok_ck rfl ?_
    refine zok_bs (i20.wi 20 20 (by decide) (zr_andr (lo := 0) (hi := 65535) (zr_c (lo := 65535) (hi := 65535) (by decide)) (by decide)) (by decide +kernel)) (fun σ13 e23 i22 => ?_)
    refine zok_ai (s_X4_read i22 h21) (fun σ14 v15 i24 h25 => ?_)
    refine zok_ck rfl ?_
    refine zok_bs (i24.wi 0 0 (by decide) h25 (by decide +kernel)) (fun σ16 e27 i26 => ?_)
    exact zok_sai i26 (zr_w (zr_c (lo := 11) (hi := 11) (by decide)) (by decide))
  have h28 := zc_nel (4) (7) q18 h17 (zr_c (lo := 3) (hi := 3) (by decide)) (by decide)
  refine zok_if (fun q29 => ?_) (fun q29 => ?_)
  · have h30 := zc_eql (4) (4) q29 h28 (zr_c (lo := 4) (hi := 4) (by decide)) (by decide)
    refine zok_ck rfl ?_
    refine zok_pi (s_X5_readWord hσ.P (rC_22 hσ.sg _ (by decide))) (fun v18 h31 => ?_)
    refine zok_ck rfl ?_
    refine zok_pi (s_X5_hl hσ.P) (fun v20 h32 => ?_)
    refine zok_bu (s_X5_writeWord hσ (rC_22 hσ.sg _ (by decide)) h32) (fun σ21 i33 => ?_)
    refine zok_bu (s_X5_putHl i33 (zr_w h31 (by decide))) (fun σ22 i34 => ?_)
    refine zok_ck rfl ?_
    refine zok_bs (i34.wi 20 20 (by decide) h31 (by decide +kernel)) (fun σ23 e36 i35 => ?_)
    exact zok_sai i35 (zr_w (zr_c (lo := 19) (hi := 19) (by decide)) (by decide))
  have h37 := zc_nel (5) (7) q29 h28 (zr_c (lo := 4) (hi := 4) (by decide)) (by decide)
  refine zok_if (fun q38 => ?_) (fun q38 => ?_)
  · have h39 := zc_eql (5) (5) q38 h37 (zr_c (lo := 5) (hi := 5) (by decide)) (by decide)
    refine zok_pi (s_X5_pairAt hσ.P (zr_w (zr_c (lo := 4) (hi := 4) (by decide)) (by decide))) (fun v25 h40 => ?_)
    refine zok_pi (s_X5_pairAt hσ.P (zr_w (zr_c (lo := 6) (hi := 6) (by decide)) (by decide))) (fun v27 h41 => ?_)
    refine zok_bu (s_X5_putPairAt hσ (zr_w (zr_c (lo := 4) (hi := 4) (by decide)) (by decide)) (zr_w h41 (by decide))) (fun σ28 i42 => ?_)
    refine zok_bu (s_X5_putPairAt i42 (zr_w (zr_c (lo := 6) (hi := 6) (by decide)) (by decide)) (zr_w h40 (by decide))) (fun σ29 i43 => ?_)
    exact zok_sai i43 (zr_w (zr_c (lo := 4) (hi := 4) (by decide)) (by decide))
  have h44 := zc_nel (6) (7) q38 h37 (zr_c (lo := 5) (hi := 5) (by decide)) (by decide)
  exact (s_X5_exchange_211 hσ (zr_w h44 (by decide)))
theorem s_X5_sum_61 {G : Nat → Int} {σ : zSt} (hσ : zIC G σ) {x4 : Int32} (h_x4 : zr (0) (511) x4) {x5 : Int32} (h_x5 : zr (0) (255) x5) {s0 : Int32} (h_s0 : zr (0) (4) s0) {s1 : Int32} (h_s1 : zr (0) (255) s1) {s2 : Int32} (h_s2 : zr (1) (1) s2) : zok (fX5_sum_61 σ x4 x5 s0 s1 s2) (zAi (zIC G) (fun v : Int32 => zr (0) (255) v)) := by
  unfold fX5_sum_61
  refine zok_ck (zin_ok h_s2 (by decide)) ?_
  refine zok_bs (hσ.wi 1 1 (z_ix h_s2 (by decide)) (zr_or (lo := 0) (hi := 255) 8 (zr_or (lo := 0) (hi := 255) 8 h_s1 h_s0 (by decide)) (zr_shr (lo := 0) (hi := 1) 8 (by decide) h_x4 (by decide)) (by decide)) (by decide +kernel)) (fun σ1 e2 i1 => ?_)
  exact zok_sai i1 h_x5
theorem s_X5_sum {G : Nat → Int} {σ : zSt} (hσ : zIC G σ) {x1 : Int32} (h_x1 : zr (0) (255) x1) {x2 : Int32} (h_x2 : zr (0) (255) x2) {x3 : Int32} (h_x3 : zr (0) (1) x3) : zok (fX5_sum σ x1 x2 x3) (zAi (zIC G) (fun v : Int32 => zr (0) (255) v)) := by
  unfold fX5_sum
  refine zok_br (zr_add (lo := 0) (hi := 511) (zr_add (lo := 0) (hi := 510) h_x1 h_x2 (by decide)) h_x3 (by decide)) (fun v2 e2 h1 => ?_)
  refine zok_br (zr_andr (lo := 0) (hi := 255) (zr_c (lo := 255) (hi := 255) (by decide)) (by decide)) (fun v3 e4 h3 => ?_)
  refine zok_br (zr_andr (lo := 0) (hi := 128) (zr_c (lo := 128) (hi := 128) (by decide)) (by decide)) (fun v4 e6 h5 => ?_)
  refine zok_pi (s_X5_by hσ.P h3) (fun v6 h7 => ?_)
  refine zok_if (fun q8 => ?_) (fun q8 => ?_)
  · have h9 := zc_eql (0) (0) q8 h5 (zr_c (lo := 0) (hi := 0) (by decide)) (by decide)
    exact (s_X5_sum_61 hσ h1 h3 (zr_w (zr_c (lo := 0) (hi := 0) (by decide)) (by decide)) (zr_or (lo := 0) (hi := 255) 8 h7 (zr_andr (lo := 0) (hi := 16) (zr_c (lo := 16) (hi := 16) (by decide)) (by decide)) (by decide)) (zr_c (lo := 1) (hi := 1) (by decide)))
  have h10 := zc_nel (1) (128) q8 h5 (zr_c (lo := 0) (hi := 0) (by decide)) (by decide)
  exact (s_X5_sum_61 hσ h1 h3 (zr_w (zr_c (lo := 4) (hi := 4) (by decide)) (by decide)) (zr_or (lo := 0) (hi := 255) 8 h7 (zr_andr (lo := 0) (hi := 16) (zr_c (lo := 16) (hi := 16) (by decide)) (by decide)) (by decide)) (zr_c (lo := 1) (hi := 1) (by decide)))
theorem s_X5_doWith_292 {σ : zSt} (hσ : zPC σ) : zok (fX5_doWith_292 σ ) (zPu σ) := by
  unfold fX5_doWith_292
  exact zok_spu
theorem s_X5_doWith {G : Nat → Int} {σ : zSt} (hσ : zIC G σ) {x1 : Int32} (h_x1 : zr (0) (7) x1) {x2 : Int32} (h_x2 : zr (0) (255) x2) : zok (fX5_doWith σ x1 x2) (zIC G) := by
  unfold fX5_doWith
  refine zok_if (fun q1 => ?_) (fun q1 => ?_)
  · have h2 := zc_eql (0) (0) q1 h_x1 (zr_c (lo := 0) (hi := 0) (by decide)) (by decide)
    refine zok_ck rfl ?_
    refine zok_ai (s_X5_sum hσ (rC_21 hσ.sg _ (by decide)) h_x2 (zr_w (zr_c (lo := 0) (hi := 0) (by decide)) (by decide))) (fun σ1 v2 i3 h4 => ?_)
    refine zok_ck rfl ?_
    refine zok_bs (i3.wi 0 0 (by decide) h4 (by decide +kernel)) (fun σ3 e6 i5 => ?_)
    exact zok_pau i5 (s_X5_doWith_292 i5.P)
  have h7 := zc_nel (1) (7) q1 h_x1 (zr_c (lo := 0) (hi := 0) (by decide)) (by decide)
  refine zok_if (fun q8 => ?_) (fun q8 => ?_)
  · have h9 := zc_eql (1) (1) q8 h7 (zr_c (lo := 1) (hi := 1) (by decide)) (by decide)
    refine zok_ck rfl ?_
    refine zok_ck rfl ?_
    refine zok_ai (s_X5_sum hσ (rC_21 hσ.sg _ (by decide)) h_x2 (zr_andr (lo := 0) (hi := 1) (zr_c (lo := 1) (hi := 1) (by decide)) (by decide))) (fun σ4 v5 i10 h11 => ?_)
    refine zok_ck rfl ?_
    refine zok_bs (i10.wi 0 0 (by decide) h11 (by decide +kernel)) (fun σ6 e13 i12 => ?_)
    exact zok_pau i12 (s_X5_doWith_292 i12.P)
  have h14 := zc_nel (2) (7) q8 h7 (zr_c (lo := 1) (hi := 1) (by decide)) (by decide)
  refine zok_if (fun q15 => ?_) (fun q15 => ?_)
  · have h16 := zc_eql (2) (2) q15 h14 (zr_c (lo := 2) (hi := 2) (by decide)) (by decide)
    refine zok_ck rfl ?_
    refine zok_ai (s_X5_difference hσ (rC_21 hσ.sg _ (by decide)) h_x2 (zr_w (zr_c (lo := 0) (hi := 0) (by decide)) (by decide))) (fun σ7 v8 i17 h18 => ?_)
    refine zok_ck rfl ?_
    refine zok_bs (i17.wi 0 0 (by decide) h18 (by decide +kernel)) (fun σ9 e20 i19 => ?_)
    exact zok_pau i19 (s_X5_doWith_292 i19.P)
  have h21 := zc_nel (3) (7) q15 h14 (zr_c (lo := 2) (hi := 2) (by decide)) (by decide)
  refine zok_if (fun q22 => ?_) (fun q22 => ?_)
  · have h23 := zc_eql (3) (3) q22 h21 (zr_c (lo := 3) (hi := 3) (by decide)) (by decide)
    refine zok_ck rfl ?_
    refine zok_ck rfl ?_
    refine zok_ai (s_X5_difference hσ (rC_21 hσ.sg _ (by decide)) h_x2 (zr_andr (lo := 0) (hi := 1) (zr_c (lo := 1) (hi := 1) (by decide)) (by decide))) (fun σ10 v11 i24 h25 => ?_)
    refine zok_ck rfl ?_
    refine zok_bs (i24.wi 0 0 (by decide) h25 (by decide +kernel)) (fun σ12 e27 i26 => ?_)
    exact zok_pau i26 (s_X5_doWith_292 i26.P)
  have h28 := zc_nel (4) (7) q22 h21 (zr_c (lo := 3) (hi := 3) (by decide)) (by decide)
  refine zok_if (fun q29 => ?_) (fun q29 => ?_)
  · have h30 := zc_eql (4) (4) q29 h28 (zr_c (lo := 4) (hi := 4) (by decide)) (by decide)
    refine zok_ck rfl ?_
    refine zok_ck rfl ?_
    refine zok_bs (hσ.wi 0 0 (by decide) (zr_andr (lo := 0) (hi := 255) h_x2 (by decide)) (by decide +kernel)) (fun σ13 e32 i31 => ?_)
    refine zok_ck rfl ?_
    refine zok_pi (s_X5_by i31.P (rC_21 i31.sg _ (by decide))) (fun v15 h33 => ?_)
    refine zok_ck rfl ?_
    refine zok_pi (s_X5_parity i31.P (rC_21 i31.sg _ (by decide))) (fun v17 h34 => ?_)
    refine zok_ck rfl ?_
    refine zok_bs (i31.wi 1 1 (by decide) (zr_or (lo := 0) (hi := 255) 8 (zr_or (lo := 0) (hi := 255) 8 h33 h34 (by decide)) (zr_c (lo := 16) (hi := 16) (by decide)) (by decide)) (by decide +kernel)) (fun σ18 e36 i35 => ?_)
    exact zok_pau i35 (s_X5_doWith_292 i35.P)
  have h37 := zc_nel (5) (7) q29 h28 (zr_c (lo := 4) (hi := 4) (by decide)) (by decide)
  refine zok_if (fun q38 => ?_) (fun q38 => ?_)
  · have h39 := zc_eql (5) (5) q38 h37 (zr_c (lo := 5) (hi := 5) (by decide)) (by decide)
    refine zok_ck rfl ?_
    refine zok_ck rfl ?_
    refine zok_bs (hσ.wi 0 0 (by decide) (zr_xor (lo := 0) (hi := 255) 8 (rC_21 hσ.sg _ (by decide)) h_x2 (by decide)) (by decide +kernel)) (fun σ19 e41 i40 => ?_)
    refine zok_ck rfl ?_
    refine zok_pi (s_X5_by i40.P (rC_21 i40.sg _ (by decide))) (fun v21 h42 => ?_)
    refine zok_ck rfl ?_
    refine zok_pi (s_X5_parity i40.P (rC_21 i40.sg _ (by decide))) (fun v23 h43 => ?_)
    refine zok_ck rfl ?_
    refine zok_bs (i40.wi 1 1 (by decide) (zr_or (lo := 0) (hi := 255) 8 h42 h43 (by decide)) (by decide +kernel)) (fun σ24 e45 i44 => ?_)
    exact zok_pau i44 (s_X5_doWith_292 i44.P)
  have h46 := zc_nel (6) (7) q38 h37 (zr_c (lo := 5) (hi := 5) (by decide)) (by decide)
  refine zok_if (fun q47 => ?_) (fun q47 => ?_)
  · have h48 := zc_eql (6) (6) q47 h46 (zr_c (lo := 6) (hi := 6) (by decide)) (by decide)
    refine zok_ck rfl ?_
    refine zok_ck rfl ?_
    refine zok_bs (hσ.wi 0 0 (by decide) (zr_or (lo := 0) (hi := 255) 8 (rC_21 hσ.sg _ (by decide)) h_x2 (by decide)) (by decide +kernel)) (fun σ25 e50 i49 => ?_)
    refine zok_ck rfl ?_
    refine zok_pi (s_X5_by i49.P (rC_21 i49.sg _ (by decide))) (fun v27 h51 => ?_)
    refine zok_ck rfl ?_
    refine zok_pi (s_X5_parity i49.P (rC_21 i49.sg _ (by decide))) (fun v29 h52 => ?_)
    refine zok_ck rfl ?_
    refine zok_bs (i49.wi 1 1 (by decide) (zr_or (lo := 0) (hi := 255) 8 h51 h52 (by decide)) (by decide +kernel)) (fun σ30 e54 i53 => ?_)
    exact zok_pau i53 (s_X5_doWith_292 i53.P)
  have h55 := zc_nel (7) (7) q47 h46 (zr_c (lo := 6) (hi := 6) (by decide)) (by decide)
  refine zok_ck rfl ?_
  refine zok_ai (s_X5_difference hσ (rC_21 hσ.sg _ (by decide)) h_x2 (zr_w (zr_c (lo := 0) (hi := 0) (by decide)) (by decide))) (fun σ31 v32 i56 h57 => ?_)
  refine zok_ck rfl ?_
  refine zok_ck rfl ?_
  refine zok_bs (i56.wi 1 1 (by decide) (zr_or (lo := 0) (hi := 255) 8 (zr_andl (lo := 0) (hi := 255) (rC_21 i56.sg _ (by decide)) (by decide)) (zr_andr (lo := 0) (hi := 40) (zr_c (lo := 40) (hi := 40) (by decide)) (by decide)) (by decide)) (by decide +kernel)) (fun σ33 e59 i58 => ?_)
  exact zok_pau i58 (s_X5_doWith_292 i58.P)
theorem s_X5_callIf {G : Nat → Int} {σ : zSt} (hσ : zIC G σ) {x1 : Int32} (h_x1 : zr (0) (1) x1) : zok (fX5_callIf σ x1) (zAi (zIC G) (fun v : Int32 => zr (10) (17) v)) := by
  unfold fX5_callIf
  refine zok_ai (s_X5_fetchWord hσ) (fun σ1 v2 i1 h2 => ?_)
  refine zok_ck rfl ?_
  refine zok_bs (i1.wi 20 20 (by decide) h2 (by decide +kernel)) (fun σ3 e4 i3 => ?_)
  refine zok_if (fun q5 => ?_) (fun q5 => ?_)
  · have h6 := zc_eql (0) (0) q5 h_x1 (zr_c (lo := 0) (hi := 0) (by decide)) (by decide)
    exact zok_sai i3 (zr_w (zr_c (lo := 10) (hi := 10) (by decide)) (by decide))
  have h7 := zc_nel (1) (1) q5 h_x1 (zr_c (lo := 0) (hi := 0) (by decide)) (by decide)
  refine zok_ck rfl ?_
  refine zok_bu (s_X5_push i3 (rC_22 i3.sg _ (by decide))) (fun σ4 i8 => ?_)
  refine zok_ck rfl ?_
  refine zok_bs (i8.wi 19 19 (by decide) h2 (by decide +kernel)) (fun σ5 e10 i9 => ?_)
  exact zok_sai i9 (zr_w (zr_c (lo := 17) (hi := 17) (by decide)) (by decide))
theorem s_X5_holds_44 {σ : zSt} (hσ : zPC σ) {s0 : Int32} (h_s0 : zr (0) (1) s0) : zok (fX5_holds_44 σ s0) (zPi σ (fun v : Int32 => zr (0) (1) v)) := by
  unfold fX5_holds_44
  refine zok_ck (zbo_ok h_s0 (by decide)) ?_
  exact zok_spi h_s0
theorem s_X5_holds_36 {σ : zSt} (hσ : zPC σ) {s0 : Int32} (h_s0 : zr (0) (1) s0) {s1 : Int32} (h_s1 : zr (0) (1) s1) : zok (fX5_holds_36 σ s0 s1) (zPi σ (fun v : Int32 => zr (0) (1) v)) := by
  unfold fX5_holds_36
  refine zok_if (fun q1 => ?_) (fun q1 => ?_)
  · exact (s_X5_holds_44 hσ (zr_w (zr_c (lo := 1) (hi := 1) (by decide)) (by decide)))
  exact (s_X5_holds_44 hσ (zr_w (zr_c (lo := 0) (hi := 0) (by decide)) (by decide)))
theorem s_X5_holds_24 {σ : zSt} (hσ : zPC σ) {x1 : Int32} (h_x1 : zr (0) (7) x1) {s0 : Int32} (h_s0 : zr (0) (1) s0) : zok (fX5_holds_24 σ x1 s0) (zPi σ (fun v : Int32 => zr (0) (1) v)) := by
  unfold fX5_holds_24
  refine zok_if (fun q1 => ?_) (fun q1 => ?_)
  · have h2 := zc_eql (1) (1) q1 (zr_andr (lo := 0) (hi := 1) (zr_c (lo := 1) (hi := 1) (by decide)) (by decide)) (zr_c (lo := 1) (hi := 1) (by decide)) (by decide)
    exact (s_X5_holds_36 hσ (zr_w (zr_c (lo := 1) (hi := 1) (by decide)) (by decide)) h_s0)
  have h3 := zc_nel (0) (0) q1 (zr_andr (lo := 0) (hi := 1) (zr_c (lo := 1) (hi := 1) (by decide)) (by decide)) (zr_c (lo := 1) (hi := 1) (by decide)) (by decide)
  exact (s_X5_holds_36 hσ (zr_w (zr_c (lo := 0) (hi := 0) (by decide)) (by decide)) h_s0)
theorem s_X5_holds {σ : zSt} (hσ : zPC σ) {x1 : Int32} (h_x1 : zr (0) (7) x1) : zok (fX5_holds σ x1) (zPi σ (fun v : Int32 => zr (0) (1) v)) := by
  unfold fX5_holds
  refine zok_ck rfl ?_
  refine zok_ck (zin_ok (zr_andr (lo := 0) (hi := 3) (zr_c (lo := 3) (hi := 3) (by decide)) (by decide)) (by decide)) ?_
  refine zok_if (fun q1 => ?_) (fun q1 => ?_)
  · have h2 := zc_eql (0) (0) q1 (zr_andl (lo := 0) (hi := 255) (rC_21 hσ.sg _ (by decide)) (by decide)) (zr_c (lo := 0) (hi := 0) (by decide)) (by decide)
    exact (s_X5_holds_24 hσ h_x1 (zr_w (zr_c (lo := 0) (hi := 0) (by decide)) (by decide)))
  have h3 := zc_nel (1) (255) q1 (zr_andl (lo := 0) (hi := 255) (rC_21 hσ.sg _ (by decide)) (by decide)) (zr_c (lo := 0) (hi := 0) (by decide)) (by decide)
  exact (s_X5_holds_24 hσ h_x1 (zr_w (zr_c (lo := 1) (hi := 1) (by decide)) (by decide)))
theorem s_X5_popPair_25 {σ : zSt} (hσ : zPC σ) : zok (fX5_popPair_25 σ ) (zPi σ (fun v : Int32 => zr (10) (10) v)) := by
  unfold fX5_popPair_25
  exact zok_spi (zr_c (lo := 10) (hi := 10) (by decide))
end ZJN1
