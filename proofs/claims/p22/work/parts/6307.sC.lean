theorem s_X11_row {G : Nat → Int} {σ : zSt} (hσ : zIC G σ) {x1 : Int32} : zok (fX11_row σ x1) (zTi (zIC G) ([3] : List Nat)) := by
  unfold fX11_row
  refine zok_if (fun q1 => ?_) (fun q1 => ?_)
  · have h2 := zc_ltl (-1) q1 zr_any (zr_c (lo := 0) (hi := 0) (by decide)) (by decide)
    exact (s_X11_row_15 hσ)
  have h3 := zc_ler (0) (z_nlt q1) (zr_c (lo := 0) (hi := 0) (by decide)) zr_any (by decide)
  refine zok_pi (s_X3_height hσ.P) (fun v2 h4 => ?_)
  refine zok_if (fun q5 => ?_) (fun q5 => ?_)
  · have h6 := zc_ltl (239) q5 h3 h4 (by decide)
    refine zok_pi (s_X3_sumOfLine hσ.P h6) (fun v4 h7 => ?_)
    exact zok_ti0 hσ
  have h8 := zc_ler (144) (z_nlt q5) h4 h3 (by decide)
  exact (s_X11_row_15 hσ)
theorem s_X11_hear {G : Nat → Int} {σ : zSt} (hσ : zIC G σ) : zok (fX11_hear σ ) (zTl (zIC G) ([3] : List Nat)) := by
  unfold fX11_hear
  refine zok_pi (s_X6_size_k11 hσ.P) (fun v2 h1 => ?_)
  refine zok_if (fun q2 => ?_) (fun q2 => ?_)
  · have h3 := zc_eql (0) (0) q2 zr_any (zr_c (lo := 0) (hi := 0) (by decide)) (by decide)
    exact zok_tl1 hσ (by decide)
  refine zok_al (s_X6_takeFirst_k11 hσ) (fun σ3 v4 i4 h5 => ?_)
  exact zok_tl0 i4
theorem s_X11_mix {G : Nat → Int} {σ : zSt} (hσ : zIC G σ) : zok (fX11_mix σ ) (zTl (zIC G) ([3] : List Nat)) := by
  unfold fX11_mix
  refine zok_pi (s_X6_size_k12 hσ.P) (fun v2 h1 => ?_)
  refine zok_if (fun q2 => ?_) (fun q2 => ?_)
  · have h3 := zc_eql (0) (0) q2 zr_any (zr_c (lo := 0) (hi := 0) (by decide)) (by decide)
    exact zok_tl1 hσ (by decide)
  refine zok_al (s_X6_takeFirst_k12 hσ) (fun σ3 v4 i4 h5 => ?_)
  exact zok_tl0 i4
theorem s_X11_wave {G : Nat → Int} {σ : zSt} (hσ : zIC G σ) {x1 : Int32} : zok (fX11_wave σ x1) (zTi (zIC G) ([1] : List Nat)) := by
  unfold fX11_wave
  refine zok_pi (s_X10_has hσ.P) (fun v2 h1 => ?_)
  refine zok_if (fun q2 => ?_) (fun q2 => ?_)
  · have h3 := zc_eql (0) (0) q2 h1 (zr_c (lo := 0) (hi := 0) (by decide)) (by decide)
    exact zok_ti1 hσ (by decide)
  have h4 := zc_nel (1) (1) q2 h1 (zr_c (lo := 0) (hi := 0) (by decide)) (by decide)
  refine zok_pi (s_X10_value hσ.P) (fun v4 h5 => ?_)
  exact zok_ti0 hσ
theorem s_X11_sound_10 {G : Nat → Int} {σ : zSt} (hσ : zIC G σ) : zok (fX11_sound_10 σ ) (zTi (zIC G) ([1] : List Nat)) := by
  unfold fX11_sound_10
  exact zok_ti1 hσ (by decide)
theorem s_X11_sound {G : Nat → Int} {σ : zSt} (hσ : zIC G σ) {x1 : Int32} : zok (fX11_sound σ x1) (zTi (zIC G) ([1] : List Nat)) := by
  unfold fX11_sound
  refine zok_if (fun q1 => ?_) (fun q1 => ?_)
  · have h2 := zc_ltl (-1) q1 zr_any (zr_c (lo := 0) (hi := 0) (by decide)) (by decide)
    exact (s_X11_sound_10 hσ)
  have h3 := zc_ler (0) (z_nlt q1) (zr_c (lo := 0) (hi := 0) (by decide)) zr_any (by decide)
  refine zok_if (fun q4 => ?_) (fun q4 => ?_)
  · have h5 := zc_lel (18) q4 h3 (zr_c (lo := 18) (hi := 18) (by decide)) (by decide)
    refine zok_pi (s_X7_value hσ.P h5) (fun v2 h6 => ?_)
    exact zok_ti0 hσ
  have h7 := zc_ltr (19) (z_nle q4) (zr_c (lo := 18) (hi := 18) (by decide)) h3 (by decide)
  exact (s_X11_sound_10 hσ)
theorem s_X11_look_10 {G : Nat → Int} {σ : zSt} (hσ : zIC G σ) : zok (fX11_look_10 σ ) (zTl (zIC G) ([1] : List Nat)) := by
  unfold fX11_look_10
  exact zok_tl1 hσ (by decide)
theorem s_X11_look_193 {G : Nat → Int} {σ : zSt} (hσ : zIC G σ) {x1 : Int32} (h_x1 : zr (9) (11) x1) : zok (fX11_look_193 σ x1) (zTl (zIC G) ([1] : List Nat)) := by
  unfold fX11_look_193
  refine zok_pi (s_X2_page hσ.P (zr_w (zr_sub (lo := 0) (hi := 2) h_x1 (zr_c (lo := 9) (hi := 9) (by decide)) (by decide)) (by decide))) (fun v2 h1 => ?_)
  exact zok_tl0 hσ
theorem s_X11_look_250 {G : Nat → Int} {σ : zSt} (hσ : zIC G σ) {s0 : Int64} (h_s0 : zrl (0) (1) s0) : zok (fX11_look_250 σ s0) (zTl (zIC G) ([1] : List Nat)) := by
  unfold fX11_look_250
  exact zok_tl0 hσ
theorem s_X11_look {G : Nat → Int} {σ : zSt} (hσ : zIC G σ) {x1 : Int32} : zok (fX11_look σ x1) (zTl (zIC G) ([1] : List Nat)) := by
  unfold fX11_look
  refine zok_if (fun q1 => ?_) (fun q1 => ?_)
  · have h2 := zc_ltl (-1) q1 zr_any (zr_c (lo := 0) (hi := 0) (by decide)) (by decide)
    exact (s_X11_look_10 hσ)
  have h3 := zc_ler (0) (z_nlt q1) (zr_c (lo := 0) (hi := 0) (by decide)) zr_any (by decide)
  refine zok_if (fun q4 => ?_) (fun q4 => ?_)
  · have h5 := zc_lel (18) q4 h3 (zr_c (lo := 18) (hi := 18) (by decide)) (by decide)
    refine zok_if (fun q6 => ?_) (fun q6 => ?_)
    · have h7 := zc_eql (0) (0) q6 h5 (zr_c (lo := 0) (hi := 0) (by decide)) (by decide)
      refine zok_pl (s_X0_count hσ.P (zr_w (zr_c (lo := 0) (hi := 0) (by decide)) (by decide))) (fun v4 h8 => ?_)
      exact zok_tl0 hσ
    have h9 := zc_nel (1) (18) q6 h5 (zr_c (lo := 0) (hi := 0) (by decide)) (by decide)
    refine zok_if (fun q10 => ?_) (fun q10 => ?_)
    · have h11 := zc_eql (1) (1) q10 h9 (zr_c (lo := 1) (hi := 1) (by decide)) (by decide)
      refine zok_pl (s_X0_count hσ.P (zr_w (zr_c (lo := 1) (hi := 1) (by decide)) (by decide))) (fun v6 h12 => ?_)
      exact zok_tl0 hσ
    have h13 := zc_nel (2) (18) q10 h9 (zr_c (lo := 1) (hi := 1) (by decide)) (by decide)
    refine zok_if (fun q14 => ?_) (fun q14 => ?_)
    · have h15 := zc_eql (2) (2) q14 h13 (zr_c (lo := 2) (hi := 2) (by decide)) (by decide)
      refine zok_pl (s_X0_count hσ.P (zr_w (zr_c (lo := 2) (hi := 2) (by decide)) (by decide))) (fun v8 h16 => ?_)
      exact zok_tl0 hσ
    have h17 := zc_nel (3) (18) q14 h13 (zr_c (lo := 2) (hi := 2) (by decide)) (by decide)
    refine zok_if (fun q18 => ?_) (fun q18 => ?_)
    · have h19 := zc_eql (3) (3) q18 h17 (zr_c (lo := 3) (hi := 3) (by decide)) (by decide)
      refine zok_pi (s_X6_size_k11 hσ.P) (fun v10 h20 => ?_)
      exact zok_tl0 hσ
    have h21 := zc_nel (4) (18) q18 h17 (zr_c (lo := 3) (hi := 3) (by decide)) (by decide)
    refine zok_if (fun q22 => ?_) (fun q22 => ?_)
    · have h23 := zc_eql (4) (4) q22 h21 (zr_c (lo := 4) (hi := 4) (by decide)) (by decide)
      refine zok_pl (s_X0_count hσ.P (zr_w (zr_c (lo := 3) (hi := 3) (by decide)) (by decide))) (fun v12 h24 => ?_)
      exact zok_tl0 hσ
    have h25 := zc_nel (5) (18) q22 h21 (zr_c (lo := 4) (hi := 4) (by decide)) (by decide)
    refine zok_if (fun q26 => ?_) (fun q26 => ?_)
    · have h27 := zc_eql (5) (5) q26 h25 (zr_c (lo := 5) (hi := 5) (by decide)) (by decide)
      exact zok_tl0 hσ
    have h28 := zc_nel (6) (18) q26 h25 (zr_c (lo := 5) (hi := 5) (by decide)) (by decide)
    refine zok_if (fun q29 => ?_) (fun q29 => ?_)
    · have h30 := zc_eql (6) (6) q29 h28 (zr_c (lo := 6) (hi := 6) (by decide)) (by decide)
      refine zok_pi (s_X1_stopCount hσ.P) (fun v14 h31 => ?_)
      exact zok_tl0 hσ
    have h32 := zc_nel (7) (18) q29 h28 (zr_c (lo := 6) (hi := 6) (by decide)) (by decide)
    refine zok_if (fun q33 => ?_) (fun q33 => ?_)
    · have h34 := zc_eql (7) (7) q33 h32 (zr_c (lo := 7) (hi := 7) (by decide)) (by decide)
      refine zok_pi (s_X2_cardSize hσ.P) (fun v16 h35 => ?_)
      exact zok_tl0 hσ
    have h36 := zc_nel (8) (18) q33 h32 (zr_c (lo := 7) (hi := 7) (by decide)) (by decide)
    refine zok_if (fun q37 => ?_) (fun q37 => ?_)
    · have h38 := zc_eql (8) (8) q37 h36 (zr_c (lo := 8) (hi := 8) (by decide)) (by decide)
      refine zok_pi (s_X2_page hσ.P (zr_w (zr_c (lo := 3) (hi := 3) (by decide)) (by decide))) (fun v18 h39 => ?_)
      exact zok_tl0 hσ
    have h40 := zc_nel (9) (18) q37 h36 (zr_c (lo := 8) (hi := 8) (by decide)) (by decide)
    refine zok_if (fun q41 => ?_) (fun q41 => ?_)
    · have h42 := zc_eql (9) (9) q41 h40 (zr_c (lo := 9) (hi := 9) (by decide)) (by decide)
      exact (s_X11_look_193 hσ (zr_w h42 (by decide)))
    have h43 := zc_nel (10) (18) q41 h40 (zr_c (lo := 9) (hi := 9) (by decide)) (by decide)
    refine zok_if (fun q44 => ?_) (fun q44 => ?_)
    · have h45 := zc_eql (10) (10) q44 h43 (zr_c (lo := 10) (hi := 10) (by decide)) (by decide)
      exact (s_X11_look_193 hσ (zr_w h45 (by decide)))
    have h46 := zc_nel (11) (18) q44 h43 (zr_c (lo := 10) (hi := 10) (by decide)) (by decide)
    refine zok_if (fun q47 => ?_) (fun q47 => ?_)
    · have h48 := zc_eql (11) (11) q47 h46 (zr_c (lo := 11) (hi := 11) (by decide)) (by decide)
      exact (s_X11_look_193 hσ (zr_w h48 (by decide)))
    have h49 := zc_nel (12) (18) q47 h46 (zr_c (lo := 11) (hi := 11) (by decide)) (by decide)
    refine zok_if (fun q50 => ?_) (fun q50 => ?_)
    · have h51 := zc_eql (12) (12) q50 h49 (zr_c (lo := 12) (hi := 12) (by decide)) (by decide)
      refine zok_pi (s_X5_value hσ.P (zr_w (zr_c (lo := 27) (hi := 27) (by decide)) (by decide))) (fun v20 h52 => ?_)
      exact zok_tl0 hσ
    have h53 := zc_nel (13) (18) q50 h49 (zr_c (lo := 12) (hi := 12) (by decide)) (by decide)
    refine zok_if (fun q54 => ?_) (fun q54 => ?_)
    · have h55 := zc_eql (13) (13) q54 h53 (zr_c (lo := 13) (hi := 13) (by decide)) (by decide)
      refine zok_pi (s_X4_value hσ.P (zr_w (zr_c (lo := 6) (hi := 6) (by decide)) (by decide))) (fun v22 h56 => ?_)
      exact zok_tl0 hσ
    have h57 := zc_nel (14) (18) q54 h53 (zr_c (lo := 13) (hi := 13) (by decide)) (by decide)
    refine zok_if (fun q58 => ?_) (fun q58 => ?_)
    · have h59 := zc_eql (14) (14) q58 h57 (zr_c (lo := 14) (hi := 14) (by decide)) (by decide)
      refine zok_pi (s_X4_value hσ.P (zr_w (zr_c (lo := 0) (hi := 0) (by decide)) (by decide))) (fun v24 h60 => ?_)
      exact zok_tl0 hσ
    have h61 := zc_nel (15) (18) q58 h57 (zr_c (lo := 14) (hi := 14) (by decide)) (by decide)
    refine zok_if (fun q62 => ?_) (fun q62 => ?_)
    · have h63 := zc_eql (15) (15) q62 h61 (zr_c (lo := 15) (hi := 15) (by decide)) (by decide)
      refine zok_if (fun q64 => ?_) (fun q64 => ?_)
      · have h65 := zc_eql (0) (0) q64 zr_any (zr_c (lo := 0) (hi := 0) (by decide)) (by decide)
        exact (s_X11_look_250 hσ (zrl_w (zrl_c (lo := 0) (hi := 0) (by decide)) (by decide)))
      exact (s_X11_look_250 hσ (zrl_w (zrl_c (lo := 1) (hi := 1) (by decide)) (by decide)))
    have h66 := zc_nel (16) (18) q62 h61 (zr_c (lo := 15) (hi := 15) (by decide)) (by decide)
    refine zok_if (fun q67 => ?_) (fun q67 => ?_)
    · have h68 := zc_eql (16) (16) q67 h66 (zr_c (lo := 16) (hi := 16) (by decide)) (by decide)
      refine zok_pi (s_X1_plansWaiting hσ.P) (fun v26 h69 => ?_)
      exact zok_tl0 hσ
    have h70 := zc_nel (17) (18) q67 h66 (zr_c (lo := 16) (hi := 16) (by decide)) (by decide)
    refine zok_if (fun q71 => ?_) (fun q71 => ?_)
    · have h72 := zc_eql (17) (17) q71 h70 (zr_c (lo := 17) (hi := 17) (by decide)) (by decide)
      refine zok_pi (s_X6_size_k12 hσ.P) (fun v28 h73 => ?_)
      exact zok_tl0 hσ
    have h74 := zc_nel (18) (18) q71 h70 (zr_c (lo := 17) (hi := 17) (by decide)) (by decide)
    exact zok_tl0 hσ
  have h75 := zc_ltr (19) (z_nle q4) (zr_c (lo := 18) (hi := 18) (by decide)) h3 (by decide)
  exact (s_X11_look_10 hσ)
