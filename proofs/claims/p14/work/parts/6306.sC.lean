theorem s_X8_put_104 {G : Nat → Int} {σ : zSt} {k41 : zSt → Nat → Int32 → Int32 → Int32 → Option (zSt)} {Mk41 : Int} (hk41 : ∀ (σ : zSt) (n1 : Nat) (x2 : Int32) (x3 : Int32) (x4 : Int32), zIC G σ → n1 ∈ ([0, 6, 7, 8, 9, 10, 11, 12, 13, 14, 15, 16, 17, 18, 19, 20, 21, 22, 23, 24, 25, 26, 27, 28, 29, 30, 31, 32, 33, 34, 35, 36, 37, 38, 39, 40, 41, 42, 43] : List Nat) → zr (1) (400) x2 → zr (0) (75) x4 → (75) - x4.toInt < Mk41 → zok (k41 σ n1 x2 x3 x4) (zIC G)) (hσ : zIC G σ) {n1 : Nat} (h_n1 : n1 ∈ ([0, 6, 7, 8, 9, 10, 11, 12, 13, 14, 15, 16, 17, 18, 19, 20, 21, 22, 23, 24, 25, 26, 27, 28, 29, 30, 31, 32, 33, 34, 35, 36, 37, 38, 39, 40, 41, 42, 43] : List Nat)) {x2 : Int32} (h_x2 : zr (1) (400) x2) {x3 : Int32} {x4 : Int32} (h_x4 : zr (0) (74) x4) {x5 : Int32} (hMk41 : (75) - x4.toInt ≤ Mk41) : zok (fX8_put_104 k41 σ n1 x2 x3 x4 x5) (zIC G) := by
  unfold fX8_put_104
  refine zok_bu (s_X8_putSign hσ) (fun σ4 i1 => ?_)
  exact (s_X8_put_110 hk41 i1 h_n1 h_x2 h_x4 hMk41)
theorem s_X8_put_41_body {G : Nat → Int} {σ : zSt} {k41 : zSt → Nat → Int32 → Int32 → Int32 → Option (zSt)} {Mk41 : Int} (hk41 : ∀ (σ : zSt) (n1 : Nat) (x2 : Int32) (x3 : Int32) (x4 : Int32), zIC G σ → n1 ∈ ([0, 6, 7, 8, 9, 10, 11, 12, 13, 14, 15, 16, 17, 18, 19, 20, 21, 22, 23, 24, 25, 26, 27, 28, 29, 30, 31, 32, 33, 34, 35, 36, 37, 38, 39, 40, 41, 42, 43] : List Nat) → zr (1) (400) x2 → zr (0) (75) x4 → (75) - x4.toInt < Mk41 → zok (k41 σ n1 x2 x3 x4) (zIC G)) (hσ : zIC G σ) {n1 : Nat} (h_n1 : n1 ∈ ([0, 6, 7, 8, 9, 10, 11, 12, 13, 14, 15, 16, 17, 18, 19, 20, 21, 22, 23, 24, 25, 26, 27, 28, 29, 30, 31, 32, 33, 34, 35, 36, 37, 38, 39, 40, 41, 42, 43] : List Nat)) {x2 : Int32} (h_x2 : zr (1) (400) x2) {x3 : Int32} {x4 : Int32} (h_x4 : zr (0) (75) x4) (hMk41 : (75) - x4.toInt ≤ Mk41) : zok (fX8_put_41_body k41 σ n1 x2 x3 x4) (zIC G) := by
  unfold fX8_put_41_body
  refine zok_ck (decide_eq_true (z_memlt h_n1 (by decide))) ?_
  refine zok_if (fun q1 => ?_) (fun q1 => ?_)
  · exact zok_some hσ
  have h2 := zc_ltl (74) (z_nle q1) h_x4 (zkN_r (m := 75) h_n1 (by decide +kernel)) (by decide)
  have h3 := zc_ltr (1) (z_nle q1) h_x4 (zkN_r (m := 75) h_n1 (by decide +kernel)) (by decide)
  refine zok_ck (decide_eq_true (z_memlt h_n1 (by decide))) ?_
  refine zok_ck (zin_k q1 h2 (by decide)) ?_
  refine zok_bv (fun v5 e5 => ?_)
  refine zok_if (fun q6 => ?_) (fun q6 => ?_)
  · have h7 := zc_eql (59) (59) q6 zr_any (zr_c (lo := 59) (hi := 59) (by decide)) (by decide)
    refine zok_bv (fun v7 e9 => ?_)
    exact (s_X8_put_110 hk41 hσ h_n1 h_x2 h2 hMk41)
  refine zok_ck (zdv_ok h_x2 (by decide)) ?_
  refine zok_if (fun q10 => ?_) (fun q10 => ?_)
  · refine zok_if (fun q11 => ?_) (fun q11 => ?_)
    · have h12 := zc_ltl (64) q11 zr_any (zr_c (lo := 65) (hi := 65) (by decide)) (by decide)
      exact (s_X8_put_104 hk41 hσ h_n1 h_x2 h2 hMk41)
    have h13 := zc_ler (65) (z_nlt q11) (zr_c (lo := 65) (hi := 65) (by decide)) zr_any (by decide)
    refine zok_if (fun q14 => ?_) (fun q14 => ?_)
    · have h15 := zc_ltr (91) q14 (zr_c (lo := 90) (hi := 90) (by decide)) h13 (by decide)
      exact (s_X8_put_104 hk41 hσ h_n1 h_x2 h2 hMk41)
    have h16 := zc_lel (90) (z_nlt q14) h13 (zr_c (lo := 90) (hi := 90) (by decide)) (by decide)
    refine zok_bu (s_X8_putMeant hσ h16) (fun σ6 i17 => ?_)
    exact (s_X8_put_110 hk41 i17 h_n1 h_x2 h2 hMk41)
  exact (s_X8_put_110 hk41 hσ h_n1 h_x2 h2 hMk41)
theorem s_X8_put_41 {G : Nat → Int} : ∀ (n : Nat) {σ : zSt} (hσ : zIC G σ) {n1 : Nat} (h_n1 : n1 ∈ ([0, 6, 7, 8, 9, 10, 11, 12, 13, 14, 15, 16, 17, 18, 19, 20, 21, 22, 23, 24, 25, 26, 27, 28, 29, 30, 31, 32, 33, 34, 35, 36, 37, 38, 39, 40, 41, 42, 43] : List Nat)) {x2 : Int32} (h_x2 : zr (1) (400) x2) {x3 : Int32} {x4 : Int32} (h_x4 : zr (0) (75) x4) (hm : (75) - x4.toInt < n), zok (fX8_put_41 n σ n1 x2 x3 x4) (zIC G) := by
  intro n
  induction n with
  | zero => intro σ hσ n1 h_n1 x2 h_x2 x3 x4 h_x4 hm ; have h9 := h_x4.1; have h8 := h_x4.2; exfalso; omega
  | succ n ih => intro σ hσ n1 h_n1 x2 h_x2 x3 x4 h_x4 hm ; exact s_X8_put_41_body (fun σ n1 x2 x3 x4 hσ h_n1 h_x2 h_x4 hm1 => ih hσ h_n1 h_x2 h_x4 (by omega)) hσ h_n1 h_x2 h_x4 (Int.le_refl _)
theorem s_X8_put_h {G : Nat → Int} : ∀ (n : Nat) {σ : zSt} (hσ : zIC G σ) {n1 : Nat} (h_n1 : n1 ∈ ([0, 6, 7, 8, 9, 10, 11, 12, 13, 14, 15, 16, 17, 18, 19, 20, 21, 22, 23, 24, 25, 26, 27, 28, 29, 30, 31, 32, 33, 34, 35, 36, 37, 38, 39, 40, 41, 42, 43] : List Nat)) {x2 x3 : Int32} (h_x2 : zr 1 400 x2) (h_x3 : zr 0 75 x3) (hr : x2.toInt ≤ x3.toInt + 1) (hm : 75 - x3.toInt < n), zok (fX8_put_4 n σ n1 x2 x3) (zIC G) := by
  intro n
  induction n with
  | zero => intro σ hσ n1 h_n1 x2 x3 h_x2 h_x3 hr hm; have := h_x3.2; exfalso; omega
  | succ n ih =>
    intro σ hσ n1 h_n1 x2 x3 h_x2 h_x3 hr hm
    show zok (fX8_put_4_body (fX8_put_4 n) σ n1 x2 x3) (zIC G)
    unfold fX8_put_4_body
    refine zok_ck (decide_eq_true (z_memlt h_n1 (by decide))) ?_
    have hN := zkN_r (m := 75) h_n1 (by decide +kernel)
    refine zok_if (fun q => ?_) (fun q => ?_)
    · exact s_X8_put_41 zfuel hσ h_n1 h_x2 (zr_c (by decide)) (by decide)
    have hx := zc_ltl (75 - 1) (z_nle q) h_x3 hN (by decide)
    refine zok_ck (decide_eq_true (z_memlt h_n1 (by decide))) ?_
    refine zok_ck (zin_k q h_x3 (by decide)) ?_
    have e1 := z_tadd hx (zr_c (lo := 1) (hi := 1) (x := 1) (by decide)) (by decide)
    have c1 : (1 : Int32).toInt = 1 := rfl
    have c0 : (0 : Int32).toInt = 0 := rfl
    have hx3 := hx.2
    have hx1 := h_x2.1
    have hx2 : zr 1 (75 + 1) x2 := ⟨hx1, by have := hx.2; omega⟩
    have k : ∀ s0 : Int32, zr 0 1 s0 → zok (fX8_put_28 (fX8_put_4 n) σ n1 x3 s0 x2) (zIC G) := fun s0 hs0 => by
      unfold fX8_put_28
      have e2 := z_tadd hx2 hs0 (by decide)
      have b1 := hs0.1
      have b2 := hs0.2
      refine zok_bv (fun v1 ev1 => zok_bv (fun v2 ev2 => ih hσ h_n1 ?_ ?_ ?_ ?_))
      · subst ev1; exact ⟨by omega, by omega⟩
      · subst ev2; have := hx.1; exact ⟨by omega, by omega⟩
      · subst ev1; subst ev2; omega
      · subst ev2; omega
    refine zok_if (fun _ => k 1 (zr_c (by decide))) (fun _ => k 0 (zr_c (by decide)))
theorem s_X8_put_4 {G : Nat → Int} (n : Nat) {σ : zSt} (hσ : zIC G σ) {n1 : Nat} (h_n1 : n1 ∈ ([0, 6, 7, 8, 9, 10, 11, 12, 13, 14, 15, 16, 17, 18, 19, 20, 21, 22, 23, 24, 25, 26, 27, 28, 29, 30, 31, 32, 33, 34, 35, 36, 37, 38, 39, 40, 41, 42, 43] : List Nat)) {x2 x3 : Int32} (h_x2 : zr (1) (1) x2) (h_x3 : zr (0) (0) x3) (hm : (0) - x3.toInt < n) (hn : zfuel ≤ n := by decide) : zok (fX8_put_4 n σ n1 x2 x3) (zIC G) :=
  s_X8_put_h n hσ h_n1 (zr_w h_x2 (by decide)) (zr_w h_x3 (by decide)) (by have := h_x2.2; have := h_x3.1; omega) (by have := h_x3.1; unfold zfuel at hn; omega)
theorem s_X8_put {G : Nat → Int} {σ : zSt} (hσ : zIC G σ) {n1 : Nat} (h_n1 : n1 ∈ ([0, 6, 7, 8, 9, 10, 11, 12, 13, 14, 15, 16, 17, 18, 19, 20, 21, 22, 23, 24, 25, 26, 27, 28, 29, 30, 31, 32, 33, 34, 35, 36, 37, 38, 39, 40, 41, 42, 43] : List Nat)) : zok (fX8_put σ n1) (zIC G) :=
  s_X8_put_4 zfuel hσ h_n1 (zr_c (by decide)) (zr_c (by decide)) (by decide) (Nat.le_refl _)
theorem s_X8_split {G : Nat → Int} {σ : zSt} (hσ : zIC G σ) {x1 : Int32} (h_x1 : zr (0) (255) x1) : zok (fX8_split σ x1) (zIC G) := by
  unfold fX8_split
  refine zok_bs (hσ.wi 5 5 (by decide) (zr_shr (lo := 0) (hi := 3) 6 (by decide) h_x1 (by decide)) (by decide +kernel)) (fun σ1 e2 i1 => ?_)
  refine zok_bs (i1.wi 6 6 (by decide) (zr_andr (lo := 0) (hi := 7) (zr_c (lo := 7) (hi := 7) (by decide)) (by decide)) (by decide +kernel)) (fun σ2 e4 i3 => ?_)
  refine zok_bs (i3.wi 7 7 (by decide) (zr_andr (lo := 0) (hi := 7) (zr_c (lo := 7) (hi := 7) (by decide)) (by decide)) (by decide +kernel)) (fun σ3 e6 i5 => ?_)
  exact zok_some i5
theorem s_X8_turnPatterns {σ : zSt} (hσ : zPC σ) : zok (fX8_turnPatterns σ ) (zPk σ (fun v : Nat => v ∈ ([6, 7, 8, 9] : List Nat))) := by
  unfold fX8_turnPatterns
  refine zok_if (fun q1 => ?_) (fun q1 => ?_)
  · have h2 := zc_eql (0) (0) q1 zr_any (zr_c (lo := 0) (hi := 0) (by decide)) (by decide)
    exact zok_spk (by decide)
  refine zok_if (fun q3 => ?_) (fun q3 => ?_)
  · have h4 := zc_eql (1) (1) q3 zr_any (zr_c (lo := 1) (hi := 1) (by decide)) (by decide)
    exact zok_spk (by decide)
  refine zok_if (fun q5 => ?_) (fun q5 => ?_)
  · have h6 := zc_eql (2) (2) q5 zr_any (zr_c (lo := 2) (hi := 2) (by decide)) (by decide)
    exact zok_spk (by decide)
  exact zok_spk (by decide)
theorem s_X8_blockPatterns_17 {σ : zSt} (hσ : zPC σ) {s0 : Int32} : zok (fX8_blockPatterns_17 σ s0) (zPk σ (fun v : Nat => v ∈ ([0, 10, 11, 12, 13] : List Nat))) := by
  unfold fX8_blockPatterns_17
  refine zok_if (fun q1 => ?_) (fun q1 => ?_)
  · have h2 := zc_eql (0) (0) q1 zr_any (zr_c (lo := 0) (hi := 0) (by decide)) (by decide)
    exact zok_spk (by decide)
  refine zok_if (fun q3 => ?_) (fun q3 => ?_)
  · have h4 := zc_eql (1) (1) q3 zr_any (zr_c (lo := 1) (hi := 1) (by decide)) (by decide)
    exact zok_spk (by decide)
  refine zok_if (fun q5 => ?_) (fun q5 => ?_)
  · have h6 := zc_eql (2) (2) q5 zr_any (zr_c (lo := 2) (hi := 2) (by decide)) (by decide)
    exact zok_spk (by decide)
  refine zok_if (fun q7 => ?_) (fun q7 => ?_)
  · have h8 := zc_eql (3) (3) q7 zr_any (zr_c (lo := 3) (hi := 3) (by decide)) (by decide)
    exact zok_spk (by decide)
  exact zok_spk (by decide)
theorem s_X8_blockPatterns {σ : zSt} (hσ : zPC σ) : zok (fX8_blockPatterns σ ) (zPk σ (fun v : Nat => v ∈ ([0, 10, 11, 12, 13] : List Nat))) := by
  unfold fX8_blockPatterns
  refine zok_if (fun q1 => ?_) (fun q1 => ?_)
  · have h2 := zc_ler (4) q1 (zr_c (lo := 4) (hi := 4) (by decide)) zr_any (by decide)
    exact (s_X8_blockPatterns_17 hσ)
  have h3 := zc_ltl (3) (z_nle q1) zr_any (zr_c (lo := 4) (hi := 4) (by decide)) (by decide)
  exact (s_X8_blockPatterns_17 hσ)
theorem s_X8_morePatterns_114 {σ : zSt} (hσ : zPC σ) {s0 : Nat} (h_s0 : s0 ∈ ([21, 22] : List Nat)) : zok (fX8_morePatterns_114 σ s0) (zPk σ (fun v : Nat => v ∈ ([0, 14, 15, 16, 17, 18, 19, 20, 21, 22, 23, 24] : List Nat))) := by
  unfold fX8_morePatterns_114
  exact zok_spk (z_memsub h_s0 (by decide))
theorem s_X8_morePatterns_89 {σ : zSt} (hσ : zPC σ) {s0 : Nat} (h_s0 : s0 ∈ ([16, 17] : List Nat)) : zok (fX8_morePatterns_89 σ s0) (zPk σ (fun v : Nat => v ∈ ([0, 14, 15, 16, 17, 18, 19, 20, 21, 22, 23, 24] : List Nat))) := by
  unfold fX8_morePatterns_89
  exact zok_spk (z_memsub h_s0 (by decide))
theorem s_X8_morePatterns_72 {σ : zSt} (hσ : zPC σ) {s0 : Nat} (h_s0 : s0 ∈ ([14, 15] : List Nat)) : zok (fX8_morePatterns_72 σ s0) (zPk σ (fun v : Nat => v ∈ ([0, 14, 15, 16, 17, 18, 19, 20, 21, 22, 23, 24] : List Nat))) := by
  unfold fX8_morePatterns_72
  exact zok_spk (z_memsub h_s0 (by decide))
theorem s_X8_morePatterns {σ : zSt} (hσ : zPC σ) : zok (fX8_morePatterns σ ) (zPk σ (fun v : Nat => v ∈ ([0, 14, 15, 16, 17, 18, 19, 20, 21, 22, 23, 24] : List Nat))) := by
  unfold fX8_morePatterns
  refine zok_if (fun q1 => ?_) (fun q1 => ?_)
  · have h2 := zc_eql (1) (1) q1 zr_any (zr_c (lo := 1) (hi := 1) (by decide)) (by decide)
    refine zok_if (fun q3 => ?_) (fun q3 => ?_)
    · have h4 := zc_eql (0) (0) q3 zr_any (zr_c (lo := 0) (hi := 0) (by decide)) (by decide)
      refine zok_if (fun q5 => ?_) (fun q5 => ?_)
      · have h6 := zc_eql (6) (6) q5 zr_any (zr_c (lo := 6) (hi := 6) (by decide)) (by decide)
        exact (s_X8_morePatterns_72 hσ (by decide))
      exact (s_X8_morePatterns_72 hσ (by decide))
    refine zok_if (fun q7 => ?_) (fun q7 => ?_)
    · have h8 := zc_eql (1) (1) q7 zr_any (zr_c (lo := 1) (hi := 1) (by decide)) (by decide)
      refine zok_if (fun q9 => ?_) (fun q9 => ?_)
      · have h10 := zc_eql (6) (6) q9 zr_any (zr_c (lo := 6) (hi := 6) (by decide)) (by decide)
        exact (s_X8_morePatterns_89 hσ (by decide))
      exact (s_X8_morePatterns_89 hσ (by decide))
    refine zok_if (fun q11 => ?_) (fun q11 => ?_)
    · have h12 := zc_eql (2) (2) q11 zr_any (zr_c (lo := 2) (hi := 2) (by decide)) (by decide)
      exact zok_spk (by decide)
    refine zok_if (fun q13 => ?_) (fun q13 => ?_)
    · have h14 := zc_eql (3) (3) q13 zr_any (zr_c (lo := 3) (hi := 3) (by decide)) (by decide)
      exact zok_spk (by decide)
    refine zok_if (fun q15 => ?_) (fun q15 => ?_)
    · have h16 := zc_eql (4) (4) q15 zr_any (zr_c (lo := 4) (hi := 4) (by decide)) (by decide)
      exact zok_spk (by decide)
    refine zok_if (fun q17 => ?_) (fun q17 => ?_)
    · have h18 := zc_eql (5) (5) q17 zr_any (zr_c (lo := 5) (hi := 5) (by decide)) (by decide)
      refine zok_if (fun q19 => ?_) (fun q19 => ?_)
      · have h20 := zc_eql (1) (1) q19 zr_any (zr_c (lo := 1) (hi := 1) (by decide)) (by decide)
        exact (s_X8_morePatterns_114 hσ (by decide))
      exact (s_X8_morePatterns_114 hσ (by decide))
    refine zok_if (fun q21 => ?_) (fun q21 => ?_)
    · have h22 := zc_eql (6) (6) q21 zr_any (zr_c (lo := 6) (hi := 6) (by decide)) (by decide)
      exact zok_spk (by decide)
    exact zok_spk (by decide)
  exact zok_spk (by decide)
theorem s_X8_lastPatterns {σ : zSt} (hσ : zPC σ) : zok (fX8_lastPatterns σ ) (zPk σ (fun v : Nat => v ∈ ([36, 37, 38, 39, 40, 41, 42, 43] : List Nat))) := by
  unfold fX8_lastPatterns
  refine zok_if (fun q1 => ?_) (fun q1 => ?_)
  · have h2 := zc_eql (0) (0) q1 zr_any (zr_c (lo := 0) (hi := 0) (by decide)) (by decide)
    exact zok_spk (by decide)
  refine zok_if (fun q3 => ?_) (fun q3 => ?_)
  · have h4 := zc_eql (1) (1) q3 zr_any (zr_c (lo := 1) (hi := 1) (by decide)) (by decide)
    exact zok_spk (by decide)
  refine zok_if (fun q5 => ?_) (fun q5 => ?_)
  · have h6 := zc_eql (2) (2) q5 zr_any (zr_c (lo := 2) (hi := 2) (by decide)) (by decide)
    exact zok_spk (by decide)
  refine zok_if (fun q7 => ?_) (fun q7 => ?_)
  · have h8 := zc_eql (3) (3) q7 zr_any (zr_c (lo := 3) (hi := 3) (by decide)) (by decide)
    exact zok_spk (by decide)
  refine zok_if (fun q9 => ?_) (fun q9 => ?_)
  · have h10 := zc_eql (4) (4) q9 zr_any (zr_c (lo := 4) (hi := 4) (by decide)) (by decide)
    exact zok_spk (by decide)
  refine zok_if (fun q11 => ?_) (fun q11 => ?_)
  · have h12 := zc_eql (5) (5) q11 zr_any (zr_c (lo := 5) (hi := 5) (by decide)) (by decide)
    exact zok_spk (by decide)
  refine zok_if (fun q13 => ?_) (fun q13 => ?_)
  · have h14 := zc_eql (6) (6) q13 zr_any (zr_c (lo := 6) (hi := 6) (by decide)) (by decide)
    exact zok_spk (by decide)
  exact zok_spk (by decide)
theorem s_X8_firstPatterns {σ : zSt} (hσ : zPC σ) : zok (fX8_firstPatterns σ ) (zPk σ (fun v : Nat => v ∈ ([25, 26, 27, 28, 29, 30, 31, 32] : List Nat))) := by
  unfold fX8_firstPatterns
  refine zok_if (fun q1 => ?_) (fun q1 => ?_)
  · have h2 := zc_eql (0) (0) q1 zr_any (zr_c (lo := 0) (hi := 0) (by decide)) (by decide)
    exact zok_spk (by decide)
  refine zok_if (fun q3 => ?_) (fun q3 => ?_)
  · have h4 := zc_eql (1) (1) q3 zr_any (zr_c (lo := 1) (hi := 1) (by decide)) (by decide)
    exact zok_spk (by decide)
  refine zok_if (fun q5 => ?_) (fun q5 => ?_)
  · have h6 := zc_eql (2) (2) q5 zr_any (zr_c (lo := 2) (hi := 2) (by decide)) (by decide)
    exact zok_spk (by decide)
  refine zok_if (fun q7 => ?_) (fun q7 => ?_)
  · have h8 := zc_eql (3) (3) q7 zr_any (zr_c (lo := 3) (hi := 3) (by decide)) (by decide)
    exact zok_spk (by decide)
  refine zok_if (fun q9 => ?_) (fun q9 => ?_)
  · have h10 := zc_eql (4) (4) q9 zr_any (zr_c (lo := 4) (hi := 4) (by decide)) (by decide)
    exact zok_spk (by decide)
  refine zok_if (fun q11 => ?_) (fun q11 => ?_)
  · have h12 := zc_eql (5) (5) q11 zr_any (zr_c (lo := 5) (hi := 5) (by decide)) (by decide)
    exact zok_spk (by decide)
  refine zok_if (fun q13 => ?_) (fun q13 => ?_)
  · have h14 := zc_eql (6) (6) q13 zr_any (zr_c (lo := 6) (hi := 6) (by decide)) (by decide)
    exact zok_spk (by decide)
  exact zok_spk (by decide)
theorem s_X8_patternsOf_23 {G : Nat → Int} {σ : zSt} (hσ : zIC G σ) {s0 : Int32} (h_s0 : zr (0) (255) s0) : zok (fX8_patternsOf_23 σ s0) (zAk (zIC G) (fun v : Nat => v ∈ ([0, 6, 7, 8, 9, 10, 11, 12, 13, 14, 15, 16, 17, 18, 19, 20, 21, 22, 23, 24, 25, 26, 27, 28, 29, 30, 31, 32, 33, 34, 35, 36, 37, 38, 39, 40, 41, 42, 43] : List Nat))) := by
  unfold fX8_patternsOf_23
  refine zok_bs (hσ.wi 10 10 (by decide) h_s0 (by decide +kernel)) (fun σ1 e2 i1 => ?_)
  refine zok_ai (s_X8_take i1) (fun σ2 v3 i3 h4 => ?_)
  refine zok_bu (s_X8_split i3 h4) (fun σ4 i5 => ?_)
  refine zok_pk (s_X8_turnPatterns i5.P) (fun v6 h6 => ?_)
  exact zok_sak i5 (z_memsub h6 (by decide))
theorem s_X8_patternsOf_73 {σ : zSt} (hσ : zPC σ) {s0 : Nat} (h_s0 : s0 ∈ ([0, 10, 11, 12, 13, 14, 15, 16, 17, 18, 19, 20, 21, 22, 23, 24] : List Nat)) : zok (fX8_patternsOf_73 σ s0) (zPk σ (fun v : Nat => v ∈ ([0, 6, 7, 8, 9, 10, 11, 12, 13, 14, 15, 16, 17, 18, 19, 20, 21, 22, 23, 24, 25, 26, 27, 28, 29, 30, 31, 32, 33, 34, 35, 36, 37, 38, 39, 40, 41, 42, 43] : List Nat))) := by
  unfold fX8_patternsOf_73
  exact zok_spk (z_memsub h_s0 (by decide))
theorem s_X8_patternsOf_126 {σ : zSt} (hσ : zPC σ) {s0 : Nat} (h_s0 : s0 ∈ ([33, 34] : List Nat)) : zok (fX8_patternsOf_126 σ s0) (zPk σ (fun v : Nat => v ∈ ([0, 6, 7, 8, 9, 10, 11, 12, 13, 14, 15, 16, 17, 18, 19, 20, 21, 22, 23, 24, 25, 26, 27, 28, 29, 30, 31, 32, 33, 34, 35, 36, 37, 38, 39, 40, 41, 42, 43] : List Nat))) := by
  unfold fX8_patternsOf_126
  exact zok_spk (z_memsub h_s0 (by decide))
theorem s_X8_patternsOf {G : Nat → Int} {σ : zSt} (hσ : zIC G σ) {x1 : Int32} (h_x1 : zr (0) (255) x1) : zok (fX8_patternsOf σ x1) (zAk (zIC G) (fun v : Nat => v ∈ ([0, 6, 7, 8, 9, 10, 11, 12, 13, 14, 15, 16, 17, 18, 19, 20, 21, 22, 23, 24, 25, 26, 27, 28, 29, 30, 31, 32, 33, 34, 35, 36, 37, 38, 39, 40, 41, 42, 43] : List Nat))) := by
  unfold fX8_patternsOf
  refine zok_if (fun q1 => ?_) (fun q1 => ?_)
  · have h2 := zc_eql (203) (203) q1 h_x1 (zr_c (lo := 203) (hi := 203) (by decide)) (by decide)
    refine zok_if (fun q3 => ?_) (fun q3 => ?_)
    · have h4 := zc_eql (0) (0) q3 zr_any (zr_c (lo := 0) (hi := 0) (by decide)) (by decide)
      exact (s_X8_patternsOf_23 hσ (zr_w (zr_c (lo := 0) (hi := 0) (by decide)) (by decide)))
    refine zok_ai (s_X8_take hσ) (fun σ19 v20 i5 h6 => ?_)
    exact (s_X8_patternsOf_23 i5 h6)
  refine zok_if (fun q7 => ?_) (fun q7 => ?_)
  · have h8 := zc_eql (237) (237) q7 h_x1 (zr_c (lo := 237) (hi := 237) (by decide)) (by decide)
    refine zok_ai (s_X8_take hσ) (fun σ12 v13 i9 h10 => ?_)
    refine zok_bu (s_X8_split i9 h10) (fun σ14 i11 => ?_)
    refine zok_if (fun q12 => ?_) (fun q12 => ?_)
    · have h13 := zc_eql (2) (2) q12 zr_any (zr_c (lo := 2) (hi := 2) (by decide)) (by decide)
      refine zok_pk (s_X8_blockPatterns i11.P) (fun v18 h14 => ?_)
      exact zok_pak i11 (s_X8_patternsOf_73 i11.P (z_memsub h14 (by decide)))
    refine zok_pk (s_X8_morePatterns i11.P) (fun v16 h15 => ?_)
    exact zok_pak i11 (s_X8_patternsOf_73 i11.P (z_memsub h15 (by decide)))
  refine zok_bu (s_X8_split hσ h_x1) (fun σ7 i16 => ?_)
  refine zok_if (fun q17 => ?_) (fun q17 => ?_)
  · have h18 := zc_eql (0) (0) q17 zr_any (zr_c (lo := 0) (hi := 0) (by decide)) (by decide)
    refine zok_pk (s_X8_firstPatterns i16.P) (fun v9 h19 => ?_)
    exact zok_sak i16 (z_memsub h19 (by decide))
  refine zok_if (fun q20 => ?_) (fun q20 => ?_)
  · have h21 := zc_eql (1) (1) q20 zr_any (zr_c (lo := 1) (hi := 1) (by decide)) (by decide)
    refine zok_if (fun q22 => ?_) (fun q22 => ?_)
    · have h23 := zc_eql (118) (118) q22 h_x1 (zr_c (lo := 118) (hi := 118) (by decide)) (by decide)
      exact zok_pak i16 (s_X8_patternsOf_126 i16.P (by decide))
    exact zok_pak i16 (s_X8_patternsOf_126 i16.P (by decide))
  refine zok_if (fun q24 => ?_) (fun q24 => ?_)
  · have h25 := zc_eql (2) (2) q24 zr_any (zr_c (lo := 2) (hi := 2) (by decide)) (by decide)
    exact zok_sak i16 (by decide)
  refine zok_pk (s_X8_lastPatterns i16.P) (fun v11 h26 => ?_)
  exact zok_sak i16 (z_memsub h26 (by decide))
theorem s_X8_write_82 {G : Nat → Int} {σ : zSt} (hσ : zIC G σ) : zok (fX8_write_82 σ ) (zAi (zIC G) (fun v : Int32 => True)) := by
  unfold fX8_write_82
  refine zok_bu (s_X8_put hσ (by decide)) (fun σ1 i1 => ?_)
  exact zok_sai i1 trivial
theorem s_X8_write_124 {G : Nat → Int} {σ : zSt} (hσ : zIC G σ) {x2 : Int32} (h_x2 : zr (0) (255) x2) : zok (fX8_write_124 σ x2) (zAi (zIC G) (fun v : Int32 => True)) := by
  unfold fX8_write_124
  refine zok_ak (s_X8_patternsOf hσ h_x2) (fun σ2 v3 i1 h2 => ?_)
  refine zok_bu (s_X8_put i1 h2) (fun σ4 i3 => ?_)
  exact zok_sai i3 trivial
theorem s_X8_write_108 {G : Nat → Int} {σ : zSt} (hσ : zIC G σ) {s0 : Int32} (h_s0 : zr (120) (121) s0) : zok (fX8_write_108 σ s0) (zAi (zIC G) (fun v : Int32 => True)) := by
  unfold fX8_write_108
  refine zok_bs (hσ.wi 8 8 (by decide) h_s0 (by decide +kernel)) (fun σ5 e2 i1 => ?_)
  refine zok_ai (s_X8_take i1) (fun σ6 v7 i3 h4 => ?_)
  refine zok_pi (s_X5_meansPlace i3.P h4) (fun v9 h5 => ?_)
  refine zok_ck (zbo_ok h5 (by decide)) ?_
  refine zok_bs (i3.wi 9 9 (by decide) h5 (by decide +kernel)) (fun σ10 e7 i6 => ?_)
  exact (s_X8_write_124 i6 h4)
theorem s_X8_write_47 {G : Nat → Int} {σ : zSt} (hσ : zIC G σ) {x2 : Int32} (h_x2 : zr (221) (253) x2) : zok (fX8_write_47 σ x2) (zAi (zIC G) (fun v : Int32 => True)) := by
  unfold fX8_write_47
  refine zok_pi (s_X2_read hσ.P) (fun v12 h1 => ?_)
  refine zok_if (fun q2 => ?_) (fun q2 => ?_)
  · have h3 := zc_eql (221) (221) q2 h1 (zr_c (lo := 221) (hi := 221) (by decide)) (by decide)
    exact (s_X8_write_82 hσ)
  refine zok_if (fun q4 => ?_) (fun q4 => ?_)
  · have h5 := zc_eql (237) (237) q4 h1 (zr_c (lo := 237) (hi := 237) (by decide)) (by decide)
    exact (s_X8_write_82 hσ)
  refine zok_if (fun q6 => ?_) (fun q6 => ?_)
  · have h7 := zc_eql (253) (253) q6 h1 (zr_c (lo := 253) (hi := 253) (by decide)) (by decide)
    exact (s_X8_write_82 hσ)
  refine zok_if (fun q8 => ?_) (fun q8 => ?_)
  · have h9 := zc_eql (221) (221) q8 h_x2 (zr_c (lo := 221) (hi := 221) (by decide)) (by decide)
    exact (s_X8_write_108 hσ (zr_w (zr_c (lo := 120) (hi := 120) (by decide)) (by decide)))
  have h10 := zc_nel (222) (253) q8 h_x2 (zr_c (lo := 221) (hi := 221) (by decide)) (by decide)
  exact (s_X8_write_108 hσ (zr_w (zr_c (lo := 121) (hi := 121) (by decide)) (by decide)))
theorem s_X8_write {G : Nat → Int} {σ : zSt} (hσ : zIC G σ) {x1 : Int32} : zok (fX8_write σ x1) (zAi (zIC G) (fun v : Int32 => True)) := by
  unfold fX8_write
  refine zok_bs (hσ.wi 3 3 (by decide) (zr_andr (lo := 0) (hi := 65535) (zr_c (lo := 65535) (hi := 65535) (by decide)) (by decide)) (by decide +kernel)) (fun σ13 e2 i1 => ?_)
  refine zok_bs (i1.wi 4 4 (by decide) (zr_c (lo := 0) (hi := 0) (by decide)) (by decide +kernel)) (fun σ14 e4 i3 => ?_)
  refine zok_bs (i3.wi 2 2 (by decide) (zr_c (lo := 0) (hi := 0) (by decide)) (by decide +kernel)) (fun σ15 e6 i5 => ?_)
  refine zok_bs (i5.wi 8 8 (by decide) (zr_c (lo := 0) (hi := 0) (by decide)) (by decide +kernel)) (fun σ16 e8 i7 => ?_)
  refine zok_ck rfl ?_
  refine zok_bs (i7.wi 9 9 (by decide) (zr_c (lo := 0) (hi := 0) (by decide)) (by decide +kernel)) (fun σ17 e10 i9 => ?_)
  refine zok_ai (s_X8_take i9) (fun σ18 v19 i11 h12 => ?_)
  refine zok_if (fun q13 => ?_) (fun q13 => ?_)
  · have h14 := zc_eql (221) (221) q13 h12 (zr_c (lo := 221) (hi := 221) (by decide)) (by decide)
    exact (s_X8_write_47 i11 (zr_w h14 (by decide)))
  refine zok_if (fun q15 => ?_) (fun q15 => ?_)
  · have h16 := zc_eql (253) (253) q15 h12 (zr_c (lo := 253) (hi := 253) (by decide)) (by decide)
    exact (s_X8_write_47 i11 (zr_w h16 (by decide)))
  exact (s_X8_write_124 i11 h12)
theorem s_X8_eightFrom_39 {σ : zSt} {k6 : zSt → Int32 → Int64 → Int32 → Option (zSt × Int64)} {Mk6 : Int} (hk6 : ∀ (x1 : Int32) (x2 : Int64) (x4 : Int32), zr (0) (31) x1 → zr (-1) (7) x4 → x4.toInt - (-1) < Mk6 → zok (k6 σ x1 x2 x4) (zPl σ (fun v : Int64 => True))) (hσ : zPC σ) {x1 : Int32} (h_x1 : zr (0) (31) x1) {x2 : Int64} {x4 : Int32} (h_x4 : zr (0) (7) x4) {s0 : Int32} (hMk6 : x4.toInt - (-1) ≤ Mk6) : zok (fX8_eightFrom_39 k6 σ x1 x2 x4 s0) (zPl σ (fun v : Int64 => True)) := by
  unfold fX8_eightFrom_39
  refine zok_bv (fun v1 e2 => ?_)
  refine zok_br (zr_add (lo := -1) (hi := 6) h_x4 (zr_c (lo := -1) (hi := -1) (by decide)) (by decide)) (fun v2 e4 h3 => ?_)
  exact hk6 _ _ _  h_x1 (zr_w h3 (by decide)) (by rw [e4]; have := z_tadd (y := (-1 : Int32)) h_x4 (zr_c (lo := -1) (hi := -1) (by decide)) (by decide); have e9 : (-1 : Int32).toInt = -1 := rfl; omega) 
theorem s_X8_eightFrom_38 {σ : zSt} {k6 : zSt → Int32 → Int64 → Int32 → Option (zSt × Int64)} {Mk6 : Int} (hk6 : ∀ (x1 : Int32) (x2 : Int64) (x4 : Int32), zr (0) (31) x1 → zr (-1) (7) x4 → x4.toInt - (-1) < Mk6 → zok (k6 σ x1 x2 x4) (zPl σ (fun v : Int64 => True))) (hσ : zPC σ) {x1 : Int32} (h_x1 : zr (0) (31) x1) {x2 : Int64} {x4 : Int32} (h_x4 : zr (0) (7) x4) (hMk6 : x4.toInt - (-1) ≤ Mk6) : zok (fX8_eightFrom_38 k6 σ x1 x2 x4) (zPl σ (fun v : Int64 => True)) := by
  unfold fX8_eightFrom_38
  exact (s_X8_eightFrom_39 hk6 hσ h_x1 h_x4 hMk6)
theorem s_X8_eightFrom_6_body {σ : zSt} {k6 : zSt → Int32 → Int64 → Int32 → Option (zSt × Int64)} {Mk6 : Int} (hk6 : ∀ (x1 : Int32) (x2 : Int64) (x4 : Int32), zr (0) (31) x1 → zr (-1) (7) x4 → x4.toInt - (-1) < Mk6 → zok (k6 σ x1 x2 x4) (zPl σ (fun v : Int64 => True))) (hσ : zPC σ) {x1 : Int32} (h_x1 : zr (0) (31) x1) {x2 : Int64} {x4 : Int32} (h_x4 : zr (-1) (7) x4) (hMk6 : x4.toInt - (-1) ≤ Mk6) : zok (fX8_eightFrom_6_body k6 σ x1 x2 x4) (zPl σ (fun v : Int64 => True)) := by
  unfold fX8_eightFrom_6_body
  refine zok_if (fun q1 => ?_) (fun q1 => ?_)
  · have h2 := zc_ltl (-1) q1 h_x4 (zr_c (lo := 0) (hi := 0) (by decide)) (by decide)
    exact zok_spl trivial
  have h3 := zc_ler (0) (z_nlt q1) (zr_c (lo := 0) (hi := 0) (by decide)) h_x4 (by decide)
  refine zok_if (fun q4 => ?_) (fun q4 => ?_)
  · exact zr_no (zc_ltl (-1) q4 h_x1 (zr_c (lo := 0) (hi := 0) (by decide)) (by decide)) (by decide)
  refine zok_if (fun q5 => ?_) (fun q5 => ?_)
  · have h6 := zc_lel (31) q5 (zr_sub (lo := -7) (hi := 32) (rC_9 hσ.sg _ (by decide)) h3 (by decide)) h_x1 (by decide)
    exact (s_X8_eightFrom_38 hk6 hσ h_x1 h3 hMk6)
  have h7 := zc_ltr (1) (z_nle q5) h_x1 (zr_sub (lo := -7) (hi := 32) (rC_9 hσ.sg _ (by decide)) h3 (by decide)) (by decide)
  refine zok_ck (z_ef hσ.sg h3 q5 q4) ?_
  exact (s_X8_eightFrom_39 hk6 hσ h_x1 h3 hMk6)
theorem s_X8_eightFrom_6 {σ : zSt} (hσ : zPC σ) : ∀ (n : Nat) {x1 : Int32} (h_x1 : zr (0) (31) x1) {x2 : Int64} {x4 : Int32} (h_x4 : zr (-1) (7) x4) (hm : x4.toInt - (-1) < n), zok (fX8_eightFrom_6 n σ x1 x2 x4) (zPl σ (fun v : Int64 => True)) := by
  intro n
  induction n with
  | zero => intro x1 h_x1 x2 x4 h_x4 hm ; have h9 := h_x4.1; have h8 := h_x4.2; exfalso; omega
  | succ n ih => intro x1 h_x1 x2 x4 h_x4 hm ; exact s_X8_eightFrom_6_body (fun x1 x2 x4 h_x1 h_x4 hm1 => ih h_x1 h_x4 (by omega)) hσ h_x1 h_x4 (Int.le_refl _)
theorem s_X8_eightFrom {σ : zSt} (hσ : zPC σ) {x1 : Int32} (h_x1 : zr (0) (31) x1) : zok (fX8_eightFrom σ x1) (zPl σ (fun v : Int64 => True)) := by
  unfold fX8_eightFrom
  exact (s_X8_eightFrom_6 hσ zfuel h_x1 (zr_w (zr_c (lo := 7) (hi := 7) (by decide)) (by decide)) (by decide))
theorem s_J7_fill_53178_k21_5_body {G : Nat → Int} {σ : zSt} {k5 : zSt → Int32 → Int32 → Int32 → Option (zSt)} {Mk5 : Int} (hk5 : ∀ (σ : zSt) (x1 : Int32) (x2 : Int32) (x3 : Int32), zIC G σ → zr (0) (0) x1 → zr (0) (16384) x2 → zr (16384) (16384) x3 → (16384) - x2.toInt < Mk5 → zok (k5 σ x1 x2 x3) (zIC G)) (hσ : zIC G σ) {x1 : Int32} (h_x1 : zr (0) (0) x1) {x2 : Int32} (h_x2 : zr (0) (16384) x2) {x3 : Int32} (h_x3 : zr (16384) (16384) x3) (hMk5 : (16384) - x2.toInt ≤ Mk5) : zok (fJ7_fill_53178_k21_5_body k5 σ x1 x2 x3) (zIC G) := by
  unfold fJ7_fill_53178_k21_5_body
  refine zok_if (fun q1 => ?_) (fun q1 => ?_)
  · have h2 := zc_ler (16384) q1 h_x3 h_x2 (by decide)
    exact zok_some hσ
  have h3 := zc_ltl (16383) (z_nle q1) h_x2 h_x3 (by decide)
  refine zok_ck (zin_ok h3 (by decide)) ?_
  refine zok_bs (hσ.wi 0 16383 (z_ix h3 (by decide)) h_x1 (by decide +kernel)) (fun σ1 e5 i4 => ?_)
  refine zok_br (zr_add (lo := 1) (hi := 16384) h3 (zr_c (lo := 1) (hi := 1) (by decide)) (by decide)) (fun v2 e7 h6 => ?_)
  exact hk5 _ _ _ _ i4 h_x1 (zr_w h6 (by decide)) h_x3 (by rw [e7]; have := z_tadd (y := (1 : Int32)) h3 (zr_c (lo := 1) (hi := 1) (by decide)) (by decide); have e9 : (1 : Int32).toInt = 1 := rfl; omega) 
theorem s_J7_fill_53178_k21_5 {G : Nat → Int} : ∀ (n : Nat) {σ : zSt} (hσ : zIC G σ) {x1 : Int32} (h_x1 : zr (0) (0) x1) {x2 : Int32} (h_x2 : zr (0) (16384) x2) {x3 : Int32} (h_x3 : zr (16384) (16384) x3) (hm : (16384) - x2.toInt < n), zok (fJ7_fill_53178_k21_5 n σ x1 x2 x3) (zIC G) := by
  intro n
  induction n with
  | zero => intro σ hσ x1 h_x1 x2 h_x2 x3 h_x3 hm ; have h9 := h_x2.1; have h8 := h_x2.2; exfalso; omega
  | succ n ih => intro σ hσ x1 h_x1 x2 h_x2 x3 h_x3 hm ; exact s_J7_fill_53178_k21_5_body (fun σ x1 x2 x3 hσ h_x1 h_x2 h_x3 hm1 => ih hσ h_x1 h_x2 h_x3 (by omega)) hσ h_x1 h_x2 h_x3 (Int.le_refl _)
theorem s_J7_fill_53178_k21 {G : Nat → Int} {σ : zSt} (hσ : zIC G σ) {x1 : Int32} (h_x1 : zr (0) (0) x1) : zok (fJ7_fill_53178_k21 σ x1) (zIC G) := by
  unfold fJ7_fill_53178_k21
  exact (s_J7_fill_53178_k21_5 zfuel hσ h_x1 (zr_w (zr_c (lo := 0) (hi := 0) (by decide)) (by decide)) (zr_c (lo := 16384) (hi := 16384) (by decide)) (by decide))
theorem s_J7_fill_53178_k23_5_body {G : Nat → Int} {σ : zSt} {k5 : zSt → Int32 → Int32 → Int32 → Option (zSt)} {Mk5 : Int} (hk5 : ∀ (σ : zSt) (x1 : Int32) (x2 : Int32) (x3 : Int32), zIC G σ → zr (0) (0) x1 → zr (0) (96) x2 → zr (96) (96) x3 → (96) - x2.toInt < Mk5 → zok (k5 σ x1 x2 x3) (zIC G)) (hσ : zIC G σ) {x1 : Int32} (h_x1 : zr (0) (0) x1) {x2 : Int32} (h_x2 : zr (0) (96) x2) {x3 : Int32} (h_x3 : zr (96) (96) x3) (hMk5 : (96) - x2.toInt ≤ Mk5) : zok (fJ7_fill_53178_k23_5_body k5 σ x1 x2 x3) (zIC G) := by
  unfold fJ7_fill_53178_k23_5_body
  refine zok_if (fun q1 => ?_) (fun q1 => ?_)
  · have h2 := zc_ler (96) q1 h_x3 h_x2 (by decide)
    exact zok_some hσ
  have h3 := zc_ltl (95) (z_nle q1) h_x2 h_x3 (by decide)
  refine zok_ck (zin_ok h3 (by decide)) ?_
  refine zok_bs (hσ.wi 0 95 (z_ix h3 (by decide)) h_x1 (by decide +kernel)) (fun σ1 e5 i4 => ?_)
  refine zok_br (zr_add (lo := 1) (hi := 96) h3 (zr_c (lo := 1) (hi := 1) (by decide)) (by decide)) (fun v2 e7 h6 => ?_)
  exact hk5 _ _ _ _ i4 h_x1 (zr_w h6 (by decide)) h_x3 (by rw [e7]; have := z_tadd (y := (1 : Int32)) h3 (zr_c (lo := 1) (hi := 1) (by decide)) (by decide); have e9 : (1 : Int32).toInt = 1 := rfl; omega) 
theorem s_J7_fill_53178_k23_5 {G : Nat → Int} : ∀ (n : Nat) {σ : zSt} (hσ : zIC G σ) {x1 : Int32} (h_x1 : zr (0) (0) x1) {x2 : Int32} (h_x2 : zr (0) (96) x2) {x3 : Int32} (h_x3 : zr (96) (96) x3) (hm : (96) - x2.toInt < n), zok (fJ7_fill_53178_k23_5 n σ x1 x2 x3) (zIC G) := by
  intro n
  induction n with
  | zero => intro σ hσ x1 h_x1 x2 h_x2 x3 h_x3 hm ; have h9 := h_x2.1; have h8 := h_x2.2; exfalso; omega
  | succ n ih => intro σ hσ x1 h_x1 x2 h_x2 x3 h_x3 hm ; exact s_J7_fill_53178_k23_5_body (fun σ x1 x2 x3 hσ h_x1 h_x2 h_x3 hm1 => ih hσ h_x1 h_x2 h_x3 (by omega)) hσ h_x1 h_x2 h_x3 (Int.le_refl _)
theorem s_J7_fill_53178_k23 {G : Nat → Int} {σ : zSt} (hσ : zIC G σ) {x1 : Int32} (h_x1 : zr (0) (0) x1) : zok (fJ7_fill_53178_k23 σ x1) (zIC G) := by
  unfold fJ7_fill_53178_k23
  exact (s_J7_fill_53178_k23_5 zfuel hσ h_x1 (zr_w (zr_c (lo := 0) (hi := 0) (by decide)) (by decide)) (zr_c (lo := 96) (hi := 96) (by decide)) (by decide))
theorem s_X9_clear {G : Nat → Int} {σ : zSt} (hσ : zIC G σ) : zok (fX9_clear σ ) (zIC G) := by
  unfold fX9_clear
  refine zok_bu (s_J7_fill_53178_k21 hσ (zr_c (lo := 0) (hi := 0) (by decide))) (fun σ1 i1 => ?_)
  refine zok_bu (s_J7_fill_53178_k23 i1 (zr_c (lo := 0) (hi := 0) (by decide))) (fun σ2 i2 => ?_)
  exact zok_some i2
theorem s_X9_keep {G : Nat → Int} {σ : zSt} (hσ : zIC G σ) : zok (fX9_keep σ ) (zIC G) := by
  unfold fX9_keep
  refine zok_ck (by decide) ?_
  refine zok_bs (hσ.wc (by decide +kernel) rfl rfl) (fun σ1 e2 i1 => ?_)
  refine zok_ck (by decide) ?_
  refine zok_bs (i1.wc (by decide +kernel) rfl rfl) (fun σ2 e4 i3 => ?_)
  exact zok_some i3
theorem s_X9_bringBack {G : Nat → Int} {σ : zSt} (hσ : zIC G σ) : zok (fX9_bringBack σ ) (zIC G) := by
  unfold fX9_bringBack
  refine zok_ck (by decide) ?_
  refine zok_bs (hσ.wc (by decide +kernel) rfl rfl) (fun σ1 e2 i1 => ?_)
  refine zok_ck (by decide) ?_
  refine zok_bs (i1.wc (by decide +kernel) rfl rfl) (fun σ2 e4 i3 => ?_)
  exact zok_some i3
theorem s_X9_has_27 {σ : zSt} (hσ : zPC σ) {s0 : Int32} (h_s0 : zr (0) (1) s0) : zok (fX9_has_27 σ s0) (zPi σ (fun v : Int32 => zr (0) (1) v)) := by
  unfold fX9_has_27
  refine zok_ck (zbo_ok h_s0 (by decide)) ?_
  exact zok_spi h_s0
theorem s_X9_has_26 {σ : zSt} (hσ : zPC σ) : zok (fX9_has_26 σ ) (zPi σ (fun v : Int32 => zr (0) (1) v)) := by
  unfold fX9_has_26
  exact (s_X9_has_27 hσ (zr_w (zr_c (lo := 0) (hi := 0) (by decide)) (by decide)))
theorem s_X9_has_22 {σ : zSt} (hσ : zPC σ) : zok (fX9_has_22 σ ) (zPi σ (fun v : Int32 => zr (0) (1) v)) := by
  unfold fX9_has_22
  exact (s_X9_has_27 hσ (zr_w (zr_c (lo := 1) (hi := 1) (by decide)) (by decide)))
theorem s_X9_has_10 {σ : zSt} (hσ : zPC σ) {x0 : Int32} : zok (fX9_has_10 σ x0) (zPi σ (fun v : Int32 => zr (0) (1) v)) := by
  unfold fX9_has_10
  refine zok_if (fun q1 => ?_) (fun q1 => ?_)
  · have h2 := zc_ltl (31) q1 zr_any (zr_c (lo := 32) (hi := 32) (by decide)) (by decide)
    exact (s_X9_has_26 hσ)
  have h3 := zc_ler (32) (z_nlt q1) (zr_c (lo := 32) (hi := 32) (by decide)) zr_any (by decide)
  refine zok_if (fun q4 => ?_) (fun q4 => ?_)
  · have h5 := zc_ler (96) q4 (zr_c (lo := 96) (hi := 96) (by decide)) h3 (by decide)
    exact (s_X9_has_26 hσ)
  have h6 := zc_ltl (95) (z_nle q4) h3 (zr_c (lo := 96) (hi := 96) (by decide)) (by decide)
  exact (s_X9_has_22 hσ)
theorem s_X9_has {σ : zSt} (hσ : zPC σ) {x0 : Int32} : zok (fX9_has σ x0) (zPi σ (fun v : Int32 => zr (0) (1) v)) := by
  unfold fX9_has
  refine zok_if (fun q1 => ?_) (fun q1 => ?_)
  · have h2 := zc_ltl (-1) q1 zr_any (zr_c (lo := 0) (hi := 0) (by decide)) (by decide)
    exact (s_X9_has_10 hσ)
  have h3 := zc_ler (0) (z_nlt q1) (zr_c (lo := 0) (hi := 0) (by decide)) zr_any (by decide)
  refine zok_if (fun q4 => ?_) (fun q4 => ?_)
  · have h5 := zc_lel (25) q4 h3 (zr_c (lo := 25) (hi := 25) (by decide)) (by decide)
    exact (s_X9_has_22 hσ)
  have h6 := zc_ltr (26) (z_nle q4) (zr_c (lo := 25) (hi := 25) (by decide)) h3 (by decide)
  exact (s_X9_has_10 hσ)
theorem s_X9_asks_54 {σ : zSt} (hσ : zPC σ) {s0 : Int32} (h_s0 : zr (0) (1) s0) : zok (fX9_asks_54 σ s0) (zPi σ (fun v : Int32 => zr (0) (1) v)) := by
  unfold fX9_asks_54
  refine zok_ck (zbo_ok h_s0 (by decide)) ?_
  exact zok_spi h_s0
theorem s_X9_asks_53 {σ : zSt} (hσ : zPC σ) : zok (fX9_asks_53 σ ) (zPi σ (fun v : Int32 => zr (0) (1) v)) := by
  unfold fX9_asks_53
  exact (s_X9_asks_54 hσ (zr_w (zr_c (lo := 0) (hi := 0) (by decide)) (by decide)))
theorem s_X9_asks_49 {σ : zSt} (hσ : zPC σ) : zok (fX9_asks_49 σ ) (zPi σ (fun v : Int32 => zr (0) (1) v)) := by
  unfold fX9_asks_49
  exact (s_X9_asks_54 hσ (zr_w (zr_c (lo := 1) (hi := 1) (by decide)) (by decide)))
theorem s_X9_asks_26 {σ : zSt} (hσ : zPC σ) : zok (fX9_asks_26 σ ) (zPi σ (fun v : Int32 => zr (0) (1) v)) := by
  unfold fX9_asks_26
  refine zok_ck rfl ?_
  refine zok_if (fun q1 => ?_) (fun q1 => ?_)
  · have h2 := zc_eql (0) (0) q1 (zr_andr (lo := 0) (hi := 16) (zr_c (lo := 16) (hi := 16) (by decide)) (by decide)) (zr_c (lo := 0) (hi := 0) (by decide)) (by decide)
    exact (s_X9_asks_53 hσ)
  have h3 := zc_nel (1) (16) q1 (zr_andr (lo := 0) (hi := 16) (zr_c (lo := 16) (hi := 16) (by decide)) (by decide)) (zr_c (lo := 0) (hi := 0) (by decide)) (by decide)
  refine zok_ck rfl ?_
  refine zok_if (fun q4 => ?_) (fun q4 => ?_)
  · have h5 := zc_eql (1) (1) q4 zr_any (zr_c (lo := 1) (hi := 1) (by decide)) (by decide)
    exact (s_X9_asks_49 hσ)
  exact (s_X9_asks_53 hσ)
theorem s_X9_asks {σ : zSt} (hσ : zPC σ) : zok (fX9_asks σ ) (zPi σ (fun v : Int32 => zr (0) (1) v)) := by
  unfold fX9_asks
  refine zok_ck rfl ?_
  refine zok_if (fun q1 => ?_) (fun q1 => ?_)
  · have h2 := zc_eql (0) (0) q1 (zr_andr (lo := 0) (hi := 32) (zr_c (lo := 32) (hi := 32) (by decide)) (by decide)) (zr_c (lo := 0) (hi := 0) (by decide)) (by decide)
    exact (s_X9_asks_26 hσ)
  have h3 := zc_nel (1) (32) q1 (zr_andr (lo := 0) (hi := 32) (zr_c (lo := 32) (hi := 32) (by decide)) (by decide)) (zr_c (lo := 0) (hi := 0) (by decide)) (by decide)
  refine zok_ck rfl ?_
  refine zok_if (fun q4 => ?_) (fun q4 => ?_)
  · have h5 := zc_eql (0) (0) q4 (zr_andr (lo := 0) (hi := 128) (zr_c (lo := 128) (hi := 128) (by decide)) (by decide)) (zr_c (lo := 0) (hi := 0) (by decide)) (by decide)
    exact (s_X9_asks_26 hσ)
  have h6 := zc_nel (1) (128) q4 (zr_andr (lo := 0) (hi := 128) (zr_c (lo := 128) (hi := 128) (by decide)) (by decide)) (zr_c (lo := 0) (hi := 0) (by decide)) (by decide)
  exact (s_X9_asks_49 hσ)
theorem s_X9_value_85 {σ : zSt} (hσ : zPC σ) {x1 : Int32} : zok (fX9_value_85 σ x1) (zPi σ (fun v : Int32 => True)) := by
  unfold fX9_value_85
  refine zok_pi (s_X9_held hσ) (fun v2 h1 => ?_)
  exact zok_spi trivial
theorem s_X9_value_64 {σ : zSt} (hσ : zPC σ) {s0 : Int32} (h_s0 : zr (0) (1) s0) : zok (fX9_value_64 σ s0) (zPi σ (fun v : Int32 => True)) := by
  unfold fX9_value_64
  exact zok_spi trivial
theorem s_X9_value {σ : zSt} (hσ : zPC σ) {x1 : Int32} : zok (fX9_value σ x1) (zPi σ (fun v : Int32 => True)) := by
  unfold fX9_value
  refine zok_if (fun q1 => ?_) (fun q1 => ?_)
  · have h2 := zc_eql (17) (17) q1 zr_any (zr_c (lo := 17) (hi := 17) (by decide)) (by decide)
    refine zok_pi (s_X9_asks hσ) (fun v4 h3 => ?_)
    refine zok_if (fun q4 => ?_) (fun q4 => ?_)
    · have h5 := zc_eql (0) (0) q4 h3 (zr_c (lo := 0) (hi := 0) (by decide)) (by decide)
      exact (s_X9_value_64 hσ (zr_w (zr_c (lo := 0) (hi := 0) (by decide)) (by decide)))
    have h6 := zc_nel (1) (1) q4 h3 (zr_c (lo := 0) (hi := 0) (by decide)) (by decide)
    exact (s_X9_value_64 hσ (zr_w (zr_c (lo := 1) (hi := 1) (by decide)) (by decide)))
  refine zok_if (fun q7 => ?_) (fun q7 => ?_)
  · have h8 := zc_eql (18) (18) q7 zr_any (zr_c (lo := 18) (hi := 18) (by decide)) (by decide)
    exact (s_X9_value_85 hσ)
  refine zok_if (fun q9 => ?_) (fun q9 => ?_)
  · have h10 := zc_eql (19) (19) q9 zr_any (zr_c (lo := 19) (hi := 19) (by decide)) (by decide)
    exact (s_X9_value_85 hσ)
  refine zok_if (fun q11 => ?_) (fun q11 => ?_)
  · have h12 := zc_eql (20) (20) q11 zr_any (zr_c (lo := 20) (hi := 20) (by decide)) (by decide)
    exact (s_X9_value_85 hσ)
  refine zok_if (fun q13 => ?_) (fun q13 => ?_)
  · have h14 := zc_eql (21) (21) q13 zr_any (zr_c (lo := 21) (hi := 21) (by decide)) (by decide)
    exact (s_X9_value_85 hσ)
  refine zok_if (fun q15 => ?_) (fun q15 => ?_)
  · have h16 := zc_eql (22) (22) q15 zr_any (zr_c (lo := 22) (hi := 22) (by decide)) (by decide)
    refine zok_pi (s_X9_mode hσ) (fun v6 h17 => ?_)
    exact zok_spi trivial
  refine zok_if (fun q18 => ?_) (fun q18 => ?_)
  · have h19 := zc_eql (23) (23) q18 zr_any (zr_c (lo := 23) (hi := 23) (by decide)) (by decide)
    refine zok_pi (s_X9_height hσ) (fun v8 h20 => ?_)
    exact zok_spi trivial
  refine zok_if (fun q21 => ?_) (fun q21 => ?_)
  · have h22 := zc_eql (24) (24) q21 zr_any (zr_c (lo := 24) (hi := 24) (by decide)) (by decide)
    refine zok_pi (s_X9_hCount hσ) (fun v10 h23 => ?_)
    exact zok_spi trivial
  refine zok_if (fun q24 => ?_) (fun q24 => ?_)
  · have h25 := zc_eql (25) (25) q24 zr_any (zr_c (lo := 25) (hi := 25) (by decide)) (by decide)
    refine zok_pi (s_X9_vCount hσ) (fun v12 h26 => ?_)
    exact zok_spi trivial
  exact (s_X9_value_85 hσ)
theorem s_X9_eightFrom_6_body {σ : zSt} {k6 : zSt → Int32 → Int64 → Int32 → Option (zSt × Int64)} {Mk6 : Int} (hk6 : ∀ (x1 : Int32) (x2 : Int64) (x4 : Int32), zr (-1) (7) x4 → x4.toInt - (-1) < Mk6 → zok (k6 σ x1 x2 x4) (zPl σ (fun v : Int64 => True))) (hσ : zPC σ) {x1 : Int32} {x2 : Int64} {x4 : Int32} (h_x4 : zr (-1) (7) x4) (hMk6 : x4.toInt - (-1) ≤ Mk6) : zok (fX9_eightFrom_6_body k6 σ x1 x2 x4) (zPl σ (fun v : Int64 => True)) := by
  unfold fX9_eightFrom_6_body
  refine zok_if (fun q1 => ?_) (fun q1 => ?_)
  · have h2 := zc_ltl (-1) q1 h_x4 (zr_c (lo := 0) (hi := 0) (by decide)) (by decide)
    exact zok_spl trivial
  have h3 := zc_ler (0) (z_nlt q1) (zr_c (lo := 0) (hi := 0) (by decide)) h_x4 (by decide)
  refine zok_ck (zin_ok (zr_andr (lo := 0) (hi := 16383) (zr_c (lo := 16383) (hi := 16383) (by decide)) (by decide)) (by decide)) ?_
  refine zok_bv (fun v1 e5 => ?_)
  refine zok_br (zr_add (lo := -1) (hi := 6) h3 (zr_c (lo := -1) (hi := -1) (by decide)) (by decide)) (fun v2 e7 h6 => ?_)
  exact hk6 _ _ _  (zr_w h6 (by decide)) (by rw [e7]; have := z_tadd (y := (-1 : Int32)) h3 (zr_c (lo := -1) (hi := -1) (by decide)) (by decide); have e9 : (-1 : Int32).toInt = -1 := rfl; omega) 
theorem s_X9_eightFrom_6 {σ : zSt} (hσ : zPC σ) : ∀ (n : Nat) {x1 : Int32} {x2 : Int64} {x4 : Int32} (h_x4 : zr (-1) (7) x4) (hm : x4.toInt - (-1) < n), zok (fX9_eightFrom_6 n σ x1 x2 x4) (zPl σ (fun v : Int64 => True)) := by
  intro n
  induction n with
  | zero => intro x1 x2 x4 h_x4 hm ; have h9 := h_x4.1; have h8 := h_x4.2; exfalso; omega
  | succ n ih => intro x1 x2 x4 h_x4 hm ; exact s_X9_eightFrom_6_body (fun x1 x2 x4 h_x4 hm1 => ih h_x4 (by omega)) hσ h_x4 (Int.le_refl _)
theorem s_X9_eightFrom {σ : zSt} (hσ : zPC σ) {x1 : Int32} : zok (fX9_eightFrom σ x1) (zPl σ (fun v : Int64 => True)) := by
  unfold fX9_eightFrom
  exact (s_X9_eightFrom_6 hσ zfuel (zr_w (zr_c (lo := 7) (hi := 7) (by decide)) (by decide)) (by decide))
theorem zsi_twice {σ : zSt} {k j : Nat} {v w : Int32} : zsi (zsi σ k j v) k j w = zsi σ k j w := by
  refine Prod.ext (funext fun a => funext fun b => ?_) rfl
  rw [zsi_at, zsi_at, zsi_at]
  split <;> rfl
theorem s_X9_passes {G : Nat → Int} {σ : zSt} (hσ : zIC G σ) {x1 : Int32} (h_x1 : zr (1) (31) x1) : zok (fX9_passes σ x1) (zAi (zIC G) (fun v : Int32 => zr (0) (1) v)) := by
  unfold fX9_passes
  refine zok_ck rfl (zok_ck rfl ?_)
  have hb := rC_42 hσ.sg (21 : Int32).toNatClampNeg (by decide)
  have hs := zr_add (lo := 0) (hi := 258) hb h_x1 (by decide)
  refine zok_bv (fun σ1 e1 => ?_)
  refine zok_ck rfl ?_
  have er : zgi σ1 23 (21 : Int32).toNatClampNeg = zgi σ 23 (21 : Int32).toNatClampNeg + x1 := by rw [e1]; unfold zgi; rw [zsi_ej]
  have c228 : (228 : Int32).toInt = 228 := rfl
  refine zok_if (fun q => ?_) (fun q => ?_)
  · have q1 := Int32.le_iff_toInt_le.mp q
    rw [er] at q1
    have h2 : zr 228 258 (zgi σ 23 (21 : Int32).toNatClampNeg + x1) := ⟨by omega, hs.2⟩
    refine zok_ck rfl (zok_ck rfl ?_)
    have i2 : zIC G (zsi σ1 23 ((21 : Int32).toNatClampNeg) ((zgi σ1 23 (21 : Int32).toNatClampNeg) - 228)) := by
      rw [er, e1, zsi_twice]
      exact hσ.wi 21 21 (by decide) (zr_sub (lo := 0) (hi := 30) h2 (zr_c (lo := 228) (hi := 228) (x := 228) (by decide)) (by decide)) (by decide +kernel)
    refine zok_bs i2 (fun σ2 e2 i2 => ?_)
    refine zok_ck rfl ?_
    exact zok_sai i2 (zr_c (by decide))
  · have q1 := Int32.lt_iff_toInt_lt.mp (z_nle q)
    rw [er] at q1
    refine zok_ck rfl ?_
    refine zok_sai ?_ (zr_c (by decide))
    rw [e1]
    exact hσ.wi 21 21 (by decide) (show zr 0 227 _ from ⟨hs.1, by omega⟩) (by decide +kernel)
theorem s_X9_goesToNextLine_159 {σ : zSt} (hσ : zPC σ) {x2 : Int32} (h_x2 : zr (0) (1) x2) : zok (fX9_goesToNextLine_159 σ x2) (zPi σ (fun v : Int32 => zr (0) (1) v)) := by
  unfold fX9_goesToNextLine_159
  refine zok_ck (zbo_ok h_x2 (by decide)) ?_
  exact zok_spi h_x2
theorem s_X9_goesToNextLine_133 {G : Nat → Int} {σ : zSt} (hσ : zIC G σ) {x1 : Int32} (h_x1 : zr (192) (240) x1) {x2 : Int32} (h_x2 : zr (0) (1) x2) : zok (fX9_goesToNextLine_133 σ x1 x2) (zAi (zIC G) (fun v : Int32 => zr (0) (1) v)) := by
  unfold fX9_goesToNextLine_133
  refine zok_ck rfl ?_
  refine zok_if (fun q1 => ?_) (fun q1 => ?_)
  · have h2 := zc_eql (193) (241) q1 zr_any (zr_add (lo := 193) (hi := 241) h_x1 (zr_c (lo := 1) (hi := 1) (by decide)) (by decide)) (by decide)
    refine zok_ck rfl ?_
    refine zok_ck rfl ?_
    refine zok_bs (hσ.wi 15 15 (by decide) (zr_or (lo := 0) (hi := 255) 8 (rC_40 hσ.sg _ (by decide)) (zr_c (lo := 128) (hi := 128) (by decide)) (by decide)) (by decide +kernel)) (fun σ1 e4 i3 => ?_)
    exact zok_pai i3 (s_X9_goesToNextLine_159 i3.P h_x2)
  exact zok_pai hσ (s_X9_goesToNextLine_159 hσ.P h_x2)
theorem s_X9_goesToNextLine_106 {G : Nat → Int} {σ : zSt} (hσ : zIC G σ) {x1 : Int32} (h_x1 : zr (192) (240) x1) {s0 : Int32} (h_s0 : zr (0) (1) s0) : zok (fX9_goesToNextLine_106 σ x1 s0) (zAi (zIC G) (fun v : Int32 => zr (0) (1) v)) := by
  unfold fX9_goesToNextLine_106
  refine zok_if (fun q1 => ?_) (fun q1 => ?_)
  · have h2 := zc_eql (0) (0) q1 h_s0 (zr_c (lo := 0) (hi := 0) (by decide)) (by decide)
    exact (s_X9_goesToNextLine_133 hσ h_x1 (zr_w h2 (by decide)))
  have h3 := zc_nel (1) (1) q1 h_s0 (zr_c (lo := 0) (hi := 0) (by decide)) (by decide)
  refine zok_ck rfl ?_
  refine zok_bs (hσ.wi 20 20 (by decide) (zr_c (lo := 0) (hi := 0) (by decide)) (by decide +kernel)) (fun σ2 e5 i4 => ?_)
  refine zok_ck rfl ?_
  refine zok_ck rfl ?_
  refine zok_bs (i4.wi 19 19 (by decide) (rC_35 i4.sg _ (by decide)) (by decide +kernel)) (fun σ3 e7 i6 => ?_)
  exact (s_X9_goesToNextLine_133 i6 h_x1 (zr_w h3 (by decide)))
theorem s_X9_goesToNextLine_76 {G : Nat → Int} {σ : zSt} (hσ : zIC G σ) {x1 : Int32} (h_x1 : zr (192) (240) x1) : zok (fX9_goesToNextLine_76 σ x1) (zAi (zIC G) (fun v : Int32 => zr (0) (1) v)) := by
  unfold fX9_goesToNextLine_76
  refine zok_ck rfl ?_
  refine zok_ck rfl ?_
  refine zok_bs (hσ.wi 20 20 (by decide) zr_any (by decide +kernel)) (fun σ4 e2 i1 => ?_)
  refine zok_ck rfl ?_
  refine zok_if (fun q3 => ?_) (fun q3 => ?_)
  · have h4 := zc_ltl (2147483646) q3 zr_any zr_any (by decide)
    have h5 := zc_ltr (-2147483647) q3 zr_any zr_any (by decide)
    exact (s_X9_goesToNextLine_106 i1 h_x1 (zr_w (zr_c (lo := 0) (hi := 0) (by decide)) (by decide)))
  exact (s_X9_goesToNextLine_106 i1 h_x1 (zr_w (zr_c (lo := 1) (hi := 1) (by decide)) (by decide)))
theorem s_X9_goesToNextLine {G : Nat → Int} {σ : zSt} (hσ : zIC G σ) : zok (fX9_goesToNextLine σ ) (zAi (zIC G) (fun v : Int32 => zr (0) (1) v)) := by
  unfold fX9_goesToNextLine
  refine zok_pi (s_X9_height hσ.P) (fun v6 h1 => ?_)
  refine zok_ck rfl ?_
  refine zok_if (fun q2 => ?_) (fun q2 => ?_)
  · have h3 := zc_lel (240) q2 zr_any h1 (by decide)
    refine zok_ck rfl ?_
    refine zok_ck rfl ?_
    refine zok_bs (hσ.wi 18 18 (by decide) zr_any (by decide +kernel)) (fun σ7 e5 i4 => ?_)
    refine zok_ck rfl ?_
    refine zok_if (fun q6 => ?_) (fun q6 => ?_)
    · have h7 := zc_ler (0) q6 (zr_c (lo := 0) (hi := 0) (by decide)) zr_any (by decide)
      exact (s_X9_goesToNextLine_76 i4 h1)
    have h8 := zc_ltl (-1) (z_nle q6) zr_any (zr_c (lo := 0) (hi := 0) (by decide)) (by decide)
    refine zok_ck rfl ?_
    refine zok_ck rfl ?_
    refine zok_bs (i4.wi 18 18 (by decide) (rC_35 i4.sg _ (by decide)) (by decide +kernel)) (fun σ8 e10 i9 => ?_)
    refine zok_ck rfl ?_
    refine zok_bs (i9.wi 16 16 (by decide) (zr_c (lo := 1) (hi := 1) (by decide)) (by decide +kernel)) (fun σ9 e12 i11 => ?_)
    exact (s_X9_goesToNextLine_76 i11 h1)
  have h13 := zc_ltr (193) (z_nle q2) h1 zr_any (by decide)
  refine zok_ck rfl ?_
  refine zok_ck rfl ?_
  refine zok_bs (hσ.wi 18 18 (by decide) (rC_35 hσ.sg _ (by decide)) (by decide +kernel)) (fun σ10 e15 i14 => ?_)
  exact (s_X9_goesToNextLine_76 i14 h1)
theorem s_J7_fill_53178_k32_5_body {G : Nat → Int} {σ : zSt} {k5 : zSt → Int32 → Int32 → Int32 → Option (zSt)} {Mk5 : Int} (hk5 : ∀ (σ : zSt) (x1 : Int32) (x2 : Int32) (x3 : Int32), zIC G σ → zr (0) (0) x1 → zr (0) (272) x2 → zr (272) (272) x3 → (272) - x2.toInt < Mk5 → zok (k5 σ x1 x2 x3) (zIC G)) (hσ : zIC G σ) {x1 : Int32} (h_x1 : zr (0) (0) x1) {x2 : Int32} (h_x2 : zr (0) (272) x2) {x3 : Int32} (h_x3 : zr (272) (272) x3) (hMk5 : (272) - x2.toInt ≤ Mk5) : zok (fJ7_fill_53178_k32_5_body k5 σ x1 x2 x3) (zIC G) := by
  unfold fJ7_fill_53178_k32_5_body
  refine zok_if (fun q1 => ?_) (fun q1 => ?_)
  · have h2 := zc_ler (272) q1 h_x3 h_x2 (by decide)
    exact zok_some hσ
  have h3 := zc_ltl (271) (z_nle q1) h_x2 h_x3 (by decide)
  refine zok_ck (zin_ok h3 (by decide)) ?_
  refine zok_bs (hσ.wi 0 271 (z_ix h3 (by decide)) h_x1 (by decide +kernel)) (fun σ1 e5 i4 => ?_)
  refine zok_br (zr_add (lo := 1) (hi := 272) h3 (zr_c (lo := 1) (hi := 1) (by decide)) (by decide)) (fun v2 e7 h6 => ?_)
  exact hk5 _ _ _ _ i4 h_x1 (zr_w h6 (by decide)) h_x3 (by rw [e7]; have := z_tadd (y := (1 : Int32)) h3 (zr_c (lo := 1) (hi := 1) (by decide)) (by decide); have e9 : (1 : Int32).toInt = 1 := rfl; omega) 
theorem s_J7_fill_53178_k32_5 {G : Nat → Int} : ∀ (n : Nat) {σ : zSt} (hσ : zIC G σ) {x1 : Int32} (h_x1 : zr (0) (0) x1) {x2 : Int32} (h_x2 : zr (0) (272) x2) {x3 : Int32} (h_x3 : zr (272) (272) x3) (hm : (272) - x2.toInt < n), zok (fJ7_fill_53178_k32_5 n σ x1 x2 x3) (zIC G) := by
  intro n
  induction n with
  | zero => intro σ hσ x1 h_x1 x2 h_x2 x3 h_x3 hm ; have h9 := h_x2.1; have h8 := h_x2.2; exfalso; omega
  | succ n ih => intro σ hσ x1 h_x1 x2 h_x2 x3 h_x3 hm ; exact s_J7_fill_53178_k32_5_body (fun σ x1 x2 x3 hσ h_x1 h_x2 h_x3 hm1 => ih hσ h_x1 h_x2 h_x3 (by omega)) hσ h_x1 h_x2 h_x3 (Int.le_refl _)
theorem s_J7_fill_53178_k32 {G : Nat → Int} {σ : zSt} (hσ : zIC G σ) {x1 : Int32} (h_x1 : zr (0) (0) x1) : zok (fJ7_fill_53178_k32 σ x1) (zIC G) := by
  unfold fJ7_fill_53178_k32
  exact (s_J7_fill_53178_k32_5 zfuel hσ h_x1 (zr_w (zr_c (lo := 0) (hi := 0) (by decide)) (by decide)) (zr_c (lo := 272) (hi := 272) (by decide)) (by decide))
theorem s_X10_clear_h {G : Nat → Int} : ∀ (n : Nat) {σ : zSt} (hσ : zIC G σ) {x2 : Int32} (h_x2 : zr 128 272 x2) (h8 : x2.toInt % 8 = 0) (hm : 272 - x2.toInt < n), zok (fX10_clear_36 n σ x2) (zIC G) := by
  intro n
  induction n with
  | zero => intro σ hσ x2 h_x2 h8 hm; have := h_x2.2; exfalso; omega
  | succ n ih =>
    intro σ hσ x2 h_x2 h8 hm
    show zok (fX10_clear_36_body (fX10_clear_36 n) σ x2) (zIC G)
    unfold fX10_clear_36_body
    refine zok_if (fun q => zok_some hσ) (fun q => ?_)
    have c272 : (272 : Int32).toInt = 272 := rfl
    have q1 := Int32.lt_iff_toInt_lt.mp (z_nle q)
    have hx : zr 128 264 x2 := ⟨h_x2.1, by omega⟩
    have h0 := zr_add (lo := 128) (hi := 264) hx (zr_c (lo := 0) (hi := 0) (x := 0) (by decide)) (by decide)
    have h1 := zr_add (lo := 129) (hi := 265) hx (zr_c (lo := 1) (hi := 1) (x := 1) (by decide)) (by decide)
    have e8 := z_tadd hx (zr_c (lo := 8) (hi := 8) (x := 8) (by decide)) (by decide)
    have c8 : (8 : Int32).toInt = 8 := rfl
    refine zok_ck (zin_ok h0 (by decide)) ?_
    refine zok_bs (hσ.wi 128 264 (z_ix h0 (by decide)) (zr_any) (by decide +kernel)) (fun σ1 e1 i1 => ?_)
    refine zok_ck (zin_ok h1 (by decide)) ?_
    refine zok_bs (i1.wi 129 265 (z_ix h1 (by decide)) (zr_any) (by decide +kernel)) (fun σ2 e2 i2 => ?_)
    refine zok_bv (fun v3 e3 => ih i2 ?_ ?_ ?_)
    · subst e3; have := hx.1; have := hx.2; exact ⟨by omega, by omega⟩
    · subst e3; omega
    · subst e3; omega
theorem s_X10_clear_36 {G : Nat → Int} (n : Nat) {σ : zSt} (hσ : zIC G σ) {x2 : Int32} (h_x2 : zr (128) (128) x2) (hm : (128) - x2.toInt < n) (hn : zfuel ≤ n := by decide) : zok (fX10_clear_36 n σ x2) (zIC G) :=
  s_X10_clear_h n hσ (zr_w h_x2 (by decide)) (by have := h_x2.1; have := h_x2.2; omega) (by have := h_x2.1; unfold zfuel at hn; omega)
theorem s_X10_clear {G : Nat → Int} {σ : zSt} (hσ : zIC G σ) : zok (fX10_clear σ ) (zIC G) := by
  unfold fX10_clear
  refine zok_ck rfl ?_
  refine zok_bv (fun v4 e2 => ?_)
  refine zok_bu (s_J7_fill_53178_k32 hσ (zr_c (lo := 0) (hi := 0) (by decide))) (fun σ5 i3 => ?_)
  refine zok_ck rfl ?_
  refine zok_bs (i3.wi 66 66 (by decide) zr_any (by decide +kernel)) (fun σ6 e5 i4 => ?_)
  refine zok_ck rfl ?_
  refine zok_bs (i4.wi 65 65 (by decide) (zr_c (lo := 1) (hi := 1) (by decide)) (by decide +kernel)) (fun σ7 e7 i6 => ?_)
  exact (s_X10_clear_36 zfuel i6 (zr_c (lo := 128) (hi := 128) (by decide)) (by decide))
theorem s_X10_keep {G : Nat → Int} {σ : zSt} (hσ : zIC G σ) : zok (fX10_keep σ ) (zIC G) := by
  unfold fX10_keep
  refine zok_ck (by decide) ?_
  refine zok_bs (hσ.wc (by decide +kernel) rfl rfl) (fun σ1 e2 i1 => ?_)
  exact zok_some i1
theorem s_X10_bringBack {G : Nat → Int} {σ : zSt} (hσ : zIC G σ) : zok (fX10_bringBack σ ) (zIC G) := by
  unfold fX10_bringBack
  refine zok_ck (by decide) ?_
  refine zok_bs (hσ.wc (by decide +kernel) rfl rfl) (fun σ1 e2 i1 => ?_)
  exact zok_some i1
theorem s_X10_has_37 {σ : zSt} (hσ : zPC σ) {s0 : Int32} (h_s0 : zr (0) (1) s0) : zok (fX10_has_37 σ s0) (zPi σ (fun v : Int32 => zr (0) (1) v)) := by
  unfold fX10_has_37
  refine zok_ck (zbo_ok h_s0 (by decide)) ?_
  exact zok_spi h_s0
theorem s_X10_has_36 {σ : zSt} (hσ : zPC σ) : zok (fX10_has_36 σ ) (zPi σ (fun v : Int32 => zr (0) (1) v)) := by
  unfold fX10_has_36
  exact (s_X10_has_37 hσ (zr_w (zr_c (lo := 0) (hi := 0) (by decide)) (by decide)))
theorem s_X10_has_32 {σ : zSt} (hσ : zPC σ) : zok (fX10_has_32 σ ) (zPi σ (fun v : Int32 => zr (0) (1) v)) := by
  unfold fX10_has_32
  exact (s_X10_has_37 hσ (zr_w (zr_c (lo := 1) (hi := 1) (by decide)) (by decide)))
theorem s_X10_has_10 {σ : zSt} (hσ : zPC σ) {x0 : Int32} : zok (fX10_has_10 σ x0) (zPi σ (fun v : Int32 => zr (0) (1) v)) := by
  unfold fX10_has_10
  refine zok_if (fun q1 => ?_) (fun q1 => ?_)
  · have h2 := zc_ltl (127) q1 zr_any (zr_c (lo := 128) (hi := 128) (by decide)) (by decide)
    exact (s_X10_has_36 hσ)
  have h3 := zc_ler (128) (z_nlt q1) (zr_c (lo := 128) (hi := 128) (by decide)) zr_any (by decide)
  refine zok_if (fun q4 => ?_) (fun q4 => ?_)
  · have h5 := zc_ler (272) q4 (zr_c (lo := 272) (hi := 272) (by decide)) h3 (by decide)
    exact (s_X10_has_36 hσ)
  have h6 := zc_ltl (271) (z_nle q4) h3 (zr_c (lo := 272) (hi := 272) (by decide)) (by decide)
  refine zok_if (fun q7 => ?_) (fun q7 => ?_)
  · have h8 := zc_ltr (6) q7 (zr_c (lo := 5) (hi := 5) (by decide)) (zr_andr (lo := 0) (hi := 7) (zr_c (lo := 7) (hi := 7) (by decide)) (by decide)) (by decide)
    exact (s_X10_has_36 hσ)
  have h9 := zc_lel (5) (z_nlt q7) (zr_andr (lo := 0) (hi := 7) (zr_c (lo := 7) (hi := 7) (by decide)) (by decide)) (zr_c (lo := 5) (hi := 5) (by decide)) (by decide)
  exact (s_X10_has_32 hσ)
theorem s_X10_has {σ : zSt} (hσ : zPC σ) {x0 : Int32} : zok (fX10_has σ x0) (zPi σ (fun v : Int32 => zr (0) (1) v)) := by
  unfold fX10_has
  refine zok_if (fun q1 => ?_) (fun q1 => ?_)
  · have h2 := zc_ltl (-1) q1 zr_any (zr_c (lo := 0) (hi := 0) (by decide)) (by decide)
    exact (s_X10_has_10 hσ)
  have h3 := zc_ler (0) (z_nlt q1) (zr_c (lo := 0) (hi := 0) (by decide)) zr_any (by decide)
  refine zok_if (fun q4 => ?_) (fun q4 => ?_)
  · have h5 := zc_lel (67) q4 h3 (zr_c (lo := 67) (hi := 67) (by decide)) (by decide)
    exact (s_X10_has_32 hσ)
  have h6 := zc_ltr (68) (z_nle q4) (zr_c (lo := 67) (hi := 67) (by decide)) h3 (by decide)
  exact (s_X10_has_10 hσ)
theorem s_X11_clearAll {G : Nat → Int} {σ : zSt} (hσ : zIC G σ) : zok (fX11_clearAll σ ) (zIC G) := by
  unfold fX11_clearAll
  refine zok_bu (s_X2_clearPages hσ) (fun σ1 i1 => ?_)
  refine zok_bu (s_X9_clear i1) (fun σ2 i2 => ?_)
  refine zok_bu (s_X7_clear i2) (fun σ3 i3 => ?_)
  refine zok_bu (s_X10_clear i3) (fun σ4 i4 => ?_)
  refine zok_bu (s_X4_clear i4) (fun σ5 i5 => ?_)
  refine zok_bu (s_X5_clear i5) (fun σ6 i6 => ?_)
  exact zok_some i6
theorem s_X11_load_28 {σ : zSt} (hσ : zPC σ) {x1 : Int32} (h_x1 : zr (0) (2) x1) : zok (fX11_load_28 σ x1) (zPi σ (fun v : Int32 => zr (0) (2) v)) := by
  unfold fX11_load_28
  exact zok_spi h_x1
theorem s_X11_load {G : Nat → Int} {σ : zSt} (hσ : zEC [0, 1] G σ) : zok (fX11_load σ ) (zAi (zEC [0, 1] G) (fun v : Int32 => zr (0) (2) v)) := by
  unfold fX11_load
  refine zok_ai (hσ.uEi (by decide) (fun G1 hG => s_X2_takeTape hG)) (fun σ1 v2 i1 h2 => ?_)
  refine zok_if (fun q3 => ?_) (fun q3 => ?_)
  · have h4 := zc_eql (0) (0) q3 h2 (zr_c (lo := 0) (hi := 0) (by decide)) (by decide)
    refine zok_bu (i1.upu (fun G1 hG => s_X2_clearRam hG)) (fun σ3 i5 => ?_)
    refine zok_bu (i5.upu (fun G1 hG => s_X11_clearAll hG)) (fun σ4 i6 => ?_)
    refine zok_ck rfl ?_
    refine zok_bs (i6.wi 11 11 (by decide) (zr_c (lo := 0) (hi := 0) (by decide)) (by decide +kernel)) (fun σ5 e8 i7 => ?_)
    exact zok_pai i7 (s_X11_load_28 i7.P (zr_w h4 (by decide)))
  have h9 := zc_nel (1) (2) q3 h2 (zr_c (lo := 0) (hi := 0) (by decide)) (by decide)
  exact zok_pai i1 (s_X11_load_28 i1.P (zr_w h9 (by decide)))
theorem s_X11_endLine_62 {σ : zSt} (hσ : zPC σ) : zok (fX11_endLine_62 σ ) (zPu σ) := by
  unfold fX11_endLine_62
  exact zok_spu
theorem s_X11_endLine_26 {G : Nat → Int} {σ : zSt} (hσ : zIC G σ) : zok (fX11_endLine_26 σ ) (zIC G) := by
  unfold fX11_endLine_26
  refine zok_ai (s_X9_goesToNextLine hσ) (fun σ1 v2 i1 h2 => ?_)
  refine zok_if (fun q3 => ?_) (fun q3 => ?_)
  · have h4 := zc_eql (0) (0) q3 h2 (zr_c (lo := 0) (hi := 0) (by decide)) (by decide)
    exact zok_pau i1 (s_X11_endLine_62 i1.P)
  have h5 := zc_nel (1) (1) q3 h2 (zr_c (lo := 0) (hi := 0) (by decide)) (by decide)
  refine zok_bu (s_X0_countPicture i1) (fun σ3 i6 => ?_)
  refine zok_pl (s_X0_count i6.P (zr_w (zr_c (lo := 2) (hi := 2) (by decide)) (by decide))) (fun v5 h7 => ?_)
  refine zok_bu (s_X1_carryOutPlans i6) (fun σ6 i8 => ?_)
  exact zok_pau i8 (s_X11_endLine_62 i8.P)
theorem s_X11_endLine {G : Nat → Int} {σ : zSt} (hσ : zIC G σ) : zok (fX11_endLine σ ) (zIC G) := by
  unfold fX11_endLine
  refine zok_pi (s_X9_held hσ.P) (fun v8 h1 => ?_)
  refine zok_pi (s_X9_height hσ.P) (fun v10 h2 => ?_)
  refine zok_if (fun q3 => ?_) (fun q3 => ?_)
  · have h4 := zc_ler (192) q3 h2 zr_any (by decide)
    exact (s_X11_endLine_26 hσ)
  have h5 := zc_ltl (239) (z_nle q3) zr_any h2 (by decide)
  refine zok_bu (s_X3_draw hσ) (fun σ11 i6 => ?_)
  exact (s_X11_endLine_26 i6)
theorem s_X11_run_135 {σ : zSt} (hσ : zPC σ) {x5 : Int32} (h_x5 : zr (0) (1000000) x5) : zok (fX11_run_135 σ x5) (zPi σ (fun v : Int32 => zr (0) (1000000) v)) := by
  unfold fX11_run_135
  exact zok_spi h_x5
theorem s_X11_run_120 {G : Nat → Int} {σ : zSt} {k15 : zSt → Int32 → Int64 → Int32 → Option (zSt × Int32)} {Mk15 : Int} (hk15 : ∀ (σ : zSt) (x1 : Int32) (x3 : Int64) (x5 : Int32), zIC G σ → zr (1) (1000000) x1 → zr (0) (1000000) x5 → (1000000) - x5.toInt < Mk15 → zok (k15 σ x1 x3 x5) (zAi (zIC G) (fun v : Int32 => zr (0) (1000000) v))) (hσ : zIC G σ) {x1 : Int32} (h_x1 : zr (1) (1000000) x1) {x3 : Int64} {x5 : Int32} (h_x5 : zr (0) (999999) x5) {x7 : Int32} (h_x7 : zr (1) (31) x7) (hMk15 : (1000000) - x5.toInt ≤ Mk15) : zok (fX11_run_120 k15 σ x1 x3 x5 x7) (zAi (zIC G) (fun v : Int32 => zr (0) (1000000) v)) := by
  unfold fX11_run_120
  refine zok_bu (s_X0_pass hσ h_x7) (fun σ1 i1 => ?_)
  refine zok_br (zr_add (lo := 1) (hi := 1000000) h_x5 (zr_c (lo := 1) (hi := 1) (by decide)) (by decide)) (fun v2 e3 h2 => ?_)
  exact hk15 _ _ _ _ i1 h_x1 (zr_w h2 (by decide)) (by rw [e3]; have := z_tadd (y := (1 : Int32)) h_x5 (zr_c (lo := 1) (hi := 1) (by decide)) (by decide); have e9 : (1 : Int32).toInt = 1 := rfl; omega) 
theorem s_X11_run_104 {G : Nat → Int} {σ : zSt} {k15 : zSt → Int32 → Int64 → Int32 → Option (zSt × Int32)} {Mk15 : Int} (hk15 : ∀ (σ : zSt) (x1 : Int32) (x3 : Int64) (x5 : Int32), zIC G σ → zr (1) (1000000) x1 → zr (0) (1000000) x5 → (1000000) - x5.toInt < Mk15 → zok (k15 σ x1 x3 x5) (zAi (zIC G) (fun v : Int32 => zr (0) (1000000) v))) (hσ : zIC G σ) {x1 : Int32} (h_x1 : zr (1) (1000000) x1) {x3 : Int64} {x5 : Int32} (h_x5 : zr (0) (999999) x5) {x7 : Int32} (h_x7 : zr (1) (31) x7) (hMk15 : (1000000) - x5.toInt ≤ Mk15) : zok (fX11_run_104 k15 σ x1 x3 x5 x7) (zAi (zIC G) (fun v : Int32 => zr (0) (1000000) v)) := by
  unfold fX11_run_104
  refine zok_ai (s_X9_passes hσ h_x7) (fun σ3 v4 i1 h2 => ?_)
  refine zok_if (fun q3 => ?_) (fun q3 => ?_)
  · have h4 := zc_eql (0) (0) q3 h2 (zr_c (lo := 0) (hi := 0) (by decide)) (by decide)
    exact (s_X11_run_120 hk15 i1 h_x1 h_x5 h_x7 hMk15)
  have h5 := zc_nel (1) (1) q3 h2 (zr_c (lo := 0) (hi := 0) (by decide)) (by decide)
  refine zok_bu (s_X11_endLine i1) (fun σ5 i6 => ?_)
  exact (s_X11_run_120 hk15 i6 h_x1 h_x5 h_x7 hMk15)
theorem s_X11_run_65 {G : Nat → Int} {σ : zSt} {k15 : zSt → Int32 → Int64 → Int32 → Option (zSt × Int32)} {Mk15 : Int} (hk15 : ∀ (σ : zSt) (x1 : Int32) (x3 : Int64) (x5 : Int32), zIC G σ → zr (1) (1000000) x1 → zr (0) (1000000) x5 → (1000000) - x5.toInt < Mk15 → zok (k15 σ x1 x3 x5) (zAi (zIC G) (fun v : Int32 => zr (0) (1000000) v))) (hσ : zIC G σ) {x1 : Int32} (h_x1 : zr (1) (1000000) x1) {x3 : Int64} {x5 : Int32} (h_x5 : zr (0) (999999) x5) {x6 : Int32} (hMk15 : (1000000) - x5.toInt ≤ Mk15) : zok (fX11_run_65 k15 σ x1 x3 x5 x6) (zAi (zIC G) (fun v : Int32 => zr (0) (1000000) v)) := by
  unfold fX11_run_65
  refine zok_bu (s_X1_noteStep hσ) (fun σ6 i1 => ?_)
  refine zok_pi (s_X9_asks i1.P) (fun v8 h2 => ?_)
  refine zok_ai (s_X5_answerCalls i1 h2) (fun σ9 v10 i3 h4 => ?_)
  refine zok_if (fun q5 => ?_) (fun q5 => ?_)
  · have h6 := zc_eql (0) (0) q5 h4 (zr_c (lo := 0) (hi := 0) (by decide)) (by decide)
    refine zok_ai (s_X5_carryOn i3) (fun σ11 v12 i7 h8 => ?_)
    exact (s_X11_run_104 hk15 i7 h_x1 h_x5 (zr_w h8 (by decide)) hMk15)
  have h9 := zc_nel (1) (19) q5 h4 (zr_c (lo := 0) (hi := 0) (by decide)) (by decide)
  exact (s_X11_run_104 hk15 i3 h_x1 h_x5 (zr_w h9 (by decide)) hMk15)
theorem s_X11_run_15_body {G : Nat → Int} {σ : zSt} {k15 : zSt → Int32 → Int64 → Int32 → Option (zSt × Int32)} {Mk15 : Int} (hk15 : ∀ (σ : zSt) (x1 : Int32) (x3 : Int64) (x5 : Int32), zIC G σ → zr (1) (1000000) x1 → zr (0) (1000000) x5 → (1000000) - x5.toInt < Mk15 → zok (k15 σ x1 x3 x5) (zAi (zIC G) (fun v : Int32 => zr (0) (1000000) v))) (hσ : zIC G σ) {x1 : Int32} (h_x1 : zr (1) (1000000) x1) {x3 : Int64} {x5 : Int32} (h_x5 : zr (0) (1000000) x5) (hMk15 : (1000000) - x5.toInt ≤ Mk15) : zok (fX11_run_15_body k15 σ x1 x3 x5) (zAi (zIC G) (fun v : Int32 => zr (0) (1000000) v)) := by
  unfold fX11_run_15_body
  refine zok_if (fun q1 => ?_) (fun q1 => ?_)
  · have h2 := zc_ler (1) q1 h_x1 h_x5 (by decide)
    exact zok_pai hσ (s_X11_run_135 hσ.P (zr_w h2 (by decide)))
  have h3 := zc_ltl (999999) (z_nle q1) h_x5 h_x1 (by decide)
  refine zok_pl (s_X0_count hσ.P (zr_w (zr_c (lo := 2) (hi := 2) (by decide)) (by decide))) (fun v14 h4 => ?_)
  refine zok_if (fun q5 => ?_) (fun q5 => ?_)
  · exact zok_pai hσ (s_X11_run_135 hσ.P (zr_w h3 (by decide)))
  refine zok_pi (s_X5_value hσ.P (zr_w (zr_c (lo := 19) (hi := 19) (by decide)) (by decide))) (fun v16 h6 => ?_)
  refine zok_if (fun q7 => ?_) (fun q7 => ?_)
  · have h8 := zc_lel (0) q7 h3 (zr_c (lo := 0) (hi := 0) (by decide)) (by decide)
    exact (s_X11_run_65 hk15 hσ h_x1 (zr_w h8 (by decide)) hMk15)
  have h9 := zc_ltr (1) (z_nle q7) (zr_c (lo := 0) (hi := 0) (by decide)) h3 (by decide)
  refine zok_pi (s_X1_isStop hσ.P) (fun v18 h10 => ?_)
  refine zok_if (fun q11 => ?_) (fun q11 => ?_)
  · have h12 := zc_eql (0) (0) q11 h10 (zr_c (lo := 0) (hi := 0) (by decide)) (by decide)
    exact (s_X11_run_65 hk15 hσ h_x1 (zr_w h9 (by decide)) hMk15)
  have h13 := zc_nel (1) (1) q11 h10 (zr_c (lo := 0) (hi := 0) (by decide)) (by decide)
  exact zok_pai hσ (s_X11_run_135 hσ.P (zr_w h9 (by decide)))
theorem s_X11_run_15 {G : Nat → Int} : ∀ (n : Nat) {σ : zSt} (hσ : zIC G σ) {x1 : Int32} (h_x1 : zr (1) (1000000) x1) {x3 : Int64} {x5 : Int32} (h_x5 : zr (0) (1000000) x5) (hm : (1000000) - x5.toInt < n), zok (fX11_run_15 n σ x1 x3 x5) (zAi (zIC G) (fun v : Int32 => zr (0) (1000000) v)) := by
  intro n
  induction n with
  | zero => intro σ hσ x1 h_x1 x3 x5 h_x5 hm ; have h9 := h_x5.1; have h8 := h_x5.2; exfalso; omega
  | succ n ih => intro σ hσ x1 h_x1 x3 x5 h_x5 hm ; exact s_X11_run_15_body (fun σ x1 x3 x5 hσ h_x1 h_x5 hm1 => ih hσ h_x1 h_x5 (by omega)) hσ h_x1 h_x5 (Int.le_refl _)
theorem s_X11_run {G : Nat → Int} {σ : zSt} (hσ : zIC G σ) {x1 : Int32} (h_x1 : zr (1) (1000000) x1) {x2 : Int32} (h_x2 : zr (1) (20001) x2) : zok (fX11_run σ x1 x2) (zAi (zIC G) (fun v : Int32 => zr (0) (1000000) v)) := by
  unfold fX11_run
  refine zok_pl (s_X0_count hσ.P (zr_w (zr_c (lo := 2) (hi := 2) (by decide)) (by decide))) (fun v20 h1 => ?_)
  refine zok_bv (fun v21 e3 => ?_)
  exact (s_X11_run_15 zfuel hσ h_x1 (zr_w (zr_c (lo := 0) (hi := 0) (by decide)) (by decide)) (by decide))
theorem s_X11_reset {G : Nat → Int} {σ : zSt} (hσ : zIC G σ) : zok (fX11_reset σ ) (zIC G) := by
  unfold fX11_reset
  refine zok_bu (s_X11_clearAll hσ) (fun σ1 i1 => ?_)
  exact zok_some i1
theorem s_X11_pause_26 {σ : zSt} (hσ : zPC σ) {s0 : Int32} (h_s0 : zr (0) (1) s0) : zok (fX11_pause_26 σ s0) (zPi σ (fun v : Int32 => zr (0) (1) v)) := by
  unfold fX11_pause_26
  refine zok_ck (zbo_ok h_s0 (by decide)) ?_
  exact zok_spi h_s0
theorem s_X11_pause_14 {σ : zSt} (hσ : zPC σ) : zok (fX11_pause_14 σ ) (zPi σ (fun v : Int32 => zr (0) (1) v)) := by
  unfold fX11_pause_14
  refine zok_if (fun q1 => ?_) (fun q1 => ?_)
  · have h2 := zc_eql (0) (0) q1 zr_any (zr_c (lo := 0) (hi := 0) (by decide)) (by decide)
    exact (s_X11_pause_26 hσ (zr_w (zr_c (lo := 1) (hi := 1) (by decide)) (by decide)))
  exact (s_X11_pause_26 hσ (zr_w (zr_c (lo := 0) (hi := 0) (by decide)) (by decide)))
theorem s_X11_pause {G : Nat → Int} {σ : zSt} (hσ : zIC G σ) : zok (fX11_pause σ ) (zAi (zIC G) (fun v : Int32 => zr (0) (1) v)) := by
  unfold fX11_pause
  refine zok_if (fun q1 => ?_) (fun q1 => ?_)
  · have h2 := zc_eql (0) (0) q1 zr_any (zr_c (lo := 0) (hi := 0) (by decide)) (by decide)
    refine zok_bu (s_X5_askForPause hσ) (fun σ1 i3 => ?_)
    exact zok_pai i3 (s_X11_pause_14 i3.P)
  exact zok_pai hσ (s_X11_pause_14 hσ.P)
theorem s_X11_start {G : Nat → Int} {σ : zSt} (hσ : zIC G σ) {x1 : Int32} (h_x1 : zr (0) (1) x1) : zok (fX11_start σ x1) (zIC G) := by
  unfold fX11_start
  refine zok_bu (s_X4_holdStart hσ h_x1) (fun σ1 i1 => ?_)
  exact zok_some i1
theorem s_X11_tell {G : Nat → Int} {σ : zSt} (hσ : zIC G σ) {x1 : Int32} : zok (fX11_tell σ x1) (zAi (zIC G) (fun v : Int32 => True)) := by
  unfold fX11_tell
  refine zok_ai (s_X8_write hσ) (fun σ1 v2 i1 h2 => ?_)
  exact zok_sai i1 trivial
theorem s_X11_save {G : Nat → Int} {σ : zSt} (hσ : zEC [1] G σ) : zok (fX11_save σ ) (zEC [1] G) := by
  unfold fX11_save
  refine zok_bu (hσ.upu (fun G1 hG => s_X2_keep hG)) (fun σ1 i1 => ?_)
  refine zok_bu (i1.upu (fun G1 hG => s_X9_keep hG)) (fun σ2 i2 => ?_)
  refine zok_bu (i2.upu (fun G1 hG => s_X3_keep hG)) (fun σ3 i3 => ?_)
  refine zok_bu (i3.upu (fun G1 hG => s_X7_keep hG)) (fun σ4 i4 => ?_)
  refine zok_bu (i4.upu (fun G1 hG => s_X10_keep hG)) (fun σ5 i5 => ?_)
  refine zok_bu (i5.upu (fun G1 hG => s_X4_keep hG)) (fun σ6 i6 => ?_)
  refine zok_bu (i6.upu (fun G1 hG => s_X5_keep hG)) (fun σ7 i7 => ?_)
  refine zok_bu (i7.upu (fun G1 hG => s_X0_keep hG)) (fun σ8 i8 => ?_)
  refine zok_bu (i8.upu (fun G1 hG => s_X1_keep hG)) (fun σ9 i9 => ?_)
  refine zok_ck rfl ?_
  refine zok_bs (i9.wi 11 11 (by decide) (zr_c (lo := 1) (hi := 1) (by decide)) (by decide +kernel)) (fun σ10 e11 i10 => ?_)
  exact zok_some i10
theorem s_X11_peek {σ : zSt} (hσ : zPC σ) {x1 : Int32} : zok (fX11_peek σ x1) (zPi σ (fun v : Int32 => zr (0) (255) v)) := by
  unfold fX11_peek
  refine zok_pi (s_X2_read hσ) (fun v2 h1 => ?_)
  exact zok_spi h1
theorem s_X11_poke {G : Nat → Int} {σ : zSt} (hσ : zIC G σ) {x1 : Int32} {x2 : Int32} : zok (fX11_poke σ x1 x2) (zIC G) := by
  unfold fX11_poke
  refine zok_bu (s_X2_write hσ (zr_w (zr_andr (lo := 0) (hi := 65535) (zr_c (lo := 65535) (hi := 65535) (by decide)) (by decide)) (by decide)) (zr_andr (lo := 0) (hi := 255) (zr_c (lo := 255) (hi := 255) (by decide)) (by decide))) (fun σ1 i1 => ?_)
  exact zok_some i1
theorem s_X11_in {G : Nat → Int} {σ : zSt} (hσ : zIC G σ) {x1 : Int32} : zok (fX11_in σ x1) (zAi (zIC G) (fun v : Int32 => zr (0) (255) v)) := by
  unfold fX11_in
  refine zok_ai (s_X4_read hσ (zr_andr (lo := 0) (hi := 255) (zr_c (lo := 255) (hi := 255) (by decide)) (by decide))) (fun σ1 v2 i1 h2 => ?_)
  exact zok_sai i1 h2
theorem s_X11_out {G : Nat → Int} {σ : zSt} (hσ : zIC G σ) {x1 : Int32} {x2 : Int32} : zok (fX11_out σ x1 x2) (zIC G) := by
  unfold fX11_out
  refine zok_bu (s_X4_write hσ (zr_andr (lo := 0) (hi := 255) (zr_c (lo := 255) (hi := 255) (by decide)) (by decide)) (zr_andr (lo := 0) (hi := 255) (zr_c (lo := 255) (hi := 255) (by decide)) (by decide))) (fun σ1 i1 => ?_)
  exact zok_some i1
theorem s_X11_wipe {G : Nat → Int} {σ : zSt} (hσ : zIC G σ) : zok (fX11_wipe σ ) (zIC G) := by
  unfold fX11_wipe
  refine zok_bu (s_X2_clearBattery hσ) (fun σ1 i1 => ?_)
  exact zok_some i1
theorem s_X11_video {σ : zSt} (hσ : zPC σ) {x1 : Int32} : zok (fX11_video σ x1) (zPl σ (fun v : Int64 => True)) := by
  unfold fX11_video
  refine zok_pl (s_X9_eightFrom hσ) (fun v2 h1 => ?_)
  exact zok_spl trivial
theorem s_X11_trace {σ : zSt} (hσ : zPC σ) {x1 : Int32} : zok (fX11_trace σ x1) (zPi σ (fun v : Int32 => True)) := by
  unfold fX11_trace
  refine zok_pi (s_X1_stepBack hσ) (fun v2 h1 => ?_)
  exact zok_spi trivial
theorem s_X11_feed_11 {G : Nat → Int} {σ : zSt} (hσ : zIC G σ) : zok (fX11_feed_11 σ ) (zTi (zIC G) ([1, 2] : List Nat)) := by
  unfold fX11_feed_11
  exact zok_ti1 hσ (by decide)
theorem s_X11_feed_79 {G : Nat → Int} {σ : zSt} {k48 : zSt → Int32 → Int64 → Int64 → Int64 → Int32 → Option (zRi)} {Mk48 : Int} (hk48 : ∀ (σ : zSt) (x1 : Int32) (x2 : Int64) (x4 : Int64) (x6 : Int64) (x8 : Int32), zEC [0] G σ → zr (1) (24) x1 → zr (0) (24) x8 → (24) - x8.toInt < Mk48 → zok (k48 σ x1 x2 x4 x6 x8) (zTi (zEC [0] G) ([1, 2] : List Nat))) (hσ : zEC [0] G σ) {x1 : Int32} (h_x1 : zr (1) (24) x1) {x2 : Int64} {x4 : Int64} {x6 : Int64} {x8 : Int32} (h_x8 : zr (0) (23) x8) {s0 : Int64} (hMk48 : (24) - x8.toInt ≤ Mk48) : zok (fX11_feed_79 k48 σ x1 x2 x4 x6 x8 s0) (zTi (zEC [0] G) ([1, 2] : List Nat)) := by
  unfold fX11_feed_79
  refine zok_bu (s_X2_addToTape hσ (zr_andr (lo := 0) (hi := 255) (zr_c (lo := 255) (hi := 255) (by decide)) (by decide))) (fun σ1 i1 => ?_)
  refine zok_br (zr_add (lo := 1) (hi := 24) h_x8 (zr_c (lo := 1) (hi := 1) (by decide)) (by decide)) (fun v2 e3 h2 => ?_)
  exact hk48 _ _ _ _ _ _ i1 h_x1 (zr_w h2 (by decide)) (by rw [e3]; have := z_tadd (y := (1 : Int32)) h_x8 (zr_c (lo := 1) (hi := 1) (by decide)) (by decide); have e9 : (1 : Int32).toInt = 1 := rfl; omega) 
theorem s_X11_feed_48_body {G : Nat → Int} {σ : zSt} {k48 : zSt → Int32 → Int64 → Int64 → Int64 → Int32 → Option (zRi)} {Mk48 : Int} (hk48 : ∀ (σ : zSt) (x1 : Int32) (x2 : Int64) (x4 : Int64) (x6 : Int64) (x8 : Int32), zEC [0] G σ → zr (1) (24) x1 → zr (0) (24) x8 → (24) - x8.toInt < Mk48 → zok (k48 σ x1 x2 x4 x6 x8) (zTi (zEC [0] G) ([1, 2] : List Nat))) (hσ : zEC [0] G σ) {x1 : Int32} (h_x1 : zr (1) (24) x1) {x2 : Int64} {x4 : Int64} {x6 : Int64} {x8 : Int32} (h_x8 : zr (0) (24) x8) (hMk48 : (24) - x8.toInt ≤ Mk48) : zok (fX11_feed_48_body k48 σ x1 x2 x4 x6 x8) (zTi (zEC [0] G) ([1, 2] : List Nat)) := by
  unfold fX11_feed_48_body
  refine zok_if (fun q1 => ?_) (fun q1 => ?_)
  · have h2 := zc_ler (1) q1 h_x1 h_x8 (by decide)
    exact zok_ti0 hσ
  have h3 := zc_ltl (23) (z_nle q1) h_x8 h_x1 (by decide)
  refine zok_if (fun q4 => ?_) (fun q4 => ?_)
  · have h5 := zc_ler (8) q4 (zr_c (lo := 8) (hi := 8) (by decide)) h3 (by decide)
    refine zok_if (fun q6 => ?_) (fun q6 => ?_)
    · have h7 := zc_ler (16) q6 (zr_c (lo := 16) (hi := 16) (by decide)) h5 (by decide)
      exact (s_X11_feed_79 hk48 hσ h_x1 (zr_w h7 (by decide)) hMk48)
    have h8 := zc_ltl (15) (z_nle q6) h5 (zr_c (lo := 16) (hi := 16) (by decide)) (by decide)
    exact (s_X11_feed_79 hk48 hσ h_x1 (zr_w h8 (by decide)) hMk48)
  have h9 := zc_ltl (7) (z_nle q4) h3 (zr_c (lo := 8) (hi := 8) (by decide)) (by decide)
  exact (s_X11_feed_79 hk48 hσ h_x1 (zr_w h9 (by decide)) hMk48)
theorem s_X11_feed_48 {G : Nat → Int} : ∀ (n : Nat) {σ : zSt} (hσ : zEC [0] G σ) {x1 : Int32} (h_x1 : zr (1) (24) x1) {x2 : Int64} {x4 : Int64} {x6 : Int64} {x8 : Int32} (h_x8 : zr (0) (24) x8) (hm : (24) - x8.toInt < n), zok (fX11_feed_48 n σ x1 x2 x4 x6 x8) (zTi (zEC [0] G) ([1, 2] : List Nat)) := by
  intro n
  induction n with
  | zero => intro σ hσ x1 h_x1 x2 x4 x6 x8 h_x8 hm ; have h9 := h_x8.1; have h8 := h_x8.2; exfalso; omega
  | succ n ih => intro σ hσ x1 h_x1 x2 x4 x6 x8 h_x8 hm ; exact s_X11_feed_48_body (fun σ x1 x2 x4 x6 x8 hσ h_x1 h_x8 hm1 => ih hσ h_x1 h_x8 (by omega)) hσ h_x1 h_x8 (Int.le_refl _)
theorem s_X11_feed {G : Nat → Int} {σ : zSt} (hσ : zEC [0] G σ) {x1 : Int32} {x2 : Int64} {x4 : Int64} {x6 : Int64} : zok (fX11_feed σ x1 x2 x4 x6) (zTi (zEC [0] G) ([1, 2] : List Nat)) := by
  unfold fX11_feed
  refine zok_if (fun q1 => ?_) (fun q1 => ?_)
  · have h2 := zc_ltl (0) q1 zr_any (zr_c (lo := 1) (hi := 1) (by decide)) (by decide)
    exact (hσ.upTi (fun G1 hG => s_X11_feed_11 hG))
  have h3 := zc_ler (1) (z_nlt q1) (zr_c (lo := 1) (hi := 1) (by decide)) zr_any (by decide)
  refine zok_if (fun q4 => ?_) (fun q4 => ?_)
  · have h5 := zc_lel (24) q4 h3 (zr_c (lo := 24) (hi := 24) (by decide)) (by decide)
    refine zok_if (fun q6 => ?_) (fun q6 => ?_)
    · have h7 := zc_lel (262656) q6 (zr_add (lo := 1) (hi := 262680) (rC_0 hσ.sg _ (by decide)) h5 (by decide)) (zr_c (lo := 262656) (hi := 262656) (by decide)) (by decide)
      exact (s_X11_feed_48 zfuel hσ h5 (zr_w (zr_c (lo := 0) (hi := 0) (by decide)) (by decide)) (by decide))
    have h8 := zc_ltr (262657) (z_nle q6) (zr_c (lo := 262656) (hi := 262656) (by decide)) (zr_add (lo := 1) (hi := 262680) (rC_0 hσ.sg _ (by decide)) h5 (by decide)) (by decide)
    exact zok_ti1 hσ (by decide)
  have h9 := zc_ltr (25) (z_nle q4) (zr_c (lo := 24) (hi := 24) (by decide)) h3 (by decide)
  exact (hσ.upTi (fun G1 hG => s_X11_feed_11 hG))
theorem s_X11_grow_19 {G : Nat → Int} {σ : zSt} (hσ : zIC G σ) : zok (fX11_grow_19 σ ) (zTi (zIC G) ([1, 2] : List Nat)) := by
  unfold fX11_grow_19
  exact zok_ti1 hσ (by decide)
theorem s_X11_grow {G : Nat → Int} {σ : zSt} (hσ : zEC [0] G σ) {x1 : Int32} : zok (fX11_grow σ x1) (zTi (zEC [0] G) ([1, 2] : List Nat)) := by
  unfold fX11_grow
  refine zok_br (rC_0 hσ.sg _ (by decide)) (fun v1 e2 h1 => ?_)
  refine zok_if (fun q3 => ?_) (fun q3 => ?_)
  · have h4 := zc_ltl (262655) q3 zr_any h1 (by decide)
    exact (hσ.upTi (fun G1 hG => s_X11_grow_19 hG))
  have h5 := zc_ler (0) (z_nlt q3) h1 zr_any (by decide)
  refine zok_if (fun q6 => ?_) (fun q6 => ?_)
  · have h7 := zc_lel (262656) q6 h5 (zr_c (lo := 262656) (hi := 262656) (by decide)) (by decide)
    refine zok_if (fun q8 => ?_) (fun q8 => ?_)
    · have h9 := zc_eql (0) (0) q8 h1 (zr_c (lo := 0) (hi := 0) (by decide)) (by decide)
      exact zok_ti1 hσ (by decide)
    have h10 := zc_nel (1) (262656) q8 h1 (zr_c (lo := 0) (hi := 0) (by decide)) (by decide)
    refine zok_bu (s_X2_repeatTape hσ h7) (fun σ2 i11 => ?_)
    exact zok_ti0 i11
  have h12 := zc_ltr (262657) (z_nle q6) (zr_c (lo := 262656) (hi := 262656) (by decide)) h5 (by decide)
  exact (hσ.upTi (fun G1 hG => s_X11_grow_19 hG))
theorem s_X11_patch_18 {G : Nat → Int} {σ : zSt} (hσ : zIC G σ) : zok (fX11_patch_18 σ ) (zTu (zIC G) ([1] : List Nat)) := by
  unfold fX11_patch_18
  exact zok_tu1 hσ (by decide)
theorem s_X11_patch {G : Nat → Int} {σ : zSt} (hσ : zIC G σ) {x1 : Int32} {x2 : Int64} : zok (fX11_patch σ x1 x2) (zTu (zIC G) ([1] : List Nat)) := by
  unfold fX11_patch
  refine zok_if (fun q1 => ?_) (fun q1 => ?_)
  · have h2 := zc_ltl (-1) q1 zr_any (zr_c (lo := 0) (hi := 0) (by decide)) (by decide)
    exact (s_X11_patch_18 hσ)
  have h3 := zc_ler (0) (z_nlt q1) (zr_c (lo := 0) (hi := 0) (by decide)) zr_any (by decide)
  refine zok_if (fun q4 => ?_) (fun q4 => ?_)
  · have h5 := zc_lel (262648) q4 h3 (zr_sub (lo := -8) (hi := 262648) (rC_0 hσ.sg _ (by decide)) (zr_c (lo := 8) (hi := 8) (by decide)) (by decide)) (by decide)
    have h6 := zc_ler (0) q4 h3 (zr_sub (lo := -8) (hi := 262648) (rC_0 hσ.sg _ (by decide)) (zr_c (lo := 8) (hi := 8) (by decide)) (by decide)) (by decide)
    refine zok_bu (s_X2_changeTape hσ h5) (fun σ1 i7 => ?_)
    exact zok_tu0 i7
  exact (s_X11_patch_18 hσ)
theorem s_X11_card_10 {G : Nat → Int} {σ : zSt} (hσ : zIC G σ) : zok (fX11_card_10 σ ) (zTi (zIC G) ([1] : List Nat)) := by
  unfold fX11_card_10
  exact zok_ti1 hσ (by decide)
theorem s_X11_card {G : Nat → Int} {σ : zSt} (hσ : zIC G σ) {x1 : Int32} : zok (fX11_card σ x1) (zTi (zIC G) ([1] : List Nat)) := by
  unfold fX11_card
  refine zok_if (fun q1 => ?_) (fun q1 => ?_)
  · have h2 := zc_ltl (-1) q1 zr_any (zr_c (lo := 0) (hi := 0) (by decide)) (by decide)
    exact (s_X11_card_10 hσ)
  have h3 := zc_ler (0) (z_nlt q1) (zr_c (lo := 0) (hi := 0) (by decide)) zr_any (by decide)
  refine zok_if (fun q4 => ?_) (fun q4 => ?_)
  · have h5 := zc_lel (7) q4 h3 (zr_c (lo := 7) (hi := 7) (by decide)) (by decide)
    refine zok_pi (s_X2_aboutCard hσ.P h5) (fun v2 h6 => ?_)
    exact zok_ti0 hσ
  have h7 := zc_ltr (8) (z_nle q4) (zr_c (lo := 7) (hi := 7) (by decide)) h3 (by decide)
  exact (s_X11_card_10 hσ)
theorem s_X11_step_12 {G : Nat → Int} {σ : zSt} (hσ : zIC G σ) : zok (fX11_step_12 σ ) (zTi (zIC G) ([1] : List Nat)) := by
  unfold fX11_step_12
  exact zok_ti1 hσ (by decide)
theorem s_X11_step {G : Nat → Int} {σ : zSt} (hσ : zIC G σ) {x1 : Int32} : zok (fX11_step σ x1) (zTi (zIC G) ([1] : List Nat)) := by
  unfold fX11_step
  refine zok_if (fun q1 => ?_) (fun q1 => ?_)
  · have h2 := zc_ltl (0) q1 zr_any (zr_c (lo := 1) (hi := 1) (by decide)) (by decide)
    exact (s_X11_step_12 hσ)
  have h3 := zc_ler (1) (z_nlt q1) (zr_c (lo := 1) (hi := 1) (by decide)) zr_any (by decide)
  refine zok_if (fun q4 => ?_) (fun q4 => ?_)
  · have h5 := zc_lel (20000) q4 h3 (zr_c (lo := 20000) (hi := 20000) (by decide)) (by decide)
    refine zok_ai (s_X11_run hσ (zr_w h5 (by decide)) (zr_w (zr_add (lo := 2) (hi := 20001) h5 (zr_c (lo := 1) (hi := 1) (by decide)) (by decide)) (by decide))) (fun σ1 v2 i6 h7 => ?_)
    exact zok_ti0 i6
  have h8 := zc_ltr (20001) (z_nle q4) (zr_c (lo := 20000) (hi := 20000) (by decide)) h3 (by decide)
  exact (s_X11_step_12 hσ)
theorem s_X11_picture_10 {G : Nat → Int} {σ : zSt} (hσ : zIC G σ) : zok (fX11_picture_10 σ ) (zTi (zIC G) ([1] : List Nat)) := by
  unfold fX11_picture_10
  exact zok_ti1 hσ (by decide)
theorem s_X11_picture {G : Nat → Int} {σ : zSt} (hσ : zIC G σ) {x1 : Int32} : zok (fX11_picture σ x1) (zTi (zIC G) ([1] : List Nat)) := by
  unfold fX11_picture
  refine zok_if (fun q1 => ?_) (fun q1 => ?_)
  · have h2 := zc_ltl (0) q1 zr_any (zr_c (lo := 1) (hi := 1) (by decide)) (by decide)
    exact (s_X11_picture_10 hσ)
  have h3 := zc_ler (1) (z_nlt q1) (zr_c (lo := 1) (hi := 1) (by decide)) zr_any (by decide)
  refine zok_if (fun q4 => ?_) (fun q4 => ?_)
  · have h5 := zc_lel (3) q4 h3 (zr_c (lo := 3) (hi := 3) (by decide)) (by decide)
    refine zok_ai (s_X11_run hσ (zr_w (zr_c (lo := 1000000) (hi := 1000000) (by decide)) (by decide)) (zr_w h5 (by decide))) (fun σ1 v2 i6 h7 => ?_)
    exact zok_ti0 i6
  have h8 := zc_ltr (4) (z_nle q4) (zr_c (lo := 3) (hi := 3) (by decide)) h3 (by decide)
  exact (s_X11_picture_10 hσ)
theorem s_X11_press {G : Nat → Int} {σ : zSt} (hσ : zIC G σ) {x1 : Int32} {x2 : Int32} : zok (fX11_press σ x1 x2) (zTu (zIC G) ([1] : List Nat)) := by
  unfold fX11_press
  refine zok_pi (s_X4_canPress hσ.P) (fun v2 h1 => ?_)
  refine zok_if (fun q2 => ?_) (fun q2 => ?_)
  · have h3 := zc_eql (0) (0) q2 h1 (zr_c (lo := 0) (hi := 0) (by decide)) (by decide)
    exact zok_tu1 hσ (by decide)
  have h4 := zc_nel (1) (1) q2 h1 (zr_c (lo := 0) (hi := 0) (by decide)) (by decide)
  refine zok_bu (s_X4_holdButtons hσ) (fun σ3 i5 => ?_)
  exact zok_tu0 i5
theorem s_X11_line_9 {G : Nat → Int} {σ : zSt} (hσ : zIC G σ) : zok (fX11_line_9 σ ) (zTu (zIC G) ([1] : List Nat)) := by
  unfold fX11_line_9
  exact zok_tu1 hσ (by decide)
theorem s_X11_line {G : Nat → Int} {σ : zSt} (hσ : zIC G σ) {x1 : Int32} {x2 : Int32} (h_x2 : zr (0) (1) x2) : zok (fX11_line σ x1 x2) (zTu (zIC G) ([1] : List Nat)) := by
  unfold fX11_line
  refine zok_if (fun q1 => ?_) (fun q1 => ?_)
  · have h2 := zc_ltl (-1) q1 zr_any (zr_c (lo := 0) (hi := 0) (by decide)) (by decide)
    exact (s_X11_line_9 hσ)
  have h3 := zc_ler (0) (z_nlt q1) (zr_c (lo := 0) (hi := 0) (by decide)) zr_any (by decide)
  refine zok_if (fun q4 => ?_) (fun q4 => ?_)
  · have h5 := zc_lel (1) q4 h3 (zr_c (lo := 1) (hi := 1) (by decide)) (by decide)
    refine zok_bu (s_X4_moveLine hσ h5 h_x2) (fun σ1 i6 => ?_)
    exact zok_tu0 i6
  have h7 := zc_ltr (2) (z_nle q4) (zr_c (lo := 1) (hi := 1) (by decide)) h3 (by decide)
  exact (s_X11_line_9 hσ)
theorem s_X11_plan_19 {G : Nat → Int} {σ : zSt} (hσ : zIC G σ) : zok (fX11_plan_19 σ ) (zTi (zIC G) ([1, 2] : List Nat)) := by
  unfold fX11_plan_19
  exact zok_ti1 hσ (by decide)
theorem s_X11_plan {G : Nat → Int} {σ : zSt} (hσ : zIC G σ) {x1 : Int32} {x2 : Int32} {x3 : Int32} : zok (fX11_plan σ x1 x2 x3) (zTi (zIC G) ([1, 2] : List Nat)) := by
  unfold fX11_plan
  refine zok_pi (s_X1_leastPlan hσ.P) (fun v2 h1 => ?_)
  refine zok_if (fun q2 => ?_) (fun q2 => ?_)
  · have h3 := zc_ltl (2147483646) q2 zr_any zr_any (by decide)
    have h4 := zc_ltr (-2147483647) q2 zr_any zr_any (by decide)
    exact (s_X11_plan_19 hσ)
  refine zok_pi (s_X4_canPress hσ.P) (fun v4 h5 => ?_)
  refine zok_if (fun q6 => ?_) (fun q6 => ?_)
  · have h7 := zc_eql (0) (0) q6 h5 (zr_c (lo := 0) (hi := 0) (by decide)) (by decide)
    exact (s_X11_plan_19 hσ)
  have h8 := zc_nel (1) (1) q6 h5 (zr_c (lo := 0) (hi := 0) (by decide)) (by decide)
  refine zok_pi (s_X1_plansWaiting hσ.P) (fun v6 h9 => ?_)
  refine zok_if (fun q10 => ?_) (fun q10 => ?_)
  · have h11 := zc_ltl (255) q10 zr_any (zr_c (lo := 256) (hi := 256) (by decide)) (by decide)
    refine zok_ai (s_X1_addPlan hσ) (fun σ7 v8 i12 h13 => ?_)
    exact zok_ti0 i12
  have h14 := zc_ler (256) (z_nlt q10) (zr_c (lo := 256) (hi := 256) (by decide)) zr_any (by decide)
  exact zok_ti1 hσ (by decide)
theorem s_X11_text_15 {G : Nat → Int} {σ : zSt} (hσ : zIC G σ) : zok (fX11_text_15 σ ) (zTl (zIC G) ([3] : List Nat)) := by
  unfold fX11_text_15
  exact zok_tl1 hσ (by decide)
theorem s_X11_text {G : Nat → Int} {σ : zSt} (hσ : zIC G σ) {x1 : Int32} : zok (fX11_text σ x1) (zTl (zIC G) ([3] : List Nat)) := by
  unfold fX11_text
  refine zok_if (fun q1 => ?_) (fun q1 => ?_)
  · have h2 := zc_ltl (-1) q1 zr_any (zr_c (lo := 0) (hi := 0) (by decide)) (by decide)
    exact (s_X11_text_15 hσ)
  have h3 := zc_ler (0) (z_nlt q1) (zr_c (lo := 0) (hi := 0) (by decide)) zr_any (by decide)
  refine zok_if (fun q4 => ?_) (fun q4 => ?_)
  · have h5 := zc_ltl (31) q4 h3 (rC_9 hσ.sg _ (by decide)) (by decide)
    have h6 := zc_ltr (1) q4 h3 (rC_9 hσ.sg _ (by decide)) (by decide)
    refine zok_pl (s_X8_eightFrom hσ.P h5) (fun v2 h7 => ?_)
    exact zok_tl0 hσ
  exact (s_X11_text_15 hσ)
theorem s_X11_stop_10 {G : Nat → Int} {σ : zSt} (hσ : zIC G σ) : zok (fX11_stop_10 σ ) (zTi (zIC G) ([1, 2] : List Nat)) := by
  unfold fX11_stop_10
  exact zok_ti1 hσ (by decide)
theorem s_X11_stop {G : Nat → Int} {σ : zSt} (hσ : zIC G σ) {x1 : Int32} {x2 : Int32} (h_x2 : zr (0) (1) x2) : zok (fX11_stop σ x1 x2) (zTi (zIC G) ([1, 2] : List Nat)) := by
  unfold fX11_stop
  refine zok_if (fun q1 => ?_) (fun q1 => ?_)
  · have h2 := zc_ltl (-1) q1 zr_any (zr_c (lo := 0) (hi := 0) (by decide)) (by decide)
    exact (s_X11_stop_10 hσ)
  have h3 := zc_ler (0) (z_nlt q1) (zr_c (lo := 0) (hi := 0) (by decide)) zr_any (by decide)
  refine zok_if (fun q4 => ?_) (fun q4 => ?_)
  · have h5 := zc_lel (65535) q4 h3 (zr_c (lo := 65535) (hi := 65535) (by decide)) (by decide)
    refine zok_pi (s_X1_stopsBeside hσ.P h5) (fun v2 h6 => ?_)
    refine zok_if (fun q7 => ?_) (fun q7 => ?_)
    · have h8 := zc_ltl (7) q7 h6 (zr_c (lo := 8) (hi := 8) (by decide)) (by decide)
      refine zok_ai (s_X1_changeStop hσ h5 h_x2) (fun σ3 v4 i9 h10 => ?_)
      exact zok_ti0 i9
    have h11 := zc_ler (8) (z_nlt q7) (zr_c (lo := 8) (hi := 8) (by decide)) h6 (by decide)
    exact zok_ti1 hσ (by decide)
  have h12 := zc_ltr (65536) (z_nle q4) (zr_c (lo := 65535) (hi := 65535) (by decide)) h3 (by decide)
  exact (s_X11_stop_10 hσ)
theorem s_X11_restore {G : Nat → Int} {σ : zSt} (hσ : zIC G σ) : zok (fX11_restore σ ) (zTu (zIC G) ([2] : List Nat)) := by
  unfold fX11_restore
  refine zok_if (fun q1 => ?_) (fun q1 => ?_)
  · have h2 := zc_eql (0) (0) q1 zr_any (zr_c (lo := 0) (hi := 0) (by decide)) (by decide)
    exact zok_tu1 hσ (by decide)
  refine zok_bu (s_X2_bringBack hσ) (fun σ1 i3 => ?_)
  refine zok_bu (s_X9_bringBack i3) (fun σ2 i4 => ?_)
  refine zok_bu (s_X3_bringBack i4) (fun σ3 i5 => ?_)
  refine zok_bu (s_X7_bringBack i5) (fun σ4 i6 => ?_)
  refine zok_bu (s_X10_bringBack i6) (fun σ5 i7 => ?_)
  refine zok_bu (s_X4_bringBack i7) (fun σ6 i8 => ?_)
  refine zok_bu (s_X5_bringBack i8) (fun σ7 i9 => ?_)
  refine zok_bu (s_X0_bringBack i9) (fun σ8 i10 => ?_)
  refine zok_bu (s_X1_bringBack i10) (fun σ9 i11 => ?_)
  exact zok_tu0 i11
theorem s_X11_register_10 {G : Nat → Int} {σ : zSt} (hσ : zIC G σ) : zok (fX11_register_10 σ ) (zTi (zIC G) ([1] : List Nat)) := by
  unfold fX11_register_10
  exact zok_ti1 hσ (by decide)
theorem s_X11_register {G : Nat → Int} {σ : zSt} (hσ : zIC G σ) {x1 : Int32} : zok (fX11_register σ x1) (zTi (zIC G) ([1] : List Nat)) := by
  unfold fX11_register
  refine zok_if (fun q1 => ?_) (fun q1 => ?_)
  · have h2 := zc_ltl (-1) q1 zr_any (zr_c (lo := 0) (hi := 0) (by decide)) (by decide)
    exact (s_X11_register_10 hσ)
  have h3 := zc_ler (0) (z_nlt q1) (zr_c (lo := 0) (hi := 0) (by decide)) zr_any (by decide)
  refine zok_if (fun q4 => ?_) (fun q4 => ?_)
  · have h5 := zc_lel (26) q4 h3 (zr_c (lo := 26) (hi := 26) (by decide)) (by decide)
    refine zok_pi (s_X5_value hσ.P (zr_w h5 (by decide))) (fun v2 h6 => ?_)
    exact zok_ti0 hσ
  have h7 := zc_ltr (27) (z_nle q4) (zr_c (lo := 26) (hi := 26) (by decide)) h3 (by decide)
  exact (s_X11_register_10 hσ)
theorem s_X11_set_10 {G : Nat → Int} {σ : zSt} (hσ : zIC G σ) : zok (fX11_set_10 σ ) (zTu (zIC G) ([1] : List Nat)) := by
  unfold fX11_set_10
  exact zok_tu1 hσ (by decide)
theorem s_X11_set {G : Nat → Int} {σ : zSt} (hσ : zIC G σ) {x1 : Int32} {x2 : Int32} : zok (fX11_set σ x1 x2) (zTu (zIC G) ([1] : List Nat)) := by
  unfold fX11_set
  refine zok_if (fun q1 => ?_) (fun q1 => ?_)
  · have h2 := zc_ltl (-1) q1 zr_any (zr_c (lo := 0) (hi := 0) (by decide)) (by decide)
    exact (s_X11_set_10 hσ)
  have h3 := zc_ler (0) (z_nlt q1) (zr_c (lo := 0) (hi := 0) (by decide)) zr_any (by decide)
  refine zok_if (fun q4 => ?_) (fun q4 => ?_)
  · have h5 := zc_lel (25) q4 h3 (zr_c (lo := 25) (hi := 25) (by decide)) (by decide)
    refine zok_bu (s_X5_change hσ h5) (fun σ1 i6 => ?_)
    exact zok_tu0 i6
  have h7 := zc_ltr (26) (z_nle q4) (zr_c (lo := 25) (hi := 25) (by decide)) h3 (by decide)
  exact (s_X11_set_10 hσ)
theorem s_X11_battery_11 {G : Nat → Int} {σ : zSt} (hσ : zIC G σ) : zok (fX11_battery_11 σ ) (zTi (zIC G) ([3] : List Nat)) := by
  unfold fX11_battery_11
  exact zok_ti1 hσ (by decide)
theorem s_X11_battery {G : Nat → Int} {σ : zSt} (hσ : zIC G σ) {x1 : Int32} : zok (fX11_battery σ x1) (zTi (zIC G) ([3] : List Nat)) := by
  unfold fX11_battery
  refine zok_if (fun q1 => ?_) (fun q1 => ?_)
  · have h2 := zc_ltl (-1) q1 zr_any (zr_c (lo := 0) (hi := 0) (by decide)) (by decide)
    exact (s_X11_battery_11 hσ)
  have h3 := zc_ler (0) (z_nlt q1) (zr_c (lo := 0) (hi := 0) (by decide)) zr_any (by decide)
  refine zok_if (fun q4 => ?_) (fun q4 => ?_)
  · have h5 := zc_ltl (32767) q4 h3 (zr_c (lo := 32768) (hi := 32768) (by decide)) (by decide)
    refine zok_pi (s_X2_batteryByte hσ.P h5) (fun v2 h6 => ?_)
    exact zok_ti0 hσ
  have h7 := zc_ler (32768) (z_nlt q4) (zr_c (lo := 32768) (hi := 32768) (by decide)) h3 (by decide)
  exact (s_X11_battery_11 hσ)
theorem s_X11_chip {G : Nat → Int} {σ : zSt} (hσ : zIC G σ) {x1 : Int32} : zok (fX11_chip σ x1) (zTi (zIC G) ([1] : List Nat)) := by
  unfold fX11_chip
  refine zok_pi (s_X9_has hσ.P) (fun v2 h1 => ?_)
  refine zok_if (fun q2 => ?_) (fun q2 => ?_)
  · have h3 := zc_eql (0) (0) q2 h1 (zr_c (lo := 0) (hi := 0) (by decide)) (by decide)
    exact zok_ti1 hσ (by decide)
  have h4 := zc_nel (1) (1) q2 h1 (zr_c (lo := 0) (hi := 0) (by decide)) (by decide)
  refine zok_pi (s_X9_value hσ.P) (fun v4 h5 => ?_)
  exact zok_ti0 hσ
theorem s_X11_dot_30 {G : Nat → Int} {σ : zSt} (hσ : zIC G σ) : zok (fX11_dot_30 σ ) (zTi (zIC G) ([3] : List Nat)) := by
  unfold fX11_dot_30
  exact zok_ti1 hσ (by decide)
theorem s_X11_dot {G : Nat → Int} {σ : zSt} (hσ : zIC G σ) {x1 : Int32} {x2 : Int32} : zok (fX11_dot σ x1 x2) (zTi (zIC G) ([3] : List Nat)) := by
  unfold fX11_dot
  refine zok_if (fun q1 => ?_) (fun q1 => ?_)
  · have h2 := zc_ltl (-1) q1 zr_any (zr_c (lo := 0) (hi := 0) (by decide)) (by decide)
    exact (s_X11_dot_30 hσ)
  have h3 := zc_ler (0) (z_nlt q1) (zr_c (lo := 0) (hi := 0) (by decide)) zr_any (by decide)
  refine zok_pi (s_X3_width hσ.P) (fun v2 h4 => ?_)
  refine zok_if (fun q5 => ?_) (fun q5 => ?_)
  · have h6 := zc_ler (160) q5 h4 h3 (by decide)
    exact (s_X11_dot_30 hσ)
  have h7 := zc_ltl (255) (z_nle q5) h3 h4 (by decide)
  refine zok_if (fun q8 => ?_) (fun q8 => ?_)
  · have h9 := zc_ltl (-1) q8 zr_any (zr_c (lo := 0) (hi := 0) (by decide)) (by decide)
    exact (s_X11_dot_30 hσ)
  have h10 := zc_ler (0) (z_nlt q8) (zr_c (lo := 0) (hi := 0) (by decide)) zr_any (by decide)
  refine zok_pi (s_X3_height hσ.P) (fun v4 h11 => ?_)
  refine zok_if (fun q12 => ?_) (fun q12 => ?_)
  · have h13 := zc_ltl (239) q12 h10 h11 (by decide)
    refine zok_pi (s_X3_dotAt hσ.P h7 h13) (fun v6 h14 => ?_)
    exact zok_ti0 hσ
  have h15 := zc_ler (144) (z_nlt q12) h11 h10 (by decide)
  exact (s_X11_dot_30 hσ)
theorem s_X11_row_15 {G : Nat → Int} {σ : zSt} (hσ : zIC G σ) : zok (fX11_row_15 σ ) (zTi (zIC G) ([3] : List Nat)) := by
  unfold fX11_row_15
  exact zok_ti1 hσ (by decide)
