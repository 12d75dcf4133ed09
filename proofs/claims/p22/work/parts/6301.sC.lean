section ZJN0
theorem s_X1_keep {G : Nat → Int} {σ : zSt} (hσ : zIC G σ) : zok (fX1_keep σ ) (zIC G) := by
  unfold fX1_keep
  refine zok_ck (by decide) ?_
  refine zok_bs (hσ.wc (by decide +kernel) rfl rfl) (fun σ1 e2 i1 => ?_)
  refine zok_ck (by decide) ?_
  refine zok_bs (i1.wc (by decide +kernel) rfl rfl) (fun σ2 e4 i3 => ?_)
  exact zok_some i3
theorem s_X1_bringBack {G : Nat → Int} {σ : zSt} (hσ : zIC G σ) : zok (fX1_bringBack σ ) (zIC G) := by
  unfold fX1_bringBack
  refine zok_ck (by decide) ?_
  refine zok_bs (hσ.wc (by decide +kernel) rfl rfl) (fun σ1 e2 i1 => ?_)
  refine zok_ck (by decide) ?_
  refine zok_bs (i1.wc (by decide +kernel) rfl rfl) (fun σ2 e4 i3 => ?_)
  exact zok_some i3
theorem s_X1_noteStep {G : Nat → Int} {σ : zSt} (hσ : zIC G σ) {x1 : Int32} : zok (fX1_noteStep σ x1) (zIC G) := by
  unfold fX1_noteStep
  refine zok_ck (zin_ok (zr_andr (lo := 0) (hi := 31) (zr_c (lo := 31) (hi := 31) (by decide)) (by decide)) (by decide)) ?_
  refine zok_bs (hσ.wk (by decide)) (fun σ1 e2 i1 => ?_)
  refine zok_bs (i1.wk (by decide)) (fun σ2 e4 i3 => ?_)
  exact zok_some i3
theorem s_X1_stepBack_30 {σ : zSt} (hσ : zPC σ) {s0 : Int32} : zok (fX1_stepBack_30 σ s0) (zPi σ (fun v : Int32 => True)) := by
  unfold fX1_stepBack_30
  exact zok_spi trivial
theorem s_X1_stepBack_10 {σ : zSt} (hσ : zPC σ) : zok (fX1_stepBack_10 σ ) (zPi σ (fun v : Int32 => True)) := by
  unfold fX1_stepBack_10
  exact (s_X1_stepBack_30 hσ)
theorem s_X1_stepBack {σ : zSt} (hσ : zPC σ) {x1 : Int32} : zok (fX1_stepBack σ x1) (zPi σ (fun v : Int32 => True)) := by
  unfold fX1_stepBack
  refine zok_if (fun q1 => ?_) (fun q1 => ?_)
  · have h2 := zc_ltl (-1) q1 zr_any (zr_c (lo := 0) (hi := 0) (by decide)) (by decide)
    exact (s_X1_stepBack_10 hσ)
  have h3 := zc_ler (0) (z_nlt q1) (zr_c (lo := 0) (hi := 0) (by decide)) zr_any (by decide)
  refine zok_if (fun q4 => ?_) (fun q4 => ?_)
  · have h5 := zc_ltl (31) q4 h3 (zr_c (lo := 32) (hi := 32) (by decide)) (by decide)
    refine zok_ck (zin_ok (zr_andr (lo := 0) (hi := 31) (zr_c (lo := 31) (hi := 31) (by decide)) (by decide)) (by decide)) ?_
    exact (s_X1_stepBack_30 hσ)
  have h6 := zc_ler (32) (z_nlt q4) (zr_c (lo := 32) (hi := 32) (by decide)) h3 (by decide)
  exact (s_X1_stepBack_10 hσ)
theorem s_X1_stopCount {σ : zSt} (hσ : zPC σ) : zok (fX1_stopCount σ ) (zPi σ (fun v : Int32 => zr (0) (8) v)) := by
  unfold fX1_stopCount
  refine zok_ck rfl ?_
  exact zok_spi (rC_7 hσ.sg _ (by decide))
theorem s_X1_placeOfStop_37 {σ : zSt} (hσ : zPC σ) : zok (fX1_placeOfStop_37 σ ) (zPi σ (fun v : Int32 => zr (-1) (7) v)) := by
  unfold fX1_placeOfStop_37
  exact zok_spi (zr_w (zr_c (lo := -1) (hi := -1) (by decide)) (by decide))
theorem s_X1_placeOfStop_2_body {σ : zSt} {k2 : zSt → Int32 → Int32 → Option (zSt × Int32)} {Mk2 : Int} (hk2 : ∀ (x1 : Int32) (x2 : Int32), zr (0) (8) x2 → (8) - x2.toInt < Mk2 → zok (k2 σ x1 x2) (zPi σ (fun v : Int32 => zr (-1) (7) v))) (hσ : zPC σ) {x1 : Int32} {x2 : Int32} (h_x2 : zr (0) (8) x2) (hMk2 : (8) - x2.toInt ≤ Mk2) : zok (fX1_placeOfStop_2_body k2 σ x1 x2) (zPi σ (fun v : Int32 => zr (-1) (7) v)) := by
  unfold fX1_placeOfStop_2_body
  refine zok_if (fun q1 => ?_) (fun q1 => ?_)
  · have h2 := zc_ler (8) q1 (zr_c (lo := 8) (hi := 8) (by decide)) h_x2 (by decide)
    exact (s_X1_placeOfStop_37 hσ)
  have h3 := zc_ltl (7) (z_nle q1) h_x2 (zr_c (lo := 8) (hi := 8) (by decide)) (by decide)
  refine zok_ck rfl ?_
  refine zok_if (fun q4 => ?_) (fun q4 => ?_)
  · have h5 := zc_lel (7) q4 (rC_7 hσ.sg _ (by decide)) h3 (by decide)
    exact (s_X1_placeOfStop_37 hσ)
  have h6 := zc_ltr (1) (z_nle q4) h3 (rC_7 hσ.sg _ (by decide)) (by decide)
  refine zok_ck (zin_ok h3 (by decide)) ?_
  refine zok_if (fun q7 => ?_) (fun q7 => ?_)
  · exact zok_spi (zr_w h3 (by decide))
  refine zok_br (zr_add (lo := 1) (hi := 8) h3 (zr_c (lo := 1) (hi := 1) (by decide)) (by decide)) (fun v1 e9 h8 => ?_)
  exact hk2 _ _  (zr_w h8 (by decide)) (by rw [e9]; have := z_tadd (y := (1 : Int32)) h3 (zr_c (lo := 1) (hi := 1) (by decide)) (by decide); have e9 : (1 : Int32).toInt = 1 := rfl; omega) 
theorem s_X1_placeOfStop_2 {σ : zSt} (hσ : zPC σ) : ∀ (n : Nat) {x1 : Int32} {x2 : Int32} (h_x2 : zr (0) (8) x2) (hm : (8) - x2.toInt < n), zok (fX1_placeOfStop_2 n σ x1 x2) (zPi σ (fun v : Int32 => zr (-1) (7) v)) := by
  intro n
  induction n with
  | zero => intro x1 x2 h_x2 hm ; have h9 := h_x2.1; have h8 := h_x2.2; exfalso; omega
  | succ n ih => intro x1 x2 h_x2 hm ; exact s_X1_placeOfStop_2_body (fun x1 x2 h_x2 hm1 => ih h_x2 (by omega)) hσ h_x2 (Int.le_refl _)
theorem s_X1_placeOfStop {σ : zSt} (hσ : zPC σ) {x1 : Int32} : zok (fX1_placeOfStop σ x1) (zPi σ (fun v : Int32 => zr (-1) (7) v)) := by
  unfold fX1_placeOfStop
  exact (s_X1_placeOfStop_2 hσ zfuel (zr_w (zr_c (lo := 0) (hi := 0) (by decide)) (by decide)) (by decide))
theorem s_X1_isStop_13 {σ : zSt} (hσ : zPC σ) {s0 : Int32} (h_s0 : zr (0) (1) s0) : zok (fX1_isStop_13 σ s0) (zPi σ (fun v : Int32 => zr (0) (1) v)) := by
  unfold fX1_isStop_13
  refine zok_ck (zbo_ok h_s0 (by decide)) ?_
  exact zok_spi h_s0
theorem s_X1_isStop {σ : zSt} (hσ : zPC σ) {x1 : Int32} : zok (fX1_isStop σ x1) (zPi σ (fun v : Int32 => zr (0) (1) v)) := by
  unfold fX1_isStop
  refine zok_pi (s_X1_placeOfStop hσ) (fun v2 h1 => ?_)
  refine zok_if (fun q2 => ?_) (fun q2 => ?_)
  · have h3 := zc_ltl (-1) q2 h1 (zr_c (lo := 0) (hi := 0) (by decide)) (by decide)
    exact (s_X1_isStop_13 hσ (zr_w (zr_c (lo := 0) (hi := 0) (by decide)) (by decide)))
  have h4 := zc_ler (0) (z_nlt q2) (zr_c (lo := 0) (hi := 0) (by decide)) h1 (by decide)
  exact (s_X1_isStop_13 hσ (zr_w (zr_c (lo := 1) (hi := 1) (by decide)) (by decide)))
theorem s_X1_stopsBeside_20 {σ : zSt} (hσ : zPC σ) {s0 : Int32} (h_s0 : zr (0) (1) s0) {s1 : Int32} (h_s1 : zr (0) (8) s1) : zok (fX1_stopsBeside_20 σ s0 s1) (zPi σ (fun v : Int32 => zr (-1) (8) v)) := by
  unfold fX1_stopsBeside_20
  exact zok_spi (zr_sub (lo := -1) (hi := 8) h_s1 h_s0 (by decide))
theorem s_X1_stopsBeside {σ : zSt} (hσ : zPC σ) {x1 : Int32} (h_x1 : zr (0) (65535) x1) : zok (fX1_stopsBeside σ x1) (zPi σ (fun v : Int32 => zr (-1) (8) v)) := by
  unfold fX1_stopsBeside
  refine zok_ck rfl ?_
  refine zok_pi (s_X1_isStop hσ) (fun v2 h1 => ?_)
  refine zok_if (fun q2 => ?_) (fun q2 => ?_)
  · have h3 := zc_eql (0) (0) q2 h1 (zr_c (lo := 0) (hi := 0) (by decide)) (by decide)
    exact (s_X1_stopsBeside_20 hσ (zr_w (zr_c (lo := 0) (hi := 0) (by decide)) (by decide)) (rC_7 hσ.sg _ (by decide)))
  have h4 := zc_nel (1) (1) q2 h1 (zr_c (lo := 0) (hi := 0) (by decide)) (by decide)
  exact (s_X1_stopsBeside_20 hσ (zr_w (zr_c (lo := 1) (hi := 1) (by decide)) (by decide)) (rC_7 hσ.sg _ (by decide)))
theorem s_X1_changeStop_87 {σ : zSt} (hσ : zPC σ) : zok (fX1_changeStop_87 σ ) (zPi σ (fun v : Int32 => zr (0) (8) v)) := by
  unfold fX1_changeStop_87
  refine zok_ck rfl ?_
  exact zok_spi (rC_7 hσ.sg _ (by decide))
theorem s_placeOfStop_h {σ : zSt} (hσ : zPC σ) {x1 : Int32} : ∀ (n : Nat) {x2 : Int32} (h_x2 : zr 0 8 x2) (hm : 8 - x2.toInt < n), zok (fX1_placeOfStop_2 n σ x1 x2) (zPi σ (fun v : Int32 => v.toInt = -1 ∨ (0 ≤ v.toInt ∧ v.toInt < 8 ∧ v.toInt < (zgi σ 40 8).toInt))) := by
  intro n
  induction n with
  | zero => intro x2 h_x2 hm; have := h_x2.2; exfalso; omega
  | succ n ih =>
    intro x2 h_x2 hm
    show zok (fX1_placeOfStop_2_body (fX1_placeOfStop_2 n) σ x1 x2) _
    unfold fX1_placeOfStop_2_body fX1_placeOfStop_37
    have c8 : (8 : Int32).toInt = 8 := rfl
    have c1 : (1 : Int32).toInt = 1 := rfl
    refine zok_if (fun q => zok_spi (Or.inl rfl)) (fun q => ?_)
    have q1 := Int32.lt_iff_toInt_lt.mp (z_nle q)
    have hx : zr 0 7 x2 := ⟨h_x2.1, by omega⟩
    refine zok_ck rfl ?_
    refine zok_if (fun q => zok_spi (Or.inl rfl)) (fun q2 => ?_)
    have q3 := Int32.lt_iff_toInt_lt.mp (z_nle q2)
    refine zok_ck (zin_ok hx (by decide)) ?_
    refine zok_if (fun q => zok_spi (Or.inr ⟨hx.1, by omega, q3⟩)) (fun q => ?_)
    have e1 := z_tadd hx (zr_c (lo := 1) (hi := 1) (x := 1) (by decide)) (by decide)
    refine zok_bv (fun v1 ev => ih ?_ ?_)
    · subst ev; have := hx.1; exact ⟨by omega, by omega⟩
    · subst ev; omega
theorem s_changeStop_87 {G : Nat → Int} {σ : zSt} (hσ : zIC G σ) : zok (fX1_changeStop_87 σ) (zAi (zIC G) (fun v : Int32 => zr (0) (8) v)) := by
  unfold fX1_changeStop_87
  refine zok_ck rfl ?_
  exact zok_sai hσ (rC_7 hσ.sg _ (by decide))
theorem s_X1_changeStop {G : Nat → Int} {σ : zSt} (hσ : zIC G σ) {x1 : Int32} (h_x1 : zr (0) (65535) x1) {x2 : Int32} (h_x2 : zr (0) (1) x2) : zok (fX1_changeStop σ x1 x2) (zAi (zIC G) (fun v : Int32 => zr (0) (8) v)) := by
  unfold fX1_changeStop
  refine zok_ck rfl ?_
  have h8 := rC_7 hσ.sg 8 (by decide)
  refine zok_bv (fun v3 e3 => ?_)
  have h3 : zr 0 8 v3 := by rw [e3]; exact h8
  have hp : zok (fX1_placeOfStop σ x1) (zPi σ (fun v : Int32 => v.toInt = -1 ∨ (0 ≤ v.toInt ∧ v.toInt < 8 ∧ v.toInt < (zgi σ 40 8).toInt))) := s_placeOfStop_h hσ.P zfuel (zr_c (by decide)) (by decide)
  refine zok_pi hp (fun v5 h5 => ?_)
  have c0 : (0 : Int32).toInt = 0 := rfl
  have c1 : (1 : Int32).toInt = 1 := rfl
  have ev3 : v3.toInt = (zgi σ 40 8).toInt := by rw [e3]; rfl
  have k50 : zok (fX1_changeStop_50 σ x2 v3 v5) (zAi (zIC G) (fun v : Int32 => zr (0) (8) v)) := by
    unfold fX1_changeStop_50
    refine zok_if (fun q => ?_) (fun q => s_changeStop_87 hσ)
    refine zok_if (fun q => s_changeStop_87 hσ) (fun q => ?_)
    have q1 := Int32.le_iff_toInt_le.mp (z_nlt q)
    have h6 : zr 0 7 v5 := by rcases h5 with h5 | h5 <;> exact ⟨by omega, by omega⟩
    have h7 : zr 1 8 v3 := ⟨by rcases h5 with h5 | h5 <;> omega, h3.2⟩
    have h9 := zr_sub (lo := 0) (hi := 7) h7 (zr_c (lo := 1) (hi := 1) (x := 1) (by decide)) (by decide)
    refine zok_ck (zin_ok (zr_andr (lo := 0) (hi := 7) (y := 7) (zr_c (lo := 7) (hi := 7) (by decide)) (by decide)) (by decide)) ?_
    refine zok_ck (zin_ok h6 (by decide)) ?_
    refine zok_bs (hσ.wi 0 7 (z_ix h6 (by decide)) zr_any (by decide +kernel)) (fun σ1 e1 i1 => ?_)
    refine zok_ck rfl ?_
    refine zok_bs (i1.wi 8 8 (by decide) h9 (by decide +kernel)) (fun σ2 e2 i2 => ?_)
    exact s_changeStop_87 i2
  refine zok_if (fun q => k50) (fun q => ?_)
  refine zok_if (fun q => k50) (fun q => ?_)
  refine zok_if (fun q => k50) (fun q => ?_)
  have c8 : (8 : Int32).toInt = 8 := rfl
  have q1 := Int32.lt_iff_toInt_lt.mp (z_nle q)
  have h7 : zr 0 7 v3 := ⟨h3.1, by omega⟩
  refine zok_ck (zin_ok h7 (by decide)) ?_
  refine zok_bs (hσ.wi 0 7 (z_ix h7 (by decide)) zr_any (by decide +kernel)) (fun σ1 e1 i1 => ?_)
  refine zok_ck rfl ?_
  refine zok_bs (i1.wi 8 8 (by decide) (zr_add (lo := 1) (hi := 8) h7 (zr_c (lo := 1) (hi := 1) (x := 1) (by decide)) (by decide)) (by decide +kernel)) (fun σ2 e2 i2 => ?_)
  exact s_changeStop_87 i2
theorem s_X1_plansWaiting {σ : zSt} (hσ : zPC σ) : zok (fX1_plansWaiting σ ) (zPi σ (fun v : Int32 => True)) := by
  unfold fX1_plansWaiting
  refine zok_ck rfl ?_
  exact zok_spi trivial
theorem s_X1_placeOfPlan {σ : zSt} (hσ : zPC σ) {x1 : Int32} : zok (fX1_placeOfPlan σ x1) (zPi σ (fun v : Int32 => zr (0) (765) v)) := by
  unfold fX1_placeOfPlan
  refine zok_ck rfl ?_
  exact zok_spi (zr_mul (lo := 0) (hi := 765) (zr_c (lo := 3) (hi := 3) (by decide)) (zr_andr (lo := 0) (hi := 255) (zr_c (lo := 255) (hi := 255) (by decide)) (by decide)) (by decide))
theorem s_X1_leastPlan_34 {σ : zSt} (hσ : zPC σ) {s0 : Int32} : zok (fX1_leastPlan_34 σ s0) (zPi σ (fun v : Int32 => True)) := by
  unfold fX1_leastPlan_34
  exact zok_spi trivial
theorem s_X1_leastPlan {σ : zSt} (hσ : zPC σ) : zok (fX1_leastPlan σ ) (zPi σ (fun v : Int32 => True)) := by
  unfold fX1_leastPlan
  refine zok_ck rfl ?_
  refine zok_if (fun q1 => ?_) (fun q1 => ?_)
  · have h2 := zc_eql (0) (0) q1 zr_any (zr_c (lo := 0) (hi := 0) (by decide)) (by decide)
    exact (s_X1_leastPlan_34 hσ)
  refine zok_ck rfl ?_
  refine zok_pi (s_X1_placeOfPlan hσ) (fun v2 h3 => ?_)
  refine zok_ck (zin_ok h3 (by decide)) ?_
  exact (s_X1_leastPlan_34 hσ)
theorem s_X1_addPlan {G : Nat → Int} {σ : zSt} (hσ : zIC G σ) {x1 : Int32} {x2 : Int32} {x3 : Int32} : zok (fX1_addPlan σ x1 x2 x3) (zAi (zIC G) (fun v : Int32 => True)) := by
  unfold fX1_addPlan
  refine zok_ck rfl ?_
  refine zok_pi (s_X1_placeOfPlan hσ.P) (fun v2 h1 => ?_)
  refine zok_ck (zin_ok h1 (by decide)) ?_
  refine zok_bs (hσ.wk (by decide)) (fun σ3 e3 i2 => ?_)
  refine zok_ck (zin_ok (zr_add (lo := 1) (hi := 766) h1 (zr_c (lo := 1) (hi := 1) (by decide)) (by decide)) (by decide)) ?_
  refine zok_bs (i2.wk (by decide)) (fun σ4 e5 i4 => ?_)
  refine zok_ck (zin_ok (zr_add (lo := 2) (hi := 767) h1 (zr_c (lo := 2) (hi := 2) (by decide)) (by decide)) (by decide)) ?_
  refine zok_bs (i4.wk (by decide)) (fun σ5 e7 i6 => ?_)
  refine zok_ck rfl ?_
  refine zok_ck rfl ?_
  refine zok_bs (i6.wk (by decide)) (fun σ6 e9 i8 => ?_)
  refine zok_ck rfl ?_
  exact zok_sai i8 trivial
theorem s_X4_holdButtons {G : Nat → Int} {σ : zSt} (hσ : zIC G σ) {x1 : Int32} {x2 : Int32} : zok (fX4_holdButtons σ x1 x2) (zIC G) := by
  unfold fX4_holdButtons
  refine zok_ck (zin_ok (zr_add (lo := 7) (hi := 8) (zr_c (lo := 7) (hi := 7) (by decide)) (zr_andr (lo := 0) (hi := 1) (zr_c (lo := 1) (hi := 1) (by decide)) (by decide)) (by decide)) (by decide)) ?_
  refine zok_bs (hσ.wi 7 8 (z_ix (zr_add (lo := 7) (hi := 8) (zr_c (lo := 7) (hi := 7) (by decide)) (zr_andr (lo := 0) (hi := 1) (zr_c (lo := 1) (hi := 1) (by decide)) (by decide)) (by decide)) (by decide)) zr_any (by decide +kernel)) (fun σ1 e2 i1 => ?_)
  exact zok_some i1
theorem s_X1_carryOutPlans_107 {σ : zSt} (hσ : zPC σ) : zok (fX1_carryOutPlans_107 σ ) (zPu σ) := by
  unfold fX1_carryOutPlans_107
  exact zok_spu
theorem s_X1_carryOutPlans_3_body {G : Nat → Int} {σ : zSt} {k3 : zSt → Int64 → Int32 → Option (zSt)} {Mk3 : Int} (hk3 : ∀ (σ : zSt) (x1 : Int64) (x4 : Int32), zIC G σ → zr (0) (256) x4 → (256) - x4.toInt < Mk3 → zok (k3 σ x1 x4) (zIC G)) (hσ : zIC G σ) {x1 : Int64} {x4 : Int32} (h_x4 : zr (0) (256) x4) (hMk3 : (256) - x4.toInt ≤ Mk3) : zok (fX1_carryOutPlans_3_body k3 σ x1 x4) (zIC G) := by
  unfold fX1_carryOutPlans_3_body
  refine zok_if (fun q1 => ?_) (fun q1 => ?_)
  · have h2 := zc_ler (256) q1 (zr_c (lo := 256) (hi := 256) (by decide)) h_x4 (by decide)
    exact zok_pau hσ (s_X1_carryOutPlans_107 hσ.P)
  have h3 := zc_ltl (255) (z_nle q1) h_x4 (zr_c (lo := 256) (hi := 256) (by decide)) (by decide)
  refine zok_ck rfl ?_
  refine zok_if (fun q4 => ?_) (fun q4 => ?_)
  · have h5 := zc_lel (0) q4 zr_any (zr_c (lo := 0) (hi := 0) (by decide)) (by decide)
    exact zok_pau hσ (s_X1_carryOutPlans_107 hσ.P)
  have h6 := zc_ltr (1) (z_nle q4) (zr_c (lo := 0) (hi := 0) (by decide)) zr_any (by decide)
  refine zok_pi (s_X1_placeOfPlan hσ.P) (fun v2 h7 => ?_)
  refine zok_ck (zin_ok h7 (by decide)) ?_
  refine zok_if (fun q8 => ?_) (fun q8 => ?_)
  · refine zok_ck (zin_ok (zr_add (lo := 1) (hi := 766) h7 (zr_c (lo := 1) (hi := 1) (by decide)) (by decide)) (by decide)) ?_
    refine zok_ck (zin_ok (zr_add (lo := 2) (hi := 767) h7 (zr_c (lo := 2) (hi := 2) (by decide)) (by decide)) (by decide)) ?_
    refine zok_bu (s_X4_holdButtons hσ) (fun σ3 i9 => ?_)
    refine zok_ck rfl ?_
    refine zok_ck rfl ?_
    refine zok_bs (i9.wk (by decide)) (fun σ4 e11 i10 => ?_)
    refine zok_ck rfl ?_
    refine zok_ck rfl ?_
    refine zok_bs (i10.wk (by decide)) (fun σ5 e13 i12 => ?_)
    refine zok_br (zr_add (lo := 1) (hi := 256) h3 (zr_c (lo := 1) (hi := 1) (by decide)) (by decide)) (fun v6 e15 h14 => ?_)
    exact hk3 _ _ _ i12 (zr_w h14 (by decide)) (by rw [e15]; have := z_tadd (y := (1 : Int32)) h3 (zr_c (lo := 1) (hi := 1) (by decide)) (by decide); have e9 : (1 : Int32).toInt = 1 := rfl; omega) 
  exact zok_pau hσ (s_X1_carryOutPlans_107 hσ.P)
theorem s_X1_carryOutPlans_3 {G : Nat → Int} : ∀ (n : Nat) {σ : zSt} (hσ : zIC G σ) {x1 : Int64} {x4 : Int32} (h_x4 : zr (0) (256) x4) (hm : (256) - x4.toInt < n), zok (fX1_carryOutPlans_3 n σ x1 x4) (zIC G) := by
  intro n
  induction n with
  | zero => intro σ hσ x1 x4 h_x4 hm ; have h9 := h_x4.1; have h8 := h_x4.2; exfalso; omega
  | succ n ih => intro σ hσ x1 x4 h_x4 hm ; exact s_X1_carryOutPlans_3_body (fun σ x1 x4 hσ h_x4 hm1 => ih hσ h_x4 (by omega)) hσ h_x4 (Int.le_refl _)
theorem s_X1_carryOutPlans {G : Nat → Int} {σ : zSt} (hσ : zIC G σ) {x1 : Int64} : zok (fX1_carryOutPlans σ x1) (zIC G) := by
  unfold fX1_carryOutPlans
  exact (s_X1_carryOutPlans_3 zfuel hσ (zr_w (zr_c (lo := 0) (hi := 0) (by decide)) (by decide)) (by decide))
theorem s_X2_addToTape_29 {σ : zSt} (hσ : zPC σ) : zok (fX2_addToTape_29 σ ) (zPu σ) := by
  unfold fX2_addToTape_29
  exact zok_spu
theorem s_X2_addToTape {G : Nat → Int} {σ : zSt} (hσ : zEC [0] G σ) {x1 : Int32} (h_x1 : zr (0) (255) x1) : zok (fX2_addToTape σ x1) (zEC [0] G) := by
  unfold fX2_addToTape
  refine zok_if (fun q1 => ?_) (fun q1 => ?_)
  · have h2 := zc_ler (262656) q1 (zr_c (lo := 262656) (hi := 262656) (by decide)) (rC_0 hσ.sg _ (by decide)) (by decide)
    exact zok_pau hσ (s_X2_addToTape_29 hσ.P)
  have h3 := zc_ltl (262655) (z_nle q1) (rC_0 hσ.sg _ (by decide)) (zr_c (lo := 262656) (hi := 262656) (by decide)) (by decide)
  refine zok_ck (zin_ok h3 (by decide)) ?_
  refine zok_bs (hσ.tp h_x1 (by decide)) (fun σ1 e5 i4 => ?_)
  refine zok_bs (i4.wi 2 2 (by decide) (zr_add (lo := 1) (hi := 262656) (z_trp e5 rfl h3) (zr_c (lo := 1) (hi := 1) (by decide)) (by decide)) (by decide +kernel)) (fun σ2 e7 i6 => ?_)
  exact zok_pau i6 (s_X2_addToTape_29 i6.P)
theorem s_repeat_h {G : Nat → Int} : ∀ (n : Nat) {σ : zSt} (hσ : zEC [0] G σ) {x2 x3 x4 : Int32} (h2 : zr 0 262656 x2) (h3 : zr (-2147483648) 262656 x3) (h4 : zr 0 262656 x4) (hr : x2.toInt ≤ x4.toInt) (hm : 262656 - x4.toInt < n), zok (fX2_repeatTape_15 n σ x2 x3 x4) (zEC [0] G) := by
  intro n
  induction n with
  | zero => intro σ hσ x2 x3 x4 h2 h3 h4 hr hm; have := h4.2; exfalso; omega
  | succ n ih =>
    intro σ hσ x2 x3 x4 h2 h3 h4 hr hm
    show zok (fX2_repeatTape_15_body (fX2_repeatTape_15 n) σ x2 x3 x4) (zEC [0] G)
    have k47 : zok (fX2_repeatTape_47 σ x2 x3) (zEC [0] G) := by
      unfold fX2_repeatTape_47
      refine zok_bs (hσ.wi 2 2 (by decide) (zr_max (lo := 0) (hi := 262656) h2 h3 (by decide)) (by decide +kernel)) (fun σ1 e1 i1 => ?_)
      exact zok_some i1
    unfold fX2_repeatTape_15_body
    refine zok_if (fun q => k47) (fun q => ?_)
    refine zok_if (fun q => k47) (fun q2 => ?_)
    have q1 := Int32.lt_iff_toInt_lt.mp (z_nle q)
    have h3b := h3.2
    have h4a : zr 0 262655 x4 := ⟨h4.1, by omega⟩
    have es := z_tsub h4a h2 (by decide)
    have h2a := h2.1
    have hs : zr 0 262655 (x4 - x2) := ⟨by omega, by omega⟩
    refine zok_ck (zin_ok hs (by decide)) ?_
    refine zok_ck (zin_ok h4a (by decide)) ?_
    refine zok_bs (hσ.tp (rC_tp hσ.sg _ (z_ixlt hs (by decide))) (by decide)) (fun σ2 e2 i2 => ?_)
    have e1 := z_tadd h4a (zr_c (lo := 1) (hi := 1) (x := 1) (by decide)) (by decide)
    have c1 : (1 : Int32).toInt = 1 := rfl
    refine zok_bv (fun v3 e3 => ih i2 h2 h3 ?_ ?_ ?_)
    · subst e3; have := h4a.1; have := h4a.2; exact ⟨by omega, by omega⟩
    · subst e3; omega
    · subst e3; omega
theorem s_X2_repeatTape {G : Nat → Int} {σ : zSt} (hσ : zEC [0] G σ) {x1 : Int32} (h_x1 : zr (0) (262656) x1) : zok (fX2_repeatTape σ x1) (zEC [0] G) := by
  unfold fX2_repeatTape
  have h := rC_0 hσ.sg 2 (by decide)
  refine zok_bv (fun v4 e4 => ?_)
  have h4 : zr 0 262656 v4 := by rw [e4]; exact h
  refine zok_bv (fun v5 e5 => ?_)
  have h5 : zr (-2147483648) 262656 v5 := by rw [e5]; exact zr_min (x := x1) zr_any (zr_c (lo := 262656) (hi := 262656) (by decide)) (by decide)
  exact s_repeat_h zfuel hσ h4 h5 h4 (Int.le_refl _) (by have := h4.1; unfold zfuel; omega)
theorem s_X2_changeTape_52 {σ : zSt} (hσ : zPC σ) : zok (fX2_changeTape_52 σ ) (zPu σ) := by
  unfold fX2_changeTape_52
  exact zok_spu
theorem s_X2_changeTape_3_body {G : Nat → Int} {σ : zSt} {k3 : zSt → Int32 → Int64 → Int32 → Option (zSt)} {Mk3 : Int} (hk3 : ∀ (σ : zSt) (x1 : Int32) (x2 : Int64) (x4 : Int32), zIC G σ → zr (0) (262648) x1 → zr (0) (8) x4 → (8) - x4.toInt < Mk3 → zok (k3 σ x1 x2 x4) (zIC G)) (hσ : zIC G σ) {x1 : Int32} (h_x1 : zr (0) (262648) x1) {x2 : Int64} {x4 : Int32} (h_x4 : zr (0) (8) x4) (hMk3 : (8) - x4.toInt ≤ Mk3) : zok (fX2_changeTape_3_body k3 σ x1 x2 x4) (zIC G) := by
  unfold fX2_changeTape_3_body
  refine zok_if (fun q1 => ?_) (fun q1 => ?_)
  · have h2 := zc_ler (8) q1 (zr_c (lo := 8) (hi := 8) (by decide)) h_x4 (by decide)
    exact zok_pau hσ (s_X2_changeTape_52 hσ.P)
  have h3 := zc_ltl (7) (z_nle q1) h_x4 (zr_c (lo := 8) (hi := 8) (by decide)) (by decide)
  refine zok_if (fun q4 => ?_) (fun q4 => ?_)
  · exact zr_no (zc_ltl (-1) q4 h_x1 (zr_c (lo := 0) (hi := 0) (by decide)) (by decide)) (by decide)
  refine zok_if (fun q5 => ?_) (fun q5 => ?_)
  · have h6 := zc_lel (262655) q5 (rC_0 hσ.sg _ (by decide)) (zr_add (lo := 0) (hi := 262655) h_x1 h3 (by decide)) (by decide)
    exact zok_pau hσ (s_X2_changeTape_52 hσ.P)
  have h7 := zc_ltr (1) (z_nle q5) (zr_add (lo := 0) (hi := 262655) h_x1 h3 (by decide)) (rC_0 hσ.sg _ (by decide)) (by decide)
  refine zok_ck (zin_ok (zr_add (lo := 0) (hi := 262655) h_x1 h3 (by decide)) (by decide)) ?_
  refine zok_bs (hσ.tp (zr_andr (lo := 0) (hi := 255) (zr_c (lo := 255) (hi := 255) (by decide)) (by decide)) (by decide)) (fun σ1 e9 i8 => ?_)
  refine zok_br (zr_add (lo := 1) (hi := 8) h3 (zr_c (lo := 1) (hi := 1) (by decide)) (by decide)) (fun v2 e11 h10 => ?_)
  exact hk3 _ _ _ _ i8 h_x1 (zr_w h10 (by decide)) (by rw [e11]; have := z_tadd (y := (1 : Int32)) h3 (zr_c (lo := 1) (hi := 1) (by decide)) (by decide); have e9 : (1 : Int32).toInt = 1 := rfl; omega) 
theorem s_X2_changeTape_3 {G : Nat → Int} : ∀ (n : Nat) {σ : zSt} (hσ : zIC G σ) {x1 : Int32} (h_x1 : zr (0) (262648) x1) {x2 : Int64} {x4 : Int32} (h_x4 : zr (0) (8) x4) (hm : (8) - x4.toInt < n), zok (fX2_changeTape_3 n σ x1 x2 x4) (zIC G) := by
  intro n
  induction n with
  | zero => intro σ hσ x1 h_x1 x2 x4 h_x4 hm ; have h9 := h_x4.1; have h8 := h_x4.2; exfalso; omega
  | succ n ih => intro σ hσ x1 h_x1 x2 x4 h_x4 hm ; exact s_X2_changeTape_3_body (fun σ x1 x2 x4 hσ h_x1 h_x4 hm1 => ih hσ h_x1 h_x4 (by omega)) hσ h_x1 h_x4 (Int.le_refl _)
theorem s_X2_changeTape {G : Nat → Int} {σ : zSt} (hσ : zIC G σ) {x1 : Int32} (h_x1 : zr (0) (262648) x1) {x2 : Int64} : zok (fX2_changeTape σ x1 x2) (zIC G) := by
  unfold fX2_changeTape
  exact (s_X2_changeTape_3 zfuel hσ h_x1 (zr_w (zr_c (lo := 0) (hi := 0) (by decide)) (by decide)) (by decide))
theorem s_X2_romByte_29 {σ : zSt} (hσ : zPC σ) {s0 : Int32} (h_s0 : zr (0) (255) s0) : zok (fX2_romByte_29 σ s0) (zPi σ (fun v : Int32 => zr (0) (255) v)) := by
  unfold fX2_romByte_29
  exact zok_spi h_s0
theorem s_X2_romByte_26 {σ : zSt} (hσ : zPC σ) : zok (fX2_romByte_26 σ ) (zPi σ (fun v : Int32 => zr (0) (255) v)) := by
  unfold fX2_romByte_26
  exact (s_X2_romByte_29 hσ (zr_w (zr_c (lo := 255) (hi := 255) (by decide)) (by decide)))
theorem s_X2_romByte {σ : zSt} (hσ : zPC σ) {x1 : Int32} (h_x1 : zr (0) (262143) x1) : zok (fX2_romByte σ x1) (zPi σ (fun v : Int32 => zr (0) (255) v)) := by
  unfold fX2_romByte
  refine zok_if (fun q1 => ?_) (fun q1 => ?_)
  · exact zr_no (zc_ltl (-1) q1 h_x1 (zr_c (lo := 0) (hi := 0) (by decide)) (by decide)) (by decide)
  refine zok_if (fun q2 => ?_) (fun q2 => ?_)
  · have h3 := zc_lel (262143) q2 (rC_2 hσ.sg _ (by decide)) h_x1 (by decide)
    exact (s_X2_romByte_26 hσ)
  have h4 := zc_ltr (1) (z_nle q2) h_x1 (rC_2 hσ.sg _ (by decide)) (by decide)
  refine zok_ck (zin_ok (zr_add (lo := 0) (hi := 262655) (rC_1 hσ.sg _ (by decide)) h_x1 (by decide)) (by decide)) ?_
  exact (s_X2_romByte_29 hσ (rC_tp hσ.sg _ (z_ixlt (zr_add (lo := 0) (hi := 262655) (rC_1 hσ.sg _ (by decide)) h_x1 (by decide)) (by decide))))
theorem s_X2_findHeader_84 {σ : zSt} {k9 : zSt → Int32 → Int32 → Option (zSt × Int32)} {Mk9 : Int} (hk9 : ∀ (x2 : Int32) (x3 : Int32), zr (3) (3) x2 → zr (0) (3) x3 → (3) - x3.toInt < Mk9 → zok (k9 σ x2 x3) (zPi σ (fun v : Int32 => zr (-1) (32752) v))) (hσ : zPC σ) {x2 : Int32} (h_x2 : zr (3) (3) x2) {x3 : Int32} (h_x3 : zr (0) (2) x3) {x4 : Int32} (h_x4 : zr (0) (32752) x4) {x5 : Int32} (h_x5 : zr (0) (1) x5) (hMk9 : (3) - x3.toInt ≤ Mk9) : zok (fX2_findHeader_84 k9 σ x2 x3 x4 x5) (zPi σ (fun v : Int32 => zr (-1) (32752) v)) := by
  unfold fX2_findHeader_84
  refine zok_if (fun q1 => ?_) (fun q1 => ?_)
  · have h2 := zc_eql (0) (0) q1 h_x5 (zr_c (lo := 0) (hi := 0) (by decide)) (by decide)
    refine zok_br (zr_add (lo := 1) (hi := 3) h_x3 (zr_c (lo := 1) (hi := 1) (by decide)) (by decide)) (fun v1 e4 h3 => ?_)
    exact hk9 _ _  h_x2 (zr_w h3 (by decide)) (by rw [e4]; have := z_tadd (y := (1 : Int32)) h_x3 (zr_c (lo := 1) (hi := 1) (by decide)) (by decide); have e9 : (1 : Int32).toInt = 1 := rfl; omega) 
  have h5 := zc_nel (1) (1) q1 h_x5 (zr_c (lo := 0) (hi := 0) (by decide)) (by decide)
  exact zok_spi (zr_w h_x4 (by decide))
theorem s_X2_findHeader_76 {σ : zSt} {k9 : zSt → Int32 → Int32 → Option (zSt × Int32)} {Mk9 : Int} (hk9 : ∀ (x2 : Int32) (x3 : Int32), zr (3) (3) x2 → zr (0) (3) x3 → (3) - x3.toInt < Mk9 → zok (k9 σ x2 x3) (zPi σ (fun v : Int32 => zr (-1) (32752) v))) {k41 : zSt → Int32 → Int32 → Int32 → Int32 → Int32 → Option (zSt × Int32)} {Mk41 : Int} (hk41 : ∀ (x2 : Int32) (x3 : Int32) (x4 : Int32) (x5 : Int32) (x6 : Int32), zr (3) (3) x2 → zr (0) (2) x3 → zr (0) (32752) x4 → zr (0) (1) x5 → zr (0) (8) x6 → (8) - x6.toInt < Mk41 → (3) - x3.toInt ≤ Mk9 → zok (k41 σ x2 x3 x4 x5 x6) (zPi σ (fun v : Int32 => zr (-1) (32752) v))) (hσ : zPC σ) {x2 : Int32} (h_x2 : zr (3) (3) x2) {x3 : Int32} (h_x3 : zr (0) (2) x3) {x4 : Int32} (h_x4 : zr (0) (32752) x4) {x6 : Int32} (h_x6 : zr (0) (7) x6) {s0 : Int32} (h_s0 : zr (0) (1) s0) (hMk9 : (3) - x3.toInt ≤ Mk9) (hMk41 : (8) - x6.toInt ≤ Mk41) : zok (fX2_findHeader_76 k9 k41 σ x2 x3 x4 x6 s0) (zPi σ (fun v : Int32 => zr (-1) (32752) v)) := by
  unfold fX2_findHeader_76
  refine zok_br (zr_add (lo := 1) (hi := 8) h_x6 (zr_c (lo := 1) (hi := 1) (by decide)) (by decide)) (fun v2 e2 h1 => ?_)
  exact hk41 _ _ _ _ _  h_x2 h_x3 h_x4 h_s0 (zr_w h1 (by decide)) (by rw [e2]; have := z_tadd (y := (1 : Int32)) h_x6 (zr_c (lo := 1) (hi := 1) (by decide)) (by decide); have e9 : (1 : Int32).toInt = 1 := rfl; omega) hMk9
theorem s_X2_findHeader_41_body {σ : zSt} {k9 : zSt → Int32 → Int32 → Option (zSt × Int32)} {Mk9 : Int} (hk9 : ∀ (x2 : Int32) (x3 : Int32), zr (3) (3) x2 → zr (0) (3) x3 → (3) - x3.toInt < Mk9 → zok (k9 σ x2 x3) (zPi σ (fun v : Int32 => zr (-1) (32752) v))) {k41 : zSt → Int32 → Int32 → Int32 → Int32 → Int32 → Option (zSt × Int32)} {Mk41 : Int} (hk41 : ∀ (x2 : Int32) (x3 : Int32) (x4 : Int32) (x5 : Int32) (x6 : Int32), zr (3) (3) x2 → zr (0) (2) x3 → zr (0) (32752) x4 → zr (0) (1) x5 → zr (0) (8) x6 → (8) - x6.toInt < Mk41 → (3) - x3.toInt ≤ Mk9 → zok (k41 σ x2 x3 x4 x5 x6) (zPi σ (fun v : Int32 => zr (-1) (32752) v))) (hσ : zPC σ) {x2 : Int32} (h_x2 : zr (3) (3) x2) {x3 : Int32} (h_x3 : zr (0) (2) x3) {x4 : Int32} (h_x4 : zr (0) (32752) x4) {x5 : Int32} (h_x5 : zr (0) (1) x5) {x6 : Int32} (h_x6 : zr (0) (8) x6) (hMk9 : (3) - x3.toInt ≤ Mk9) (hMk41 : (8) - x6.toInt ≤ Mk41) : zok (fX2_findHeader_41_body k9 k41 σ x2 x3 x4 x5 x6) (zPi σ (fun v : Int32 => zr (-1) (32752) v)) := by
  unfold fX2_findHeader_41_body
  refine zok_if (fun q1 => ?_) (fun q1 => ?_)
  · have h2 := zc_ler (8) q1 (zr_c (lo := 8) (hi := 8) (by decide)) h_x6 (by decide)
    exact (s_X2_findHeader_84 hk9 hσ h_x2 h_x3 h_x4 h_x5 hMk9)
  have h3 := zc_ltl (7) (z_nle q1) h_x6 (zr_c (lo := 8) (hi := 8) (by decide)) (by decide)
  refine zok_if (fun q4 => ?_) (fun q4 => ?_)
  · have h5 := zc_eql (0) (0) q4 h_x5 (zr_c (lo := 0) (hi := 0) (by decide)) (by decide)
    exact (s_X2_findHeader_84 hk9 hσ h_x2 h_x3 h_x4 (zr_w h5 (by decide)) hMk9)
  have h6 := zc_nel (1) (1) q4 h_x5 (zr_c (lo := 0) (hi := 0) (by decide)) (by decide)
  refine zok_pi (s_X2_romByte hσ (zr_w (zr_add (lo := 0) (hi := 32759) h_x4 h3 (by decide)) (by decide))) (fun v4 h7 => ?_)
  refine zok_ck (zin_ok h3 (by decide)) ?_
  refine zok_if (fun q8 => ?_) (fun q8 => ?_)
  · have h9 := zc_eqr (0) (255) q8 h7 zr_any (by decide)
    exact (s_X2_findHeader_76 hk9 hk41 hσ h_x2 h_x3 h_x4 h3 (zr_w (zr_c (lo := 1) (hi := 1) (by decide)) (by decide)) hMk9 hMk41)
  exact (s_X2_findHeader_76 hk9 hk41 hσ h_x2 h_x3 h_x4 h3 (zr_w (zr_c (lo := 0) (hi := 0) (by decide)) (by decide)) hMk9 hMk41)
theorem s_X2_findHeader_41 {σ : zSt} (hσ : zPC σ) {k9 : zSt → Int32 → Int32 → Option (zSt × Int32)} {Mk9 : Int} (hk9 : ∀ (x2 : Int32) (x3 : Int32), zr (3) (3) x2 → zr (0) (3) x3 → (3) - x3.toInt < Mk9 → zok (k9 σ x2 x3) (zPi σ (fun v : Int32 => zr (-1) (32752) v))) : ∀ (n : Nat) {x2 : Int32} (h_x2 : zr (3) (3) x2) {x3 : Int32} (h_x3 : zr (0) (2) x3) {x4 : Int32} (h_x4 : zr (0) (32752) x4) {x5 : Int32} (h_x5 : zr (0) (1) x5) {x6 : Int32} (h_x6 : zr (0) (8) x6) (hm : (8) - x6.toInt < n) (hMk9 : (3) - x3.toInt ≤ Mk9), zok (fX2_findHeader_41 k9 n σ x2 x3 x4 x5 x6) (zPi σ (fun v : Int32 => zr (-1) (32752) v)) := by
  intro n
  induction n with
  | zero => intro x2 h_x2 x3 h_x3 x4 h_x4 x5 h_x5 x6 h_x6 hm hMk9; have h9 := h_x6.1; have h8 := h_x6.2; exfalso; omega
  | succ n ih => intro x2 h_x2 x3 h_x3 x4 h_x4 x5 h_x5 x6 h_x6 hm hMk9; exact s_X2_findHeader_41_body hk9 (fun x2 x3 x4 x5 x6 h_x2 h_x3 h_x4 h_x5 h_x6 hm1 hMk9 => ih h_x2 h_x3 h_x4 h_x5 h_x6 (by omega) hMk9) hσ h_x2 h_x3 h_x4 h_x5 h_x6 hMk9 (Int.le_refl _)
theorem s_X2_findHeader_36 {σ : zSt} {k9 : zSt → Int32 → Int32 → Option (zSt × Int32)} {Mk9 : Int} (hk9 : ∀ (x2 : Int32) (x3 : Int32), zr (3) (3) x2 → zr (0) (3) x3 → (3) - x3.toInt < Mk9 → zok (k9 σ x2 x3) (zPi σ (fun v : Int32 => zr (-1) (32752) v))) (hσ : zPC σ) {x2 : Int32} (h_x2 : zr (3) (3) x2) {x3 : Int32} (h_x3 : zr (0) (2) x3) {x4 : Int32} (h_x4 : zr (0) (32752) x4) {s0 : Int32} (h_s0 : zr (0) (1) s0) (hMk9 : (3) - x3.toInt ≤ Mk9) : zok (fX2_findHeader_36 k9 σ x2 x3 x4 s0) (zPi σ (fun v : Int32 => zr (-1) (32752) v)) := by
  unfold fX2_findHeader_36
  exact (s_X2_findHeader_41 hσ hk9 zfuel h_x2 h_x3 h_x4 h_s0 (zr_w (zr_c (lo := 0) (hi := 0) (by decide)) (by decide)) (by decide) hMk9)
theorem s_X2_findHeader_9_body {σ : zSt} {k9 : zSt → Int32 → Int32 → Option (zSt × Int32)} {Mk9 : Int} (hk9 : ∀ (x2 : Int32) (x3 : Int32), zr (3) (3) x2 → zr (0) (3) x3 → (3) - x3.toInt < Mk9 → zok (k9 σ x2 x3) (zPi σ (fun v : Int32 => zr (-1) (32752) v))) (hσ : zPC σ) {x2 : Int32} (h_x2 : zr (3) (3) x2) {x3 : Int32} (h_x3 : zr (0) (3) x3) (hMk9 : (3) - x3.toInt ≤ Mk9) : zok (fX2_findHeader_9_body k9 σ x2 x3) (zPi σ (fun v : Int32 => zr (-1) (32752) v)) := by
  unfold fX2_findHeader_9_body
  refine zok_if (fun q1 => ?_) (fun q1 => ?_)
  · have h2 := zc_ler (3) q1 h_x2 h_x3 (by decide)
    exact zok_spi (zr_w (zr_c (lo := -1) (hi := -1) (by decide)) (by decide))
  have h3 := zc_ltl (2) (z_nle q1) h_x3 h_x2 (by decide)
  refine zok_ck (zin_ok h3 (by decide)) ?_
  refine zok_br (zt1_r _) (fun v5 e5 h4 => ?_)
  refine zok_if (fun q6 => ?_) (fun q6 => ?_)
  · have h7 := zc_ltl (32767) q6 (rC_2 hσ.sg _ (by decide)) (zr_add (lo := 16) (hi := 32768) h4 (zr_c (lo := 16) (hi := 16) (by decide)) (by decide)) (by decide)
    exact (s_X2_findHeader_36 hk9 hσ h_x2 h3 h4 (zr_w (zr_c (lo := 0) (hi := 0) (by decide)) (by decide)) hMk9)
  have h8 := zc_ler (16) (z_nlt q6) (zr_add (lo := 16) (hi := 32768) h4 (zr_c (lo := 16) (hi := 16) (by decide)) (by decide)) (rC_2 hσ.sg _ (by decide)) (by decide)
  exact (s_X2_findHeader_36 hk9 hσ h_x2 h3 h4 (zr_w (zr_c (lo := 1) (hi := 1) (by decide)) (by decide)) hMk9)
theorem s_X2_findHeader_9 {σ : zSt} (hσ : zPC σ) : ∀ (n : Nat) {x2 : Int32} (h_x2 : zr (3) (3) x2) {x3 : Int32} (h_x3 : zr (0) (3) x3) (hm : (3) - x3.toInt < n), zok (fX2_findHeader_9 n σ x2 x3) (zPi σ (fun v : Int32 => zr (-1) (32752) v)) := by
  intro n
  induction n with
  | zero => intro x2 h_x2 x3 h_x3 hm ; have h9 := h_x3.1; have h8 := h_x3.2; exfalso; omega
  | succ n ih => intro x2 h_x2 x3 h_x3 hm ; exact s_X2_findHeader_9_body (fun x2 x3 h_x2 h_x3 hm1 => ih h_x2 h_x3 (by omega)) hσ h_x2 h_x3 (Int.le_refl _)
theorem s_X2_findHeader {σ : zSt} (hσ : zPC σ) : zok (fX2_findHeader σ ) (zPi σ (fun v : Int32 => zr (-1) (32752) v)) := by
  unfold fX2_findHeader
  exact (s_X2_findHeader_9 hσ zfuel (zr_c (lo := 3) (hi := 3) (by decide)) (zr_w (zr_c (lo := 0) (hi := 0) (by decide)) (by decide)) (by decide))
theorem s_X2_romWord {σ : zSt} (hσ : zPC σ) {x1 : Int32} (h_x1 : zr (9) (32762) x1) : zok (fX2_romWord σ x1) (zPi σ (fun v : Int32 => zr (0) (65535) v)) := by
  unfold fX2_romWord
  refine zok_pi (s_X2_romByte hσ (zr_w h_x1 (by decide))) (fun v2 h1 => ?_)
  refine zok_pi (s_X2_romByte hσ (zr_w (zr_add (lo := 10) (hi := 32763) h_x1 (zr_c (lo := 1) (hi := 1) (by decide)) (by decide)) (by decide))) (fun v4 h2 => ?_)
  exact zok_spi (zr_add (lo := 0) (hi := 65535) h1 (zr_mul (lo := 0) (hi := 65280) (zr_c (lo := 256) (hi := 256) (by decide)) h2 (by decide)) (by decide))
theorem s_X2_findPaging_45 {σ : zSt} (hσ : zPC σ) {s0 : Int32} (h_s0 : zr (1) (3) s0) : zok (fX2_findPaging_45 σ s0) (zPi σ (fun v : Int32 => zr (0) (3) v)) := by
  unfold fX2_findPaging_45
  exact zok_spi (zr_w h_s0 (by decide))
theorem s_X2_findPaging {σ : zSt} (hσ : zPC σ) : zok (fX2_findPaging σ ) (zPi σ (fun v : Int32 => zr (0) (3) v)) := by
  unfold fX2_findPaging
  refine zok_if (fun q1 => ?_) (fun q1 => ?_)
  · have h2 := zc_ltr (49153) q1 (zr_c (lo := 49152) (hi := 49152) (by decide)) (rC_2 hσ.sg _ (by decide)) (by decide)
    refine zok_pi (s_X2_romWord hσ (zr_w (zr_c (lo := 32742) (hi := 32742) (by decide)) (by decide))) (fun v2 h3 => ?_)
    refine zok_pi (s_X2_romWord hσ (zr_w (zr_c (lo := 32744) (hi := 32744) (by decide)) (by decide))) (fun v4 h4 => ?_)
    refine zok_if (fun q5 => ?_) (fun q5 => ?_)
    · have h6 := zc_eql (65536) (65536) q5 (zr_add (lo := 0) (hi := 131070) h3 h4 (by decide)) (zr_c (lo := 65536) (hi := 65536) (by decide)) (by decide)
      exact zok_spi (zr_w (zr_c (lo := 2) (hi := 2) (by decide)) (by decide))
    refine zok_if (fun q7 => ?_) (fun q7 => ?_)
    · have h8 := zc_ler (0) q7 (zr_c (lo := 0) (hi := 0) (by decide)) (rC_4 hσ.sg _ (by decide)) (by decide)
      exact (s_X2_findPaging_45 hσ (zr_w (zr_c (lo := 1) (hi := 1) (by decide)) (by decide)))
    have h9 := zc_ltl (-1) (z_nle q7) (rC_4 hσ.sg _ (by decide)) (zr_c (lo := 0) (hi := 0) (by decide)) (by decide)
    exact (s_X2_findPaging_45 hσ (zr_w (zr_c (lo := 3) (hi := 3) (by decide)) (by decide)))
  have h10 := zc_lel (49152) (z_nlt q1) (rC_2 hσ.sg _ (by decide)) (zr_c (lo := 49152) (hi := 49152) (by decide)) (by decide)
  exact zok_spi (zr_w (zr_c (lo := 0) (hi := 0) (by decide)) (by decide))
theorem s_X2_takeTape_21 {G : Nat → Int} {σ : zSt} (hσ : zEC [0] G σ) {s0 : Int32} (h_s0 : zr (0) (512) s0) : zok (fX2_takeTape_21 σ s0) (zAi (zEC [0] G) (fun v : Int32 => zr (0) (2) v)) := by
  unfold fX2_takeTape_21
  refine zok_br (zr_sub (lo := -512) (hi := 262656) (rC_0 hσ.sg _ (by decide)) h_s0 (by decide)) (fun v1 e2 h1 => ?_)
  refine zok_bs (hσ.wi 2 2 (by decide) (zr_c (lo := 0) (hi := 0) (by decide)) (by decide +kernel)) (fun σ2 e4 i3 => ?_)
  refine zok_if (fun q5 => ?_) (fun q5 => ?_)
  · have h6 := zc_ler (8192) q5 (zr_c (lo := 8192) (hi := 8192) (by decide)) h1 (by decide)
    refine zok_ck (by decide) ?_
    refine zok_if (fun q7 => ?_) (fun q7 => ?_)
    · have h8 := zc_eql (0) (0) q7 (zr_rem (lo := 0) (hi := 8191) 8192 (by decide) h6 (by decide)) (zr_c (lo := 0) (hi := 0) (by decide)) (by decide)
      have h9 := z_m8 h6 h8
      refine zok_bs (i3.wi 1 1 (by decide) zr_any (by decide +kernel)) (fun σ3 e11 i10 => ?_)
      refine zok_bs (i10.wi 0 0 (by decide) zr_any (by decide +kernel)) (fun σ4 e13 i12 => ?_)
      refine zok_bs (i12.wi 3 3 (by decide) h_s0 (by decide +kernel)) (fun σ5 e15 i14 => ?_)
      refine zok_bs (i14.wi 4 4 (by decide) h9 (by decide +kernel)) (fun σ6 e17 i16 => ?_)
      refine zok_ck (by decide) ?_
      refine zok_bs (i16.wi 5 5 (by decide) (zr_div (lo := 1) (hi := 16) 16384 (by decide) (zr_sub (lo := 24575) (hi := 278527) (zr_add (lo := 24576) (hi := 278528) h9 (zr_c (lo := 16384) (hi := 16384) (by decide)) (by decide)) (zr_c (lo := 1) (hi := 1) (by decide)) (by decide)) (by decide)) (by decide +kernel)) (fun σ7 e19 i18 => ?_)
      refine zok_pi (s_X2_findHeader i18.P) (fun v9 h20 => ?_)
      refine zok_bs (i18.wi 7 7 (by decide) h20 (by decide +kernel)) (fun σ10 e22 i21 => ?_)
      refine zok_pi (s_X2_findPaging i21.P) (fun v12 h23 => ?_)
      refine zok_bs (i21.wi 6 6 (by decide) h23 (by decide +kernel)) (fun σ13 e25 i24 => ?_)
      exact zok_sai i24 (zr_w (zr_c (lo := 0) (hi := 0) (by decide)) (by decide))
    have h26 := zc_nel (1) (8191) q7 (zr_rem (lo := 0) (hi := 8191) 8192 (by decide) h6 (by decide)) (zr_c (lo := 0) (hi := 0) (by decide)) (by decide)
    exact zok_sai i3 (zr_w (zr_c (lo := 2) (hi := 2) (by decide)) (by decide))
  have h27 := zc_ltl (8191) (z_nle q5) h1 (zr_c (lo := 8192) (hi := 8192) (by decide)) (by decide)
  exact zok_sai i3 (zr_w (zr_c (lo := 1) (hi := 1) (by decide)) (by decide))
theorem s_X2_takeTape {G : Nat → Int} {σ : zSt} (hσ : zEC [0] G σ) : zok (fX2_takeTape σ ) (zAi (zEC [0] G) (fun v : Int32 => zr (0) (2) v)) := by
  unfold fX2_takeTape
  refine zok_ck (by decide) ?_
  refine zok_if (fun q1 => ?_) (fun q1 => ?_)
  · have h2 := zc_eql (512) (512) q1 (zr_rem (lo := 0) (hi := 16383) 16384 (by decide) (rC_0 hσ.sg _ (by decide)) (by decide)) (zr_c (lo := 512) (hi := 512) (by decide)) (by decide)
    exact (s_X2_takeTape_21 hσ (zr_w (zr_c (lo := 512) (hi := 512) (by decide)) (by decide)))
  exact (s_X2_takeTape_21 hσ (zr_w (zr_c (lo := 0) (hi := 0) (by decide)) (by decide)))
theorem s_X2_sumOfCard_77 {σ : zSt} (hσ : zPC σ) {x2 : Int32} : zok (fX2_sumOfCard_77 σ x2) (zPi σ (fun v : Int32 => zr (0) (65535) v)) := by
  unfold fX2_sumOfCard_77
  exact zok_spi (zr_andr (lo := 0) (hi := 65535) (zr_c (lo := 65535) (hi := 65535) (by decide)) (by decide))
theorem s_X2_sumOfCard_55_body {σ : zSt} {k55 : zSt → Int32 → Int32 → Option (zSt × Int32)} {Mk55 : Int} (hk55 : ∀ (x2 : Int32) (x3 : Int32), zr (32768) (262144) x3 → (262144) - x3.toInt < Mk55 → zok (k55 σ x2 x3) (zPi σ (fun v : Int32 => zr (0) (65535) v))) (hσ : zPC σ) {x2 : Int32} {x3 : Int32} (h_x3 : zr (32768) (262144) x3) (hMk55 : (262144) - x3.toInt ≤ Mk55) : zok (fX2_sumOfCard_55_body k55 σ x2 x3) (zPi σ (fun v : Int32 => zr (0) (65535) v)) := by
  unfold fX2_sumOfCard_55_body
  refine zok_if (fun q1 => ?_) (fun q1 => ?_)
  · exact (s_X2_sumOfCard_77 hσ)
  have h2 := zc_ltl (262143) (z_nle q1) h_x3 (rC_2 hσ.sg _ (by decide)) (by decide)
  have h3 := zc_ltr (32769) (z_nle q1) h_x3 (rC_2 hσ.sg _ (by decide)) (by decide)
  refine zok_pi (s_X2_romByte hσ (zr_w h2 (by decide))) (fun v2 h4 => ?_)
  refine zok_bv (fun v3 e6 => ?_)
  refine zok_br (zr_add (lo := 32769) (hi := 262144) h2 (zr_c (lo := 1) (hi := 1) (by decide)) (by decide)) (fun v4 e8 h7 => ?_)
  exact hk55 _ _  (zr_w h7 (by decide)) (by rw [e8]; have := z_tadd (y := (1 : Int32)) h2 (zr_c (lo := 1) (hi := 1) (by decide)) (by decide); have e9 : (1 : Int32).toInt = 1 := rfl; omega) 
theorem s_X2_sumOfCard_55 {σ : zSt} (hσ : zPC σ) : ∀ (n : Nat) {x2 : Int32} {x3 : Int32} (h_x3 : zr (32768) (262144) x3) (hm : (262144) - x3.toInt < n), zok (fX2_sumOfCard_55 n σ x2 x3) (zPi σ (fun v : Int32 => zr (0) (65535) v)) := by
  intro n
  induction n with
  | zero => intro x2 x3 h_x3 hm ; have h9 := h_x3.1; have h8 := h_x3.2; exfalso; omega
  | succ n ih => intro x2 x3 h_x3 hm ; exact s_X2_sumOfCard_55_body (fun x2 x3 h_x3 hm1 => ih h_x3 (by omega)) hσ h_x3 (Int.le_refl _)
theorem s_X2_sumOfCard_52 {σ : zSt} (hσ : zPC σ) {x2 : Int32} : zok (fX2_sumOfCard_52 σ x2) (zPi σ (fun v : Int32 => zr (0) (65535) v)) := by
  unfold fX2_sumOfCard_52
  exact (s_X2_sumOfCard_55 hσ zfuel (zr_w (zr_c (lo := 32768) (hi := 32768) (by decide)) (by decide)) (by decide))
theorem s_X2_sumOfCard_19_body {σ : zSt} {k19 : zSt → Int32 → Int32 → Int32 → Option (zSt × Int32)} {Mk19 : Int} (hk19 : ∀ (x1 : Int32) (x2 : Int32) (x3 : Int32), zr (0) (15) x1 → zr (0) (32752) x3 → (32752) - x3.toInt < Mk19 → zok (k19 σ x1 x2 x3) (zPi σ (fun v : Int32 => zr (0) (65535) v))) (hσ : zPC σ) {x1 : Int32} (h_x1 : zr (0) (15) x1) {x2 : Int32} {x3 : Int32} (h_x3 : zr (0) (32752) x3) (hMk19 : (32752) - x3.toInt ≤ Mk19) : zok (fX2_sumOfCard_19_body k19 σ x1 x2 x3) (zPi σ (fun v : Int32 => zr (0) (65535) v)) := by
  unfold fX2_sumOfCard_19_body
  refine zok_if (fun q1 => ?_) (fun q1 => ?_)
  · refine zok_if (fun q2 => ?_) (fun q2 => ?_)
    · have h3 := zc_ler (14) q2 (zr_c (lo := 14) (hi := 14) (by decide)) h_x1 (by decide)
      exact (s_X2_sumOfCard_52 hσ)
    have h4 := zc_ltl (13) (z_nle q2) h_x1 (zr_c (lo := 14) (hi := 14) (by decide)) (by decide)
    refine zok_if (fun q5 => ?_) (fun q5 => ?_)
    · have h6 := zc_ltr (3) q5 (zr_c (lo := 2) (hi := 2) (by decide)) h4 (by decide)
      exact (s_X2_sumOfCard_77 hσ)
    have h7 := zc_lel (2) (z_nlt q5) h4 (zr_c (lo := 2) (hi := 2) (by decide)) (by decide)
    exact (s_X2_sumOfCard_52 hσ)
  have h8 := zc_ltl (32751) (z_nle q1) h_x3 (rC_4 hσ.sg _ (by decide)) (by decide)
  have h9 := zc_ltr (1) (z_nle q1) h_x3 (rC_4 hσ.sg _ (by decide)) (by decide)
  refine zok_pi (s_X2_romByte hσ (zr_w h8 (by decide))) (fun v6 h10 => ?_)
  refine zok_bv (fun v7 e12 => ?_)
  refine zok_br (zr_add (lo := 1) (hi := 32752) h8 (zr_c (lo := 1) (hi := 1) (by decide)) (by decide)) (fun v8 e14 h13 => ?_)
  exact hk19 _ _ _  h_x1 (zr_w h13 (by decide)) (by rw [e14]; have := z_tadd (y := (1 : Int32)) h8 (zr_c (lo := 1) (hi := 1) (by decide)) (by decide); have e9 : (1 : Int32).toInt = 1 := rfl; omega) 
theorem s_X2_sumOfCard_19 {σ : zSt} (hσ : zPC σ) : ∀ (n : Nat) {x1 : Int32} (h_x1 : zr (0) (15) x1) {x2 : Int32} {x3 : Int32} (h_x3 : zr (0) (32752) x3) (hm : (32752) - x3.toInt < n), zok (fX2_sumOfCard_19 n σ x1 x2 x3) (zPi σ (fun v : Int32 => zr (0) (65535) v)) := by
  intro n
  induction n with
  | zero => intro x1 h_x1 x2 x3 h_x3 hm ; have h9 := h_x3.1; have h8 := h_x3.2; exfalso; omega
  | succ n ih => intro x1 h_x1 x2 x3 h_x3 hm ; exact s_X2_sumOfCard_19_body (fun x1 x2 x3 h_x1 h_x3 hm1 => ih h_x1 h_x3 (by omega)) hσ h_x1 h_x3 (Int.le_refl _)
theorem s_X2_sumOfCard {σ : zSt} (hσ : zPC σ) : zok (fX2_sumOfCard σ ) (zPi σ (fun v : Int32 => zr (0) (65535) v)) := by
  unfold fX2_sumOfCard
  refine zok_pi (s_X2_romByte hσ (zr_w (zr_add (lo := 14) (hi := 32767) (rC_4 hσ.sg _ (by decide)) (zr_c (lo := 15) (hi := 15) (by decide)) (by decide)) (by decide))) (fun v10 h1 => ?_)
  refine zok_br (zr_andr (lo := 0) (hi := 15) (zr_c (lo := 15) (hi := 15) (by decide)) (by decide)) (fun v11 e3 h2 => ?_)
  exact (s_X2_sumOfCard_19 hσ zfuel h2 (zr_w (zr_c (lo := 0) (hi := 0) (by decide)) (by decide)) (by decide))
theorem s_X2_decimal {σ : zSt} (hσ : zPC σ) {x1 : Int32} (h_x1 : zr (12) (13) x1) : zok (fX2_decimal σ x1) (zPi σ (fun v : Int32 => zr (0) (165) v)) := by
  unfold fX2_decimal
  refine zok_pi (s_X2_romByte hσ (zr_w (zr_add (lo := 11) (hi := 32765) (rC_4 hσ.sg _ (by decide)) h_x1 (by decide)) (by decide))) (fun v2 h1 => ?_)
  exact zok_spi (zr_add (lo := 0) (hi := 165) (zr_mul (lo := 0) (hi := 150) (zr_c (lo := 10) (hi := 10) (by decide)) (zr_shr (lo := 0) (hi := 15) 4 (by decide) h1 (by decide)) (by decide)) (zr_andr (lo := 0) (hi := 15) (zr_c (lo := 15) (hi := 15) (by decide)) (by decide)) (by decide))
theorem s_X2_aboutCard_14 {σ : zSt} (hσ : zPC σ) {x1 : Int32} (h_x1 : zr (0) (7) x1) : zok (fX2_aboutCard_14 σ x1) (zPi σ (fun v : Int32 => True)) := by
  unfold fX2_aboutCard_14
  refine zok_if (fun q1 => ?_) (fun q1 => ?_)
  · have h2 := zc_eql (0) (0) q1 h_x1 (zr_c (lo := 0) (hi := 0) (by decide)) (by decide)
    exact zok_spi trivial
  have h3 := zc_nel (1) (7) q1 h_x1 (zr_c (lo := 0) (hi := 0) (by decide)) (by decide)
  refine zok_if (fun q4 => ?_) (fun q4 => ?_)
  · have h5 := zc_eql (1) (1) q4 h3 (zr_c (lo := 1) (hi := 1) (by decide)) (by decide)
    exact zok_spi trivial
  have h6 := zc_nel (2) (7) q4 h3 (zr_c (lo := 1) (hi := 1) (by decide)) (by decide)
  refine zok_if (fun q7 => ?_) (fun q7 => ?_)
  · have h8 := zc_eql (2) (2) q7 h6 (zr_c (lo := 2) (hi := 2) (by decide)) (by decide)
    exact zok_spi trivial
  have h9 := zc_nel (3) (7) q7 h6 (zr_c (lo := 2) (hi := 2) (by decide)) (by decide)
  refine zok_if (fun q10 => ?_) (fun q10 => ?_)
  · have h11 := zc_eql (3) (3) q10 h9 (zr_c (lo := 3) (hi := 3) (by decide)) (by decide)
    refine zok_pi (s_X2_decimal hσ (zr_w (zr_c (lo := 12) (hi := 12) (by decide)) (by decide))) (fun v2 h12 => ?_)
    refine zok_pi (s_X2_decimal hσ (zr_w (zr_c (lo := 13) (hi := 13) (by decide)) (by decide))) (fun v4 h13 => ?_)
    refine zok_pi (s_X2_romByte hσ (zr_w (zr_add (lo := 13) (hi := 32766) (rC_4 hσ.sg _ (by decide)) (zr_c (lo := 14) (hi := 14) (by decide)) (by decide)) (by decide))) (fun v6 h14 => ?_)
    exact zok_spi trivial
  have h15 := zc_nel (4) (7) q10 h9 (zr_c (lo := 3) (hi := 3) (by decide)) (by decide)
  refine zok_if (fun q16 => ?_) (fun q16 => ?_)
  · have h17 := zc_eql (4) (4) q16 h15 (zr_c (lo := 4) (hi := 4) (by decide)) (by decide)
    refine zok_pi (s_X2_romByte hσ (zr_w (zr_add (lo := 14) (hi := 32767) (rC_4 hσ.sg _ (by decide)) (zr_c (lo := 15) (hi := 15) (by decide)) (by decide)) (by decide))) (fun v8 h18 => ?_)
    exact zok_spi trivial
  have h19 := zc_nel (5) (7) q16 h15 (zr_c (lo := 4) (hi := 4) (by decide)) (by decide)
  refine zok_if (fun q20 => ?_) (fun q20 => ?_)
  · have h21 := zc_eql (5) (5) q20 h19 (zr_c (lo := 5) (hi := 5) (by decide)) (by decide)
    refine zok_pi (s_X2_romByte hσ (zr_w (zr_add (lo := 14) (hi := 32767) (rC_4 hσ.sg _ (by decide)) (zr_c (lo := 15) (hi := 15) (by decide)) (by decide)) (by decide))) (fun v10 h22 => ?_)
    exact zok_spi trivial
  have h23 := zc_nel (6) (7) q20 h19 (zr_c (lo := 5) (hi := 5) (by decide)) (by decide)
  refine zok_if (fun q24 => ?_) (fun q24 => ?_)
  · have h25 := zc_eql (6) (6) q24 h23 (zr_c (lo := 6) (hi := 6) (by decide)) (by decide)
    refine zok_pi (s_X2_romWord hσ (zr_add (lo := 9) (hi := 32762) (rC_4 hσ.sg _ (by decide)) (zr_c (lo := 10) (hi := 10) (by decide)) (by decide))) (fun v12 h26 => ?_)
    exact zok_spi trivial
  have h27 := zc_nel (7) (7) q24 h23 (zr_c (lo := 6) (hi := 6) (by decide)) (by decide)
  refine zok_pi (s_X2_sumOfCard hσ) (fun v14 h28 => ?_)
  exact zok_spi trivial
theorem s_X2_aboutCard {σ : zSt} (hσ : zPC σ) {x1 : Int32} (h_x1 : zr (0) (7) x1) : zok (fX2_aboutCard σ x1) (zPi σ (fun v : Int32 => True)) := by
  unfold fX2_aboutCard
  refine zok_if (fun q1 => ?_) (fun q1 => ?_)
  · have h2 := zc_ltl (2) q1 h_x1 (zr_c (lo := 3) (hi := 3) (by decide)) (by decide)
    exact (s_X2_aboutCard_14 hσ (zr_w h2 (by decide)))
  have h3 := zc_ler (3) (z_nlt q1) (zr_c (lo := 3) (hi := 3) (by decide)) h_x1 (by decide)
  refine zok_if (fun q4 => ?_) (fun q4 => ?_)
  · have h5 := zc_ler (0) q4 (zr_c (lo := 0) (hi := 0) (by decide)) (rC_4 hσ.sg _ (by decide)) (by decide)
    exact (s_X2_aboutCard_14 hσ (zr_w h3 (by decide)))
  have h6 := zc_ltl (-1) (z_nle q4) (rC_4 hσ.sg _ (by decide)) (zr_c (lo := 0) (hi := 0) (by decide)) (by decide)
  exact zok_spi trivial
theorem s_X2_cardSize {σ : zSt} (hσ : zPC σ) : zok (fX2_cardSize σ ) (zPi σ (fun v : Int32 => zr (0) (262144) v)) := by
  unfold fX2_cardSize
  exact zok_spi (rC_2 hσ.sg _ (by decide))
theorem s_X2_page {σ : zSt} (hσ : zPC σ) {x1 : Int32} (h_x1 : zr (0) (3) x1) : zok (fX2_page σ x1) (zPi σ (fun v : Int32 => zr (0) (255) v)) := by
  unfold fX2_page
  refine zok_ck (zin_ok (zr_andr (lo := 0) (hi := 3) (zr_c (lo := 3) (hi := 3) (by decide)) (by decide)) (by decide)) ?_
  exact zok_spi (rC_17 hσ.sg _ (z_ix (zr_andr (lo := 0) (hi := 3) (zr_c (lo := 3) (hi := 3) (by decide)) (by decide)) (by decide)))
theorem s_X2_batteryIsIn_25 {σ : zSt} (hσ : zPC σ) {s0 : Int32} (h_s0 : zr (0) (1) s0) : zok (fX2_batteryIsIn_25 σ s0) (zPi σ (fun v : Int32 => zr (0) (1) v)) := by
  unfold fX2_batteryIsIn_25
  refine zok_ck (zbo_ok h_s0 (by decide)) ?_
  exact zok_spi h_s0
theorem s_X2_batteryIsIn_24 {σ : zSt} (hσ : zPC σ) : zok (fX2_batteryIsIn_24 σ ) (zPi σ (fun v : Int32 => zr (0) (1) v)) := by
  unfold fX2_batteryIsIn_24
  exact (s_X2_batteryIsIn_25 hσ (zr_w (zr_c (lo := 0) (hi := 0) (by decide)) (by decide)))
theorem s_X2_batteryIsIn {σ : zSt} (hσ : zPC σ) : zok (fX2_batteryIsIn σ ) (zPi σ (fun v : Int32 => zr (0) (1) v)) := by
  unfold fX2_batteryIsIn
  refine zok_if (fun q1 => ?_) (fun q1 => ?_)
  · have h2 := zc_eql (1) (1) q1 zr_any (zr_c (lo := 1) (hi := 1) (by decide)) (by decide)
    refine zok_ck rfl ?_
    refine zok_if (fun q3 => ?_) (fun q3 => ?_)
    · have h4 := zc_eql (0) (0) q3 (zr_andr (lo := 0) (hi := 8) (zr_c (lo := 8) (hi := 8) (by decide)) (by decide)) (zr_c (lo := 0) (hi := 0) (by decide)) (by decide)
      exact (s_X2_batteryIsIn_24 hσ)
    have h5 := zc_nel (1) (8) q3 (zr_andr (lo := 0) (hi := 8) (zr_c (lo := 8) (hi := 8) (by decide)) (by decide)) (zr_c (lo := 0) (hi := 0) (by decide)) (by decide)
    exact (s_X2_batteryIsIn_25 hσ (zr_w (zr_c (lo := 1) (hi := 1) (by decide)) (by decide)))
  exact (s_X2_batteryIsIn_24 hσ)
theorem s_X2_batteryPlace {σ : zSt} (hσ : zPC σ) {x1 : Int32} (h_x1 : zr (32768) (49151) x1) : zok (fX2_batteryPlace σ x1) (zPi σ (fun v : Int32 => zr (0) (32767) v)) := by
  unfold fX2_batteryPlace
  refine zok_ck rfl ?_
  exact zok_spi (zr_add (lo := 0) (hi := 32767) (zr_andr (lo := 0) (hi := 16383) (zr_c (lo := 16383) (hi := 16383) (by decide)) (by decide)) (zr_mul (lo := 0) (hi := 16384) (zr_c (lo := 16384) (hi := 16384) (by decide)) (zr_andr (lo := 0) (hi := 1) (zr_c (lo := 1) (hi := 1) (by decide)) (by decide)) (by decide)) (by decide))
theorem s_X2_read_169 {σ : zSt} (hσ : zPC σ) {s0 : Int32} (h_s0 : zr (0) (255) s0) : zok (fX2_read_169 σ s0) (zPi σ (fun v : Int32 => zr (0) (255) v)) := by
  unfold fX2_read_169
  exact zok_spi h_s0
theorem s_X2_read_144 {σ : zSt} (hσ : zPC σ) {x3 : Int32} (h_x3 : zr (0) (262143) x3) : zok (fX2_read_144 σ x3) (zPi σ (fun v : Int32 => zr (0) (255) v)) := by
  unfold fX2_read_144
  refine zok_if (fun q1 => ?_) (fun q1 => ?_)
  · have h2 := zc_lel (262143) q1 (rC_2 hσ.sg _ (by decide)) h_x3 (by decide)
    exact (s_X2_read_169 hσ (zr_w (zr_c (lo := 255) (hi := 255) (by decide)) (by decide)))
  have h3 := zc_ltr (1) (z_nle q1) h_x3 (rC_2 hσ.sg _ (by decide)) (by decide)
  refine zok_ck (zin_ok (zr_add (lo := 0) (hi := 262655) (rC_1 hσ.sg _ (by decide)) h_x3 (by decide)) (by decide)) ?_
  exact (s_X2_read_169 hσ (rC_tp hσ.sg _ (z_ixlt (zr_add (lo := 0) (hi := 262655) (rC_1 hσ.sg _ (by decide)) h_x3 (by decide)) (by decide))))
theorem s_X2_read_126 {σ : zSt} (hσ : zPC σ) {x2 : Int32} (h_x2 : zr (0) (49151) x2) {x6 : Int32} (h_x6 : zr (0) (255) x6) (c_1_5 : zr (1) (16) (zgi σ 1 5)) : zok (fX2_read_126 σ x2 x6) (zPi σ (fun v : Int32 => zr (0) (255) v)) := by
  unfold fX2_read_126
  refine zok_ck (zdv_ok c_1_5 (by decide)) ?_
  refine zok_br (zr_add (lo := 0) (hi := 262143) (zr_mul (lo := 0) (hi := 245760) (zr_remv (lo := 0) (hi := 15) h_x6 c_1_5 (by decide)) (zr_c (lo := 16384) (hi := 16384) (by decide)) (by decide)) (zr_andr (lo := 0) (hi := 16383) (zr_c (lo := 16383) (hi := 16383) (by decide)) (by decide)) (by decide)) (fun v1 e2 h1 => ?_)
  exact (s_X2_read_144 hσ h1)
theorem s_X2_read_106 {σ : zSt} (hσ : zPC σ) {x2 : Int32} (h_x2 : zr (0) (49151) x2) {s0 : Int32} (h_s0 : zr (0) (255) s0) (c_1_5 : zr (1) (16) (zgi σ 1 5)) : zok (fX2_read_106 σ x2 s0) (zPi σ (fun v : Int32 => zr (0) (255) v)) := by
  unfold fX2_read_106
  refine zok_if (fun q1 => ?_) (fun q1 => ?_)
  · have h2 := zc_eql (1) (1) q1 zr_any (zr_c (lo := 1) (hi := 1) (by decide)) (by decide)
    refine zok_if (fun q3 => ?_) (fun q3 => ?_)
    · have h4 := zc_ler (1024) q3 (zr_c (lo := 1024) (hi := 1024) (by decide)) h_x2 (by decide)
      exact (s_X2_read_126 hσ (zr_w h4 (by decide)) h_s0 c_1_5)
    have h5 := zc_ltl (1023) (z_nle q3) h_x2 (zr_c (lo := 1024) (hi := 1024) (by decide)) (by decide)
    exact (s_X2_read_126 hσ (zr_w h5 (by decide)) (zr_w (zr_c (lo := 0) (hi := 0) (by decide)) (by decide)) c_1_5)
  exact (s_X2_read_126 hσ h_x2 h_s0 c_1_5)
theorem s_X2_read_87 {σ : zSt} (hσ : zPC σ) {x2 : Int32} (h_x2 : zr (0) (49151) x2) {x4 : Int32} (h_x4 : zr (0) (2) x4) {s0 : Int32} (h_s0 : zr (0) (1) s0) (c_1_5 : zr (1) (16) (zgi σ 1 5)) : zok (fX2_read_87 σ x2 x4 s0) (zPi σ (fun v : Int32 => zr (0) (255) v)) := by
  unfold fX2_read_87
  refine zok_if (fun q1 => ?_) (fun q1 => ?_)
  · have h2 := zc_eql (0) (0) q1 h_s0 (zr_c (lo := 0) (hi := 0) (by decide)) (by decide)
    refine zok_ck (zin_ok h_x4 (by decide)) ?_
    exact (s_X2_read_106 hσ h_x2 (rC_17 hσ.sg _ (z_ix h_x4 (by decide))) c_1_5)
  have h3 := zc_nel (1) (1) q1 h_s0 (zr_c (lo := 0) (hi := 0) (by decide)) (by decide)
  exact (s_X2_read_106 hσ h_x2 (zr_w h_x4 (by decide)) c_1_5)
theorem s_X2_read_86 {σ : zSt} (hσ : zPC σ) {x2 : Int32} (h_x2 : zr (0) (49151) x2) {x4 : Int32} (h_x4 : zr (0) (2) x4) (c_1_5 : zr (1) (16) (zgi σ 1 5)) : zok (fX2_read_86 σ x2 x4) (zPi σ (fun v : Int32 => zr (0) (255) v)) := by
  unfold fX2_read_86
  exact (s_X2_read_87 hσ h_x2 h_x4 (zr_w (zr_c (lo := 0) (hi := 0) (by decide)) (by decide)) c_1_5)
theorem s_X2_read_62 {σ : zSt} (hσ : zPC σ) {x2 : Int32} (h_x2 : zr (0) (49151) x2) (c_1_5 : zr (1) (16) (zgi σ 1 5)) : zok (fX2_read_62 σ x2) (zPi σ (fun v : Int32 => zr (0) (255) v)) := by
  unfold fX2_read_62
  refine zok_br (zr_shr (lo := 0) (hi := 2) 14 (by decide) h_x2 (by decide)) (fun v2 e2 h1 => ?_)
  refine zok_if (fun q3 => ?_) (fun q3 => ?_)
  · have h4 := zc_eql (3) (3) q3 zr_any (zr_c (lo := 3) (hi := 3) (by decide)) (by decide)
    refine zok_if (fun q5 => ?_) (fun q5 => ?_)
    · have h6 := zc_ler (2) q5 (zr_c (lo := 2) (hi := 2) (by decide)) h1 (by decide)
      exact (s_X2_read_86 hσ h_x2 (zr_w h6 (by decide)) c_1_5)
    have h7 := zc_ltl (1) (z_nle q5) h1 (zr_c (lo := 2) (hi := 2) (by decide)) (by decide)
    exact (s_X2_read_87 hσ h_x2 (zr_w h7 (by decide)) (zr_w (zr_c (lo := 1) (hi := 1) (by decide)) (by decide)) c_1_5)
  exact (s_X2_read_86 hσ h_x2 h1 c_1_5)
theorem s_X2_read {σ : zSt} (hσ : zPC σ) {x1 : Int32} : zok (fX2_read σ x1) (zPi σ (fun v : Int32 => zr (0) (255) v)) := by
  unfold fX2_read
  refine zok_br (zr_andr (lo := 0) (hi := 65535) (zr_c (lo := 65535) (hi := 65535) (by decide)) (by decide)) (fun v3 e2 h1 => ?_)
  refine zok_if (fun q3 => ?_) (fun q3 => ?_)
  · have h4 := zc_ltl (49151) q3 h1 (zr_c (lo := 49152) (hi := 49152) (by decide)) (by decide)
    refine zok_if (fun q5 => ?_) (fun q5 => ?_)
    · have h6 := zc_eql (0) (0) q5 zr_any (zr_c (lo := 0) (hi := 0) (by decide)) (by decide)
      exact (s_X2_read_144 hσ (zr_w h4 (by decide)))
    refine zok_if (fun q7 => ?_) (fun q7 => ?_)
    · have h8 := zc_lel (0) q7 (rC_3 hσ.sg _ (by decide)) (zr_c (lo := 0) (hi := 0) (by decide)) (by decide)
      exact (s_X2_read_144 hσ (zr_w h4 (by decide)))
    have h9 := zc_ltr (1) (z_nle q7) (zr_c (lo := 0) (hi := 0) (by decide)) (rC_3 hσ.sg _ (by decide)) (by decide)
    refine zok_if (fun q10 => ?_) (fun q10 => ?_)
    · have h11 := zc_ltl (32767) q10 h4 (zr_c (lo := 32768) (hi := 32768) (by decide)) (by decide)
      exact (s_X2_read_62 hσ (zr_w h11 (by decide)) h9)
    have h12 := zc_ler (32768) (z_nlt q10) (zr_c (lo := 32768) (hi := 32768) (by decide)) h4 (by decide)
    refine zok_pi (s_X2_batteryIsIn hσ) (fun v5 h13 => ?_)
    refine zok_if (fun q14 => ?_) (fun q14 => ?_)
    · have h15 := zc_eql (0) (0) q14 h13 (zr_c (lo := 0) (hi := 0) (by decide)) (by decide)
      exact (s_X2_read_62 hσ (zr_w h12 (by decide)) h9)
    have h16 := zc_nel (1) (1) q14 h13 (zr_c (lo := 0) (hi := 0) (by decide)) (by decide)
    refine zok_pi (s_X2_batteryPlace hσ h12) (fun v7 h17 => ?_)
    refine zok_ck (zin_ok h17 (by decide)) ?_
    exact zok_spi (rC_15 hσ.sg _ (z_ix h17 (by decide)))
  have h18 := zc_ler (49152) (z_nlt q3) (zr_c (lo := 49152) (hi := 49152) (by decide)) h1 (by decide)
  refine zok_ck (zin_ok (zr_andr (lo := 0) (hi := 8191) (zr_c (lo := 8191) (hi := 8191) (by decide)) (by decide)) (by decide)) ?_
  exact zok_spi (rC_13 hσ.sg _ (z_ix (zr_andr (lo := 0) (hi := 8191) (zr_c (lo := 8191) (hi := 8191) (by decide)) (by decide)) (by decide)))
theorem s_X2_write_151 {σ : zSt} (hσ : zPC σ) : zok (fX2_write_151 σ ) (zPu σ) := by
  unfold fX2_write_151
  exact zok_spu
theorem s_X2_write_54 {G : Nat → Int} {σ : zSt} (hσ : zIC G σ) {x2 : Int32} (h_x2 : zr (0) (255) x2) {s0 : Int32} (h_s0 : zr (0) (3) s0) : zok (fX2_write_54 σ x2 s0) (zIC G) := by
  unfold fX2_write_54
  refine zok_ck (zin_ok h_s0 (by decide)) ?_
  refine zok_bs (hσ.wi 0 3 (z_ix h_s0 (by decide)) h_x2 (by decide +kernel)) (fun σ1 e2 i1 => ?_)
  exact zok_pau i1 (s_X2_write_151 i1.P)
theorem s_X2_write_130 {G : Nat → Int} {σ : zSt} (hσ : zIC G σ) {x2 : Int32} (h_x2 : zr (0) (255) x2) {x3 : Int32} (h_x3 : zr (0) (65535) x3) : zok (fX2_write_130 σ x2 x3) (zIC G) := by
  unfold fX2_write_130
  refine zok_if (fun q1 => ?_) (fun q1 => ?_)
  · have h2 := zc_eql (3) (3) q1 zr_any (zr_c (lo := 3) (hi := 3) (by decide)) (by decide)
    refine zok_if (fun q3 => ?_) (fun q3 => ?_)
    · have h4 := zc_eql (40960) (40960) q3 h_x3 (zr_c (lo := 40960) (hi := 40960) (by decide)) (by decide)
      refine zok_ck rfl ?_
      refine zok_bs (hσ.wi 2 2 (by decide) h_x2 (by decide +kernel)) (fun σ2 e6 i5 => ?_)
      exact zok_pau i5 (s_X2_write_151 i5.P)
    exact zok_pau hσ (s_X2_write_151 hσ.P)
  exact zok_pau hσ (s_X2_write_151 hσ.P)
theorem s_X2_write_117 {G : Nat → Int} {σ : zSt} (hσ : zIC G σ) {x2 : Int32} (h_x2 : zr (0) (255) x2) {x3 : Int32} (h_x3 : zr (0) (32768) x3) : zok (fX2_write_117 σ x2 x3) (zIC G) := by
  unfold fX2_write_117
  refine zok_ck (zin_ok (zr_shr (lo := 0) (hi := 2) 14 (by decide) h_x3 (by decide)) (by decide)) ?_
  refine zok_bs (hσ.wi 0 2 (z_ix (zr_shr (lo := 0) (hi := 2) 14 (by decide) h_x3 (by decide)) (by decide)) h_x2 (by decide +kernel)) (fun σ3 e2 i1 => ?_)
  exact zok_pau i1 (s_X2_write_151 i1.P)
theorem s_X2_write_22 {G : Nat → Int} {σ : zSt} (hσ : zIC G σ) {x2 : Int32} (h_x2 : zr (0) (255) x2) {x3 : Int32} (h_x3 : zr (0) (65535) x3) : zok (fX2_write_22 σ x2 x3) (zIC G) := by
  unfold fX2_write_22
  refine zok_if (fun q1 => ?_) (fun q1 => ?_)
  · have h2 := zc_eql (1) (1) q1 zr_any (zr_c (lo := 1) (hi := 1) (by decide)) (by decide)
    refine zok_if (fun q3 => ?_) (fun q3 => ?_)
    · have h4 := zc_ltl (65531) q3 h_x3 (zr_c (lo := 65532) (hi := 65532) (by decide)) (by decide)
      refine zok_if (fun q5 => ?_) (fun q5 => ?_)
      · have h6 := zc_ltl (32767) q5 h4 (zr_c (lo := 32768) (hi := 32768) (by decide)) (by decide)
        exact zok_pau hσ (s_X2_write_151 hσ.P)
      have h7 := zc_ler (32768) (z_nlt q5) (zr_c (lo := 32768) (hi := 32768) (by decide)) h4 (by decide)
      refine zok_if (fun q8 => ?_) (fun q8 => ?_)
      · have h9 := zc_ler (49152) q8 (zr_c (lo := 49152) (hi := 49152) (by decide)) h7 (by decide)
        exact zok_pau hσ (s_X2_write_151 hσ.P)
      have h10 := zc_ltl (49151) (z_nle q8) h7 (zr_c (lo := 49152) (hi := 49152) (by decide)) (by decide)
      refine zok_pi (s_X2_batteryIsIn hσ.P) (fun v5 h11 => ?_)
      refine zok_if (fun q12 => ?_) (fun q12 => ?_)
      · have h13 := zc_eql (0) (0) q12 h11 (zr_c (lo := 0) (hi := 0) (by decide)) (by decide)
        exact zok_pau hσ (s_X2_write_151 hσ.P)
      have h14 := zc_nel (1) (1) q12 h11 (zr_c (lo := 0) (hi := 0) (by decide)) (by decide)
      refine zok_pi (s_X2_batteryPlace hσ.P h10) (fun v7 h15 => ?_)
      refine zok_ck (zin_ok h15 (by decide)) ?_
      refine zok_bs (hσ.wi 0 32767 (z_ix h15 (by decide)) h_x2 (by decide +kernel)) (fun σ8 e17 i16 => ?_)
      exact zok_pau i16 (s_X2_write_151 i16.P)
    have h18 := zc_ler (65532) (z_nlt q3) (zr_c (lo := 65532) (hi := 65532) (by decide)) h_x3 (by decide)
    refine zok_if (fun q19 => ?_) (fun q19 => ?_)
    · have h20 := zc_eql (65532) (65532) q19 h18 (zr_c (lo := 65532) (hi := 65532) (by decide)) (by decide)
      exact (s_X2_write_54 hσ h_x2 (zr_w (zr_c (lo := 3) (hi := 3) (by decide)) (by decide)))
    have h21 := zc_nel (65533) (65535) q19 h18 (zr_c (lo := 65532) (hi := 65532) (by decide)) (by decide)
    exact (s_X2_write_54 hσ h_x2 (zr_w (zr_sub (lo := 0) (hi := 2) h21 (zr_c (lo := 65533) (hi := 65533) (by decide)) (by decide)) (by decide)))
  refine zok_if (fun q22 => ?_) (fun q22 => ?_)
  · have h23 := zc_eql (2) (2) q22 zr_any (zr_c (lo := 2) (hi := 2) (by decide)) (by decide)
    refine zok_if (fun q24 => ?_) (fun q24 => ?_)
    · have h25 := zc_eql (0) (0) q24 h_x3 (zr_c (lo := 0) (hi := 0) (by decide)) (by decide)
      exact (s_X2_write_117 hσ h_x2 (zr_w h25 (by decide)))
    have h26 := zc_nel (1) (65535) q24 h_x3 (zr_c (lo := 0) (hi := 0) (by decide)) (by decide)
    refine zok_if (fun q27 => ?_) (fun q27 => ?_)
    · have h28 := zc_eql (16384) (16384) q27 h26 (zr_c (lo := 16384) (hi := 16384) (by decide)) (by decide)
      exact (s_X2_write_117 hσ h_x2 (zr_w h28 (by decide)))
    refine zok_if (fun q29 => ?_) (fun q29 => ?_)
    · have h30 := zc_eql (32768) (32768) q29 h26 (zr_c (lo := 32768) (hi := 32768) (by decide)) (by decide)
      exact (s_X2_write_117 hσ h_x2 (zr_w h30 (by decide)))
    exact (s_X2_write_130 hσ h_x2 (zr_w h26 (by decide)))
  exact (s_X2_write_130 hσ h_x2 h_x3)
theorem s_X2_write {G : Nat → Int} {σ : zSt} (hσ : zIC G σ) {x1 : Int32} (h_x1 : zr (-2) (65536) x1) {x2 : Int32} (h_x2 : zr (0) (255) x2) : zok (fX2_write σ x1 x2) (zIC G) := by
  unfold fX2_write
  refine zok_br (zr_andr (lo := 0) (hi := 65535) (zr_c (lo := 65535) (hi := 65535) (by decide)) (by decide)) (fun v9 e2 h1 => ?_)
  refine zok_if (fun q3 => ?_) (fun q3 => ?_)
  · have h4 := zc_ltl (49151) q3 h1 (zr_c (lo := 49152) (hi := 49152) (by decide)) (by decide)
    exact (s_X2_write_22 hσ h_x2 (zr_w h4 (by decide)))
  have h5 := zc_ler (49152) (z_nlt q3) (zr_c (lo := 49152) (hi := 49152) (by decide)) h1 (by decide)
  refine zok_ck (zin_ok (zr_andr (lo := 0) (hi := 8191) (zr_c (lo := 8191) (hi := 8191) (by decide)) (by decide)) (by decide)) ?_
  refine zok_bs (hσ.wi 0 8191 (z_ix (zr_andr (lo := 0) (hi := 8191) (zr_c (lo := 8191) (hi := 8191) (by decide)) (by decide)) (by decide)) h_x2 (by decide +kernel)) (fun σ10 e7 i6 => ?_)
  exact (s_X2_write_22 i6 h_x2 (zr_w h5 (by decide)))
theorem s_X2_batteryByte {σ : zSt} (hσ : zPC σ) {x1 : Int32} (h_x1 : zr (0) (32767) x1) : zok (fX2_batteryByte σ x1) (zPi σ (fun v : Int32 => zr (0) (255) v)) := by
  unfold fX2_batteryByte
  refine zok_ck (zin_ok (zr_andr (lo := 0) (hi := 32767) (zr_c (lo := 32767) (hi := 32767) (by decide)) (by decide)) (by decide)) ?_
  exact zok_spi (rC_15 hσ.sg _ (z_ix (zr_andr (lo := 0) (hi := 32767) (zr_c (lo := 32767) (hi := 32767) (by decide)) (by decide)) (by decide)))
theorem s_J7_fill_53178_k17_5_body {G : Nat → Int} {σ : zSt} {k5 : zSt → Int32 → Int32 → Int32 → Option (zSt)} {Mk5 : Int} (hk5 : ∀ (σ : zSt) (x1 : Int32) (x2 : Int32) (x3 : Int32), zIC G σ → zr (0) (0) x1 → zr (0) (32768) x2 → zr (32768) (32768) x3 → (32768) - x2.toInt < Mk5 → zok (k5 σ x1 x2 x3) (zIC G)) (hσ : zIC G σ) {x1 : Int32} (h_x1 : zr (0) (0) x1) {x2 : Int32} (h_x2 : zr (0) (32768) x2) {x3 : Int32} (h_x3 : zr (32768) (32768) x3) (hMk5 : (32768) - x2.toInt ≤ Mk5) : zok (fJ7_fill_53178_k17_5_body k5 σ x1 x2 x3) (zIC G) := by
  unfold fJ7_fill_53178_k17_5_body
  refine zok_if (fun q1 => ?_) (fun q1 => ?_)
  · have h2 := zc_ler (32768) q1 h_x3 h_x2 (by decide)
    exact zok_some hσ
  have h3 := zc_ltl (32767) (z_nle q1) h_x2 h_x3 (by decide)
  refine zok_ck (zin_ok h3 (by decide)) ?_
  refine zok_bs (hσ.wi 0 32767 (z_ix h3 (by decide)) h_x1 (by decide +kernel)) (fun σ1 e5 i4 => ?_)
  refine zok_br (zr_add (lo := 1) (hi := 32768) h3 (zr_c (lo := 1) (hi := 1) (by decide)) (by decide)) (fun v2 e7 h6 => ?_)
  exact hk5 _ _ _ _ i4 h_x1 (zr_w h6 (by decide)) h_x3 (by rw [e7]; have := z_tadd (y := (1 : Int32)) h3 (zr_c (lo := 1) (hi := 1) (by decide)) (by decide); have e9 : (1 : Int32).toInt = 1 := rfl; omega) 
theorem s_J7_fill_53178_k17_5 {G : Nat → Int} : ∀ (n : Nat) {σ : zSt} (hσ : zIC G σ) {x1 : Int32} (h_x1 : zr (0) (0) x1) {x2 : Int32} (h_x2 : zr (0) (32768) x2) {x3 : Int32} (h_x3 : zr (32768) (32768) x3) (hm : (32768) - x2.toInt < n), zok (fJ7_fill_53178_k17_5 n σ x1 x2 x3) (zIC G) := by
  intro n
  induction n with
  | zero => intro σ hσ x1 h_x1 x2 h_x2 x3 h_x3 hm ; have h9 := h_x2.1; have h8 := h_x2.2; exfalso; omega
  | succ n ih => intro σ hσ x1 h_x1 x2 h_x2 x3 h_x3 hm ; exact s_J7_fill_53178_k17_5_body (fun σ x1 x2 x3 hσ h_x1 h_x2 h_x3 hm1 => ih hσ h_x1 h_x2 h_x3 (by omega)) hσ h_x1 h_x2 h_x3 (Int.le_refl _)
theorem s_J7_fill_53178_k17 {G : Nat → Int} {σ : zSt} (hσ : zIC G σ) {x1 : Int32} (h_x1 : zr (0) (0) x1) : zok (fJ7_fill_53178_k17 σ x1) (zIC G) := by
  unfold fJ7_fill_53178_k17
  exact (s_J7_fill_53178_k17_5 zfuel hσ h_x1 (zr_w (zr_c (lo := 0) (hi := 0) (by decide)) (by decide)) (zr_c (lo := 32768) (hi := 32768) (by decide)) (by decide))
theorem s_X2_clearBattery {G : Nat → Int} {σ : zSt} (hσ : zIC G σ) : zok (fX2_clearBattery σ ) (zIC G) := by
  unfold fX2_clearBattery
  refine zok_bu (s_J7_fill_53178_k17 hσ (zr_c (lo := 0) (hi := 0) (by decide))) (fun σ1 i1 => ?_)
  exact zok_some i1
theorem s_J7_fill_53178_k15_5_body {G : Nat → Int} {σ : zSt} {k5 : zSt → Int32 → Int32 → Int32 → Option (zSt)} {Mk5 : Int} (hk5 : ∀ (σ : zSt) (x1 : Int32) (x2 : Int32) (x3 : Int32), zIC G σ → zr (0) (0) x1 → zr (0) (8192) x2 → zr (8192) (8192) x3 → (8192) - x2.toInt < Mk5 → zok (k5 σ x1 x2 x3) (zIC G)) (hσ : zIC G σ) {x1 : Int32} (h_x1 : zr (0) (0) x1) {x2 : Int32} (h_x2 : zr (0) (8192) x2) {x3 : Int32} (h_x3 : zr (8192) (8192) x3) (hMk5 : (8192) - x2.toInt ≤ Mk5) : zok (fJ7_fill_53178_k15_5_body k5 σ x1 x2 x3) (zIC G) := by
  unfold fJ7_fill_53178_k15_5_body
  refine zok_if (fun q1 => ?_) (fun q1 => ?_)
  · have h2 := zc_ler (8192) q1 h_x3 h_x2 (by decide)
    exact zok_some hσ
  have h3 := zc_ltl (8191) (z_nle q1) h_x2 h_x3 (by decide)
  refine zok_ck (zin_ok h3 (by decide)) ?_
  refine zok_bs (hσ.wi 0 8191 (z_ix h3 (by decide)) h_x1 (by decide +kernel)) (fun σ1 e5 i4 => ?_)
  refine zok_br (zr_add (lo := 1) (hi := 8192) h3 (zr_c (lo := 1) (hi := 1) (by decide)) (by decide)) (fun v2 e7 h6 => ?_)
  exact hk5 _ _ _ _ i4 h_x1 (zr_w h6 (by decide)) h_x3 (by rw [e7]; have := z_tadd (y := (1 : Int32)) h3 (zr_c (lo := 1) (hi := 1) (by decide)) (by decide); have e9 : (1 : Int32).toInt = 1 := rfl; omega) 
theorem s_J7_fill_53178_k15_5 {G : Nat → Int} : ∀ (n : Nat) {σ : zSt} (hσ : zIC G σ) {x1 : Int32} (h_x1 : zr (0) (0) x1) {x2 : Int32} (h_x2 : zr (0) (8192) x2) {x3 : Int32} (h_x3 : zr (8192) (8192) x3) (hm : (8192) - x2.toInt < n), zok (fJ7_fill_53178_k15_5 n σ x1 x2 x3) (zIC G) := by
  intro n
  induction n with
  | zero => intro σ hσ x1 h_x1 x2 h_x2 x3 h_x3 hm ; have h9 := h_x2.1; have h8 := h_x2.2; exfalso; omega
  | succ n ih => intro σ hσ x1 h_x1 x2 h_x2 x3 h_x3 hm ; exact s_J7_fill_53178_k15_5_body (fun σ x1 x2 x3 hσ h_x1 h_x2 h_x3 hm1 => ih hσ h_x1 h_x2 h_x3 (by omega)) hσ h_x1 h_x2 h_x3 (Int.le_refl _)
theorem s_J7_fill_53178_k15 {G : Nat → Int} {σ : zSt} (hσ : zIC G σ) {x1 : Int32} (h_x1 : zr (0) (0) x1) : zok (fJ7_fill_53178_k15 σ x1) (zIC G) := by
  unfold fJ7_fill_53178_k15
  exact (s_J7_fill_53178_k15_5 zfuel hσ h_x1 (zr_w (zr_c (lo := 0) (hi := 0) (by decide)) (by decide)) (zr_c (lo := 8192) (hi := 8192) (by decide)) (by decide))
theorem s_X2_clearRam {G : Nat → Int} {σ : zSt} (hσ : zIC G σ) : zok (fX2_clearRam σ ) (zIC G) := by
  unfold fX2_clearRam
  refine zok_bu (s_J7_fill_53178_k15 hσ (zr_c (lo := 0) (hi := 0) (by decide))) (fun σ1 i1 => ?_)
  exact zok_some i1
theorem s_X2_clearPages_32 {G : Nat → Int} {σ : zSt} (hσ : zIC G σ) {s0 : Int32} (h_s0 : zr (0) (2) s0) {s1 : Int32} (h_s1 : zr (2) (2) s1) : zok (fX2_clearPages_32 σ s0 s1) (zIC G) := by
  unfold fX2_clearPages_32
  refine zok_ck (zin_ok h_s1 (by decide)) ?_
  refine zok_bs (hσ.wi 2 2 (z_ix h_s1 (by decide)) h_s0 (by decide +kernel)) (fun σ1 e2 i1 => ?_)
  refine zok_ck rfl ?_
  refine zok_bs (i1.wi 3 3 (by decide) (zr_c (lo := 0) (hi := 0) (by decide)) (by decide +kernel)) (fun σ2 e4 i3 => ?_)
  exact zok_some i3
theorem s_X2_clearPages {G : Nat → Int} {σ : zSt} (hσ : zIC G σ) : zok (fX2_clearPages σ ) (zIC G) := by
  unfold fX2_clearPages
  refine zok_ck rfl ?_
  refine zok_bs (hσ.wi 0 0 (by decide) (zr_c (lo := 0) (hi := 0) (by decide)) (by decide +kernel)) (fun σ3 e2 i1 => ?_)
  refine zok_ck rfl ?_
  refine zok_bs (i1.wi 1 1 (by decide) (zr_c (lo := 1) (hi := 1) (by decide)) (by decide +kernel)) (fun σ4 e4 i3 => ?_)
  refine zok_if (fun q5 => ?_) (fun q5 => ?_)
  · have h6 := zc_eql (2) (2) q5 zr_any (zr_c (lo := 2) (hi := 2) (by decide)) (by decide)
    exact (s_X2_clearPages_32 i3 (zr_w (zr_c (lo := 0) (hi := 0) (by decide)) (by decide)) (zr_c (lo := 2) (hi := 2) (by decide)))
  exact (s_X2_clearPages_32 i3 (zr_w (zr_c (lo := 2) (hi := 2) (by decide)) (by decide)) (zr_c (lo := 2) (hi := 2) (by decide)))
theorem s_X2_keep {G : Nat → Int} {σ : zSt} (hσ : zIC G σ) : zok (fX2_keep σ ) (zIC G) := by
  unfold fX2_keep
  refine zok_ck (by decide) ?_
  refine zok_bs (hσ.wc (by decide +kernel) rfl rfl) (fun σ1 e2 i1 => ?_)
  refine zok_ck (by decide) ?_
  refine zok_bs (i1.wc (by decide +kernel) rfl rfl) (fun σ2 e4 i3 => ?_)
  refine zok_ck (by decide) ?_
  refine zok_bs (i3.wc (by decide +kernel) rfl rfl) (fun σ3 e6 i5 => ?_)
  exact zok_some i5
theorem s_X2_bringBack {G : Nat → Int} {σ : zSt} (hσ : zIC G σ) : zok (fX2_bringBack σ ) (zIC G) := by
  unfold fX2_bringBack
  refine zok_ck (by decide) ?_
  refine zok_bs (hσ.wc (by decide +kernel) rfl rfl) (fun σ1 e2 i1 => ?_)
  refine zok_ck (by decide) ?_
  refine zok_bs (i1.wc (by decide +kernel) rfl rfl) (fun σ2 e4 i3 => ?_)
  refine zok_ck (by decide) ?_
  refine zok_bs (i3.wc (by decide +kernel) rfl rfl) (fun σ3 e6 i5 => ?_)
  exact zok_some i5
theorem s_X3_keep {G : Nat → Int} {σ : zSt} (hσ : zIC G σ) : zok (fX3_keep σ ) (zIC G) := by
  unfold fX3_keep
  refine zok_ck (by decide) ?_
  refine zok_bs (hσ.wc (by decide +kernel) rfl rfl) (fun σ1 e2 i1 => ?_)
  exact zok_some i1
theorem s_X3_bringBack {G : Nat → Int} {σ : zSt} (hσ : zIC G σ) : zok (fX3_bringBack σ ) (zIC G) := by
  unfold fX3_bringBack
  refine zok_ck (by decide) ?_
  refine zok_bs (hσ.wc (by decide +kernel) rfl rfl) (fun σ1 e2 i1 => ?_)
  exact zok_some i1
theorem s_X3_width_16 {σ : zSt} (hσ : zPC σ) {s0 : Int32} (h_s0 : zr (160) (256) s0) : zok (fX3_width_16 σ s0) (zPi σ (fun v : Int32 => zr (160) (256) v)) := by
  unfold fX3_width_16
  exact zok_spi h_s0
theorem s_X3_width {σ : zSt} (hσ : zPC σ) : zok (fX3_width σ ) (zPi σ (fun v : Int32 => zr (160) (256) v)) := by
  unfold fX3_width
  refine zok_if (fun q1 => ?_) (fun q1 => ?_)
  · have h2 := zc_eql (0) (0) q1 zr_any (zr_c (lo := 0) (hi := 0) (by decide)) (by decide)
    exact (s_X3_width_16 hσ (zr_w (zr_c (lo := 256) (hi := 256) (by decide)) (by decide)))
  exact (s_X3_width_16 hσ (zr_w (zr_c (lo := 160) (hi := 160) (by decide)) (by decide)))
theorem s_X9_height {σ : zSt} (hσ : zPC σ) : zok (fX9_height σ ) (zPi σ (fun v : Int32 => zr (192) (240) v)) := by
  unfold fX9_height
  refine zok_ck rfl ?_
  refine zok_if (fun q1 => ?_) (fun q1 => ?_)
  · have h2 := zc_eql (6) (6) q1 (zr_andr (lo := 0) (hi := 6) (zr_c (lo := 6) (hi := 6) (by decide)) (by decide)) (zr_c (lo := 6) (hi := 6) (by decide)) (by decide)
    refine zok_ck rfl ?_
    refine zok_if (fun q3 => ?_) (fun q3 => ?_)
    · have h4 := zc_eql (8) (8) q3 (zr_andr (lo := 0) (hi := 24) (zr_c (lo := 24) (hi := 24) (by decide)) (by decide)) (zr_c (lo := 8) (hi := 8) (by decide)) (by decide)
      exact zok_spi (zr_w (zr_c (lo := 240) (hi := 240) (by decide)) (by decide))
    refine zok_if (fun q5 => ?_) (fun q5 => ?_)
    · have h6 := zc_eql (16) (16) q5 (zr_andr (lo := 0) (hi := 24) (zr_c (lo := 24) (hi := 24) (by decide)) (by decide)) (zr_c (lo := 16) (hi := 16) (by decide)) (by decide)
      exact zok_spi (zr_w (zr_c (lo := 224) (hi := 224) (by decide)) (by decide))
    exact zok_spi (zr_w (zr_c (lo := 192) (hi := 192) (by decide)) (by decide))
  have h7 := zc_nel (0) (5) q1 (zr_andr (lo := 0) (hi := 6) (zr_c (lo := 6) (hi := 6) (by decide)) (by decide)) (zr_c (lo := 6) (hi := 6) (by decide)) (by decide)
  exact zok_spi (zr_w (zr_c (lo := 192) (hi := 192) (by decide)) (by decide))
theorem s_X3_height_20 {σ : zSt} (hσ : zPC σ) {s0 : Int32} (h_s0 : zr (144) (240) s0) : zok (fX3_height_20 σ s0) (zPi σ (fun v : Int32 => zr (144) (240) v)) := by
  unfold fX3_height_20
  exact zok_spi h_s0
theorem s_X3_height {σ : zSt} (hσ : zPC σ) : zok (fX3_height σ ) (zPi σ (fun v : Int32 => zr (144) (240) v)) := by
  unfold fX3_height
  refine zok_if (fun q1 => ?_) (fun q1 => ?_)
  · have h2 := zc_eql (0) (0) q1 zr_any (zr_c (lo := 0) (hi := 0) (by decide)) (by decide)
    refine zok_pi (s_X9_height hσ) (fun v2 h3 => ?_)
    exact (s_X3_height_20 hσ (zr_w h3 (by decide)))
  exact (s_X3_height_20 hσ (zr_w (zr_c (lo := 144) (hi := 144) (by decide)) (by decide)))
theorem s_X3_placeOf_26 {σ : zSt} (hσ : zPC σ) {s0 : Int32} (h_s0 : zr (0) (67376) s0) : zok (fX3_placeOf_26 σ s0) (zPi σ (fun v : Int32 => zr (0) (67376) v)) := by
  unfold fX3_placeOf_26
  exact zok_spi h_s0
theorem s_X3_placeOf {σ : zSt} (hσ : zPC σ) {x1 : Int32} (h_x1 : zr (0) (239) x1) : zok (fX3_placeOf σ x1) (zPi σ (fun v : Int32 => zr (0) (67376) v)) := by
  unfold fX3_placeOf
  refine zok_if (fun q1 => ?_) (fun q1 => ?_)
  · have h2 := zc_eql (0) (0) q1 zr_any (zr_c (lo := 0) (hi := 0) (by decide)) (by decide)
    exact (s_X3_placeOf_26 hσ (zr_w (zr_mul (lo := 0) (hi := 61184) h_x1 (zr_c (lo := 256) (hi := 256) (by decide)) (by decide)) (by decide)))
  exact (s_X3_placeOf_26 hσ (zr_w (zr_add (lo := 6192) (hi := 67376) (zr_mul (lo := 6144) (hi := 67328) (zr_add (lo := 24) (hi := 263) h_x1 (zr_c (lo := 24) (hi := 24) (by decide)) (by decide)) (zr_c (lo := 256) (hi := 256) (by decide)) (by decide)) (zr_c (lo := 48) (hi := 48) (by decide)) (by decide)) (by decide)))
theorem s_X3_dotAt_31 {σ : zSt} (hσ : zPC σ) {s0 : Int32} : zok (fX3_dotAt_31 σ s0) (zPi σ (fun v : Int32 => True)) := by
  unfold fX3_dotAt_31
  exact zok_spi trivial
theorem s_X3_dotAt_30 {σ : zSt} (hσ : zPC σ) : zok (fX3_dotAt_30 σ ) (zPi σ (fun v : Int32 => True)) := by
  unfold fX3_dotAt_30
  exact (s_X3_dotAt_31 hσ)
theorem s_X3_dotAt {σ : zSt} (hσ : zPC σ) {x1 : Int32} (h_x1 : zr (0) (255) x1) {x2 : Int32} (h_x2 : zr (0) (239) x2) : zok (fX3_dotAt σ x1 x2) (zPi σ (fun v : Int32 => True)) := by
  unfold fX3_dotAt
  refine zok_pi (s_X3_placeOf hσ h_x2) (fun v2 h1 => ?_)
  refine zok_br (zr_add (lo := 0) (hi := 67631) h1 h_x1 (by decide)) (fun v3 e3 h2 => ?_)
  refine zok_if (fun q4 => ?_) (fun q4 => ?_)
  · exact zr_no (zc_ltl (-1) q4 h2 (zr_c (lo := 0) (hi := 0) (by decide)) (by decide)) (by decide)
  refine zok_if (fun q5 => ?_) (fun q5 => ?_)
  · have h6 := zc_ler (61440) q5 (zr_c (lo := 61440) (hi := 61440) (by decide)) h2 (by decide)
    exact (s_X3_dotAt_30 hσ)
  have h7 := zc_ltl (61439) (z_nle q5) h2 (zr_c (lo := 61440) (hi := 61440) (by decide)) (by decide)
  refine zok_ck (zin_ok h7 (by decide)) ?_
  exact (s_X3_dotAt_31 hσ)
theorem s_X3_sumOfLine_31_body {σ : zSt} {k31 : zSt → Int32 → Int32 → Int32 → Option (zSt × Int32)} {Mk31 : Int} (hk31 : ∀ (x2 : Int32) (x4 : Int32) (x5 : Int32), zr (160) (61440) x4 → zr (0) (67376) x5 → (67376) - x5.toInt < Mk31 → zok (k31 σ x2 x4 x5) (zPi σ (fun v : Int32 => True))) (hσ : zPC σ) {x2 : Int32} {x4 : Int32} (h_x4 : zr (160) (61440) x4) {x5 : Int32} (h_x5 : zr (0) (67376) x5) (hMk31 : (67376) - x5.toInt ≤ Mk31) : zok (fX3_sumOfLine_31_body k31 σ x2 x4 x5) (zPi σ (fun v : Int32 => True)) := by
  unfold fX3_sumOfLine_31_body
  refine zok_if (fun q1 => ?_) (fun q1 => ?_)
  · have h2 := zc_ler (160) q1 h_x4 h_x5 (by decide)
    exact zok_spi trivial
  have h3 := zc_ltl (61439) (z_nle q1) h_x5 h_x4 (by decide)
  refine zok_ck (zin_ok h3 (by decide)) ?_
  refine zok_bv (fun v1 e5 => ?_)
  refine zok_br (zr_add (lo := 1) (hi := 61440) h3 (zr_c (lo := 1) (hi := 1) (by decide)) (by decide)) (fun v2 e7 h6 => ?_)
  exact hk31 _ _ _  h_x4 (zr_w h6 (by decide)) (by rw [e7]; have := z_tadd (y := (1 : Int32)) h3 (zr_c (lo := 1) (hi := 1) (by decide)) (by decide); have e9 : (1 : Int32).toInt = 1 := rfl; omega) 
theorem s_X3_sumOfLine_31 {σ : zSt} (hσ : zPC σ) : ∀ (n : Nat) {x2 : Int32} {x4 : Int32} (h_x4 : zr (160) (61440) x4) {x5 : Int32} (h_x5 : zr (0) (67376) x5) (hm : (67376) - x5.toInt < n), zok (fX3_sumOfLine_31 n σ x2 x4 x5) (zPi σ (fun v : Int32 => True)) := by
  intro n
  induction n with
  | zero => intro x2 x4 h_x4 x5 h_x5 hm ; have h9 := h_x5.1; have h8 := h_x5.2; exfalso; omega
  | succ n ih => intro x2 x4 h_x4 x5 h_x5 hm ; exact s_X3_sumOfLine_31_body (fun x2 x4 x5 h_x4 h_x5 hm1 => ih h_x4 h_x5 (by omega)) hσ h_x4 h_x5 (Int.le_refl _)
theorem s_X3_sumOfLine {σ : zSt} (hσ : zPC σ) {x1 : Int32} (h_x1 : zr (0) (239) x1) : zok (fX3_sumOfLine σ x1) (zPi σ (fun v : Int32 => True)) := by
  unfold fX3_sumOfLine
  refine zok_pi (s_X3_placeOf hσ h_x1) (fun v4 h1 => ?_)
  refine zok_pi (s_X3_width hσ) (fun v6 h2 => ?_)
  refine zok_br (zr_min (lo := 160) (hi := 61440) (zr_add (lo := 160) (hi := 67632) h1 h2 (by decide)) (zr_c (lo := 61440) (hi := 61440) (by decide)) (by decide)) (fun v7 e4 h3 => ?_)
  refine zok_br (zr_max (lo := 0) (hi := 67376) (zr_c (lo := 0) (hi := 0) (by decide)) h1 (by decide)) (fun v8 e6 h5 => ?_)
  exact (s_X3_sumOfLine_31 hσ zfuel h3 h5 (z_su h5 (by decide)))
theorem s_X9_held_20 {σ : zSt} (hσ : zPC σ) {s0 : Int32} : zok (fX9_held_20 σ s0) (zPi σ (fun v : Int32 => True)) := by
  unfold fX9_held_20
  exact zok_spi trivial
theorem s_X9_held_19 {σ : zSt} (hσ : zPC σ) : zok (fX9_held_19 σ ) (zPi σ (fun v : Int32 => True)) := by
  unfold fX9_held_19
  exact (s_X9_held_20 hσ)
theorem s_X9_held {σ : zSt} (hσ : zPC σ) {x1 : Int32} : zok (fX9_held σ x1) (zPi σ (fun v : Int32 => True)) := by
  unfold fX9_held
  refine zok_if (fun q1 => ?_) (fun q1 => ?_)
  · have h2 := zc_ltl (-1) q1 zr_any (zr_c (lo := 0) (hi := 0) (by decide)) (by decide)
    exact (s_X9_held_19 hσ)
  have h3 := zc_ler (0) (z_nlt q1) (zr_c (lo := 0) (hi := 0) (by decide)) zr_any (by decide)
  refine zok_if (fun q4 => ?_) (fun q4 => ?_)
  · have h5 := zc_ler (96) q4 (zr_c (lo := 96) (hi := 96) (by decide)) h3 (by decide)
    exact (s_X9_held_19 hσ)
  have h6 := zc_ltl (95) (z_nle q4) h3 (zr_c (lo := 96) (hi := 96) (by decide)) (by decide)
  refine zok_ck (zin_ok h6 (by decide)) ?_
  exact (s_X9_held_20 hσ)
theorem s_X9_mode_57 {σ : zSt} (hσ : zPC σ) {s0 : Int32} (h_s0 : zr (0) (2) s0) : zok (fX9_mode_57 σ s0) (zPi σ (fun v : Int32 => zr (0) (4) v)) := by
  unfold fX9_mode_57
  exact zok_spi (zr_w h_s0 (by decide))
theorem s_X9_mode {σ : zSt} (hσ : zPC σ) : zok (fX9_mode σ ) (zPi σ (fun v : Int32 => zr (0) (4) v)) := by
  unfold fX9_mode
  refine zok_ck rfl ?_
  refine zok_if (fun q1 => ?_) (fun q1 => ?_)
  · have h2 := zc_eql (0) (0) q1 (zr_andr (lo := 0) (hi := 4) (zr_c (lo := 4) (hi := 4) (by decide)) (by decide)) (zr_c (lo := 0) (hi := 0) (by decide)) (by decide)
    refine zok_ck rfl ?_
    refine zok_if (fun q3 => ?_) (fun q3 => ?_)
    · have h4 := zc_eql (0) (0) q3 (zr_andr (lo := 0) (hi := 16) (zr_c (lo := 16) (hi := 16) (by decide)) (by decide)) (zr_c (lo := 0) (hi := 0) (by decide)) (by decide)
      refine zok_ck rfl ?_
      refine zok_if (fun q5 => ?_) (fun q5 => ?_)
      · have h6 := zc_eql (0) (0) q5 (zr_andr (lo := 0) (hi := 8) (zr_c (lo := 8) (hi := 8) (by decide)) (by decide)) (zr_c (lo := 0) (hi := 0) (by decide)) (by decide)
        refine zok_ck rfl ?_
        refine zok_if (fun q7 => ?_) (fun q7 => ?_)
        · have h8 := zc_eql (0) (0) q7 (zr_andr (lo := 0) (hi := 2) (zr_c (lo := 2) (hi := 2) (by decide)) (by decide)) (zr_c (lo := 0) (hi := 0) (by decide)) (by decide)
          exact (s_X9_mode_57 hσ (zr_w (zr_c (lo := 0) (hi := 0) (by decide)) (by decide)))
        have h9 := zc_nel (1) (2) q7 (zr_andr (lo := 0) (hi := 2) (zr_c (lo := 2) (hi := 2) (by decide)) (by decide)) (zr_c (lo := 0) (hi := 0) (by decide)) (by decide)
        exact (s_X9_mode_57 hσ (zr_w (zr_c (lo := 2) (hi := 2) (by decide)) (by decide)))
      have h10 := zc_nel (1) (8) q5 (zr_andr (lo := 0) (hi := 8) (zr_c (lo := 8) (hi := 8) (by decide)) (by decide)) (zr_c (lo := 0) (hi := 0) (by decide)) (by decide)
      exact zok_spi (zr_w (zr_c (lo := 3) (hi := 3) (by decide)) (by decide))
    have h11 := zc_nel (1) (16) q3 (zr_andr (lo := 0) (hi := 16) (zr_c (lo := 16) (hi := 16) (by decide)) (by decide)) (zr_c (lo := 0) (hi := 0) (by decide)) (by decide)
    exact zok_spi (zr_w (zr_c (lo := 1) (hi := 1) (by decide)) (by decide))
  have h12 := zc_nel (1) (4) q1 (zr_andr (lo := 0) (hi := 4) (zr_c (lo := 4) (hi := 4) (by decide)) (by decide)) (zr_c (lo := 0) (hi := 0) (by decide)) (by decide)
  exact zok_spi (zr_w (zr_c (lo := 4) (hi := 4) (by decide)) (by decide))
theorem s_J7_fill_53178_k27_5_body {G : Nat → Int} {σ : zSt} {k5 : zSt → Int32 → Int32 → Int32 → Option (zSt)} {Mk5 : Int} (hk5 : ∀ (σ : zSt) (x1 : Int32) (x2 : Int32) (x3 : Int32), zIC G σ → zr (0) (31) x1 → zr (0) (256) x2 → zr (256) (256) x3 → (256) - x2.toInt < Mk5 → zok (k5 σ x1 x2 x3) (zIC G)) (hσ : zIC G σ) {x1 : Int32} (h_x1 : zr (0) (31) x1) {x2 : Int32} (h_x2 : zr (0) (256) x2) {x3 : Int32} (h_x3 : zr (256) (256) x3) (hMk5 : (256) - x2.toInt ≤ Mk5) : zok (fJ7_fill_53178_k27_5_body k5 σ x1 x2 x3) (zIC G) := by
  unfold fJ7_fill_53178_k27_5_body
  refine zok_if (fun q1 => ?_) (fun q1 => ?_)
  · have h2 := zc_ler (256) q1 h_x3 h_x2 (by decide)
    exact zok_some hσ
  have h3 := zc_ltl (255) (z_nle q1) h_x2 h_x3 (by decide)
  refine zok_ck (zin_ok h3 (by decide)) ?_
  refine zok_bs (hσ.wk (by decide)) (fun σ1 e5 i4 => ?_)
  refine zok_br (zr_add (lo := 1) (hi := 256) h3 (zr_c (lo := 1) (hi := 1) (by decide)) (by decide)) (fun v2 e7 h6 => ?_)
  exact hk5 _ _ _ _ i4 h_x1 (zr_w h6 (by decide)) h_x3 (by rw [e7]; have := z_tadd (y := (1 : Int32)) h3 (zr_c (lo := 1) (hi := 1) (by decide)) (by decide); have e9 : (1 : Int32).toInt = 1 := rfl; omega) 
theorem s_J7_fill_53178_k27_5 {G : Nat → Int} : ∀ (n : Nat) {σ : zSt} (hσ : zIC G σ) {x1 : Int32} (h_x1 : zr (0) (31) x1) {x2 : Int32} (h_x2 : zr (0) (256) x2) {x3 : Int32} (h_x3 : zr (256) (256) x3) (hm : (256) - x2.toInt < n), zok (fJ7_fill_53178_k27_5 n σ x1 x2 x3) (zIC G) := by
  intro n
  induction n with
  | zero => intro σ hσ x1 h_x1 x2 h_x2 x3 h_x3 hm ; have h9 := h_x2.1; have h8 := h_x2.2; exfalso; omega
  | succ n ih => intro σ hσ x1 h_x1 x2 h_x2 x3 h_x3 hm ; exact s_J7_fill_53178_k27_5_body (fun σ x1 x2 x3 hσ h_x1 h_x2 h_x3 hm1 => ih hσ h_x1 h_x2 h_x3 (by omega)) hσ h_x1 h_x2 h_x3 (Int.le_refl _)
theorem s_J7_fill_53178_k27 {G : Nat → Int} {σ : zSt} (hσ : zIC G σ) {x1 : Int32} (h_x1 : zr (0) (31) x1) : zok (fJ7_fill_53178_k27 σ x1) (zIC G) := by
  unfold fJ7_fill_53178_k27
  exact (s_J7_fill_53178_k27_5 zfuel hσ h_x1 (zr_w (zr_c (lo := 0) (hi := 0) (by decide)) (by decide)) (zr_c (lo := 256) (hi := 256) (by decide)) (by decide))
theorem s_X3_mixColours_130 {G : Nat → Int} {σ : zSt} {k2 : zSt → Int32 → Int32 → Option (zSt)} {Mk2 : Int} (hk2 : ∀ (σ : zSt) (x1 : Int32) (x2 : Int32), zIC G σ → zr (0) (4) x1 → zr (0) (32) x2 → (32) - x2.toInt < Mk2 → zok (k2 σ x1 x2) (zIC G)) (hσ : zIC G σ) {x1 : Int32} (h_x1 : zr (0) (4) x1) {x2 : Int32} (h_x2 : zr (0) (31) x2) (hMk2 : (32) - x2.toInt ≤ Mk2) : zok (fX3_mixColours_130 k2 σ x1 x2) (zIC G) := by
  unfold fX3_mixColours_130
  refine zok_br (zr_add (lo := 1) (hi := 32) h_x2 (zr_c (lo := 1) (hi := 1) (by decide)) (by decide)) (fun v1 e2 h1 => ?_)
  exact hk2 _ _ _ hσ h_x1 (zr_w h1 (by decide)) (by rw [e2]; have := z_tadd (y := (1 : Int32)) h_x2 (zr_c (lo := 1) (hi := 1) (by decide)) (by decide); have e9 : (1 : Int32).toInt = 1 := rfl; omega) 
theorem s_X3_mixColours_78 {G : Nat → Int} {σ : zSt} {k2 : zSt → Int32 → Int32 → Option (zSt)} {Mk2 : Int} (hk2 : ∀ (σ : zSt) (x1 : Int32) (x2 : Int32), zIC G σ → zr (0) (4) x1 → zr (0) (32) x2 → (32) - x2.toInt < Mk2 → zok (k2 σ x1 x2) (zIC G)) (hσ : zIC G σ) {x1 : Int32} (h_x1 : zr (4) (4) x1) {x2 : Int32} (h_x2 : zr (0) (31) x2) {s0 : Int32} (h_s0 : zr (0) (4095) s0) {s1 : Int32} (h_s1 : zr (0) (31) s1) (hMk2 : (32) - x2.toInt ≤ Mk2) : zok (fX3_mixColours_78 k2 σ x1 x2 s0 s1) (zIC G) := by
  unfold fX3_mixColours_78
  refine zok_ck (zin_ok h_s1 (by decide)) ?_
  refine zok_bs (hσ.wk (by decide)) (fun σ2 e2 i1 => ?_)
  exact (s_X3_mixColours_130 hk2 i1 (zr_w h_x1 (by decide)) h_x2 hMk2)
theorem s_X3_mixColours_129 {G : Nat → Int} {σ : zSt} {k2 : zSt → Int32 → Int32 → Option (zSt)} {Mk2 : Int} (hk2 : ∀ (σ : zSt) (x1 : Int32) (x2 : Int32), zIC G σ → zr (0) (4) x1 → zr (0) (32) x2 → (32) - x2.toInt < Mk2 → zok (k2 σ x1 x2) (zIC G)) (hσ : zIC G σ) {x1 : Int32} (h_x1 : zr (0) (3) x1) {x2 : Int32} (h_x2 : zr (0) (31) x2) {s0 : Int32} {s1 : Int32} (h_s1 : zr (0) (31) s1) (hMk2 : (32) - x2.toInt ≤ Mk2) : zok (fX3_mixColours_129 k2 σ x1 x2 s0 s1) (zIC G) := by
  unfold fX3_mixColours_129
  refine zok_ck (zin_ok h_s1 (by decide)) ?_
  refine zok_bs (hσ.wk (by decide)) (fun σ3 e2 i1 => ?_)
  exact (s_X3_mixColours_130 hk2 i1 (zr_w h_x1 (by decide)) h_x2 hMk2)
theorem s_X3_mixColours_2_body {G : Nat → Int} {σ : zSt} {k2 : zSt → Int32 → Int32 → Option (zSt)} {Mk2 : Int} (hk2 : ∀ (σ : zSt) (x1 : Int32) (x2 : Int32), zIC G σ → zr (0) (4) x1 → zr (0) (32) x2 → (32) - x2.toInt < Mk2 → zok (k2 σ x1 x2) (zIC G)) (hσ : zIC G σ) {x1 : Int32} (h_x1 : zr (0) (4) x1) {x2 : Int32} (h_x2 : zr (0) (32) x2) (hMk2 : (32) - x2.toInt ≤ Mk2) : zok (fX3_mixColours_2_body k2 σ x1 x2) (zIC G) := by
  unfold fX3_mixColours_2_body
  refine zok_if (fun q1 => ?_) (fun q1 => ?_)
  · have h2 := zc_ler (32) q1 (zr_c (lo := 32) (hi := 32) (by decide)) h_x2 (by decide)
    exact zok_some hσ
  have h3 := zc_ltl (31) (z_nle q1) h_x2 (zr_c (lo := 32) (hi := 32) (by decide)) (by decide)
  refine zok_if (fun q4 => ?_) (fun q4 => ?_)
  · have h5 := zc_eql (4) (4) q4 h_x1 (zr_c (lo := 4) (hi := 4) (by decide)) (by decide)
    refine zok_if (fun q6 => ?_) (fun q6 => ?_)
    · have h7 := zc_eql (0) (0) q6 zr_any (zr_c (lo := 0) (hi := 0) (by decide)) (by decide)
      refine zok_pi (s_X9_held hσ.P) (fun v6 h8 => ?_)
      exact (s_X3_mixColours_78 hk2 hσ h5 h3 (zr_w (zr_andr (lo := 0) (hi := 63) (zr_c (lo := 63) (hi := 63) (by decide)) (by decide)) (by decide)) h3 hMk2)
    refine zok_pi (s_X9_held hσ.P) (fun v8 h9 => ?_)
    refine zok_pi (s_X9_held hσ.P) (fun v10 h10 => ?_)
    exact (s_X3_mixColours_78 hk2 hσ h5 h3 (zr_andr (lo := 0) (hi := 4095) (zr_c (lo := 4095) (hi := 4095) (by decide)) (by decide)) h3 hMk2)
  have h11 := zc_nel (0) (3) q4 h_x1 (zr_c (lo := 4) (hi := 4) (by decide)) (by decide)
  refine zok_ck (zin_ok (zr_andr (lo := 0) (hi := 15) (zr_c (lo := 15) (hi := 15) (by decide)) (by decide)) (by decide)) ?_
  refine zok_bv (fun v4 e13 => ?_)
  refine zok_if (fun q14 => ?_) (fun q14 => ?_)
  · have h15 := zc_eql (0) (0) q14 zr_any (zr_c (lo := 0) (hi := 0) (by decide)) (by decide)
    exact (s_X3_mixColours_129 hk2 hσ h11 h3 h3 hMk2)
  exact (s_X3_mixColours_129 hk2 hσ h11 h3 h3 hMk2)
theorem s_X3_mixColours_2 {G : Nat → Int} : ∀ (n : Nat) {σ : zSt} (hσ : zIC G σ) {x1 : Int32} (h_x1 : zr (0) (4) x1) {x2 : Int32} (h_x2 : zr (0) (32) x2) (hm : (32) - x2.toInt < n), zok (fX3_mixColours_2 n σ x1 x2) (zIC G) := by
  intro n
  induction n with
  | zero => intro σ hσ x1 h_x1 x2 h_x2 hm ; have h9 := h_x2.1; have h8 := h_x2.2; exfalso; omega
  | succ n ih => intro σ hσ x1 h_x1 x2 h_x2 hm ; exact s_X3_mixColours_2_body (fun σ x1 x2 hσ h_x1 h_x2 hm1 => ih hσ h_x1 h_x2 (by omega)) hσ h_x1 h_x2 (Int.le_refl _)
theorem s_X3_mixColours {G : Nat → Int} {σ : zSt} (hσ : zIC G σ) {x1 : Int32} (h_x1 : zr (0) (4) x1) : zok (fX3_mixColours σ x1) (zIC G) := by
  unfold fX3_mixColours
  exact (s_X3_mixColours_2 zfuel hσ h_x1 (zr_w (zr_c (lo := 0) (hi := 0) (by decide)) (by decide)) (by decide))
theorem s_X9_vramByte {σ : zSt} (hσ : zPC σ) {x1 : Int32} : zok (fX9_vramByte σ x1) (zPi σ (fun v : Int32 => zr (0) (255) v)) := by
  unfold fX9_vramByte
  refine zok_ck (zin_ok (zr_andr (lo := 0) (hi := 16383) (zr_c (lo := 16383) (hi := 16383) (by decide)) (by decide)) (by decide)) ?_
  exact zok_spi (rC_19 hσ.sg _ (z_ix (zr_andr (lo := 0) (hi := 16383) (zr_c (lo := 16383) (hi := 16383) (by decide)) (by decide)) (by decide)))
theorem s_X3_takePlanes {G : Nat → Int} {σ : zSt} (hσ : zIC G σ) {x1 : Int32} (h_x1 : zr (0) (17372) x1) : zok (fX3_takePlanes σ x1) (zIC G) := by
  unfold fX3_takePlanes
  refine zok_pi (s_X9_vramByte hσ.P) (fun v2 h1 => ?_)
  refine zok_pi (s_X9_vramByte hσ.P) (fun v4 h2 => ?_)
  refine zok_pi (s_X9_vramByte hσ.P) (fun v6 h3 => ?_)
  refine zok_pi (s_X9_vramByte hσ.P) (fun v8 h4 => ?_)
  refine zok_bs (hσ.wk (by decide)) (fun σ9 e6 i5 => ?_)
  exact zok_some i5
theorem s_X3_takeTile_60 {G : Nat → Int} {σ : zSt} (hσ : zIC G σ) {s0 : Int32} (h_s0 : zr (0) (7) s0) : zok (fX3_takeTile_60 σ s0) (zIC G) := by
  unfold fX3_takeTile_60
  refine zok_bu (s_X3_takePlanes hσ (zr_w (zr_add (lo := 0) (hi := 16380) (zr_mul (lo := 0) (hi := 16352) (zr_c (lo := 32) (hi := 32) (by decide)) (zr_andr (lo := 0) (hi := 511) (zr_c (lo := 511) (hi := 511) (by decide)) (by decide)) (by decide)) (zr_mul (lo := 0) (hi := 28) (zr_c (lo := 4) (hi := 4) (by decide)) h_s0 (by decide)) (by decide)) (by decide))) (fun σ1 i1 => ?_)
  exact zok_some i1
end ZJN0
section ZJN1
theorem s_X3_takeTile {G : Nat → Int} {σ : zSt} (hσ : zIC G σ) {x1 : Int32} (h_x1 : zr (0) (14398) x1) {x2 : Int32} : zok (fX3_takeTile σ x1 x2) (zIC G) := by
  unfold fX3_takeTile
  refine zok_bv (fun v2 e2 => ?_)
  refine zok_pi (s_X9_vramByte hσ.P) (fun v4 h3 => ?_)
  refine zok_pi (s_X9_vramByte hσ.P) (fun v6 h4 => ?_)
  refine zok_bs (hσ.wk (by decide)) (fun σ7 e6 i5 => ?_)
  refine zok_if (fun q7 => ?_) (fun q7 => ?_)
  · have h8 := zc_eql (0) (0) q7 (zr_andr (lo := 0) (hi := 1024) (zr_c (lo := 1024) (hi := 1024) (by decide)) (by decide)) (zr_c (lo := 0) (hi := 0) (by decide)) (by decide)
    exact (s_X3_takeTile_60 i5 (zr_andr (lo := 0) (hi := 7) (zr_c (lo := 7) (hi := 7) (by decide)) (by decide)))
  have h9 := zc_nel (1) (1024) q7 (zr_andr (lo := 0) (hi := 1024) (zr_c (lo := 1024) (hi := 1024) (by decide)) (by decide)) (zr_c (lo := 0) (hi := 0) (by decide)) (by decide)
  exact (s_X3_takeTile_60 i5 (zr_sub (lo := 0) (hi := 7) (zr_c (lo := 7) (hi := 7) (by decide)) (zr_andr (lo := 0) (hi := 7) (zr_c (lo := 7) (hi := 7) (by decide)) (by decide)) (by decide)))
theorem s_X3_numberIn {σ : zSt} (hσ : zPC σ) {x0 : Int32} {x1 : Int32} (h_x1 : zr (0) (15) x1) : zok (fX3_numberIn σ x0 x1) (zPi σ (fun v : Int32 => zr (0) (15) v)) := by
  unfold fX3_numberIn
  refine zok_br (zr_andr (lo := 0) (hi := 16843009) (zr_c (lo := 16843009) (hi := 16843009) (by decide)) (by decide)) (fun v1 e2 h1 => ?_)
  exact zok_spi (zr_or (lo := 0) (hi := 15) 4 (zr_or (lo := 0) (hi := 7) 3 (zr_or (lo := 0) (hi := 3) 2 (zr_andr (lo := 0) (hi := 1) (zr_c (lo := 1) (hi := 1) (by decide)) (by decide)) (zr_andr (lo := 0) (hi := 2) (zr_c (lo := 2) (hi := 2) (by decide)) (by decide)) (by decide)) (zr_andr (lo := 0) (hi := 4) (zr_c (lo := 4) (hi := 4) (by decide)) (by decide)) (by decide)) (zr_andr (lo := 0) (hi := 8) (zr_c (lo := 8) (hi := 8) (by decide)) (by decide)) (by decide))
theorem s_X3_drawTiles_316 {G : Nat → Int} {σ : zSt} {k143 : zSt → Int32 → Int32 → Int32 → Int32 → Int32 → Int32 → Option (zSt)} {Mk143 : Int} (hk143 : ∀ (σ : zSt) (x1 : Int32) (x5 : Int32) (x6 : Int32) (x7 : Int32) (x8 : Int32) (x9 : Int32), zIC G σ → zr (0) (239) x1 → zr (0) (14336) x5 → zr (0) (1) x8 → zr (0) (256) x9 → (256) - x9.toInt < Mk143 → zok (k143 σ x1 x5 x6 x7 x8 x9) (zIC G)) (hσ : zIC G σ) {x1 : Int32} (h_x1 : zr (0) (239) x1) {x5 : Int32} (h_x5 : zr (0) (14336) x5) {x6 : Int32} {x7 : Int32} {x8 : Int32} (h_x8 : zr (0) (1) x8) {x9 : Int32} (h_x9 : zr (0) (255) x9) {s0 : Int32} (h_s0 : zr (0) (256) s0) {s1 : Int32} (h_s1 : zr (0) (31) s1) {s2 : Int32} (h_s2 : zr (0) (255) s2) (hMk143 : (256) - x9.toInt ≤ Mk143) : zok (fX3_drawTiles_316 k143 σ x1 x5 x6 x7 x8 x9 s0 s1 s2) (zIC G) := by
  unfold fX3_drawTiles_316
  refine zok_ck (zin_ok h_s2 (by decide)) ?_
  refine zok_bs (hσ.wk (by decide)) (fun σ1 e2 i1 => ?_)
  refine zok_br (zr_add (lo := 1) (hi := 256) h_x9 (zr_c (lo := 1) (hi := 1) (by decide)) (by decide)) (fun v2 e4 h3 => ?_)
  exact hk143 _ _ _ _ _ _ _ i1 h_x1 h_x5 h_x8 (zr_w h3 (by decide)) (by rw [e4]; have := z_tadd (y := (1 : Int32)) h_x9 (zr_c (lo := 1) (hi := 1) (by decide)) (by decide); have e9 : (1 : Int32).toInt = 1 := rfl; omega) 
theorem s_X3_drawTiles_303 {G : Nat → Int} {σ : zSt} {k143 : zSt → Int32 → Int32 → Int32 → Int32 → Int32 → Int32 → Option (zSt)} {Mk143 : Int} (hk143 : ∀ (σ : zSt) (x1 : Int32) (x5 : Int32) (x6 : Int32) (x7 : Int32) (x8 : Int32) (x9 : Int32), zIC G σ → zr (0) (239) x1 → zr (0) (14336) x5 → zr (0) (1) x8 → zr (0) (256) x9 → (256) - x9.toInt < Mk143 → zok (k143 σ x1 x5 x6 x7 x8 x9) (zIC G)) (hσ : zIC G σ) {x1 : Int32} (h_x1 : zr (0) (239) x1) {x5 : Int32} (h_x5 : zr (0) (14336) x5) {x6 : Int32} {x7 : Int32} {x8 : Int32} (h_x8 : zr (0) (1) x8) {x9 : Int32} (h_x9 : zr (0) (255) x9) {x13 : Int32} (h_x13 : zr (0) (1) x13) {s0 : Int32} (h_s0 : zr (0) (16) s0) {s1 : Int32} (h_s1 : zr (0) (15) s1) {s2 : Int32} (h_s2 : zr (0) (255) s2) (hMk143 : (256) - x9.toInt ≤ Mk143) : zok (fX3_drawTiles_303 k143 σ x1 x5 x6 x7 x8 x9 x13 s0 s1 s2) (zIC G) := by
  unfold fX3_drawTiles_303
  refine zok_if (fun q1 => ?_) (fun q1 => ?_)
  · have h2 := zc_eql (0) (0) q1 h_x13 (zr_c (lo := 0) (hi := 0) (by decide)) (by decide)
    exact (s_X3_drawTiles_316 hk143 hσ h_x1 h_x5 h_x8 h_x9 (zr_w (zr_c (lo := 0) (hi := 0) (by decide)) (by decide)) (zr_add (lo := 0) (hi := 31) h_s1 h_s0 (by decide)) h_s2 hMk143)
  have h3 := zc_nel (1) (1) q1 h_x13 (zr_c (lo := 0) (hi := 0) (by decide)) (by decide)
  exact (s_X3_drawTiles_316 hk143 hσ h_x1 h_x5 h_x8 h_x9 (zr_w (zr_c (lo := 256) (hi := 256) (by decide)) (by decide)) (zr_add (lo := 0) (hi := 31) h_s1 h_s0 (by decide)) h_s2 hMk143)
theorem s_X3_drawTiles_276 {G : Nat → Int} {σ : zSt} {k143 : zSt → Int32 → Int32 → Int32 → Int32 → Int32 → Int32 → Option (zSt)} {Mk143 : Int} (hk143 : ∀ (σ : zSt) (x1 : Int32) (x5 : Int32) (x6 : Int32) (x7 : Int32) (x8 : Int32) (x9 : Int32), zIC G σ → zr (0) (239) x1 → zr (0) (14336) x5 → zr (0) (1) x8 → zr (0) (256) x9 → (256) - x9.toInt < Mk143 → zok (k143 σ x1 x5 x6 x7 x8 x9) (zIC G)) (hσ : zIC G σ) {x1 : Int32} (h_x1 : zr (0) (239) x1) {x5 : Int32} (h_x5 : zr (0) (14336) x5) {x6 : Int32} {x7 : Int32} {x8 : Int32} (h_x8 : zr (0) (1) x8) {x9 : Int32} (h_x9 : zr (0) (255) x9) {x12 : Int32} (h_x12 : zr (0) (15) x12) {s0 : Int32} (h_s0 : zr (0) (1) s0) (hMk143 : (256) - x9.toInt ≤ Mk143) : zok (fX3_drawTiles_276 k143 σ x1 x5 x6 x7 x8 x9 x12 s0) (zIC G) := by
  unfold fX3_drawTiles_276
  refine zok_if (fun q1 => ?_) (fun q1 => ?_)
  · have h2 := zc_eql (0) (0) q1 (zr_andr (lo := 0) (hi := 2048) (zr_c (lo := 2048) (hi := 2048) (by decide)) (by decide)) (zr_c (lo := 0) (hi := 0) (by decide)) (by decide)
    exact (s_X3_drawTiles_303 hk143 hσ h_x1 h_x5 h_x8 h_x9 h_s0 (zr_w (zr_c (lo := 0) (hi := 0) (by decide)) (by decide)) h_x12 h_x9 hMk143)
  have h3 := zc_nel (1) (2048) q1 (zr_andr (lo := 0) (hi := 2048) (zr_c (lo := 2048) (hi := 2048) (by decide)) (by decide)) (zr_c (lo := 0) (hi := 0) (by decide)) (by decide)
  exact (s_X3_drawTiles_303 hk143 hσ h_x1 h_x5 h_x8 h_x9 h_s0 (zr_w (zr_c (lo := 16) (hi := 16) (by decide)) (by decide)) h_x12 h_x9 hMk143)
theorem s_X3_drawTiles_275 {G : Nat → Int} {σ : zSt} {k143 : zSt → Int32 → Int32 → Int32 → Int32 → Int32 → Int32 → Option (zSt)} {Mk143 : Int} (hk143 : ∀ (σ : zSt) (x1 : Int32) (x5 : Int32) (x6 : Int32) (x7 : Int32) (x8 : Int32) (x9 : Int32), zIC G σ → zr (0) (239) x1 → zr (0) (14336) x5 → zr (0) (1) x8 → zr (0) (256) x9 → (256) - x9.toInt < Mk143 → zok (k143 σ x1 x5 x6 x7 x8 x9) (zIC G)) (hσ : zIC G σ) {x1 : Int32} (h_x1 : zr (0) (239) x1) {x5 : Int32} (h_x5 : zr (0) (14336) x5) {x6 : Int32} {x7 : Int32} {x8 : Int32} (h_x8 : zr (0) (1) x8) {x9 : Int32} (h_x9 : zr (0) (255) x9) {x12 : Int32} (h_x12 : zr (0) (15) x12) (hMk143 : (256) - x9.toInt ≤ Mk143) : zok (fX3_drawTiles_275 k143 σ x1 x5 x6 x7 x8 x9 x12) (zIC G) := by
  unfold fX3_drawTiles_275
  exact (s_X3_drawTiles_276 hk143 hσ h_x1 h_x5 h_x8 h_x9 h_x12 (zr_w (zr_c (lo := 0) (hi := 0) (by decide)) (by decide)) hMk143)
theorem s_X3_drawTiles_242 {G : Nat → Int} {σ : zSt} {k143 : zSt → Int32 → Int32 → Int32 → Int32 → Int32 → Int32 → Option (zSt)} {Mk143 : Int} (hk143 : ∀ (σ : zSt) (x1 : Int32) (x5 : Int32) (x6 : Int32) (x7 : Int32) (x8 : Int32) (x9 : Int32), zIC G σ → zr (0) (239) x1 → zr (0) (14336) x5 → zr (0) (1) x8 → zr (0) (256) x9 → (256) - x9.toInt < Mk143 → zok (k143 σ x1 x5 x6 x7 x8 x9) (zIC G)) (hσ : zIC G σ) {x1 : Int32} (h_x1 : zr (0) (239) x1) {x5 : Int32} (h_x5 : zr (0) (14336) x5) {x6 : Int32} {x7 : Int32} {x8 : Int32} (h_x8 : zr (0) (1) x8) {x9 : Int32} (h_x9 : zr (0) (255) x9) {s0 : Int32} (h_s0 : zr (0) (7) s0) (hMk143 : (256) - x9.toInt ≤ Mk143) : zok (fX3_drawTiles_242 k143 σ x1 x5 x6 x7 x8 x9 s0) (zIC G) := by
  unfold fX3_drawTiles_242
  refine zok_pi (s_X3_numberIn hσ.P (zr_w h_s0 (by decide))) (fun v4 h1 => ?_)
  refine zok_if (fun q2 => ?_) (fun q2 => ?_)
  · have h3 := zc_lel (0) q2 h1 (zr_c (lo := 0) (hi := 0) (by decide)) (by decide)
    exact (s_X3_drawTiles_275 hk143 hσ h_x1 h_x5 h_x8 h_x9 (zr_w h3 (by decide)) hMk143)
  have h4 := zc_ltr (1) (z_nle q2) (zr_c (lo := 0) (hi := 0) (by decide)) h1 (by decide)
  refine zok_if (fun q5 => ?_) (fun q5 => ?_)
  · have h6 := zc_eql (0) (0) q5 (zr_andr (lo := 0) (hi := 4096) (zr_c (lo := 4096) (hi := 4096) (by decide)) (by decide)) (zr_c (lo := 0) (hi := 0) (by decide)) (by decide)
    exact (s_X3_drawTiles_275 hk143 hσ h_x1 h_x5 h_x8 h_x9 (zr_w h4 (by decide)) hMk143)
  have h7 := zc_nel (1) (4096) q5 (zr_andr (lo := 0) (hi := 4096) (zr_c (lo := 4096) (hi := 4096) (by decide)) (by decide)) (zr_c (lo := 0) (hi := 0) (by decide)) (by decide)
  exact (s_X3_drawTiles_276 hk143 hσ h_x1 h_x5 h_x8 h_x9 (zr_w h4 (by decide)) (zr_w (zr_c (lo := 1) (hi := 1) (by decide)) (by decide)) hMk143)
theorem s_X3_drawTiles_215 {G : Nat → Int} {σ : zSt} {k143 : zSt → Int32 → Int32 → Int32 → Int32 → Int32 → Int32 → Option (zSt)} {Mk143 : Int} (hk143 : ∀ (σ : zSt) (x1 : Int32) (x5 : Int32) (x6 : Int32) (x7 : Int32) (x8 : Int32) (x9 : Int32), zIC G σ → zr (0) (239) x1 → zr (0) (14336) x5 → zr (0) (1) x8 → zr (0) (256) x9 → (256) - x9.toInt < Mk143 → zok (k143 σ x1 x5 x6 x7 x8 x9) (zIC G)) (hσ : zIC G σ) {x1 : Int32} (h_x1 : zr (0) (239) x1) {x5 : Int32} (h_x5 : zr (0) (14336) x5) {x6 : Int32} {x7 : Int32} {x8 : Int32} (h_x8 : zr (0) (1) x8) {x9 : Int32} (h_x9 : zr (0) (255) x9) {x10 : Int32} (h_x10 : zr (0) (255) x10) (hMk143 : (256) - x9.toInt ≤ Mk143) : zok (fX3_drawTiles_215 k143 σ x1 x5 x6 x7 x8 x9 x10) (zIC G) := by
  unfold fX3_drawTiles_215
  refine zok_if (fun q1 => ?_) (fun q1 => ?_)
  · have h2 := zc_eql (0) (0) q1 (zr_andr (lo := 0) (hi := 512) (zr_c (lo := 512) (hi := 512) (by decide)) (by decide)) (zr_c (lo := 0) (hi := 0) (by decide)) (by decide)
    exact (s_X3_drawTiles_242 hk143 hσ h_x1 h_x5 h_x8 h_x9 (zr_andr (lo := 0) (hi := 7) (zr_c (lo := 7) (hi := 7) (by decide)) (by decide)) hMk143)
  have h3 := zc_nel (1) (512) q1 (zr_andr (lo := 0) (hi := 512) (zr_c (lo := 512) (hi := 512) (by decide)) (by decide)) (zr_c (lo := 0) (hi := 0) (by decide)) (by decide)
  exact (s_X3_drawTiles_242 hk143 hσ h_x1 h_x5 h_x8 h_x9 (zr_sub (lo := 0) (hi := 7) (zr_c (lo := 7) (hi := 7) (by decide)) (zr_andr (lo := 0) (hi := 7) (zr_c (lo := 7) (hi := 7) (by decide)) (by decide)) (by decide)) hMk143)
theorem s_X3_drawTiles_212 {G : Nat → Int} {σ : zSt} {k143 : zSt → Int32 → Int32 → Int32 → Int32 → Int32 → Int32 → Option (zSt)} {Mk143 : Int} (hk143 : ∀ (σ : zSt) (x1 : Int32) (x5 : Int32) (x6 : Int32) (x7 : Int32) (x8 : Int32) (x9 : Int32), zIC G σ → zr (0) (239) x1 → zr (0) (14336) x5 → zr (0) (1) x8 → zr (0) (256) x9 → (256) - x9.toInt < Mk143 → zok (k143 σ x1 x5 x6 x7 x8 x9) (zIC G)) (hσ : zIC G σ) {x1 : Int32} (h_x1 : zr (0) (239) x1) {x5 : Int32} (h_x5 : zr (0) (14336) x5) {x6 : Int32} {x7 : Int32} {x8 : Int32} (h_x8 : zr (0) (1) x8) {x9 : Int32} (h_x9 : zr (0) (255) x9) {x10 : Int32} (h_x10 : zr (0) (255) x10) {s0 : Int32} {s1 : Int32} (h_s1 : zr (0) (14398) s1) (hMk143 : (256) - x9.toInt ≤ Mk143) : zok (fX3_drawTiles_212 k143 σ x1 x5 x6 x7 x8 x9 x10 s0 s1) (zIC G) := by
  unfold fX3_drawTiles_212
  refine zok_bu (s_X3_takeTile hσ h_s1) (fun σ5 i1 => ?_)
  exact (s_X3_drawTiles_215 hk143 i1 h_x1 h_x5 h_x8 h_x9 h_x10 hMk143)
theorem s_X3_drawTiles_210 {G : Nat → Int} {σ : zSt} {k143 : zSt → Int32 → Int32 → Int32 → Int32 → Int32 → Int32 → Option (zSt)} {Mk143 : Int} (hk143 : ∀ (σ : zSt) (x1 : Int32) (x5 : Int32) (x6 : Int32) (x7 : Int32) (x8 : Int32) (x9 : Int32), zIC G σ → zr (0) (239) x1 → zr (0) (14336) x5 → zr (0) (1) x8 → zr (0) (256) x9 → (256) - x9.toInt < Mk143 → zok (k143 σ x1 x5 x6 x7 x8 x9) (zIC G)) (hσ : zIC G σ) {x1 : Int32} (h_x1 : zr (0) (239) x1) {x5 : Int32} (h_x5 : zr (0) (14336) x5) {x6 : Int32} {x7 : Int32} {x8 : Int32} (h_x8 : zr (0) (1) x8) {x9 : Int32} (h_x9 : zr (0) (255) x9) {x10 : Int32} (h_x10 : zr (0) (255) x10) {s0 : Int32} (h_s0 : zr (0) (14398) s0) (hMk143 : (256) - x9.toInt ≤ Mk143) : zok (fX3_drawTiles_210 k143 σ x1 x5 x6 x7 x8 x9 x10 s0) (zIC G) := by
  unfold fX3_drawTiles_210
  exact (s_X3_drawTiles_212 hk143 hσ h_x1 h_x5 h_x8 h_x9 h_x10 h_s0 hMk143)
theorem s_X3_drawTiles_183 {G : Nat → Int} {σ : zSt} {k143 : zSt → Int32 → Int32 → Int32 → Int32 → Int32 → Int32 → Option (zSt)} {Mk143 : Int} (hk143 : ∀ (σ : zSt) (x1 : Int32) (x5 : Int32) (x6 : Int32) (x7 : Int32) (x8 : Int32) (x9 : Int32), zIC G σ → zr (0) (239) x1 → zr (0) (14336) x5 → zr (0) (1) x8 → zr (0) (256) x9 → (256) - x9.toInt < Mk143 → zok (k143 σ x1 x5 x6 x7 x8 x9) (zIC G)) (hσ : zIC G σ) {x1 : Int32} (h_x1 : zr (0) (239) x1) {x5 : Int32} (h_x5 : zr (0) (14336) x5) {x6 : Int32} {x7 : Int32} {x8 : Int32} (h_x8 : zr (0) (1) x8) {x9 : Int32} (h_x9 : zr (0) (255) x9) {x10 : Int32} (h_x10 : zr (0) (255) x10) (hMk143 : (256) - x9.toInt ≤ Mk143) : zok (fX3_drawTiles_183 k143 σ x1 x5 x6 x7 x8 x9 x10) (zIC G) := by
  unfold fX3_drawTiles_183
  refine zok_if (fun q1 => ?_) (fun q1 => ?_)
  · have h2 := zc_eql (0) (0) q1 h_x8 (zr_c (lo := 0) (hi := 0) (by decide)) (by decide)
    exact (s_X3_drawTiles_210 hk143 hσ h_x1 h_x5 (zr_w h2 (by decide)) h_x9 h_x10 (zr_add (lo := 0) (hi := 14398) h_x5 (zr_mul (lo := 0) (hi := 62) (zr_c (lo := 2) (hi := 2) (by decide)) (zr_shr (lo := 0) (hi := 31) 3 (by decide) h_x10 (by decide)) (by decide)) (by decide)) hMk143)
  have h3 := zc_nel (1) (1) q1 h_x8 (zr_c (lo := 0) (hi := 0) (by decide)) (by decide)
  refine zok_if (fun q4 => ?_) (fun q4 => ?_)
  · have h5 := zc_ltl (191) q4 h_x9 (zr_c (lo := 192) (hi := 192) (by decide)) (by decide)
    exact (s_X3_drawTiles_210 hk143 hσ h_x1 h_x5 (zr_w h3 (by decide)) (zr_w h5 (by decide)) h_x10 (zr_add (lo := 0) (hi := 14398) h_x5 (zr_mul (lo := 0) (hi := 62) (zr_c (lo := 2) (hi := 2) (by decide)) (zr_shr (lo := 0) (hi := 31) 3 (by decide) h_x10 (by decide)) (by decide)) (by decide)) hMk143)
  have h6 := zc_ler (192) (z_nlt q4) (zr_c (lo := 192) (hi := 192) (by decide)) h_x9 (by decide)
  exact (s_X3_drawTiles_212 hk143 hσ h_x1 h_x5 (zr_w h3 (by decide)) (zr_w h6 (by decide)) h_x10 (zr_add (lo := 0) (hi := 14398) h_x5 (zr_mul (lo := 0) (hi := 62) (zr_c (lo := 2) (hi := 2) (by decide)) (zr_shr (lo := 0) (hi := 31) 3 (by decide) h_x10 (by decide)) (by decide)) (by decide)) hMk143)
theorem s_X3_drawTiles_143_body {G : Nat → Int} {σ : zSt} {k143 : zSt → Int32 → Int32 → Int32 → Int32 → Int32 → Int32 → Option (zSt)} {Mk143 : Int} (hk143 : ∀ (σ : zSt) (x1 : Int32) (x5 : Int32) (x6 : Int32) (x7 : Int32) (x8 : Int32) (x9 : Int32), zIC G σ → zr (0) (239) x1 → zr (0) (14336) x5 → zr (0) (1) x8 → zr (0) (256) x9 → (256) - x9.toInt < Mk143 → zok (k143 σ x1 x5 x6 x7 x8 x9) (zIC G)) (hσ : zIC G σ) {x1 : Int32} (h_x1 : zr (0) (239) x1) {x5 : Int32} (h_x5 : zr (0) (14336) x5) {x6 : Int32} {x7 : Int32} {x8 : Int32} (h_x8 : zr (0) (1) x8) {x9 : Int32} (h_x9 : zr (0) (256) x9) (hMk143 : (256) - x9.toInt ≤ Mk143) : zok (fX3_drawTiles_143_body k143 σ x1 x5 x6 x7 x8 x9) (zIC G) := by
  unfold fX3_drawTiles_143_body
  refine zok_if (fun q1 => ?_) (fun q1 => ?_)
  · have h2 := zc_ler (256) q1 (zr_c (lo := 256) (hi := 256) (by decide)) h_x9 (by decide)
    exact zok_some hσ
  have h3 := zc_ltl (255) (z_nle q1) h_x9 (zr_c (lo := 256) (hi := 256) (by decide)) (by decide)
  refine zok_br (zr_andr (lo := 0) (hi := 255) (zr_c (lo := 255) (hi := 255) (by decide)) (by decide)) (fun v6 e5 h4 => ?_)
  refine zok_if (fun q6 => ?_) (fun q6 => ?_)
  · have h7 := zc_eql (0) (0) q6 h3 (zr_c (lo := 0) (hi := 0) (by decide)) (by decide)
    exact (s_X3_drawTiles_183 hk143 hσ h_x1 h_x5 h_x8 (zr_w h7 (by decide)) h4 hMk143)
  have h8 := zc_nel (1) (255) q6 h3 (zr_c (lo := 0) (hi := 0) (by decide)) (by decide)
  refine zok_if (fun q9 => ?_) (fun q9 => ?_)
  · have h10 := zc_eql (192) (192) q9 h8 (zr_c (lo := 192) (hi := 192) (by decide)) (by decide)
    exact (s_X3_drawTiles_183 hk143 hσ h_x1 h_x5 h_x8 (zr_w h10 (by decide)) h4 hMk143)
  refine zok_if (fun q11 => ?_) (fun q11 => ?_)
  · have h12 := zc_eql (0) (0) q11 (zr_andr (lo := 0) (hi := 7) (zr_c (lo := 7) (hi := 7) (by decide)) (by decide)) (zr_c (lo := 0) (hi := 0) (by decide)) (by decide)
    exact (s_X3_drawTiles_183 hk143 hσ h_x1 h_x5 h_x8 (zr_w h8 (by decide)) h4 hMk143)
  have h13 := zc_nel (1) (7) q11 (zr_andr (lo := 0) (hi := 7) (zr_c (lo := 7) (hi := 7) (by decide)) (by decide)) (zr_c (lo := 0) (hi := 0) (by decide)) (by decide)
  exact (s_X3_drawTiles_215 hk143 hσ h_x1 h_x5 h_x8 (zr_w h8 (by decide)) h4 hMk143)
theorem s_X3_drawTiles_143 {G : Nat → Int} : ∀ (n : Nat) {σ : zSt} (hσ : zIC G σ) {x1 : Int32} (h_x1 : zr (0) (239) x1) {x5 : Int32} (h_x5 : zr (0) (14336) x5) {x6 : Int32} {x7 : Int32} {x8 : Int32} (h_x8 : zr (0) (1) x8) {x9 : Int32} (h_x9 : zr (0) (256) x9) (hm : (256) - x9.toInt < n), zok (fX3_drawTiles_143 n σ x1 x5 x6 x7 x8 x9) (zIC G) := by
  intro n
  induction n with
  | zero => intro σ hσ x1 h_x1 x5 h_x5 x6 x7 x8 h_x8 x9 h_x9 hm ; have h9 := h_x9.1; have h8 := h_x9.2; exfalso; omega
  | succ n ih => intro σ hσ x1 h_x1 x5 h_x5 x6 x7 x8 h_x8 x9 h_x9 hm ; exact s_X3_drawTiles_143_body (fun σ x1 x5 x6 x7 x8 x9 hσ h_x1 h_x5 h_x8 h_x9 hm1 => ih hσ h_x1 h_x5 h_x8 h_x9 (by omega)) hσ h_x1 h_x5 h_x8 h_x9 (Int.le_refl _)
theorem s_X3_drawTiles_138 {G : Nat → Int} {σ : zSt} (hσ : zIC G σ) {x1 : Int32} (h_x1 : zr (0) (239) x1) {x5 : Int32} (h_x5 : zr (0) (14336) x5) {x6 : Int32} {x7 : Int32} {s0 : Int32} (h_s0 : zr (0) (1) s0) : zok (fX3_drawTiles_138 σ x1 x5 x6 x7 s0) (zIC G) := by
  unfold fX3_drawTiles_138
  exact (s_X3_drawTiles_143 zfuel hσ h_x1 h_x5 h_s0 (zr_w (zr_c (lo := 0) (hi := 0) (by decide)) (by decide)) (by decide))
theorem s_X3_drawTiles_122 {G : Nat → Int} {σ : zSt} (hσ : zIC G σ) {x1 : Int32} (h_x1 : zr (0) (239) x1) {x3 : Int32} {x5 : Int32} (h_x5 : zr (0) (14336) x5) {x6 : Int32} {s0 : Int32} (h_s0 : zr (224) (256) s0) {s1 : Int32} : zok (fX3_drawTiles_122 σ x1 x3 x5 x6 s0 s1) (zIC G) := by
  unfold fX3_drawTiles_122
  refine zok_ck (zdv_ok h_s0 (by decide)) ?_
  refine zok_bv (fun v7 e2 => ?_)
  refine zok_if (fun q3 => ?_) (fun q3 => ?_)
  · have h4 := zc_eql (0) (0) q3 (zr_andr (lo := 0) (hi := 128) (zr_c (lo := 128) (hi := 128) (by decide)) (by decide)) (zr_c (lo := 0) (hi := 0) (by decide)) (by decide)
    exact (s_X3_drawTiles_138 hσ h_x1 h_x5 (zr_w (zr_c (lo := 0) (hi := 0) (by decide)) (by decide)))
  have h5 := zc_nel (1) (128) q3 (zr_andr (lo := 0) (hi := 128) (zr_c (lo := 128) (hi := 128) (by decide)) (by decide)) (zr_c (lo := 0) (hi := 0) (by decide)) (by decide)
  exact (s_X3_drawTiles_138 hσ h_x1 h_x5 (zr_w (zr_c (lo := 1) (hi := 1) (by decide)) (by decide)))
theorem s_X3_drawTiles_96 {G : Nat → Int} {σ : zSt} (hσ : zIC G σ) {x1 : Int32} (h_x1 : zr (0) (239) x1) {x2 : Int32} (h_x2 : zr (0) (1) x2) {x3 : Int32} {x5 : Int32} (h_x5 : zr (0) (14336) x5) {s0 : Int32} : zok (fX3_drawTiles_96 σ x1 x2 x3 x5 s0) (zIC G) := by
  unfold fX3_drawTiles_96
  refine zok_pi (s_X9_held hσ.P) (fun v9 h1 => ?_)
  refine zok_if (fun q2 => ?_) (fun q2 => ?_)
  · have h3 := zc_eql (0) (0) q2 h_x2 (zr_c (lo := 0) (hi := 0) (by decide)) (by decide)
    exact (s_X3_drawTiles_122 hσ h_x1 h_x5 (zr_w (zr_c (lo := 224) (hi := 224) (by decide)) (by decide)))
  have h4 := zc_nel (1) (1) q2 h_x2 (zr_c (lo := 0) (hi := 0) (by decide)) (by decide)
  exact (s_X3_drawTiles_122 hσ h_x1 h_x5 (zr_w (zr_c (lo := 256) (hi := 256) (by decide)) (by decide)))
theorem s_X3_drawTiles_87 {G : Nat → Int} {σ : zSt} (hσ : zIC G σ) {x1 : Int32} (h_x1 : zr (0) (239) x1) {x2 : Int32} (h_x2 : zr (0) (1) x2) {x3 : Int32} {x5 : Int32} (h_x5 : zr (0) (14336) x5) : zok (fX3_drawTiles_87 σ x1 x2 x3 x5) (zIC G) := by
  unfold fX3_drawTiles_87
  refine zok_pi (s_X9_held hσ.P) (fun v11 h1 => ?_)
  exact (s_X3_drawTiles_96 hσ h_x1 h_x2 h_x5)
theorem s_X3_drawTiles_68 {G : Nat → Int} {σ : zSt} (hσ : zIC G σ) {x1 : Int32} (h_x1 : zr (0) (239) x1) {x2 : Int32} (h_x2 : zr (0) (1) x2) {x3 : Int32} {s0 : Int32} (h_s0 : zr (0) (14336) s0) : zok (fX3_drawTiles_68 σ x1 x2 x3 s0) (zIC G) := by
  unfold fX3_drawTiles_68
  refine zok_if (fun q1 => ?_) (fun q1 => ?_)
  · have h2 := zc_ler (16) q1 (zr_c (lo := 16) (hi := 16) (by decide)) h_x1 (by decide)
    exact (s_X3_drawTiles_87 hσ (zr_w h2 (by decide)) h_x2 h_s0)
  have h3 := zc_ltl (15) (z_nle q1) h_x1 (zr_c (lo := 16) (hi := 16) (by decide)) (by decide)
  refine zok_if (fun q4 => ?_) (fun q4 => ?_)
  · have h5 := zc_eql (0) (0) q4 (zr_andr (lo := 0) (hi := 64) (zr_c (lo := 64) (hi := 64) (by decide)) (by decide)) (zr_c (lo := 0) (hi := 0) (by decide)) (by decide)
    exact (s_X3_drawTiles_87 hσ (zr_w h3 (by decide)) h_x2 h_s0)
  have h6 := zc_nel (1) (64) q4 (zr_andr (lo := 0) (hi := 64) (zr_c (lo := 64) (hi := 64) (by decide)) (by decide)) (zr_c (lo := 0) (hi := 0) (by decide)) (by decide)
  exact (s_X3_drawTiles_96 hσ (zr_w h3 (by decide)) h_x2 h_s0)
theorem s_X3_drawTiles_18 {G : Nat → Int} {σ : zSt} (hσ : zIC G σ) {x1 : Int32} (h_x1 : zr (0) (239) x1) {s0 : Int32} (h_s0 : zr (0) (1) s0) : zok (fX3_drawTiles_18 σ x1 s0) (zIC G) := by
  unfold fX3_drawTiles_18
  refine zok_pi (s_X9_held hσ.P) (fun v13 h1 => ?_)
  refine zok_pi (s_X9_held hσ.P) (fun v15 h2 => ?_)
  refine zok_if (fun q3 => ?_) (fun q3 => ?_)
  · have h4 := zc_eql (0) (0) q3 h_s0 (zr_c (lo := 0) (hi := 0) (by decide)) (by decide)
    exact (s_X3_drawTiles_68 hσ h_x1 (zr_w h4 (by decide)) (zr_mul (lo := 0) (hi := 14336) (zr_c (lo := 1024) (hi := 1024) (by decide)) (zr_andr (lo := 0) (hi := 14) (zr_c (lo := 14) (hi := 14) (by decide)) (by decide)) (by decide)))
  have h5 := zc_nel (1) (1) q3 h_s0 (zr_c (lo := 0) (hi := 0) (by decide)) (by decide)
  exact (s_X3_drawTiles_68 hσ h_x1 (zr_w h5 (by decide)) (zr_w (zr_add (lo := 1792) (hi := 14080) (zr_mul (lo := 0) (hi := 12288) (zr_c (lo := 4096) (hi := 4096) (by decide)) (zr_andr (lo := 0) (hi := 3) (zr_c (lo := 3) (hi := 3) (by decide)) (by decide)) (by decide)) (zr_c (lo := 1792) (hi := 1792) (by decide)) (by decide)) (by decide)))
theorem s_X3_drawTiles {G : Nat → Int} {σ : zSt} (hσ : zIC G σ) {x1 : Int32} (h_x1 : zr (0) (239) x1) : zok (fX3_drawTiles σ x1) (zIC G) := by
  unfold fX3_drawTiles
  refine zok_pi (s_X9_height hσ.P) (fun v17 h1 => ?_)
  refine zok_if (fun q2 => ?_) (fun q2 => ?_)
  · have h3 := zc_eql (192) (192) q2 h1 (zr_c (lo := 192) (hi := 192) (by decide)) (by decide)
    exact (s_X3_drawTiles_18 hσ h_x1 (zr_w (zr_c (lo := 0) (hi := 0) (by decide)) (by decide)))
  have h4 := zc_nel (193) (240) q2 h1 (zr_c (lo := 192) (hi := 192) (by decide)) (by decide)
  exact (s_X3_drawTiles_18 hσ h_x1 (zr_w (zr_c (lo := 1) (hi := 1) (by decide)) (by decide)))
theorem s_J7_fill_53178_k28_5_body {G : Nat → Int} {σ : zSt} {k5 : zSt → Int32 → Int32 → Int32 → Option (zSt)} {Mk5 : Int} (hk5 : ∀ (σ : zSt) (x1 : Int32) (x2 : Int32) (x3 : Int32), zIC G σ → zr (0) (0) x1 → zr (0) (256) x2 → zr (256) (256) x3 → (256) - x2.toInt < Mk5 → zok (k5 σ x1 x2 x3) (zIC G)) (hσ : zIC G σ) {x1 : Int32} (h_x1 : zr (0) (0) x1) {x2 : Int32} (h_x2 : zr (0) (256) x2) {x3 : Int32} (h_x3 : zr (256) (256) x3) (hMk5 : (256) - x2.toInt ≤ Mk5) : zok (fJ7_fill_53178_k28_5_body k5 σ x1 x2 x3) (zIC G) := by
  unfold fJ7_fill_53178_k28_5_body
  refine zok_if (fun q1 => ?_) (fun q1 => ?_)
  · have h2 := zc_ler (256) q1 h_x3 h_x2 (by decide)
    exact zok_some hσ
  have h3 := zc_ltl (255) (z_nle q1) h_x2 h_x3 (by decide)
  refine zok_ck (zin_ok h3 (by decide)) ?_
  refine zok_bs (hσ.wk (by decide)) (fun σ1 e5 i4 => ?_)
  refine zok_br (zr_add (lo := 1) (hi := 256) h3 (zr_c (lo := 1) (hi := 1) (by decide)) (by decide)) (fun v2 e7 h6 => ?_)
  exact hk5 _ _ _ _ i4 h_x1 (zr_w h6 (by decide)) h_x3 (by rw [e7]; have := z_tadd (y := (1 : Int32)) h3 (zr_c (lo := 1) (hi := 1) (by decide)) (by decide); have e9 : (1 : Int32).toInt = 1 := rfl; omega) 
theorem s_J7_fill_53178_k28_5 {G : Nat → Int} : ∀ (n : Nat) {σ : zSt} (hσ : zIC G σ) {x1 : Int32} (h_x1 : zr (0) (0) x1) {x2 : Int32} (h_x2 : zr (0) (256) x2) {x3 : Int32} (h_x3 : zr (256) (256) x3) (hm : (256) - x2.toInt < n), zok (fJ7_fill_53178_k28_5 n σ x1 x2 x3) (zIC G) := by
  intro n
  induction n with
  | zero => intro σ hσ x1 h_x1 x2 h_x2 x3 h_x3 hm ; have h9 := h_x2.1; have h8 := h_x2.2; exfalso; omega
  | succ n ih => intro σ hσ x1 h_x1 x2 h_x2 x3 h_x3 hm ; exact s_J7_fill_53178_k28_5_body (fun σ x1 x2 x3 hσ h_x1 h_x2 h_x3 hm1 => ih hσ h_x1 h_x2 h_x3 (by omega)) hσ h_x1 h_x2 h_x3 (Int.le_refl _)
theorem s_J7_fill_53178_k28 {G : Nat → Int} {σ : zSt} (hσ : zIC G σ) {x1 : Int32} (h_x1 : zr (0) (0) x1) : zok (fJ7_fill_53178_k28 σ x1) (zIC G) := by
  unfold fJ7_fill_53178_k28
  exact (s_J7_fill_53178_k28_5 zfuel hσ h_x1 (zr_w (zr_c (lo := 0) (hi := 0) (by decide)) (by decide)) (zr_c (lo := 256) (hi := 256) (by decide)) (by decide))
theorem s_X3_rowOfSprite_56 {σ : zSt} (hσ : zPC σ) {s0 : Int32} (h_s0 : zr (-1) (255) s0) : zok (fX3_rowOfSprite_56 σ s0) (zPi σ (fun v : Int32 => zr (-1) (255) v)) := by
  unfold fX3_rowOfSprite_56
  exact zok_spi h_s0
theorem s_X3_rowOfSprite_47 {σ : zSt} (hσ : zPC σ) {x4 : Int32} (h_x4 : zr (0) (255) x4) {s0 : Int32} (h_s0 : zr (8) (16) s0) {s1 : Int32} (h_s1 : zr (0) (255) s1) : zok (fX3_rowOfSprite_47 σ x4 s0 s1) (zPi σ (fun v : Int32 => zr (-1) (255) v)) := by
  unfold fX3_rowOfSprite_47
  refine zok_if (fun q1 => ?_) (fun q1 => ?_)
  · have h2 := zc_ler (8) q1 h_s0 h_s1 (by decide)
    exact (s_X3_rowOfSprite_56 hσ (zr_w (zr_c (lo := -1) (hi := -1) (by decide)) (by decide)))
  have h3 := zc_ltl (15) (z_nle q1) h_s1 h_s0 (by decide)
  exact (s_X3_rowOfSprite_56 hσ (zr_w h_x4 (by decide)))
theorem s_X3_rowOfSprite_32 {σ : zSt} (hσ : zPC σ) {x3 : Int32} {x4 : Int32} (h_x4 : zr (0) (255) x4) : zok (fX3_rowOfSprite_32 σ x3 x4) (zPi σ (fun v : Int32 => zr (-1) (255) v)) := by
  unfold fX3_rowOfSprite_32
  refine zok_if (fun q1 => ?_) (fun q1 => ?_)
  · have h2 := zc_eql (0) (0) q1 (zr_andr (lo := 0) (hi := 2) (zr_c (lo := 2) (hi := 2) (by decide)) (by decide)) (zr_c (lo := 0) (hi := 0) (by decide)) (by decide)
    exact (s_X3_rowOfSprite_47 hσ h_x4 (zr_w (zr_c (lo := 8) (hi := 8) (by decide)) (by decide)) h_x4)
  have h3 := zc_nel (1) (2) q1 (zr_andr (lo := 0) (hi := 2) (zr_c (lo := 2) (hi := 2) (by decide)) (by decide)) (zr_c (lo := 0) (hi := 0) (by decide)) (by decide)
  exact (s_X3_rowOfSprite_47 hσ h_x4 (zr_w (zr_c (lo := 16) (hi := 16) (by decide)) (by decide)) h_x4)
theorem s_X3_rowOfSprite {σ : zSt} (hσ : zPC σ) {x1 : Int32} (h_x1 : zr (0) (239) x1) {x2 : Int32} (h_x2 : zr (0) (255) x2) : zok (fX3_rowOfSprite σ x1 x2) (zPi σ (fun v : Int32 => zr (-1) (255) v)) := by
  unfold fX3_rowOfSprite
  refine zok_pi (s_X9_held hσ) (fun v2 h1 => ?_)
  refine zok_br (zr_andr (lo := 0) (hi := 255) (zr_c (lo := 255) (hi := 255) (by decide)) (by decide)) (fun v3 e3 h2 => ?_)
  refine zok_if (fun q4 => ?_) (fun q4 => ?_)
  · have h5 := zc_eql (0) (0) q4 (zr_andr (lo := 0) (hi := 1) (zr_c (lo := 1) (hi := 1) (by decide)) (by decide)) (zr_c (lo := 0) (hi := 0) (by decide)) (by decide)
    exact (s_X3_rowOfSprite_32 hσ h2)
  have h6 := zc_nel (1) (1) q4 (zr_andr (lo := 0) (hi := 1) (zr_c (lo := 1) (hi := 1) (by decide)) (by decide)) (zr_c (lo := 0) (hi := 0) (by decide)) (by decide)
  refine zok_br (zr_shr (lo := 0) (hi := 127) 1 (by decide) h2 (by decide)) (fun v4 e8 h7 => ?_)
  exact (s_X3_rowOfSprite_32 hσ (zr_w h7 (by decide)))
theorem s_X9_mark {G : Nat → Int} {σ : zSt} (hσ : zIC G σ) {x1 : Int32} (h_x1 : zr (32) (64) x1) : zok (fX9_mark σ x1) (zIC G) := by
  unfold fX9_mark
  refine zok_ck rfl ?_
  refine zok_ck rfl ?_
  refine zok_bs (hσ.wi 15 15 (by decide) (zr_or (lo := 0) (hi := 255) 8 (rC_40 hσ.sg _ (by decide)) h_x1 (by decide)) (by decide +kernel)) (fun σ1 e2 i1 => ?_)
  exact zok_some i1
theorem s_X3_drawSprite_190 {G : Nat → Int} {σ : zSt} {k111 : zSt → Int32 → Int32 → Int32 → Option (zSt)} {Mk111 : Int} (hk111 : ∀ (σ : zSt) (x3 : Int32) (x6 : Int32) (x7 : Int32), zIC G σ → zr (-8) (255) x3 → zr (0) (1) x6 → zr (0) (16) x7 → (16) - x7.toInt < Mk111 → zok (k111 σ x3 x6 x7) (zIC G)) (hσ : zIC G σ) {x3 : Int32} (h_x3 : zr (-8) (255) x3) {x6 : Int32} (h_x6 : zr (0) (1) x6) {x7 : Int32} (h_x7 : zr (0) (15) x7) (hMk111 : (16) - x7.toInt ≤ Mk111) : zok (fX3_drawSprite_190 k111 σ x3 x6 x7) (zIC G) := by
  unfold fX3_drawSprite_190
  refine zok_br (zr_add (lo := 1) (hi := 16) h_x7 (zr_c (lo := 1) (hi := 1) (by decide)) (by decide)) (fun v1 e2 h1 => ?_)
  exact hk111 _ _ _ _ hσ h_x3 h_x6 (zr_w h1 (by decide)) (by rw [e2]; have := z_tadd (y := (1 : Int32)) h_x7 (zr_c (lo := 1) (hi := 1) (by decide)) (by decide); have e9 : (1 : Int32).toInt = 1 := rfl; omega) 
theorem s_X3_drawSprite_111_body {G : Nat → Int} {σ : zSt} {k111 : zSt → Int32 → Int32 → Int32 → Option (zSt)} {Mk111 : Int} (hk111 : ∀ (σ : zSt) (x3 : Int32) (x6 : Int32) (x7 : Int32), zIC G σ → zr (-8) (255) x3 → zr (0) (1) x6 → zr (0) (16) x7 → (16) - x7.toInt < Mk111 → zok (k111 σ x3 x6 x7) (zIC G)) (hσ : zIC G σ) {x3 : Int32} (h_x3 : zr (-8) (255) x3) {x6 : Int32} (h_x6 : zr (0) (1) x6) {x7 : Int32} (h_x7 : zr (0) (16) x7) (hMk111 : (16) - x7.toInt ≤ Mk111) : zok (fX3_drawSprite_111_body k111 σ x3 x6 x7) (zIC G) := by
  unfold fX3_drawSprite_111_body
  refine zok_if (fun q1 => ?_) (fun q1 => ?_)
  · exact zok_some hσ
  have h2 := zc_ltl (15) (z_nle q1) h_x7 (zr_shld (lo := 0) (hi := 16) (zr_c (lo := 8) (hi := 8) (by decide)) h_x6 (by decide)) (by decide)
  have h3 := zc_ltr (1) (z_nle q1) h_x7 (zr_shld (lo := 0) (hi := 16) (zr_c (lo := 8) (hi := 8) (by decide)) h_x6 (by decide)) (by decide)
  refine zok_br (zr_add (lo := -8) (hi := 270) h_x3 h2 (by decide)) (fun v2 e5 h4 => ?_)
  refine zok_pi (s_X3_numberIn hσ.P (zr_shra (lo := 0) (hi := 15) h2 (by decide))) (fun v4 h6 => ?_)
  refine zok_if (fun q7 => ?_) (fun q7 => ?_)
  · have h8 := zc_lel (0) q7 h6 (zr_c (lo := 0) (hi := 0) (by decide)) (by decide)
    exact (s_X3_drawSprite_190 hk111 hσ h_x3 h_x6 h2 hMk111)
  have h9 := zc_ltr (1) (z_nle q7) (zr_c (lo := 0) (hi := 0) (by decide)) h6 (by decide)
  refine zok_if (fun q10 => ?_) (fun q10 => ?_)
  · have h11 := zc_ltl (-1) q10 h4 (zr_c (lo := 0) (hi := 0) (by decide)) (by decide)
    exact (s_X3_drawSprite_190 hk111 hσ h_x3 h_x6 h2 hMk111)
  have h12 := zc_ler (0) (z_nlt q10) (zr_c (lo := 0) (hi := 0) (by decide)) h4 (by decide)
  refine zok_if (fun q13 => ?_) (fun q13 => ?_)
  · have h14 := zc_ler (256) q13 (zr_c (lo := 256) (hi := 256) (by decide)) h12 (by decide)
    exact (s_X3_drawSprite_190 hk111 hσ h_x3 h_x6 h2 hMk111)
  have h15 := zc_ltl (255) (z_nle q13) h12 (zr_c (lo := 256) (hi := 256) (by decide)) (by decide)
  refine zok_ck (zin_ok h15 (by decide)) ?_
  refine zok_if (fun q16 => ?_) (fun q16 => ?_)
  · have h17 := zc_lel (0) q16 zr_any (zr_c (lo := 0) (hi := 0) (by decide)) (by decide)
    refine zok_ck (zin_ok h15 (by decide)) ?_
    refine zok_bs (hσ.wk (by decide)) (fun σ5 e19 i18 => ?_)
    exact (s_X3_drawSprite_190 hk111 i18 h_x3 h_x6 h2 hMk111)
  have h20 := zc_ltr (1) (z_nle q16) (zr_c (lo := 0) (hi := 0) (by decide)) zr_any (by decide)
  refine zok_bu (s_X9_mark hσ (zr_w (zr_c (lo := 32) (hi := 32) (by decide)) (by decide))) (fun σ6 i21 => ?_)
  exact (s_X3_drawSprite_190 hk111 i21 h_x3 h_x6 h2 hMk111)
theorem s_X3_drawSprite_111 {G : Nat → Int} : ∀ (n : Nat) {σ : zSt} (hσ : zIC G σ) {x3 : Int32} (h_x3 : zr (-8) (255) x3) {x6 : Int32} (h_x6 : zr (0) (1) x6) {x7 : Int32} (h_x7 : zr (0) (16) x7) (hm : (16) - x7.toInt < n), zok (fX3_drawSprite_111 n σ x3 x6 x7) (zIC G) := by
  intro n
  induction n with
  | zero => intro σ hσ x3 h_x3 x6 h_x6 x7 h_x7 hm ; have h9 := h_x7.1; have h8 := h_x7.2; exfalso; omega
  | succ n ih => intro σ hσ x3 h_x3 x6 h_x6 x7 h_x7 hm ; exact s_X3_drawSprite_111_body (fun σ x3 x6 x7 hσ h_x3 h_x6 h_x7 hm1 => ih hσ h_x3 h_x6 h_x7 (by omega)) hσ h_x3 h_x6 h_x7 (Int.le_refl _)
theorem s_X3_drawSprite_100 {G : Nat → Int} {σ : zSt} (hσ : zIC G σ) {x2 : Int32} (h_x2 : zr (0) (255) x2) {x3 : Int32} (h_x3 : zr (-8) (255) x3) {x6 : Int32} (h_x6 : zr (0) (1) x6) {s0 : Int32} (h_s0 : zr (0) (511) s0) {s1 : Int32} (h_s1 : zr (32) (32) s1) : zok (fX3_drawSprite_100 σ x2 x3 x6 s0 s1) (zIC G) := by
  unfold fX3_drawSprite_100
  refine zok_bu (s_X3_takePlanes hσ (zr_add (lo := 0) (hi := 17372) (zr_mul (lo := 0) (hi := 16352) h_s1 h_s0 (by decide)) (zr_mul (lo := 0) (hi := 1020) (zr_c (lo := 4) (hi := 4) (by decide)) h_x2 (by decide)) (by decide))) (fun σ7 i1 => ?_)
  exact (s_X3_drawSprite_111 zfuel i1 h_x3 h_x6 (zr_w (zr_c (lo := 0) (hi := 0) (by decide)) (by decide)) (by decide))
theorem s_X3_drawSprite_61 {G : Nat → Int} {σ : zSt} (hσ : zIC G σ) {x2 : Int32} (h_x2 : zr (0) (255) x2) {x3 : Int32} (h_x3 : zr (-8) (255) x3) {s0 : Int32} (h_s0 : zr (0) (256) s0) {s1 : Int32} (h_s1 : zr (0) (255) s1) : zok (fX3_drawSprite_61 σ x2 x3 s0 s1) (zIC G) := by
  unfold fX3_drawSprite_61
  refine zok_br (zr_add (lo := 0) (hi := 511) h_s1 h_s0 (by decide)) (fun v8 e2 h1 => ?_)
  refine zok_pi (s_X9_held hσ.P) (fun v10 h3 => ?_)
  refine zok_br (zr_andr (lo := 0) (hi := 1) (zr_c (lo := 1) (hi := 1) (by decide)) (by decide)) (fun v11 e5 h4 => ?_)
  refine zok_if (fun q6 => ?_) (fun q6 => ?_)
  · have h7 := zc_eql (0) (0) q6 (zr_andr (lo := 0) (hi := 2) (zr_c (lo := 2) (hi := 2) (by decide)) (by decide)) (zr_c (lo := 0) (hi := 0) (by decide)) (by decide)
    exact (s_X3_drawSprite_100 hσ h_x2 h_x3 h4 h1 (zr_c (lo := 32) (hi := 32) (by decide)))
  have h8 := zc_nel (1) (2) q6 (zr_andr (lo := 0) (hi := 2) (zr_c (lo := 2) (hi := 2) (by decide)) (by decide)) (zr_c (lo := 0) (hi := 0) (by decide)) (by decide)
  exact (s_X3_drawSprite_100 hσ h_x2 h_x3 h4 (zr_andl (lo := 0) (hi := 511) h1 (by decide)) (zr_c (lo := 32) (hi := 32) (by decide)))
theorem s_X3_drawSprite_28 {G : Nat → Int} {σ : zSt} (hσ : zIC G σ) {x1 : Int32} (h_x1 : zr (128) (16382) x1) {x2 : Int32} (h_x2 : zr (0) (255) x2) {s0 : Int32} (h_s0 : zr (0) (8) s0) {s1 : Int32} (h_s1 : zr (0) (255) s1) : zok (fX3_drawSprite_28 σ x1 x2 s0 s1) (zIC G) := by
  unfold fX3_drawSprite_28
  refine zok_br (zr_sub (lo := -8) (hi := 255) h_s1 h_s0 (by decide)) (fun v12 e2 h1 => ?_)
  refine zok_pi (s_X9_vramByte hσ.P) (fun v14 h3 => ?_)
  refine zok_pi (s_X9_held hσ.P) (fun v16 h4 => ?_)
  refine zok_if (fun q5 => ?_) (fun q5 => ?_)
  · have h6 := zc_eql (0) (0) q5 (zr_andr (lo := 0) (hi := 4) (zr_c (lo := 4) (hi := 4) (by decide)) (by decide)) (zr_c (lo := 0) (hi := 0) (by decide)) (by decide)
    exact (s_X3_drawSprite_61 hσ h_x2 h1 (zr_w (zr_c (lo := 0) (hi := 0) (by decide)) (by decide)) h3)
  have h7 := zc_nel (1) (4) q5 (zr_andr (lo := 0) (hi := 4) (zr_c (lo := 4) (hi := 4) (by decide)) (by decide)) (zr_c (lo := 0) (hi := 0) (by decide)) (by decide)
  exact (s_X3_drawSprite_61 hσ h_x2 h1 (zr_w (zr_c (lo := 256) (hi := 256) (by decide)) (by decide)) h3)
theorem s_X3_drawSprite {G : Nat → Int} {σ : zSt} (hσ : zIC G σ) {x1 : Int32} (h_x1 : zr (128) (16382) x1) {x2 : Int32} (h_x2 : zr (0) (255) x2) : zok (fX3_drawSprite σ x1 x2) (zIC G) := by
  unfold fX3_drawSprite
  refine zok_pi (s_X9_vramByte hσ.P) (fun v18 h1 => ?_)
  refine zok_pi (s_X9_held hσ.P) (fun v20 h2 => ?_)
  refine zok_if (fun q3 => ?_) (fun q3 => ?_)
  · have h4 := zc_eql (0) (0) q3 (zr_andr (lo := 0) (hi := 8) (zr_c (lo := 8) (hi := 8) (by decide)) (by decide)) (zr_c (lo := 0) (hi := 0) (by decide)) (by decide)
    exact (s_X3_drawSprite_28 hσ h_x1 h_x2 (zr_w (zr_c (lo := 0) (hi := 0) (by decide)) (by decide)) h1)
  have h5 := zc_nel (1) (8) q3 (zr_andr (lo := 0) (hi := 8) (zr_c (lo := 8) (hi := 8) (by decide)) (by decide)) (zr_c (lo := 0) (hi := 0) (by decide)) (by decide)
  exact (s_X3_drawSprite_28 hσ h_x1 h_x2 (zr_w (zr_c (lo := 8) (hi := 8) (by decide)) (by decide)) h1)
theorem s_X3_drawSprites_196 {G : Nat → Int} {σ : zSt} {k147 : zSt → Int32 → Option (zSt)} {Mk147 : Int} (hk147 : ∀ (σ : zSt) (x5 : Int32), zIC G σ → zr (0) (256) x5 → (256) - x5.toInt < Mk147 → zok (k147 σ x5) (zIC G)) (hσ : zIC G σ) {x5 : Int32} (h_x5 : zr (0) (255) x5) (hMk147 : (256) - x5.toInt ≤ Mk147) : zok (fX3_drawSprites_196 k147 σ x5) (zIC G) := by
  unfold fX3_drawSprites_196
  refine zok_br (zr_add (lo := 1) (hi := 256) h_x5 (zr_c (lo := 1) (hi := 1) (by decide)) (by decide)) (fun v1 e2 h1 => ?_)
  exact hk147 _ _ hσ (zr_w h1 (by decide)) (by rw [e2]; have := z_tadd (y := (1 : Int32)) h_x5 (zr_c (lo := 1) (hi := 1) (by decide)) (by decide); have e9 : (1 : Int32).toInt = 1 := rfl; omega) 
theorem s_X3_drawSprites_147_body {G : Nat → Int} {σ : zSt} {k147 : zSt → Int32 → Option (zSt)} {Mk147 : Int} (hk147 : ∀ (σ : zSt) (x5 : Int32), zIC G σ → zr (0) (256) x5 → (256) - x5.toInt < Mk147 → zok (k147 σ x5) (zIC G)) (hσ : zIC G σ) {x5 : Int32} (h_x5 : zr (0) (256) x5) (hMk147 : (256) - x5.toInt ≤ Mk147) : zok (fX3_drawSprites_147_body k147 σ x5) (zIC G) := by
  unfold fX3_drawSprites_147_body
  refine zok_if (fun q1 => ?_) (fun q1 => ?_)
  · have h2 := zc_ler (256) q1 (zr_c (lo := 256) (hi := 256) (by decide)) h_x5 (by decide)
    exact zok_some hσ
  have h3 := zc_ltl (255) (z_nle q1) h_x5 (zr_c (lo := 256) (hi := 256) (by decide)) (by decide)
  refine zok_ck (zin_ok h3 (by decide)) ?_
  refine zok_if (fun q4 => ?_) (fun q4 => ?_)
  · have h5 := zc_lel (0) q4 zr_any (zr_c (lo := 0) (hi := 0) (by decide)) (by decide)
    exact (s_X3_drawSprites_196 hk147 hσ h3 hMk147)
  have h6 := zc_ltr (1) (z_nle q4) (zr_c (lo := 0) (hi := 0) (by decide)) zr_any (by decide)
  refine zok_ck (zin_ok h3 (by decide)) ?_
  refine zok_if (fun q7 => ?_) (fun q7 => ?_)
  · have h8 := zc_eql (0) (0) q7 (zr_andr (lo := 0) (hi := 256) (zr_c (lo := 256) (hi := 256) (by decide)) (by decide)) (zr_c (lo := 0) (hi := 0) (by decide)) (by decide)
    refine zok_ck (zin_ok h3 (by decide)) ?_
    refine zok_ck (zin_ok h3 (by decide)) ?_
    refine zok_bs (hσ.wk (by decide)) (fun σ2 e10 i9 => ?_)
    exact (s_X3_drawSprites_196 hk147 i9 h3 hMk147)
  have h11 := zc_nel (1) (256) q7 (zr_andr (lo := 0) (hi := 256) (zr_c (lo := 256) (hi := 256) (by decide)) (by decide)) (zr_c (lo := 0) (hi := 0) (by decide)) (by decide)
  exact (s_X3_drawSprites_196 hk147 hσ h3 hMk147)
theorem s_X3_drawSprites_147 {G : Nat → Int} : ∀ (n : Nat) {σ : zSt} (hσ : zIC G σ) {x5 : Int32} (h_x5 : zr (0) (256) x5) (hm : (256) - x5.toInt < n), zok (fX3_drawSprites_147 n σ x5) (zIC G) := by
  intro n
  induction n with
  | zero => intro σ hσ x5 h_x5 hm ; have h9 := h_x5.1; have h8 := h_x5.2; exfalso; omega
  | succ n ih => intro σ hσ x5 h_x5 hm ; exact s_X3_drawSprites_147_body (fun σ x5 hσ h_x5 hm1 => ih hσ h_x5 (by omega)) hσ h_x5 (Int.le_refl _)
theorem s_X3_drawSprites_144 {G : Nat → Int} {σ : zSt} (hσ : zIC G σ) : zok (fX3_drawSprites_144 σ ) (zIC G) := by
  unfold fX3_drawSprites_144
  exact (s_X3_drawSprites_147 zfuel hσ (zr_w (zr_c (lo := 0) (hi := 0) (by decide)) (by decide)) (by decide))
theorem s_X3_drawSprites_138 {G : Nat → Int} {σ : zSt} {k51 : zSt → Int32 → Int32 → Int32 → Int32 → Int32 → Option (zSt)} {Mk51 : Int} (hk51 : ∀ (σ : zSt) (x1 : Int32) (x2 : Int32) (x3 : Int32) (x4 : Int32) (x5 : Int32), zIC G σ → zr (0) (239) x1 → zr (0) (16128) x2 → zr (0) (1) x3 → zr (0) (8) x4 → zr (0) (64) x5 → (64) - x5.toInt < Mk51 → zok (k51 σ x1 x2 x3 x4 x5) (zIC G)) (hσ : zIC G σ) {x1 : Int32} (h_x1 : zr (0) (239) x1) {x2 : Int32} (h_x2 : zr (0) (16128) x2) {x3 : Int32} (h_x3 : zr (0) (1) x3) {x4 : Int32} (h_x4 : zr (0) (8) x4) {x5 : Int32} (h_x5 : zr (0) (63) x5) (hMk51 : (64) - x5.toInt ≤ Mk51) : zok (fX3_drawSprites_138 k51 σ x1 x2 x3 x4 x5) (zIC G) := by
  unfold fX3_drawSprites_138
  refine zok_br (zr_add (lo := 1) (hi := 64) h_x5 (zr_c (lo := 1) (hi := 1) (by decide)) (by decide)) (fun v3 e2 h1 => ?_)
  exact hk51 _ _ _ _ _ _ hσ h_x1 h_x2 h_x3 h_x4 (zr_w h1 (by decide)) (by rw [e2]; have := z_tadd (y := (1 : Int32)) h_x5 (zr_c (lo := 1) (hi := 1) (by decide)) (by decide); have e9 : (1 : Int32).toInt = 1 := rfl; omega) 
theorem s_X3_drawSprites_86 {G : Nat → Int} {σ : zSt} {k51 : zSt → Int32 → Int32 → Int32 → Int32 → Int32 → Option (zSt)} {Mk51 : Int} (hk51 : ∀ (σ : zSt) (x1 : Int32) (x2 : Int32) (x3 : Int32) (x4 : Int32) (x5 : Int32), zIC G σ → zr (0) (239) x1 → zr (0) (16128) x2 → zr (0) (1) x3 → zr (0) (8) x4 → zr (0) (64) x5 → (64) - x5.toInt < Mk51 → zok (k51 σ x1 x2 x3 x4 x5) (zIC G)) (hσ : zIC G σ) {x1 : Int32} (h_x1 : zr (0) (239) x1) {x2 : Int32} (h_x2 : zr (0) (16128) x2) {x3 : Int32} (h_x3 : zr (0) (1) x3) {x4 : Int32} (h_x4 : zr (0) (8) x4) {x5 : Int32} (h_x5 : zr (0) (63) x5) {x6 : Int32} (h_x6 : zr (0) (255) x6) (hMk51 : (64) - x5.toInt ≤ Mk51) : zok (fX3_drawSprites_86 k51 σ x1 x2 x3 x4 x5 x6) (zIC G) := by
  unfold fX3_drawSprites_86
  refine zok_pi (s_X3_rowOfSprite hσ.P h_x1 h_x6) (fun v5 h1 => ?_)
  refine zok_if (fun q2 => ?_) (fun q2 => ?_)
  · have h3 := zc_ltl (-1) q2 h1 (zr_c (lo := 0) (hi := 0) (by decide)) (by decide)
    exact (s_X3_drawSprites_138 hk51 hσ h_x1 h_x2 h_x3 h_x4 h_x5 hMk51)
  have h4 := zc_ler (0) (z_nlt q2) (zr_c (lo := 0) (hi := 0) (by decide)) h1 (by decide)
  refine zok_br (zr_add (lo := 1) (hi := 9) h_x4 (zr_c (lo := 1) (hi := 1) (by decide)) (by decide)) (fun v6 e6 h5 => ?_)
  refine zok_if (fun q7 => ?_) (fun q7 => ?_)
  · have h8 := zc_lel (8) q7 h5 (zr_c (lo := 8) (hi := 8) (by decide)) (by decide)
    refine zok_bu (s_X3_drawSprite hσ (zr_add (lo := 128) (hi := 16382) (zr_add (lo := 128) (hi := 16256) h_x2 (zr_c (lo := 128) (hi := 128) (by decide)) (by decide)) (zr_mul (lo := 0) (hi := 126) (zr_c (lo := 2) (hi := 2) (by decide)) h_x5 (by decide)) (by decide)) h4) (fun σ7 i9 => ?_)
    exact (s_X3_drawSprites_138 hk51 i9 h_x1 h_x2 h_x3 (zr_w h8 (by decide)) h_x5 hMk51)
  have h10 := zc_ltr (9) (z_nle q7) (zr_c (lo := 8) (hi := 8) (by decide)) h5 (by decide)
  refine zok_bu (s_X9_mark hσ (zr_w (zr_c (lo := 64) (hi := 64) (by decide)) (by decide))) (fun σ8 i11 => ?_)
  exact (s_X3_drawSprites_144 i11)
theorem s_X3_drawSprites_51_body {G : Nat → Int} {σ : zSt} {k51 : zSt → Int32 → Int32 → Int32 → Int32 → Int32 → Option (zSt)} {Mk51 : Int} (hk51 : ∀ (σ : zSt) (x1 : Int32) (x2 : Int32) (x3 : Int32) (x4 : Int32) (x5 : Int32), zIC G σ → zr (0) (239) x1 → zr (0) (16128) x2 → zr (0) (1) x3 → zr (0) (8) x4 → zr (0) (64) x5 → (64) - x5.toInt < Mk51 → zok (k51 σ x1 x2 x3 x4 x5) (zIC G)) (hσ : zIC G σ) {x1 : Int32} (h_x1 : zr (0) (239) x1) {x2 : Int32} (h_x2 : zr (0) (16128) x2) {x3 : Int32} (h_x3 : zr (0) (1) x3) {x4 : Int32} (h_x4 : zr (0) (8) x4) {x5 : Int32} (h_x5 : zr (0) (64) x5) (hMk51 : (64) - x5.toInt ≤ Mk51) : zok (fX3_drawSprites_51_body k51 σ x1 x2 x3 x4 x5) (zIC G) := by
  unfold fX3_drawSprites_51_body
  refine zok_if (fun q1 => ?_) (fun q1 => ?_)
  · have h2 := zc_ler (64) q1 (zr_c (lo := 64) (hi := 64) (by decide)) h_x5 (by decide)
    exact (s_X3_drawSprites_144 hσ)
  have h3 := zc_ltl (63) (z_nle q1) h_x5 (zr_c (lo := 64) (hi := 64) (by decide)) (by decide)
  refine zok_pi (s_X9_vramByte hσ.P) (fun v10 h4 => ?_)
  refine zok_if (fun q5 => ?_) (fun q5 => ?_)
  · have h6 := zc_eql (0) (0) q5 h_x3 (zr_c (lo := 0) (hi := 0) (by decide)) (by decide)
    exact (s_X3_drawSprites_86 hk51 hσ h_x1 h_x2 (zr_w h6 (by decide)) h_x4 h3 h4 hMk51)
  have h7 := zc_nel (1) (1) q5 h_x3 (zr_c (lo := 0) (hi := 0) (by decide)) (by decide)
  refine zok_if (fun q8 => ?_) (fun q8 => ?_)
  · have h9 := zc_eql (208) (208) q8 h4 (zr_c (lo := 208) (hi := 208) (by decide)) (by decide)
    exact (s_X3_drawSprites_144 hσ)
  exact (s_X3_drawSprites_86 hk51 hσ h_x1 h_x2 (zr_w h7 (by decide)) h_x4 h3 h4 hMk51)
theorem s_X3_drawSprites_51 {G : Nat → Int} : ∀ (n : Nat) {σ : zSt} (hσ : zIC G σ) {x1 : Int32} (h_x1 : zr (0) (239) x1) {x2 : Int32} (h_x2 : zr (0) (16128) x2) {x3 : Int32} (h_x3 : zr (0) (1) x3) {x4 : Int32} (h_x4 : zr (0) (8) x4) {x5 : Int32} (h_x5 : zr (0) (64) x5) (hm : (64) - x5.toInt < n), zok (fX3_drawSprites_51 n σ x1 x2 x3 x4 x5) (zIC G) := by
  intro n
  induction n with
  | zero => intro σ hσ x1 h_x1 x2 h_x2 x3 h_x3 x4 h_x4 x5 h_x5 hm ; have h9 := h_x5.1; have h8 := h_x5.2; exfalso; omega
  | succ n ih => intro σ hσ x1 h_x1 x2 h_x2 x3 h_x3 x4 h_x4 x5 h_x5 hm ; exact s_X3_drawSprites_51_body (fun σ x1 x2 x3 x4 x5 hσ h_x1 h_x2 h_x3 h_x4 h_x5 hm1 => ih hσ h_x1 h_x2 h_x3 h_x4 h_x5 (by omega)) hσ h_x1 h_x2 h_x3 h_x4 h_x5 (Int.le_refl _)
theorem s_X3_drawSprites_44 {G : Nat → Int} {σ : zSt} (hσ : zIC G σ) {x1 : Int32} (h_x1 : zr (0) (239) x1) {x2 : Int32} (h_x2 : zr (0) (16128) x2) {s0 : Int32} (h_s0 : zr (0) (1) s0) : zok (fX3_drawSprites_44 σ x1 x2 s0) (zIC G) := by
  unfold fX3_drawSprites_44
  exact (s_X3_drawSprites_51 zfuel hσ h_x1 h_x2 h_s0 (zr_w (zr_c (lo := 0) (hi := 0) (by decide)) (by decide)) (zr_w (zr_c (lo := 0) (hi := 0) (by decide)) (by decide)) (by decide))
theorem s_X3_drawSprites {G : Nat → Int} {σ : zSt} (hσ : zIC G σ) {x1 : Int32} (h_x1 : zr (0) (239) x1) : zok (fX3_drawSprites σ x1) (zIC G) := by
  unfold fX3_drawSprites
  refine zok_bu (s_J7_fill_53178_k28 hσ (zr_c (lo := 0) (hi := 0) (by decide))) (fun σ11 i1 => ?_)
  refine zok_pi (s_X9_held i1.P) (fun v13 h2 => ?_)
  refine zok_br (zr_mul (lo := 0) (hi := 16128) (zr_c (lo := 256) (hi := 256) (by decide)) (zr_andr (lo := 0) (hi := 63) (zr_c (lo := 63) (hi := 63) (by decide)) (by decide)) (by decide)) (fun v14 e4 h3 => ?_)
  refine zok_pi (s_X9_height i1.P) (fun v16 h5 => ?_)
  refine zok_if (fun q6 => ?_) (fun q6 => ?_)
  · have h7 := zc_eql (192) (192) q6 h5 (zr_c (lo := 192) (hi := 192) (by decide)) (by decide)
    exact (s_X3_drawSprites_44 i1 h_x1 h3 (zr_w (zr_c (lo := 1) (hi := 1) (by decide)) (by decide)))
  have h8 := zc_nel (193) (240) q6 h5 (zr_c (lo := 192) (hi := 192) (by decide)) (by decide)
  exact (s_X3_drawSprites_44 i1 h_x1 h3 (zr_w (zr_c (lo := 0) (hi := 0) (by decide)) (by decide)))
theorem s_J7_fill_fda19_k27_10_body {G : Nat → Int} {σ : zSt} {k10 : zSt → Int32 → Int32 → Int32 → Option (zSt)} {Mk10 : Int} (hk10 : ∀ (σ : zSt) (x2 : Int32) (x3 : Int32) (x4 : Int32), zIC G σ → zr (8) (8) x2 → zr (0) (31) x3 → zr (0) (8) x4 → (8) - x4.toInt < Mk10 → zok (k10 σ x2 x3 x4) (zIC G)) (hσ : zIC G σ) {x2 : Int32} (h_x2 : zr (8) (8) x2) {x3 : Int32} (h_x3 : zr (0) (31) x3) {x4 : Int32} (h_x4 : zr (0) (8) x4) (hMk10 : (8) - x4.toInt ≤ Mk10) : zok (fJ7_fill_fda19_k27_10_body k10 σ x2 x3 x4) (zIC G) := by
  unfold fJ7_fill_fda19_k27_10_body
  refine zok_if (fun q1 => ?_) (fun q1 => ?_)
  · have h2 := zc_ler (8) q1 h_x2 h_x4 (by decide)
    exact zok_some hσ
  have h3 := zc_ltl (7) (z_nle q1) h_x4 h_x2 (by decide)
  refine zok_ck (zin_ok h3 (by decide)) ?_
  refine zok_bs (hσ.wk (by decide)) (fun σ1 e5 i4 => ?_)
  refine zok_br (zr_add (lo := 1) (hi := 8) h3 (zr_c (lo := 1) (hi := 1) (by decide)) (by decide)) (fun v2 e7 h6 => ?_)
  exact hk10 _ _ _ _ i4 h_x2 h_x3 (zr_w h6 (by decide)) (by rw [e7]; have := z_tadd (y := (1 : Int32)) h3 (zr_c (lo := 1) (hi := 1) (by decide)) (by decide); have e9 : (1 : Int32).toInt = 1 := rfl; omega) 
theorem s_J7_fill_fda19_k27_10 {G : Nat → Int} : ∀ (n : Nat) {σ : zSt} (hσ : zIC G σ) {x2 : Int32} (h_x2 : zr (8) (8) x2) {x3 : Int32} (h_x3 : zr (0) (31) x3) {x4 : Int32} (h_x4 : zr (0) (8) x4) (hm : (8) - x4.toInt < n), zok (fJ7_fill_fda19_k27_10 n σ x2 x3 x4) (zIC G) := by
  intro n
  induction n with
  | zero => intro σ hσ x2 h_x2 x3 h_x3 x4 h_x4 hm ; have h9 := h_x4.1; have h8 := h_x4.2; exfalso; omega
  | succ n ih => intro σ hσ x2 h_x2 x3 h_x3 x4 h_x4 hm ; exact s_J7_fill_fda19_k27_10_body (fun σ x2 x3 x4 hσ h_x2 h_x3 h_x4 hm1 => ih hσ h_x2 h_x3 h_x4 (by omega)) hσ h_x2 h_x3 h_x4 (Int.le_refl _)
theorem s_J7_fill_fda19_k27 {G : Nat → Int} {σ : zSt} (hσ : zIC G σ) {x1 : Int32} (h_x1 : zr (0) (0) x1) {x2 : Int32} (h_x2 : zr (8) (8) x2) {x3 : Int32} (h_x3 : zr (0) (31) x3) : zok (fJ7_fill_fda19_k27 σ x1 x2 x3) (zIC G) := by
  unfold fJ7_fill_fda19_k27
  refine zok_pu (s_rangeCheck (zr_c (lo := 256) (hi := 256) (by decide)) h_x1 h_x2 (by decide)) ?_
  exact (s_J7_fill_fda19_k27_10 zfuel hσ h_x2 h_x3 (zr_w h_x1 (by decide)) (z_su h_x1 (by decide)))
theorem s_X3_patternAt {σ : zSt} (hσ : zPC σ) {x1 : Int32} (h_x1 : zr (0) (255) x1) {x2 : Int32} (h_x2 : zr (0) (239) x2) : zok (fX3_patternAt σ x1 x2) (zPi σ (fun v : Int32 => zr (0) (255) v)) := by
  unfold fX3_patternAt
  refine zok_pi (s_X9_held hσ) (fun v2 h1 => ?_)
  refine zok_pi (s_X9_vramByte hσ) (fun v4 h2 => ?_)
  exact zok_spi h2
theorem s_X3_drawText_101 {G : Nat → Int} {σ : zSt} {k21 : zSt → Int32 → Int32 → Int32 → Int32 → Option (zSt)} {Mk21 : Int} (hk21 : ∀ (σ : zSt) (x1 : Int32) (x2 : Int32) (x3 : Int32) (x4 : Int32), zIC G σ → zr (0) (15360) x1 → zr (0) (239) x2 → zr (0) (40) x4 → (40) - x4.toInt < Mk21 → zok (k21 σ x1 x2 x3 x4) (zIC G)) {k56 : zSt → Int32 → Int32 → Int32 → Int32 → Int32 → Int32 → Option (zSt)} {Mk56 : Int} (hk56 : ∀ (σ : zSt) (x1 : Int32) (x2 : Int32) (x3 : Int32) (x4 : Int32) (x5 : Int32) (x6 : Int32), zIC G σ → zr (0) (15360) x1 → zr (0) (239) x2 → zr (0) (39) x4 → zr (0) (255) x5 → zr (0) (6) x6 → (6) - x6.toInt < Mk56 → (40) - x4.toInt ≤ Mk21 → zok (k56 σ x1 x2 x3 x4 x5 x6) (zIC G)) (hσ : zIC G σ) {x1 : Int32} (h_x1 : zr (0) (15360) x1) {x2 : Int32} (h_x2 : zr (0) (239) x2) {x3 : Int32} {x4 : Int32} (h_x4 : zr (0) (39) x4) {x5 : Int32} (h_x5 : zr (0) (255) x5) {x6 : Int32} (h_x6 : zr (0) (5) x6) {s0 : Int32} (h_s0 : zr (-134217728) (134217727) s0) {s1 : Int32} (h_s1 : zr (8) (247) s1) (hMk21 : (40) - x4.toInt ≤ Mk21) (hMk56 : (6) - x6.toInt ≤ Mk56) : zok (fX3_drawText_101 k21 k56 σ x1 x2 x3 x4 x5 x6 s0 s1) (zIC G) := by
  unfold fX3_drawText_101
  refine zok_ck (zin_ok h_s1 (by decide)) ?_
  refine zok_bs (hσ.wk (by decide)) (fun σ1 e2 i1 => ?_)
  refine zok_br (zr_add (lo := 1) (hi := 6) h_x6 (zr_c (lo := 1) (hi := 1) (by decide)) (by decide)) (fun v2 e4 h3 => ?_)
  exact hk56 _ _ _ _ _ _ _ i1 h_x1 h_x2 h_x4 h_x5 (zr_w h3 (by decide)) (by rw [e4]; have := z_tadd (y := (1 : Int32)) h_x6 (zr_c (lo := 1) (hi := 1) (by decide)) (by decide); have e9 : (1 : Int32).toInt = 1 := rfl; omega) hMk21
theorem s_X3_drawText_56_body {G : Nat → Int} {σ : zSt} {k21 : zSt → Int32 → Int32 → Int32 → Int32 → Option (zSt)} {Mk21 : Int} (hk21 : ∀ (σ : zSt) (x1 : Int32) (x2 : Int32) (x3 : Int32) (x4 : Int32), zIC G σ → zr (0) (15360) x1 → zr (0) (239) x2 → zr (0) (40) x4 → (40) - x4.toInt < Mk21 → zok (k21 σ x1 x2 x3 x4) (zIC G)) {k56 : zSt → Int32 → Int32 → Int32 → Int32 → Int32 → Int32 → Option (zSt)} {Mk56 : Int} (hk56 : ∀ (σ : zSt) (x1 : Int32) (x2 : Int32) (x3 : Int32) (x4 : Int32) (x5 : Int32) (x6 : Int32), zIC G σ → zr (0) (15360) x1 → zr (0) (239) x2 → zr (0) (39) x4 → zr (0) (255) x5 → zr (0) (6) x6 → (6) - x6.toInt < Mk56 → (40) - x4.toInt ≤ Mk21 → zok (k56 σ x1 x2 x3 x4 x5 x6) (zIC G)) (hσ : zIC G σ) {x1 : Int32} (h_x1 : zr (0) (15360) x1) {x2 : Int32} (h_x2 : zr (0) (239) x2) {x3 : Int32} {x4 : Int32} (h_x4 : zr (0) (39) x4) {x5 : Int32} (h_x5 : zr (0) (255) x5) {x6 : Int32} (h_x6 : zr (0) (6) x6) (hMk21 : (40) - x4.toInt ≤ Mk21) (hMk56 : (6) - x6.toInt ≤ Mk56) : zok (fX3_drawText_56_body k21 k56 σ x1 x2 x3 x4 x5 x6) (zIC G) := by
  unfold fX3_drawText_56_body
  refine zok_if (fun q1 => ?_) (fun q1 => ?_)
  · have h2 := zc_ler (6) q1 (zr_c (lo := 6) (hi := 6) (by decide)) h_x6 (by decide)
    refine zok_br (zr_add (lo := 1) (hi := 40) h_x4 (zr_c (lo := 1) (hi := 1) (by decide)) (by decide)) (fun v3 e4 h3 => ?_)
    exact hk21 _ _ _ _ _ hσ h_x1 h_x2 (zr_w h3 (by decide)) (by rw [e4]; have := z_tadd (y := (1 : Int32)) h_x4 (zr_c (lo := 1) (hi := 1) (by decide)) (by decide); have e9 : (1 : Int32).toInt = 1 := rfl; omega) 
  have h5 := zc_ltl (5) (z_nle q1) h_x6 (zr_c (lo := 6) (hi := 6) (by decide)) (by decide)
  refine zok_if (fun q6 => ?_) (fun q6 => ?_)
  · have h7 := zc_eql (0) (0) q6 (zr_andr (lo := 0) (hi := 1) (zr_c (lo := 1) (hi := 1) (by decide)) (by decide)) (zr_c (lo := 0) (hi := 0) (by decide)) (by decide)
    exact (s_X3_drawText_101 hk21 hk56 hσ h_x1 h_x2 h_x4 h_x5 h5 (zr_w (zr_andr (lo := 0) (hi := 15) (zr_c (lo := 15) (hi := 15) (by decide)) (by decide)) (by decide)) (zr_add (lo := 8) (hi := 247) (zr_add (lo := 8) (hi := 242) (zr_c (lo := 8) (hi := 8) (by decide)) (zr_mul (lo := 0) (hi := 234) (zr_c (lo := 6) (hi := 6) (by decide)) h_x4 (by decide)) (by decide)) h5 (by decide)) hMk21 hMk56)
  have h8 := zc_nel (1) (1) q6 (zr_andr (lo := 0) (hi := 1) (zr_c (lo := 1) (hi := 1) (by decide)) (by decide)) (zr_c (lo := 0) (hi := 0) (by decide)) (by decide)
  exact (s_X3_drawText_101 hk21 hk56 hσ h_x1 h_x2 h_x4 h_x5 h5 (zr_shr (lo := -134217728) (hi := 134217727) 4 (by decide) zr_any (by decide)) (zr_add (lo := 8) (hi := 247) (zr_add (lo := 8) (hi := 242) (zr_c (lo := 8) (hi := 8) (by decide)) (zr_mul (lo := 0) (hi := 234) (zr_c (lo := 6) (hi := 6) (by decide)) h_x4 (by decide)) (by decide)) h5 (by decide)) hMk21 hMk56)
theorem s_X3_drawText_56 {G : Nat → Int} {k21 : zSt → Int32 → Int32 → Int32 → Int32 → Option (zSt)} {Mk21 : Int} (hk21 : ∀ (σ : zSt) (x1 : Int32) (x2 : Int32) (x3 : Int32) (x4 : Int32), zIC G σ → zr (0) (15360) x1 → zr (0) (239) x2 → zr (0) (40) x4 → (40) - x4.toInt < Mk21 → zok (k21 σ x1 x2 x3 x4) (zIC G)) : ∀ (n : Nat) {σ : zSt} (hσ : zIC G σ) {x1 : Int32} (h_x1 : zr (0) (15360) x1) {x2 : Int32} (h_x2 : zr (0) (239) x2) {x3 : Int32} {x4 : Int32} (h_x4 : zr (0) (39) x4) {x5 : Int32} (h_x5 : zr (0) (255) x5) {x6 : Int32} (h_x6 : zr (0) (6) x6) (hm : (6) - x6.toInt < n) (hMk21 : (40) - x4.toInt ≤ Mk21), zok (fX3_drawText_56 k21 n σ x1 x2 x3 x4 x5 x6) (zIC G) := by
  intro n
  induction n with
  | zero => intro σ hσ x1 h_x1 x2 h_x2 x3 x4 h_x4 x5 h_x5 x6 h_x6 hm hMk21; have h9 := h_x6.1; have h8 := h_x6.2; exfalso; omega
  | succ n ih => intro σ hσ x1 h_x1 x2 h_x2 x3 x4 h_x4 x5 h_x5 x6 h_x6 hm hMk21; exact s_X3_drawText_56_body hk21 (fun σ x1 x2 x3 x4 x5 x6 hσ h_x1 h_x2 h_x4 h_x5 h_x6 hm1 hMk21 => ih hσ h_x1 h_x2 h_x4 h_x5 h_x6 (by omega) hMk21) hσ h_x1 h_x2 h_x4 h_x5 h_x6 hMk21 (Int.le_refl _)
theorem s_X3_drawText_21_body {G : Nat → Int} {σ : zSt} {k21 : zSt → Int32 → Int32 → Int32 → Int32 → Option (zSt)} {Mk21 : Int} (hk21 : ∀ (σ : zSt) (x1 : Int32) (x2 : Int32) (x3 : Int32) (x4 : Int32), zIC G σ → zr (0) (15360) x1 → zr (0) (239) x2 → zr (0) (40) x4 → (40) - x4.toInt < Mk21 → zok (k21 σ x1 x2 x3 x4) (zIC G)) (hσ : zIC G σ) {x1 : Int32} (h_x1 : zr (0) (15360) x1) {x2 : Int32} (h_x2 : zr (0) (239) x2) {x3 : Int32} {x4 : Int32} (h_x4 : zr (0) (40) x4) (hMk21 : (40) - x4.toInt ≤ Mk21) : zok (fX3_drawText_21_body k21 σ x1 x2 x3 x4) (zIC G) := by
  unfold fX3_drawText_21_body
  refine zok_if (fun q1 => ?_) (fun q1 => ?_)
  · have h2 := zc_ler (40) q1 (zr_c (lo := 40) (hi := 40) (by decide)) h_x4 (by decide)
    exact zok_some hσ
  have h3 := zc_ltl (39) (z_nle q1) h_x4 (zr_c (lo := 40) (hi := 40) (by decide)) (by decide)
  refine zok_pi (s_X9_vramByte hσ.P) (fun v5 h4 => ?_)
  refine zok_pi (s_X3_patternAt hσ.P h4 h_x2) (fun v7 h5 => ?_)
  exact (s_X3_drawText_56 hk21 zfuel hσ h_x1 h_x2 h3 h5 (zr_w (zr_c (lo := 0) (hi := 0) (by decide)) (by decide)) (by decide) hMk21)
theorem s_X3_drawText_21 {G : Nat → Int} : ∀ (n : Nat) {σ : zSt} (hσ : zIC G σ) {x1 : Int32} (h_x1 : zr (0) (15360) x1) {x2 : Int32} (h_x2 : zr (0) (239) x2) {x3 : Int32} {x4 : Int32} (h_x4 : zr (0) (40) x4) (hm : (40) - x4.toInt < n), zok (fX3_drawText_21 n σ x1 x2 x3 x4) (zIC G) := by
  intro n
  induction n with
  | zero => intro σ hσ x1 h_x1 x2 h_x2 x3 x4 h_x4 hm ; have h9 := h_x4.1; have h8 := h_x4.2; exfalso; omega
  | succ n ih => intro σ hσ x1 h_x1 x2 h_x2 x3 x4 h_x4 hm ; exact s_X3_drawText_21_body (fun σ x1 x2 x3 x4 hσ h_x1 h_x2 h_x4 hm1 => ih hσ h_x1 h_x2 h_x4 (by omega)) hσ h_x1 h_x2 h_x4 (Int.le_refl _)
theorem s_X3_drawText {G : Nat → Int} {σ : zSt} (hσ : zIC G σ) {x1 : Int32} (h_x1 : zr (0) (15360) x1) {x2 : Int32} (h_x2 : zr (0) (239) x2) : zok (fX3_drawText σ x1 x2) (zIC G) := by
  unfold fX3_drawText
  refine zok_pi (s_X9_held hσ.P) (fun v9 h1 => ?_)
  refine zok_bu (s_J7_fill_53178_k27 hσ (zr_w (zr_c (lo := 0) (hi := 0) (by decide)) (by decide))) (fun σ10 i2 => ?_)
  exact (s_X3_drawText_21 zfuel i2 h_x1 h_x2 (zr_w (zr_c (lo := 0) (hi := 0) (by decide)) (by decide)) (by decide))
theorem s_X3_drawPattern_57 {σ : zSt} (hσ : zPC σ) : zok (fX3_drawPattern_57 σ ) (zPu σ) := by
  unfold fX3_drawPattern_57
  exact zok_spu
theorem s_X3_drawPattern_50 {G : Nat → Int} {σ : zSt} {k3 : zSt → Int32 → Int32 → Int32 → Int32 → Option (zSt)} {Mk3 : Int} (hk3 : ∀ (σ : zSt) (x1 : Int32) (x2 : Int32) (x3 : Int32) (x4 : Int32), zIC G σ → zr (0) (248) x1 → zr (0) (255) x2 → zr (0) (255) x3 → zr (0) (8) x4 → (8) - x4.toInt < Mk3 → zok (k3 σ x1 x2 x3 x4) (zIC G)) (hσ : zIC G σ) {x1 : Int32} (h_x1 : zr (0) (248) x1) {x2 : Int32} (h_x2 : zr (0) (255) x2) {x3 : Int32} (h_x3 : zr (0) (255) x3) {x4 : Int32} (h_x4 : zr (0) (7) x4) {s0 : Int32} (h_s0 : zr (0) (15) s0) {s1 : Int32} (h_s1 : zr (0) (255) s1) (hMk3 : (8) - x4.toInt ≤ Mk3) : zok (fX3_drawPattern_50 k3 σ x1 x2 x3 x4 s0 s1) (zIC G) := by
  unfold fX3_drawPattern_50
  refine zok_ck (zin_ok h_s1 (by decide)) ?_
  refine zok_bs (hσ.wk (by decide)) (fun σ1 e2 i1 => ?_)
  refine zok_br (zr_add (lo := 1) (hi := 8) h_x4 (zr_c (lo := 1) (hi := 1) (by decide)) (by decide)) (fun v2 e4 h3 => ?_)
  exact hk3 _ _ _ _ _ i1 h_x1 h_x2 h_x3 (zr_w h3 (by decide)) (by rw [e4]; have := z_tadd (y := (1 : Int32)) h_x4 (zr_c (lo := 1) (hi := 1) (by decide)) (by decide); have e9 : (1 : Int32).toInt = 1 := rfl; omega) 
theorem s_X3_drawPattern_3_body {G : Nat → Int} {σ : zSt} {k3 : zSt → Int32 → Int32 → Int32 → Int32 → Option (zSt)} {Mk3 : Int} (hk3 : ∀ (σ : zSt) (x1 : Int32) (x2 : Int32) (x3 : Int32) (x4 : Int32), zIC G σ → zr (0) (248) x1 → zr (0) (255) x2 → zr (0) (255) x3 → zr (0) (8) x4 → (8) - x4.toInt < Mk3 → zok (k3 σ x1 x2 x3 x4) (zIC G)) (hσ : zIC G σ) {x1 : Int32} (h_x1 : zr (0) (248) x1) {x2 : Int32} (h_x2 : zr (0) (255) x2) {x3 : Int32} (h_x3 : zr (0) (255) x3) {x4 : Int32} (h_x4 : zr (0) (8) x4) (hMk3 : (8) - x4.toInt ≤ Mk3) : zok (fX3_drawPattern_3_body k3 σ x1 x2 x3 x4) (zIC G) := by
  unfold fX3_drawPattern_3_body
  refine zok_if (fun q1 => ?_) (fun q1 => ?_)
  · have h2 := zc_ler (8) q1 (zr_c (lo := 8) (hi := 8) (by decide)) h_x4 (by decide)
    exact zok_pau hσ (s_X3_drawPattern_57 hσ.P)
  have h3 := zc_ltl (7) (z_nle q1) h_x4 (zr_c (lo := 8) (hi := 8) (by decide)) (by decide)
  refine zok_if (fun q4 => ?_) (fun q4 => ?_)
  · exact zr_no (zc_lel (255) q4 (zr_c (lo := 256) (hi := 256) (by decide)) (zr_add (lo := 0) (hi := 255) h_x1 h3 (by decide)) (by decide)) (by decide)
  refine zok_if (fun q5 => ?_) (fun q5 => ?_)
  · have h6 := zc_eql (0) (0) q5 (zr_andr (lo := 0) (hi := 1) (zr_c (lo := 1) (hi := 1) (by decide)) (by decide)) (zr_c (lo := 0) (hi := 0) (by decide)) (by decide)
    exact (s_X3_drawPattern_50 hk3 hσ h_x1 h_x2 h_x3 h3 (zr_andr (lo := 0) (hi := 15) (zr_c (lo := 15) (hi := 15) (by decide)) (by decide)) (zr_add (lo := 0) (hi := 255) h_x1 h3 (by decide)) hMk3)
  have h7 := zc_nel (1) (1) q5 (zr_andr (lo := 0) (hi := 1) (zr_c (lo := 1) (hi := 1) (by decide)) (by decide)) (zr_c (lo := 0) (hi := 0) (by decide)) (by decide)
  exact (s_X3_drawPattern_50 hk3 hσ h_x1 h_x2 h_x3 h3 (zr_shr (lo := 0) (hi := 15) 4 (by decide) h_x3 (by decide)) (zr_add (lo := 0) (hi := 255) h_x1 h3 (by decide)) hMk3)
theorem s_X3_drawPattern_3 {G : Nat → Int} : ∀ (n : Nat) {σ : zSt} (hσ : zIC G σ) {x1 : Int32} (h_x1 : zr (0) (248) x1) {x2 : Int32} (h_x2 : zr (0) (255) x2) {x3 : Int32} (h_x3 : zr (0) (255) x3) {x4 : Int32} (h_x4 : zr (0) (8) x4) (hm : (8) - x4.toInt < n), zok (fX3_drawPattern_3 n σ x1 x2 x3 x4) (zIC G) := by
  intro n
  induction n with
  | zero => intro σ hσ x1 h_x1 x2 h_x2 x3 h_x3 x4 h_x4 hm ; have h9 := h_x4.1; have h8 := h_x4.2; exfalso; omega
  | succ n ih => intro σ hσ x1 h_x1 x2 h_x2 x3 h_x3 x4 h_x4 hm ; exact s_X3_drawPattern_3_body (fun σ x1 x2 x3 x4 hσ h_x1 h_x2 h_x3 h_x4 hm1 => ih hσ h_x1 h_x2 h_x3 h_x4 (by omega)) hσ h_x1 h_x2 h_x3 h_x4 (Int.le_refl _)
theorem s_X3_drawPattern {G : Nat → Int} {σ : zSt} (hσ : zIC G σ) {x1 : Int32} (h_x1 : zr (0) (248) x1) {x2 : Int32} (h_x2 : zr (0) (255) x2) {x3 : Int32} (h_x3 : zr (0) (255) x3) : zok (fX3_drawPattern σ x1 x2 x3) (zIC G) := by
  unfold fX3_drawPattern
  exact (s_X3_drawPattern_3 zfuel hσ h_x1 h_x2 h_x3 (zr_w (zr_c (lo := 0) (hi := 0) (by decide)) (by decide)) (by decide))
theorem s_X3_drawBlocks {G : Nat → Int} {σ : zSt} (hσ : zIC G σ) {x1 : Int32} (h_x1 : zr (0) (248) x1) {x2 : Int32} (h_x2 : zr (0) (255) x2) {x3 : Int32} (h_x3 : zr (0) (239) x3) : zok (fX3_drawBlocks σ x1 x2 x3) (zIC G) := by
  unfold fX3_drawBlocks
  refine zok_pi (s_X9_held hσ.P) (fun v2 h1 => ?_)
  refine zok_br (zr_add (lo := 0) (hi := 16383) (zr_add (lo := 0) (hi := 16382) (zr_add (lo := 0) (hi := 16376) (zr_mul (lo := 0) (hi := 14336) (zr_c (lo := 2048) (hi := 2048) (by decide)) (zr_andr (lo := 0) (hi := 7) (zr_c (lo := 7) (hi := 7) (by decide)) (by decide)) (by decide)) (zr_mul (lo := 0) (hi := 2040) (zr_c (lo := 8) (hi := 8) (by decide)) h_x2 (by decide)) (by decide)) (zr_mul (lo := 0) (hi := 6) (zr_c (lo := 2) (hi := 2) (by decide)) (zr_andr (lo := 0) (hi := 3) (zr_c (lo := 3) (hi := 3) (by decide)) (by decide)) (by decide)) (by decide)) (zr_andr (lo := 0) (hi := 1) (zr_c (lo := 1) (hi := 1) (by decide)) (by decide)) (by decide)) (fun v3 e3 h2 => ?_)
  refine zok_pi (s_X9_vramByte hσ.P) (fun v5 h4 => ?_)
  refine zok_bu (s_X3_drawPattern hσ h_x1 (zr_w (zr_c (lo := 240) (hi := 240) (by decide)) (by decide)) h4) (fun σ6 i5 => ?_)
  exact zok_some i5
theorem s_X3_drawThird {G : Nat → Int} {σ : zSt} (hσ : zIC G σ) {x1 : Int32} (h_x1 : zr (0) (248) x1) {x2 : Int32} (h_x2 : zr (0) (1023) x2) {x3 : Int32} (h_x3 : zr (0) (7) x3) : zok (fX3_drawThird σ x1 x2 x3) (zIC G) := by
  unfold fX3_drawThird
  refine zok_pi (s_X9_held hσ.P) (fun v2 h1 => ?_)
  refine zok_pi (s_X9_held hσ.P) (fun v4 h2 => ?_)
  refine zok_br (zr_andr (lo := 0) (hi := 1023) (zr_add (lo := 255) (hi := 1023) (zr_mul (lo := 0) (hi := 768) (zr_c (lo := 256) (hi := 256) (by decide)) (zr_andr (lo := 0) (hi := 3) (zr_c (lo := 3) (hi := 3) (by decide)) (by decide)) (by decide)) (zr_c (lo := 255) (hi := 255) (by decide)) (by decide)) (by decide)) (fun v5 e4 h3 => ?_)
  refine zok_br (zr_andr (lo := 0) (hi := 1023) (zr_add (lo := 7) (hi := 1023) (zr_mul (lo := 0) (hi := 1016) (zr_c (lo := 8) (hi := 8) (by decide)) (zr_andr (lo := 0) (hi := 127) (zr_c (lo := 127) (hi := 127) (by decide)) (by decide)) (by decide)) (zr_c (lo := 7) (hi := 7) (by decide)) (by decide)) (by decide)) (fun v6 e6 h5 => ?_)
  refine zok_pi (s_X9_vramByte hσ.P) (fun v8 h7 => ?_)
  refine zok_pi (s_X9_vramByte hσ.P) (fun v10 h8 => ?_)
  refine zok_bu (s_X3_drawPattern hσ h_x1 h7 h8) (fun σ11 i9 => ?_)
  exact zok_some i9
theorem s_X3_drawOld_165 {G : Nat → Int} {σ : zSt} {k31 : zSt → Int32 → Int32 → Int32 → Int32 → Option (zSt)} {Mk31 : Int} (hk31 : ∀ (σ : zSt) (x1 : Int32) (x2 : Int32) (x3 : Int32) (x4 : Int32), zIC G σ → zr (0) (3) x1 → zr (0) (239) x2 → zr (0) (15360) x3 → zr (0) (32) x4 → (32) - x4.toInt < Mk31 → zok (k31 σ x1 x2 x3 x4) (zIC G)) (hσ : zIC G σ) {x1 : Int32} (h_x1 : zr (0) (3) x1) {x2 : Int32} (h_x2 : zr (0) (239) x2) {x3 : Int32} (h_x3 : zr (0) (15360) x3) {x4 : Int32} (h_x4 : zr (0) (31) x4) (hMk31 : (32) - x4.toInt ≤ Mk31) : zok (fX3_drawOld_165 k31 σ x1 x2 x3 x4) (zIC G) := by
  unfold fX3_drawOld_165
  refine zok_br (zr_add (lo := 1) (hi := 32) h_x4 (zr_c (lo := 1) (hi := 1) (by decide)) (by decide)) (fun v1 e2 h1 => ?_)
  exact hk31 _ _ _ _ _ hσ h_x1 h_x2 h_x3 (zr_w h1 (by decide)) (by rw [e2]; have := z_tadd (y := (1 : Int32)) h_x4 (zr_c (lo := 1) (hi := 1) (by decide)) (by decide); have e9 : (1 : Int32).toInt = 1 := rfl; omega) 
theorem s_X3_drawOld_31_body {G : Nat → Int} {σ : zSt} {k31 : zSt → Int32 → Int32 → Int32 → Int32 → Option (zSt)} {Mk31 : Int} (hk31 : ∀ (σ : zSt) (x1 : Int32) (x2 : Int32) (x3 : Int32) (x4 : Int32), zIC G σ → zr (0) (3) x1 → zr (0) (239) x2 → zr (0) (15360) x3 → zr (0) (32) x4 → (32) - x4.toInt < Mk31 → zok (k31 σ x1 x2 x3 x4) (zIC G)) (hσ : zIC G σ) {x1 : Int32} (h_x1 : zr (0) (3) x1) {x2 : Int32} (h_x2 : zr (0) (239) x2) {x3 : Int32} (h_x3 : zr (0) (15360) x3) {x4 : Int32} (h_x4 : zr (0) (32) x4) (hMk31 : (32) - x4.toInt ≤ Mk31) : zok (fX3_drawOld_31_body k31 σ x1 x2 x3 x4) (zIC G) := by
  unfold fX3_drawOld_31_body
  refine zok_if (fun q1 => ?_) (fun q1 => ?_)
  · have h2 := zc_ler (32) q1 (zr_c (lo := 32) (hi := 32) (by decide)) h_x4 (by decide)
    exact zok_some hσ
  have h3 := zc_ltl (31) (z_nle q1) h_x4 (zr_c (lo := 32) (hi := 32) (by decide)) (by decide)
  refine zok_pi (s_X9_vramByte hσ.P) (fun v3 h4 => ?_)
  refine zok_if (fun q5 => ?_) (fun q5 => ?_)
  · have h6 := zc_eql (0) (0) q5 h_x1 (zr_c (lo := 0) (hi := 0) (by decide)) (by decide)
    refine zok_pi (s_X3_patternAt hσ.P h4 h_x2) (fun v5 h7 => ?_)
    refine zok_pi (s_X9_held hσ.P) (fun v7 h8 => ?_)
    refine zok_pi (s_X9_vramByte hσ.P) (fun v9 h9 => ?_)
    refine zok_bu (s_X3_drawPattern hσ (zr_mul (lo := 0) (hi := 248) (zr_c (lo := 8) (hi := 8) (by decide)) h3 (by decide)) h7 h9) (fun σ10 i10 => ?_)
    exact (s_X3_drawOld_165 hk31 i10 (zr_w h6 (by decide)) h_x2 h_x3 h3 hMk31)
  have h11 := zc_nel (1) (3) q5 h_x1 (zr_c (lo := 0) (hi := 0) (by decide)) (by decide)
  refine zok_if (fun q12 => ?_) (fun q12 => ?_)
  · have h13 := zc_eql (2) (2) q12 h11 (zr_c (lo := 2) (hi := 2) (by decide)) (by decide)
    refine zok_bu (s_X3_drawThird hσ (zr_mul (lo := 0) (hi := 248) (zr_c (lo := 8) (hi := 8) (by decide)) h3 (by decide)) (zr_add (lo := 0) (hi := 1023) h4 (zr_mul (lo := 0) (hi := 768) (zr_c (lo := 256) (hi := 256) (by decide)) (zr_shr (lo := 0) (hi := 3) 6 (by decide) h_x2 (by decide)) (by decide)) (by decide)) (zr_andr (lo := 0) (hi := 7) (zr_c (lo := 7) (hi := 7) (by decide)) (by decide))) (fun σ11 i14 => ?_)
    exact (s_X3_drawOld_165 hk31 i14 (zr_w h13 (by decide)) h_x2 h_x3 h3 hMk31)
  refine zok_bu (s_X3_drawBlocks hσ (zr_mul (lo := 0) (hi := 248) (zr_c (lo := 8) (hi := 8) (by decide)) h3 (by decide)) h4 h_x2) (fun σ12 i15 => ?_)
  exact (s_X3_drawOld_165 hk31 i15 (zr_w h11 (by decide)) h_x2 h_x3 h3 hMk31)
theorem s_X3_drawOld_31 {G : Nat → Int} : ∀ (n : Nat) {σ : zSt} (hσ : zIC G σ) {x1 : Int32} (h_x1 : zr (0) (3) x1) {x2 : Int32} (h_x2 : zr (0) (239) x2) {x3 : Int32} (h_x3 : zr (0) (15360) x3) {x4 : Int32} (h_x4 : zr (0) (32) x4) (hm : (32) - x4.toInt < n), zok (fX3_drawOld_31 n σ x1 x2 x3 x4) (zIC G) := by
  intro n
  induction n with
  | zero => intro σ hσ x1 h_x1 x2 h_x2 x3 h_x3 x4 h_x4 hm ; have h9 := h_x4.1; have h8 := h_x4.2; exfalso; omega
  | succ n ih => intro σ hσ x1 h_x1 x2 h_x2 x3 h_x3 x4 h_x4 hm ; exact s_X3_drawOld_31_body (fun σ x1 x2 x3 x4 hσ h_x1 h_x2 h_x3 h_x4 hm1 => ih hσ h_x1 h_x2 h_x3 h_x4 (by omega)) hσ h_x1 h_x2 h_x3 h_x4 (Int.le_refl _)
theorem s_X3_drawOld {G : Nat → Int} {σ : zSt} (hσ : zIC G σ) {x1 : Int32} (h_x1 : zr (0) (3) x1) {x2 : Int32} (h_x2 : zr (0) (239) x2) : zok (fX3_drawOld σ x1 x2) (zIC G) := by
  unfold fX3_drawOld
  refine zok_pi (s_X9_held hσ.P) (fun v14 h1 => ?_)
  refine zok_br (zr_mul (lo := 0) (hi := 15360) (zr_c (lo := 1024) (hi := 1024) (by decide)) (zr_andr (lo := 0) (hi := 15) (zr_c (lo := 15) (hi := 15) (by decide)) (by decide)) (by decide)) (fun v15 e3 h2 => ?_)
  refine zok_if (fun q4 => ?_) (fun q4 => ?_)
  · have h5 := zc_eql (1) (1) q4 h_x1 (zr_c (lo := 1) (hi := 1) (by decide)) (by decide)
    refine zok_bu (s_X3_drawText hσ h2 h_x2) (fun σ16 i6 => ?_)
    exact zok_some i6
  exact (s_X3_drawOld_31 zfuel hσ h_x1 h_x2 h2 (zr_w (zr_c (lo := 0) (hi := 0) (by decide)) (by decide)) (by decide))
theorem s_X9_markFifth_39 {σ : zSt} (hσ : zPC σ) : zok (fX9_markFifth_39 σ ) (zPu σ) := by
  unfold fX9_markFifth_39
  exact zok_spu
theorem s_X9_markFifth {G : Nat → Int} {σ : zSt} (hσ : zIC G σ) {x1 : Int32} (h_x1 : zr (0) (31) x1) : zok (fX9_markFifth σ x1) (zIC G) := by
  unfold fX9_markFifth
  refine zok_ck rfl ?_
  refine zok_if (fun q1 => ?_) (fun q1 => ?_)
  · have h2 := zc_eql (0) (0) q1 (zr_andr (lo := 0) (hi := 64) (zr_c (lo := 64) (hi := 64) (by decide)) (by decide)) (zr_c (lo := 0) (hi := 0) (by decide)) (by decide)
    refine zok_ck rfl ?_
    refine zok_ck rfl ?_
    refine zok_bs (hσ.wi 15 15 (by decide) (zr_or (lo := 0) (hi := 255) 8 (zr_or (lo := 0) (hi := 255) 8 (zr_andr (lo := 0) (hi := 160) (zr_c (lo := 160) (hi := 160) (by decide)) (by decide)) (zr_c (lo := 64) (hi := 64) (by decide)) (by decide)) (zr_andr (lo := 0) (hi := 31) (zr_c (lo := 31) (hi := 31) (by decide)) (by decide)) (by decide)) (by decide +kernel)) (fun σ1 e4 i3 => ?_)
    exact zok_pau i3 (s_X9_markFifth_39 i3.P)
  have h5 := zc_nel (1) (64) q1 (zr_andr (lo := 0) (hi := 64) (zr_c (lo := 64) (hi := 64) (by decide)) (by decide)) (zr_c (lo := 0) (hi := 0) (by decide)) (by decide)
  exact zok_pau hσ (s_X9_markFifth_39 hσ.P)
theorem s_X3_takeDot_41 {σ : zSt} (hσ : zPC σ) : zok (fX3_takeDot_41 σ ) (zPu σ) := by
  unfold fX3_takeDot_41
  exact zok_spu
theorem s_X3_takeDot_18 {G : Nat → Int} {σ : zSt} (hσ : zIC G σ) {x1 : Int32} (h_x1 : zr (0) (255) x1) {x2 : Int32} (h_x2 : zr (0) (15) x2) : zok (fX3_takeDot_18 σ x1 x2) (zIC G) := by
  unfold fX3_takeDot_18
  refine zok_ck (zin_ok h_x1 (by decide)) ?_
  refine zok_if (fun q1 => ?_) (fun q1 => ?_)
  · have h2 := zc_eql (0) (0) q1 (zr_andr (lo := 0) (hi := 15) (zr_c (lo := 15) (hi := 15) (by decide)) (by decide)) (zr_c (lo := 0) (hi := 0) (by decide)) (by decide)
    refine zok_ck (zin_ok h_x1 (by decide)) ?_
    refine zok_bs (hσ.wk (by decide)) (fun σ1 e4 i3 => ?_)
    exact zok_pau i3 (s_X3_takeDot_41 i3.P)
  have h5 := zc_nel (1) (15) q1 (zr_andr (lo := 0) (hi := 15) (zr_c (lo := 15) (hi := 15) (by decide)) (by decide)) (zr_c (lo := 0) (hi := 0) (by decide)) (by decide)
  exact zok_pau hσ (s_X3_takeDot_41 hσ.P)
theorem s_X3_takeDot {G : Nat → Int} {σ : zSt} (hσ : zIC G σ) {x1 : Int32} (h_x1 : zr (0) (255) x1) {x2 : Int32} (h_x2 : zr (0) (15) x2) : zok (fX3_takeDot σ x1 x2) (zIC G) := by
  unfold fX3_takeDot
  refine zok_ck (zin_ok h_x1 (by decide)) ?_
  refine zok_if (fun q1 => ?_) (fun q1 => ?_)
  · have h2 := zc_eql (0) (0) q1 zr_any (zr_c (lo := 0) (hi := 0) (by decide)) (by decide)
    exact (s_X3_takeDot_18 hσ h_x1 h_x2)
  refine zok_bu (s_X9_mark hσ (zr_w (zr_c (lo := 32) (hi := 32) (by decide)) (by decide))) (fun σ2 i3 => ?_)
  exact (s_X3_takeDot_18 i3 h_x1 h_x2)
theorem s_X3_drawOldSprite_224 {G : Nat → Int} {σ : zSt} {k158 : zSt → Int32 → Int32 → Int32 → Int32 → Int32 → Int32 → Option (zSt)} {Mk158 : Int} (hk158 : ∀ (σ : zSt) (x3 : Int32) (x4 : Int32) (x7 : Int32) (x8 : Int32) (x10 : Int32) (x11 : Int32), zIC G σ → zr (0) (255) x3 → zr (-32) (255) x4 → zr (0) (1) x7 → zr (0) (1) x8 → zr (0) (65535) x10 → zr (0) (32) x11 → (32) - x11.toInt < Mk158 → zok (k158 σ x3 x4 x7 x8 x10 x11) (zIC G)) (hσ : zIC G σ) {x3 : Int32} (h_x3 : zr (0) (255) x3) {x4 : Int32} (h_x4 : zr (-32) (255) x4) {x7 : Int32} (h_x7 : zr (0) (1) x7) {x8 : Int32} (h_x8 : zr (0) (1) x8) {x10 : Int32} (h_x10 : zr (0) (65535) x10) {x11 : Int32} (h_x11 : zr (0) (31) x11) (hMk158 : (32) - x11.toInt ≤ Mk158) : zok (fX3_drawOldSprite_224 k158 σ x3 x4 x7 x8 x10 x11) (zIC G) := by
  unfold fX3_drawOldSprite_224
  refine zok_br (zr_add (lo := 1) (hi := 32) h_x11 (zr_c (lo := 1) (hi := 1) (by decide)) (by decide)) (fun v1 e2 h1 => ?_)
  exact hk158 _ _ _ _ _ _ _ hσ h_x3 h_x4 h_x7 h_x8 h_x10 (zr_w h1 (by decide)) (by rw [e2]; have := z_tadd (y := (1 : Int32)) h_x11 (zr_c (lo := 1) (hi := 1) (by decide)) (by decide); have e9 : (1 : Int32).toInt = 1 := rfl; omega) 
theorem s_X3_drawOldSprite_158_body {G : Nat → Int} {σ : zSt} {k158 : zSt → Int32 → Int32 → Int32 → Int32 → Int32 → Int32 → Option (zSt)} {Mk158 : Int} (hk158 : ∀ (σ : zSt) (x3 : Int32) (x4 : Int32) (x7 : Int32) (x8 : Int32) (x10 : Int32) (x11 : Int32), zIC G σ → zr (0) (255) x3 → zr (-32) (255) x4 → zr (0) (1) x7 → zr (0) (1) x8 → zr (0) (65535) x10 → zr (0) (32) x11 → (32) - x11.toInt < Mk158 → zok (k158 σ x3 x4 x7 x8 x10 x11) (zIC G)) (hσ : zIC G σ) {x3 : Int32} (h_x3 : zr (0) (255) x3) {x4 : Int32} (h_x4 : zr (-32) (255) x4) {x7 : Int32} (h_x7 : zr (0) (1) x7) {x8 : Int32} (h_x8 : zr (0) (1) x8) {x10 : Int32} (h_x10 : zr (0) (65535) x10) {x11 : Int32} (h_x11 : zr (0) (32) x11) (hMk158 : (32) - x11.toInt ≤ Mk158) : zok (fX3_drawOldSprite_158_body k158 σ x3 x4 x7 x8 x10 x11) (zIC G) := by
  unfold fX3_drawOldSprite_158_body
  refine zok_if (fun q1 => ?_) (fun q1 => ?_)
  · have h2 := zc_eql (0) (0) q1 h_x8 (zr_c (lo := 0) (hi := 0) (by decide)) (by decide)
    unfold fX3_drawOldSprite_172
    refine zok_if (fun q3 => ?_) (fun q3 => ?_)
    · exact zok_some hσ
    have h4 := zc_ltl (15) (z_nle q3) h_x11 (zr_shld (lo := 0) (hi := 16) (zr_c (lo := 8) (hi := 8) (by decide)) h_x7 (by decide)) (by decide)
    have h5 := zc_ltr (1) (z_nle q3) h_x11 (zr_shld (lo := 0) (hi := 16) (zr_c (lo := 8) (hi := 8) (by decide)) h_x7 (by decide)) (by decide)
    refine zok_br (zr_add (lo := -32) (hi := 270) h_x4 h4 (by decide)) (fun v2 e7 h6 => ?_)
    refine zok_if (fun q8 => ?_) (fun q8 => ?_)
    · have h9 := zc_eql (0) (0) q8 (zr_andr (lo := 0) (hi := 1) (zr_c (lo := 1) (hi := 1) (by decide)) (by decide)) (zr_c (lo := 0) (hi := 0) (by decide)) (by decide)
      exact (s_X3_drawOldSprite_224 hk158 hσ h_x3 h_x4 h_x7 (zr_w h2 (by decide)) h_x10 (zr_w h4 (by decide)) hMk158)
    have h10 := zc_nel (1) (1) q8 (zr_andr (lo := 0) (hi := 1) (zr_c (lo := 1) (hi := 1) (by decide)) (by decide)) (zr_c (lo := 0) (hi := 0) (by decide)) (by decide)
    refine zok_if (fun q11 => ?_) (fun q11 => ?_)
    · have h12 := zc_ltl (-1) q11 h6 (zr_c (lo := 0) (hi := 0) (by decide)) (by decide)
      exact (s_X3_drawOldSprite_224 hk158 hσ h_x3 h_x4 h_x7 (zr_w h2 (by decide)) h_x10 (zr_w h4 (by decide)) hMk158)
    have h13 := zc_ler (0) (z_nlt q11) (zr_c (lo := 0) (hi := 0) (by decide)) h6 (by decide)
    refine zok_if (fun q14 => ?_) (fun q14 => ?_)
    · have h15 := zc_ler (256) q14 (zr_c (lo := 256) (hi := 256) (by decide)) h13 (by decide)
      exact (s_X3_drawOldSprite_224 hk158 hσ h_x3 h_x4 h_x7 (zr_w h2 (by decide)) h_x10 (zr_w h4 (by decide)) hMk158)
    have h16 := zc_ltl (255) (z_nle q14) h13 (zr_c (lo := 256) (hi := 256) (by decide)) (by decide)
    refine zok_bu (s_X3_takeDot hσ h16 (zr_andr (lo := 0) (hi := 15) (zr_c (lo := 15) (hi := 15) (by decide)) (by decide))) (fun σ3 i17 => ?_)
    exact (s_X3_drawOldSprite_224 hk158 i17 h_x3 h_x4 h_x7 (zr_w h2 (by decide)) h_x10 (zr_w h4 (by decide)) hMk158)
  have h18 := zc_nel (1) (1) q1 h_x8 (zr_c (lo := 0) (hi := 0) (by decide)) (by decide)
  unfold fX3_drawOldSprite_172
  refine zok_if (fun q19 => ?_) (fun q19 => ?_)
  · exact zok_some hσ
  have h20 := zc_ltl (31) (z_nle q19) h_x11 (zr_shld (lo := 0) (hi := 32) (zr_c (lo := 16) (hi := 16) (by decide)) h_x7 (by decide)) (by decide)
  have h21 := zc_ltr (1) (z_nle q19) h_x11 (zr_shld (lo := 0) (hi := 32) (zr_c (lo := 16) (hi := 16) (by decide)) h_x7 (by decide)) (by decide)
  refine zok_br (zr_add (lo := -32) (hi := 286) h_x4 h20 (by decide)) (fun v2 e23 h22 => ?_)
  refine zok_if (fun q24 => ?_) (fun q24 => ?_)
  · have h25 := zc_eql (0) (0) q24 (zr_andr (lo := 0) (hi := 1) (zr_c (lo := 1) (hi := 1) (by decide)) (by decide)) (zr_c (lo := 0) (hi := 0) (by decide)) (by decide)
    exact (s_X3_drawOldSprite_224 hk158 hσ h_x3 h_x4 h_x7 (zr_w h18 (by decide)) h_x10 h20 hMk158)
  have h26 := zc_nel (1) (1) q24 (zr_andr (lo := 0) (hi := 1) (zr_c (lo := 1) (hi := 1) (by decide)) (by decide)) (zr_c (lo := 0) (hi := 0) (by decide)) (by decide)
  refine zok_if (fun q27 => ?_) (fun q27 => ?_)
  · have h28 := zc_ltl (-1) q27 h22 (zr_c (lo := 0) (hi := 0) (by decide)) (by decide)
    exact (s_X3_drawOldSprite_224 hk158 hσ h_x3 h_x4 h_x7 (zr_w h18 (by decide)) h_x10 h20 hMk158)
  have h29 := zc_ler (0) (z_nlt q27) (zr_c (lo := 0) (hi := 0) (by decide)) h22 (by decide)
  refine zok_if (fun q30 => ?_) (fun q30 => ?_)
  · have h31 := zc_ler (256) q30 (zr_c (lo := 256) (hi := 256) (by decide)) h29 (by decide)
    exact (s_X3_drawOldSprite_224 hk158 hσ h_x3 h_x4 h_x7 (zr_w h18 (by decide)) h_x10 h20 hMk158)
  have h32 := zc_ltl (255) (z_nle q30) h29 (zr_c (lo := 256) (hi := 256) (by decide)) (by decide)
  refine zok_bu (s_X3_takeDot hσ h32 (zr_andr (lo := 0) (hi := 15) (zr_c (lo := 15) (hi := 15) (by decide)) (by decide))) (fun σ3 i33 => ?_)
  exact (s_X3_drawOldSprite_224 hk158 i33 h_x3 h_x4 h_x7 (zr_w h18 (by decide)) h_x10 h20 hMk158)
theorem s_X3_drawOldSprite_158 {G : Nat → Int} : ∀ (n : Nat) {σ : zSt} (hσ : zIC G σ) {x3 : Int32} (h_x3 : zr (0) (255) x3) {x4 : Int32} (h_x4 : zr (-32) (255) x4) {x7 : Int32} (h_x7 : zr (0) (1) x7) {x8 : Int32} (h_x8 : zr (0) (1) x8) {x10 : Int32} (h_x10 : zr (0) (65535) x10) {x11 : Int32} (h_x11 : zr (0) (32) x11) (hm : (32) - x11.toInt < n), zok (fX3_drawOldSprite_158 n σ x3 x4 x7 x8 x10 x11) (zIC G) := by
  intro n
  induction n with
  | zero => intro σ hσ x3 h_x3 x4 h_x4 x7 h_x7 x8 h_x8 x10 h_x10 x11 h_x11 hm ; have h9 := h_x11.1; have h8 := h_x11.2; exfalso; omega
  | succ n ih => intro σ hσ x3 h_x3 x4 h_x4 x7 h_x7 x8 h_x8 x10 h_x10 x11 h_x11 hm ; exact s_X3_drawOldSprite_158_body (fun σ x3 x4 x7 x8 x10 x11 hσ h_x3 h_x4 h_x7 h_x8 h_x10 h_x11 hm1 => ih hσ h_x3 h_x4 h_x7 h_x8 h_x10 h_x11 (by omega)) hσ h_x3 h_x4 h_x7 h_x8 h_x10 h_x11 (Int.le_refl _)
theorem s_X3_drawOldSprite_152 {G : Nat → Int} {σ : zSt} (hσ : zIC G σ) {x3 : Int32} (h_x3 : zr (0) (255) x3) {x4 : Int32} (h_x4 : zr (-32) (255) x4) {x7 : Int32} (h_x7 : zr (0) (1) x7) {x8 : Int32} (h_x8 : zr (0) (1) x8) {s0 : Int32} (h_s0 : zr (0) (255) s0) {s1 : Int32} (h_s1 : zr (0) (65280) s1) : zok (fX3_drawOldSprite_152 σ x3 x4 x7 x8 s0 s1) (zIC G) := by
  unfold fX3_drawOldSprite_152
  refine zok_br (zr_or (lo := 0) (hi := 65535) 16 h_s1 h_s0 (by decide)) (fun v4 e2 h1 => ?_)
  exact (s_X3_drawOldSprite_158 zfuel hσ h_x3 h_x4 h_x7 h_x8 h1 (zr_w (zr_c (lo := 0) (hi := 0) (by decide)) (by decide)) (by decide))
theorem s_X3_drawOldSprite_113 {G : Nat → Int} {σ : zSt} (hσ : zIC G σ) {x2 : Int32} (h_x2 : zr (0) (255) x2) {x3 : Int32} (h_x3 : zr (0) (255) x3) {x4 : Int32} (h_x4 : zr (-32) (255) x4) {x7 : Int32} (h_x7 : zr (0) (1) x7) {x8 : Int32} (h_x8 : zr (0) (1) x8) {s0 : Int32} (h_s0 : zr (0) (255) s0) {s1 : Int32} (h_s1 : zr (8) (8) s1) {s2 : Int32} (h_s2 : zr (0) (14336) s2) : zok (fX3_drawOldSprite_113 σ x2 x3 x4 x7 x8 s0 s1 s2) (zIC G) := by
  unfold fX3_drawOldSprite_113
  refine zok_br (zr_add (lo := 0) (hi := 16631) (zr_add (lo := 0) (hi := 16376) h_s2 (zr_mul (lo := 0) (hi := 2040) h_s1 h_s0 (by decide)) (by decide)) h_x2 (by decide)) (fun v5 e2 h1 => ?_)
  refine zok_pi (s_X9_vramByte hσ.P) (fun v7 h3 => ?_)
  refine zok_if (fun q4 => ?_) (fun q4 => ?_)
  · have h5 := zc_eql (0) (0) q4 h_x8 (zr_c (lo := 0) (hi := 0) (by decide)) (by decide)
    exact (s_X3_drawOldSprite_152 hσ h_x3 h_x4 h_x7 (zr_w h5 (by decide)) (zr_w (zr_c (lo := 0) (hi := 0) (by decide)) (by decide)) (zr_shl (lo := 0) (hi := 65280) 8 (by decide) h3 (by decide)))
  have h6 := zc_nel (1) (1) q4 h_x8 (zr_c (lo := 0) (hi := 0) (by decide)) (by decide)
  refine zok_pi (s_X9_vramByte hσ.P) (fun v9 h7 => ?_)
  exact (s_X3_drawOldSprite_152 hσ h_x3 h_x4 h_x7 (zr_w h6 (by decide)) h7 (zr_shl (lo := 0) (hi := 65280) 8 (by decide) h3 (by decide)))
theorem s_X3_drawOldSprite_78 {G : Nat → Int} {σ : zSt} (hσ : zIC G σ) {x2 : Int32} (h_x2 : zr (0) (255) x2) {x3 : Int32} (h_x3 : zr (0) (255) x3) {x4 : Int32} (h_x4 : zr (-32) (255) x4) {x5 : Int32} (h_x5 : zr (0) (255) x5) {x7 : Int32} (h_x7 : zr (0) (1) x7) {s0 : Int32} (h_s0 : zr (0) (1) s0) : zok (fX3_drawOldSprite_78 σ x2 x3 x4 x5 x7 s0) (zIC G) := by
  unfold fX3_drawOldSprite_78
  refine zok_pi (s_X9_held hσ.P) (fun v11 h1 => ?_)
  refine zok_if (fun q2 => ?_) (fun q2 => ?_)
  · have h3 := zc_eql (0) (0) q2 h_s0 (zr_c (lo := 0) (hi := 0) (by decide)) (by decide)
    exact (s_X3_drawOldSprite_113 hσ h_x2 h_x3 h_x4 h_x7 (zr_w h3 (by decide)) h_x5 (zr_c (lo := 8) (hi := 8) (by decide)) (zr_mul (lo := 0) (hi := 14336) (zr_c (lo := 2048) (hi := 2048) (by decide)) (zr_andr (lo := 0) (hi := 7) (zr_c (lo := 7) (hi := 7) (by decide)) (by decide)) (by decide)))
  have h4 := zc_nel (1) (1) q2 h_s0 (zr_c (lo := 0) (hi := 0) (by decide)) (by decide)
  exact (s_X3_drawOldSprite_113 hσ h_x2 h_x3 h_x4 h_x7 (zr_w h4 (by decide)) (zr_andl (lo := 0) (hi := 255) h_x5 (by decide)) (zr_c (lo := 8) (hi := 8) (by decide)) (zr_mul (lo := 0) (hi := 14336) (zr_c (lo := 2048) (hi := 2048) (by decide)) (zr_andr (lo := 0) (hi := 7) (zr_c (lo := 7) (hi := 7) (by decide)) (by decide)) (by decide)))
theorem s_X3_drawOldSprite_35 {G : Nat → Int} {σ : zSt} (hσ : zIC G σ) {x1 : Int32} (h_x1 : zr (0) (16380) x1) {x2 : Int32} (h_x2 : zr (0) (255) x2) {x3 : Int32} (h_x3 : zr (0) (255) x3) {s0 : Int32} (h_s0 : zr (0) (32) s0) {s1 : Int32} (h_s1 : zr (0) (255) s1) : zok (fX3_drawOldSprite_35 σ x1 x2 x3 s0 s1) (zIC G) := by
  unfold fX3_drawOldSprite_35
  refine zok_br (zr_sub (lo := -32) (hi := 255) h_s1 h_s0 (by decide)) (fun v12 e2 h1 => ?_)
  refine zok_pi (s_X9_vramByte hσ.P) (fun v14 h3 => ?_)
  refine zok_pi (s_X9_held hσ.P) (fun v16 h4 => ?_)
  refine zok_br (zr_andr (lo := 0) (hi := 1) (zr_c (lo := 1) (hi := 1) (by decide)) (by decide)) (fun v17 e6 h5 => ?_)
  refine zok_if (fun q7 => ?_) (fun q7 => ?_)
  · have h8 := zc_eql (0) (0) q7 (zr_andr (lo := 0) (hi := 2) (zr_c (lo := 2) (hi := 2) (by decide)) (by decide)) (zr_c (lo := 0) (hi := 0) (by decide)) (by decide)
    exact (s_X3_drawOldSprite_78 hσ h_x2 h_x3 h1 h3 h5 (zr_w (zr_c (lo := 0) (hi := 0) (by decide)) (by decide)))
  have h9 := zc_nel (1) (2) q7 (zr_andr (lo := 0) (hi := 2) (zr_c (lo := 2) (hi := 2) (by decide)) (by decide)) (zr_c (lo := 0) (hi := 0) (by decide)) (by decide)
  exact (s_X3_drawOldSprite_78 hσ h_x2 h_x3 h1 h3 h5 (zr_w (zr_c (lo := 1) (hi := 1) (by decide)) (by decide)))
theorem s_X3_drawOldSprite {G : Nat → Int} {σ : zSt} (hσ : zIC G σ) {x1 : Int32} (h_x1 : zr (0) (16380) x1) {x2 : Int32} (h_x2 : zr (0) (255) x2) : zok (fX3_drawOldSprite σ x1 x2) (zIC G) := by
  unfold fX3_drawOldSprite
  refine zok_pi (s_X9_vramByte hσ.P) (fun v19 h1 => ?_)
  refine zok_pi (s_X9_vramByte hσ.P) (fun v21 h2 => ?_)
  refine zok_if (fun q3 => ?_) (fun q3 => ?_)
  · have h4 := zc_eql (0) (0) q3 (zr_andr (lo := 0) (hi := 128) (zr_c (lo := 128) (hi := 128) (by decide)) (by decide)) (zr_c (lo := 0) (hi := 0) (by decide)) (by decide)
    exact (s_X3_drawOldSprite_35 hσ h_x1 h_x2 h1 (zr_w (zr_c (lo := 0) (hi := 0) (by decide)) (by decide)) h2)
  have h5 := zc_nel (1) (128) q3 (zr_andr (lo := 0) (hi := 128) (zr_c (lo := 128) (hi := 128) (by decide)) (by decide)) (zr_c (lo := 0) (hi := 0) (by decide)) (by decide)
  exact (s_X3_drawOldSprite_35 hσ h_x1 h_x2 h1 (zr_w (zr_c (lo := 32) (hi := 32) (by decide)) (by decide)) h2)
theorem s_X3_drawOldSprites_155 {G : Nat → Int} {σ : zSt} {k117 : zSt → Int32 → Option (zSt)} {Mk117 : Int} (hk117 : ∀ (σ : zSt) (x4 : Int32), zIC G σ → zr (0) (256) x4 → (256) - x4.toInt < Mk117 → zok (k117 σ x4) (zIC G)) (hσ : zIC G σ) {x4 : Int32} (h_x4 : zr (0) (255) x4) (hMk117 : (256) - x4.toInt ≤ Mk117) : zok (fX3_drawOldSprites_155 k117 σ x4) (zIC G) := by
  unfold fX3_drawOldSprites_155
  refine zok_br (zr_add (lo := 1) (hi := 256) h_x4 (zr_c (lo := 1) (hi := 1) (by decide)) (by decide)) (fun v1 e2 h1 => ?_)
  exact hk117 _ _ hσ (zr_w h1 (by decide)) (by rw [e2]; have := z_tadd (y := (1 : Int32)) h_x4 (zr_c (lo := 1) (hi := 1) (by decide)) (by decide); have e9 : (1 : Int32).toInt = 1 := rfl; omega) 
theorem s_X3_drawOldSprites_117_body {G : Nat → Int} {σ : zSt} {k117 : zSt → Int32 → Option (zSt)} {Mk117 : Int} (hk117 : ∀ (σ : zSt) (x4 : Int32), zIC G σ → zr (0) (256) x4 → (256) - x4.toInt < Mk117 → zok (k117 σ x4) (zIC G)) (hσ : zIC G σ) {x4 : Int32} (h_x4 : zr (0) (256) x4) (hMk117 : (256) - x4.toInt ≤ Mk117) : zok (fX3_drawOldSprites_117_body k117 σ x4) (zIC G) := by
  unfold fX3_drawOldSprites_117_body
  refine zok_if (fun q1 => ?_) (fun q1 => ?_)
  · have h2 := zc_ler (256) q1 (zr_c (lo := 256) (hi := 256) (by decide)) h_x4 (by decide)
    exact zok_some hσ
  have h3 := zc_ltl (255) (z_nle q1) h_x4 (zr_c (lo := 256) (hi := 256) (by decide)) (by decide)
  refine zok_ck (zin_ok h3 (by decide)) ?_
  refine zok_if (fun q4 => ?_) (fun q4 => ?_)
  · have h5 := zc_lel (0) q4 (zr_andr (lo := 0) (hi := 15) (zr_c (lo := 15) (hi := 15) (by decide)) (by decide)) (zr_c (lo := 0) (hi := 0) (by decide)) (by decide)
    exact (s_X3_drawOldSprites_155 hk117 hσ h3 hMk117)
  have h6 := zc_ltr (1) (z_nle q4) (zr_c (lo := 0) (hi := 0) (by decide)) (zr_andr (lo := 0) (hi := 15) (zr_c (lo := 15) (hi := 15) (by decide)) (by decide)) (by decide)
  refine zok_ck (zin_ok h3 (by decide)) ?_
  refine zok_ck (zin_ok h3 (by decide)) ?_
  refine zok_bs (hσ.wk (by decide)) (fun σ2 e8 i7 => ?_)
  exact (s_X3_drawOldSprites_155 hk117 i7 h3 hMk117)
theorem s_X3_drawOldSprites_117 {G : Nat → Int} : ∀ (n : Nat) {σ : zSt} (hσ : zIC G σ) {x4 : Int32} (h_x4 : zr (0) (256) x4) (hm : (256) - x4.toInt < n), zok (fX3_drawOldSprites_117 n σ x4) (zIC G) := by
  intro n
  induction n with
  | zero => intro σ hσ x4 h_x4 hm ; have h9 := h_x4.1; have h8 := h_x4.2; exfalso; omega
  | succ n ih => intro σ hσ x4 h_x4 hm ; exact s_X3_drawOldSprites_117_body (fun σ x4 hσ h_x4 hm1 => ih hσ h_x4 (by omega)) hσ h_x4 (Int.le_refl _)
theorem s_X3_drawOldSprites_114 {G : Nat → Int} {σ : zSt} (hσ : zIC G σ) : zok (fX3_drawOldSprites_114 σ ) (zIC G) := by
  unfold fX3_drawOldSprites_114
  exact (s_X3_drawOldSprites_117 zfuel hσ (zr_w (zr_c (lo := 0) (hi := 0) (by decide)) (by decide)) (by decide))
theorem s_X3_drawOldSprites_108 {G : Nat → Int} {σ : zSt} {k29 : zSt → Int32 → Int32 → Int32 → Int32 → Option (zSt)} {Mk29 : Int} (hk29 : ∀ (σ : zSt) (x1 : Int32) (x2 : Int32) (x3 : Int32) (x4 : Int32), zIC G σ → zr (0) (239) x1 → zr (0) (16256) x2 → zr (0) (7) x3 → zr (0) (32) x4 → (32) - x4.toInt < Mk29 → zok (k29 σ x1 x2 x3 x4) (zIC G)) (hσ : zIC G σ) {x1 : Int32} (h_x1 : zr (0) (239) x1) {x2 : Int32} (h_x2 : zr (0) (16256) x2) {x3 : Int32} (h_x3 : zr (0) (7) x3) {x4 : Int32} (h_x4 : zr (0) (31) x4) (hMk29 : (32) - x4.toInt ≤ Mk29) : zok (fX3_drawOldSprites_108 k29 σ x1 x2 x3 x4) (zIC G) := by
  unfold fX3_drawOldSprites_108
  refine zok_br (zr_add (lo := 1) (hi := 32) h_x4 (zr_c (lo := 1) (hi := 1) (by decide)) (by decide)) (fun v3 e2 h1 => ?_)
  exact hk29 _ _ _ _ _ hσ h_x1 h_x2 h_x3 (zr_w h1 (by decide)) (by rw [e2]; have := z_tadd (y := (1 : Int32)) h_x4 (zr_c (lo := 1) (hi := 1) (by decide)) (by decide); have e9 : (1 : Int32).toInt = 1 := rfl; omega) 
theorem s_X3_drawOldSprites_29_body {G : Nat → Int} {σ : zSt} {k29 : zSt → Int32 → Int32 → Int32 → Int32 → Option (zSt)} {Mk29 : Int} (hk29 : ∀ (σ : zSt) (x1 : Int32) (x2 : Int32) (x3 : Int32) (x4 : Int32), zIC G σ → zr (0) (239) x1 → zr (0) (16256) x2 → zr (0) (7) x3 → zr (0) (32) x4 → (32) - x4.toInt < Mk29 → zok (k29 σ x1 x2 x3 x4) (zIC G)) (hσ : zIC G σ) {x1 : Int32} (h_x1 : zr (0) (239) x1) {x2 : Int32} (h_x2 : zr (0) (16256) x2) {x3 : Int32} (h_x3 : zr (0) (7) x3) {x4 : Int32} (h_x4 : zr (0) (32) x4) (hMk29 : (32) - x4.toInt ≤ Mk29) : zok (fX3_drawOldSprites_29_body k29 σ x1 x2 x3 x4) (zIC G) := by
  unfold fX3_drawOldSprites_29_body
  refine zok_if (fun q1 => ?_) (fun q1 => ?_)
  · have h2 := zc_ler (32) q1 (zr_c (lo := 32) (hi := 32) (by decide)) h_x4 (by decide)
    exact (s_X3_drawOldSprites_114 hσ)
  have h3 := zc_ltl (31) (z_nle q1) h_x4 (zr_c (lo := 32) (hi := 32) (by decide)) (by decide)
  refine zok_br (zr_add (lo := 0) (hi := 16380) h_x2 (zr_mul (lo := 0) (hi := 124) (zr_c (lo := 4) (hi := 4) (by decide)) h3 (by decide)) (by decide)) (fun v4 e5 h4 => ?_)
  refine zok_pi (s_X9_vramByte hσ.P) (fun v6 h6 => ?_)
  refine zok_if (fun q7 => ?_) (fun q7 => ?_)
  · have h8 := zc_eql (208) (208) q7 h6 (zr_c (lo := 208) (hi := 208) (by decide)) (by decide)
    exact (s_X3_drawOldSprites_114 hσ)
  refine zok_pi (s_X3_rowOfSprite hσ.P h_x1 h6) (fun v8 h9 => ?_)
  refine zok_if (fun q10 => ?_) (fun q10 => ?_)
  · have h11 := zc_ltl (-1) q10 h9 (zr_c (lo := 0) (hi := 0) (by decide)) (by decide)
    exact (s_X3_drawOldSprites_108 hk29 hσ h_x1 h_x2 h_x3 h3 hMk29)
  have h12 := zc_ler (0) (z_nlt q10) (zr_c (lo := 0) (hi := 0) (by decide)) h9 (by decide)
  refine zok_br (zr_add (lo := 1) (hi := 8) h_x3 (zr_c (lo := 1) (hi := 1) (by decide)) (by decide)) (fun v9 e14 h13 => ?_)
  refine zok_if (fun q15 => ?_) (fun q15 => ?_)
  · have h16 := zc_lel (4) q15 h13 (zr_c (lo := 4) (hi := 4) (by decide)) (by decide)
    refine zok_bu (s_X3_drawOldSprite hσ h4 h12) (fun σ10 i17 => ?_)
    exact (s_X3_drawOldSprites_108 hk29 i17 h_x1 h_x2 (zr_w h16 (by decide)) h3 hMk29)
  have h18 := zc_ltr (5) (z_nle q15) (zr_c (lo := 4) (hi := 4) (by decide)) h13 (by decide)
  refine zok_bu (s_X9_markFifth hσ h3) (fun σ11 i19 => ?_)
  exact (s_X3_drawOldSprites_114 i19)
theorem s_X3_drawOldSprites_29 {G : Nat → Int} : ∀ (n : Nat) {σ : zSt} (hσ : zIC G σ) {x1 : Int32} (h_x1 : zr (0) (239) x1) {x2 : Int32} (h_x2 : zr (0) (16256) x2) {x3 : Int32} (h_x3 : zr (0) (7) x3) {x4 : Int32} (h_x4 : zr (0) (32) x4) (hm : (32) - x4.toInt < n), zok (fX3_drawOldSprites_29 n σ x1 x2 x3 x4) (zIC G) := by
  intro n
  induction n with
  | zero => intro σ hσ x1 h_x1 x2 h_x2 x3 h_x3 x4 h_x4 hm ; have h9 := h_x4.1; have h8 := h_x4.2; exfalso; omega
  | succ n ih => intro σ hσ x1 h_x1 x2 h_x2 x3 h_x3 x4 h_x4 hm ; exact s_X3_drawOldSprites_29_body (fun σ x1 x2 x3 x4 hσ h_x1 h_x2 h_x3 h_x4 hm1 => ih hσ h_x1 h_x2 h_x3 h_x4 (by omega)) hσ h_x1 h_x2 h_x3 h_x4 (Int.le_refl _)
theorem s_X3_drawOldSprites {G : Nat → Int} {σ : zSt} (hσ : zIC G σ) {x1 : Int32} (h_x1 : zr (0) (239) x1) : zok (fX3_drawOldSprites σ x1) (zIC G) := by
  unfold fX3_drawOldSprites
  refine zok_bu (s_J7_fill_53178_k28 hσ (zr_c (lo := 0) (hi := 0) (by decide))) (fun σ12 i1 => ?_)
  refine zok_pi (s_X9_held i1.P) (fun v14 h2 => ?_)
  refine zok_br (zr_mul (lo := 0) (hi := 16256) (zr_c (lo := 128) (hi := 128) (by decide)) (zr_andr (lo := 0) (hi := 127) (zr_c (lo := 127) (hi := 127) (by decide)) (by decide)) (by decide)) (fun v15 e4 h3 => ?_)
  exact (s_X3_drawOldSprites_29 zfuel i1 h_x1 h3 (zr_w (zr_c (lo := 0) (hi := 0) (by decide)) (by decide)) (zr_w (zr_c (lo := 0) (hi := 0) (by decide)) (by decide)) (by decide))
end ZJN1
