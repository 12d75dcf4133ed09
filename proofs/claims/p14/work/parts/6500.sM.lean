theorem s_X12_thrown {σ : zSt} (hσ : zPM σ) : zok (fX12_thrown σ ) (zPi σ (fun v : Int32 => True)) := by
  unfold fX12_thrown
  exact zok_spi trivial
theorem s_X12_fails_10 {G : Nat → Int} {σ : zSt} (hσ : zIM G σ) {x1 : Int32} (h_x1 : zr (0) (1) x1) {s0 : Int32} (h_s0 : zr (0) (2) s0) : zok (fX12_fails_10 σ x1 s0) (zAi (zIM G) (fun v : Int32 => zr (0) (1) v)) := by
  unfold fX12_fails_10
  refine zok_bs (hσ.wi 0 0 (by decide) h_s0 (by decide +kernel)) (fun σ1 e2 i1 => ?_)
  refine zok_ck (zbo_ok h_x1 (by decide)) ?_
  exact zok_sai i1 h_x1
theorem s_X12_fails {G : Nat → Int} {σ : zSt} (hσ : zIM G σ) {x1 : Int32} (h_x1 : zr (0) (1) x1) {x2 : Int32} (h_x2 : zr (1) (2) x2) : zok (fX12_fails σ x1 x2) (zAi (zIM G) (fun v : Int32 => zr (0) (1) v)) := by
  unfold fX12_fails
  refine zok_if (fun q1 => ?_) (fun q1 => ?_)
  · have h2 := zc_eql (0) (0) q1 h_x1 (zr_c (lo := 0) (hi := 0) (by decide)) (by decide)
    exact (s_X12_fails_10 hσ (zr_w h2 (by decide)) (zr_w (zr_c (lo := 0) (hi := 0) (by decide)) (by decide)))
  have h3 := zc_nel (1) (1) q1 h_x1 (zr_c (lo := 0) (hi := 0) (by decide)) (by decide)
  exact (s_X12_fails_10 hσ (zr_w h3 (by decide)) (zr_w h_x2 (by decide)))
theorem s_feed_h {G : Nat → Int} {x1 : Int32} {x2 x4 x6 : Int64} (h1 : zr 1 24 x1) : ∀ (n : Nat) {σ : zSt} (hσ : zEM [0] G σ) {x8 : Int32} (h8 : zr 0 24 x8) (ht : (zgi σ 0 2).toInt + (x1.toInt - x8.toInt) ≤ 262656) (hm : 24 - x8.toInt < n), zok (fX12_feed_54 n σ x1 x2 x4 x6 x8) (zAi (zEM [0] G) (fun v : Int32 => zr (0) (262656) v)) := by
  intro n
  induction n with
  | zero => intro σ hσ x8 h8 ht hm; have := h8.2; exfalso; omega
  | succ n ih =>
    intro σ hσ x8 h8 ht hm
    show zok (fX12_feed_54_body (fX12_feed_54 n) σ x1 x2 x4 x6 x8) _
    unfold fX12_feed_54_body
    have hT : zr 0 262656 (zgi σ 0 2) := rM_0 hσ.sg 2 (by decide)
    refine zok_if (fun q => zok_sai hσ hT) (fun q => ?_)
    have q1 := Int32.lt_iff_toInt_lt.mp (z_nle q)
    have a1 : zr 1 1 (1 : Int32) := zr_c (by decide)
    have c1 : (1 : Int32).toInt = 1 := rfl
    have k : ∀ s0 : Int64, zok (fX12_feed_93 (fX12_feed_54 n) σ x1 x2 x4 x6 x8 s0 (zgi σ 0 2)) (zAi (zEM [0] G) (fun v : Int32 => zr (0) (262656) v)) := fun s0 => by
      unfold fX12_feed_93
      have t1 : zr 0 262655 (zgi σ 0 2) := ⟨hT.1, by omega⟩
      refine zok_ck rfl (zok_ck (zin_ok t1 (by decide)) ?_)
      refine zok_bs (I := zEM [0] G) (hσ.wk (by decide +kernel)) (fun σ1 e1 i1 => ?_)
      have k1 : zgi σ1 0 2 = zgi σ 0 2 := by subst e1; unfold zgi; rw [zsi_off (fun h => absurd h.1 (by decide))]
      have t2 : zr 0 262655 (zgi σ1 0 2) := by rw [k1]; exact t1
      have t4 : (zgi σ1 0 2 + 1).toInt = (zgi σ1 0 2).toInt + (1 : Int32).toInt := z_tadd t2 a1 (by decide)
      refine zok_bs (I := zEM [0] G) (i1.wi 2 2 (by decide) (zr_add (lo := 1) (hi := 262656) t2 a1 (by decide)) (by decide +kernel)) (fun σ2 e2 i2 => ?_)
      have k2 : (zgi σ2 0 2).toInt = (zgi σ 0 2).toInt + 1 := by
        rw [← k1, ← c1, ← t4, e2]; unfold zgi; rw [zsi_ej]
      have t3 : (x8 + 1).toInt = x8.toInt + (1 : Int32).toInt := z_tadd h8 a1 (by decide)
      have b8 := h8.1
      have b9 := h1.2
      refine zok_bv (fun v3 e3 => ?_)
      subst e3
      exact ih i2 ⟨by omega, by omega⟩ (by omega) (by omega)
    exact zok_if (fun _ => zok_if (fun _ => k _) (fun _ => k _)) (fun _ => k _)
theorem s_X12_feed {G : Nat → Int} {σ : zSt} (hσ : zEM [0] G σ) {x1 : Int32} {x2 : Int64} {x4 : Int64} {x6 : Int64} : zok (fX12_feed σ x1 x2 x4 x6) (zAi (zEM [0] G) (fun v : Int32 => zr (0) (262656) v)) := by
  have z9 : ∀ σ1, zEM [0] G σ1 → zok (fX12_feed_49 σ1) (zAi (zEM [0] G) (fun v : Int32 => zr (0) (262656) v)) := fun σ1 i1 => zok_sai i1 (zr_c (by decide))
  unfold fX12_feed
  refine zok_within (fun w1 w2 => ?_) (fun w3 => ?_)
  · have h1 := z_wir w1 w2 (zrl_c (lo := 1) (hi := 1) (by decide)) (zrl_c (lo := 24) (hi := 24) (by decide))
    refine zok_if (fun q => absurd q (by decide)) (fun _ => ?_)
    unfold fX12_feed_18
    refine zok_fails0 (I := zEM [0] G) (hσ.wi 0 0 (by decide) zr_any (by decide +kernel)) (fun σ1 e1 i1 => ?_)
    refine zok_if (fun _ => ?_) (fun q => absurd rfl q)
    have hT : zr 0 262656 (zgi σ1 0 2) := rM_0 i1.sg 2 (by decide)
    refine zok_if (fun q => ?_) (fun q => ?_)
    · unfold fX12_feed_42
      refine zok_fails0 (I := zEM [0] G) (i1.wi 0 0 (by decide) zr_any (by decide +kernel)) (fun σ2 e2 i2 => ?_)
      refine zok_if (fun _ => ?_) (fun q => absurd rfl q)
      have q1 := Int32.le_iff_toInt_le.mp q
      have t : (zgi σ1 0 2 + x1).toInt = (zgi σ1 0 2).toInt + x1.toInt := z_tadd hT h1 (by decide)
      have k2 : zgi σ2 0 2 = zgi σ1 0 2 := by subst e2; unfold zgi; rw [zsi_off (by decide)]
      have c2 : (262656 : Int32).toInt = 262656 := rfl
      have c0 : (0 : Int32).toInt = 0 := rfl
      exact s_feed_h h1 zfuel i2 (zr_c (by decide)) (by rw [k2, c0]; omega) (by decide)
    · unfold fX12_feed_42
      refine zok_fails1 (I := zEM [0] G) (i1.wi 0 0 (by decide) zr_any (by decide +kernel)) (fun σ2 e2 i2 => ?_)
      exact zok_if (fun q => absurd q (by decide)) (fun _ => z9 _ i2)
  · refine zok_if (fun _ => ?_) (fun q => absurd rfl q)
    unfold fX12_feed_18
    refine zok_fails1 (I := zEM [0] G) (hσ.wi 0 0 (by decide) zr_any (by decide +kernel)) (fun σ1 e1 i1 => ?_)
    exact zok_if (fun q => absurd q (by decide)) (fun _ => z9 _ i1)
theorem s_grow_h {G : Nat → Int} {x1 x2 : Int32} (h1 : zr 0 262656 x1) (h2 : zr 1 262656 x2) : ∀ (n : Nat) {σ : zSt} (hσ : zEM [0] G σ) (hm : 262656 - (zgi σ 0 2).toInt < n), zok (fX12_grow_54 n σ x1 x2) (zAi (zEM [0] G) (fun v : Int32 => zr (0) (262656) v)) := by
  intro n
  induction n with
  | zero =>
    intro σ hσ hm
    have hT : zr 0 262656 (zgi σ 0 2) := rM_0 hσ.sg 2 (by decide)
    have := hT.2
    exfalso; omega
  | succ n ih =>
    intro σ hσ hm
    show zok (fX12_grow_54_body (fX12_grow_54 n) σ x1 x2) _
    unfold fX12_grow_54_body
    have hT : zr 0 262656 (zgi σ 0 2) := rM_0 hσ.sg 2 (by decide)
    refine zok_if (fun q => zok_sai hσ (zr_w h2 (by decide))) (fun q => ?_)
    · have q1 := Int32.lt_iff_toInt_lt.mp (z_nle q)
      have a1 : zr 1 1 (1 : Int32) := zr_c (by decide)
      have c1 : (1 : Int32).toInt = 1 := rfl
      have b1 := h1.2
      have t1 : zr 0 262655 (zgi σ 0 2) := ⟨hT.1, by omega⟩
      refine zok_ck (zdv_ok h2 (by decide)) (zok_ck (zin_ok (zr_remv (lo := 0) (hi := 262655) t1 h2 (by decide)) (by decide)) (zok_ck (zin_ok t1 (by decide)) ?_))
      refine zok_bs (I := zEM [0] G) (hσ.wk (by decide +kernel)) (fun σ1 e1 i1 => ?_)
      have k1 : zgi σ1 0 2 = zgi σ 0 2 := by subst e1; unfold zgi; rw [zsi_off (fun h => absurd h.1 (by decide))]
      have t2 : zr 0 262655 (zgi σ1 0 2) := by rw [k1]; exact t1
      have t4 : (zgi σ1 0 2 + 1).toInt = (zgi σ1 0 2).toInt + (1 : Int32).toInt := z_tadd t2 a1 (by decide)
      refine zok_bs (I := zEM [0] G) (i1.wi 2 2 (by decide) (zr_add (lo := 1) (hi := 262656) t2 a1 (by decide)) (by decide +kernel)) (fun σ2 e2 i2 => ?_)
      have k2 : (zgi σ2 0 2).toInt = (zgi σ 0 2).toInt + 1 := by
        rw [← k1, ← c1, ← t4, e2]; unfold zgi; rw [zsi_ej]
      exact ih i2 (by omega)
theorem s_X12_grow {G : Nat → Int} {σ : zSt} (hσ : zEM [0] G σ) {x1 : Int32} : zok (fX12_grow σ x1) (zAi (zEM [0] G) (fun v : Int32 => zr (0) (262656) v)) := by
  have z9 : ∀ σ1, zEM [0] G σ1 → zok (fX12_grow_47 σ1) (zAi (zEM [0] G) (fun v : Int32 => zr (0) (262656) v)) := fun σ1 i1 => zok_sai i1 (zr_c (by decide))
  have z15 : zok (fX12_grow_15 σ x1) (zAi (zEM [0] G) (fun v : Int32 => zr (0) (262656) v)) := by
    unfold fX12_grow_15 fX12_grow_20
    refine zok_fails1 (I := zEM [0] G) (hσ.wi 0 0 (by decide) zr_any (by decide +kernel)) (fun σ1 e1 i1 => ?_)
    exact zok_if (fun q => absurd q (by decide)) (fun _ => z9 _ i1)
  unfold fX12_grow
  refine zok_if (fun _ => z15) (fun q => ?_)
  refine zok_if (fun q2 => ?_) (fun _ => z15)
  have hT0 : zr 0 262656 (zgi σ 0 2) := rM_0 hσ.sg 2 (by decide)
  have q1 := Int32.le_iff_toInt_le.mp (z_nlt q)
  have q3 := Int32.le_iff_toInt_le.mp q2
  have c2 : (262656 : Int32).toInt = 262656 := rfl
  have b0 := hT0.1
  have h1 : zr 0 262656 x1 := ⟨by omega, by omega⟩
  unfold fX12_grow_20
  refine zok_fails0 (I := zEM [0] G) (hσ.wi 0 0 (by decide) zr_any (by decide +kernel)) (fun σ1 e1 i1 => ?_)
  refine zok_if (fun _ => ?_) (fun q => absurd rfl q)
  refine zok_if (fun q4 => ?_) (fun q4 => ?_)
  · unfold fX12_grow_40
    refine zok_fails1 (I := zEM [0] G) (i1.wi 0 0 (by decide) zr_any (by decide +kernel)) (fun σ2 e2 i2 => ?_)
    exact zok_if (fun q => absurd q (by decide)) (fun _ => z9 _ i2)
  · unfold fX12_grow_40
    refine zok_fails0 (I := zEM [0] G) (i1.wi 0 0 (by decide) zr_any (by decide +kernel)) (fun σ2 e2 i2 => ?_)
    refine zok_if (fun _ => ?_) (fun q => absurd rfl q)
    have k2 : zgi σ2 0 2 = zgi σ1 0 2 := by subst e2; unfold zgi; rw [zsi_off (by decide)]
    have hT : zr 0 262656 (zgi σ1 0 2) := rM_0 i1.sg 2 (by decide)
    have h2 := zc_nel (1) (262656) q4 hT (zr_c (lo := 0) (hi := 0) (by decide)) (by decide)
    have b2 := h2.1
    refine zok_bv (fun v5 e5 => ?_)
    subst e5
    exact s_grow_h h1 (by rw [k2]; exact h2) zfuel i2 (by rw [k2]; unfold zfuel; omega)
theorem s_X12_patch_32_body {G : Nat → Int} {σ : zSt} {k32 : zSt → Int32 → Int64 → Int32 → Option (zSt)} {Mk32 : Int} (hk32 : ∀ (σ : zSt) (x1 : Int32) (x2 : Int64) (x4 : Int32), zIM G σ → zr (0) (262648) x1 → zr (0) (8) x4 → (8) - x4.toInt < Mk32 → zok (k32 σ x1 x2 x4) (zIM G)) (hσ : zIM G σ) {x1 : Int32} (h_x1 : zr (0) (262648) x1) {x2 : Int64} {x4 : Int32} (h_x4 : zr (0) (8) x4) (hMk32 : (8) - x4.toInt ≤ Mk32) : zok (fX12_patch_32_body k32 σ x1 x2 x4) (zIM G) := by
  unfold fX12_patch_32_body
  refine zok_if (fun q1 => ?_) (fun q1 => ?_)
  · have h2 := zc_ler (8) q1 (zr_c (lo := 8) (hi := 8) (by decide)) h_x4 (by decide)
    exact zok_some hσ
  have h3 := zc_ltl (7) (z_nle q1) h_x4 (zr_c (lo := 8) (hi := 8) (by decide)) (by decide)
  refine zok_ck (zin_ok (zr_add (lo := 0) (hi := 262655) h_x1 h3 (by decide)) (by decide)) ?_
  refine zok_bs (hσ.wk (by decide)) (fun σ1 e5 i4 => ?_)
  refine zok_br (zr_add (lo := 1) (hi := 8) h3 (zr_c (lo := 1) (hi := 1) (by decide)) (by decide)) (fun v2 e7 h6 => ?_)
  exact hk32 _ _ _ _ i4 h_x1 (zr_w h6 (by decide)) (by rw [e7]; have := z_tadd (y := (1 : Int32)) h3 (zr_c (lo := 1) (hi := 1) (by decide)) (by decide); have e9 : (1 : Int32).toInt = 1 := rfl; omega) 
theorem s_X12_patch_32 {G : Nat → Int} : ∀ (n : Nat) {σ : zSt} (hσ : zIM G σ) {x1 : Int32} (h_x1 : zr (0) (262648) x1) {x2 : Int64} {x4 : Int32} (h_x4 : zr (0) (8) x4) (hm : (8) - x4.toInt < n), zok (fX12_patch_32 n σ x1 x2 x4) (zIM G) := by
  intro n
  induction n with
  | zero => intro σ hσ x1 h_x1 x2 x4 h_x4 hm ; have h9 := h_x4.1; have h8 := h_x4.2; exfalso; omega
  | succ n ih => intro σ hσ x1 h_x1 x2 x4 h_x4 hm ; exact s_X12_patch_32_body (fun σ x1 x2 x4 hσ h_x1 h_x4 hm1 => ih hσ h_x1 h_x4 (by omega)) hσ h_x1 h_x4 (Int.le_refl _)
theorem s_X12_patch {G : Nat → Int} {σ : zSt} (hσ : zIM G σ) {x1 : Int32} {x2 : Int64} : zok (fX12_patch σ x1 x2) (zIM G) := by
  unfold fX12_patch
  refine zok_if (fun q1 => ?_) (fun q1 => ?_)
  · have h2 := zc_ltl (-1) q1 zr_any (zr_c (lo := 0) (hi := 0) (by decide)) (by decide)
    unfold fX12_patch_16
    unfold fX12_patch_21
    refine zok_fails1 (hσ.wi 0 0 (by decide) zr_any (by decide +kernel)) (fun σ3 e3 i4 => ?_)
    refine zok_if (fun q5 => ?_) (fun q5 => ?_)
    · exact zr_no (zc_eql (1) (0) q5 (zr_c (lo := 1) (hi := 1) (by decide)) (zr_c (lo := 0) (hi := 0) (by decide)) (by decide)) (by decide)
    exact zok_some i4
  have h6 := zc_ler (0) (z_nlt q1) (zr_c (lo := 0) (hi := 0) (by decide)) zr_any (by decide)
  refine zok_if (fun q7 => ?_) (fun q7 => ?_)
  · have h8 := zc_lel (262648) q7 h6 (zr_sub (lo := -8) (hi := 262648) (rM_0 hσ.sg _ (by decide)) (zr_c (lo := 8) (hi := 8) (by decide)) (by decide)) (by decide)
    have h9 := zc_ler (0) q7 h6 (zr_sub (lo := -8) (hi := 262648) (rM_0 hσ.sg _ (by decide)) (zr_c (lo := 8) (hi := 8) (by decide)) (by decide)) (by decide)
    unfold fX12_patch_21
    refine zok_fails0 (hσ.wi 0 0 (by decide) zr_any (by decide +kernel)) (fun σ3 e10 i11 => ?_)
    refine zok_if (fun q12 => ?_) (fun q12 => ?_)
    · exact (s_X12_patch_32 zfuel i11 h8 (zr_w (zr_c (lo := 0) (hi := 0) (by decide)) (by decide)) (by decide))
    exact zr_no (zc_nel (1) (0) q12 (zr_c (lo := 0) (hi := 0) (by decide)) (zr_c (lo := 0) (hi := 0) (by decide)) (by decide)) (by decide)
  unfold fX12_patch_16
  unfold fX12_patch_21
  refine zok_fails1 (hσ.wi 0 0 (by decide) zr_any (by decide +kernel)) (fun σ3 e13 i14 => ?_)
  refine zok_if (fun q15 => ?_) (fun q15 => ?_)
  · exact zr_no (zc_eql (1) (0) q15 (zr_c (lo := 1) (hi := 1) (by decide)) (zr_c (lo := 0) (hi := 0) (by decide)) (by decide)) (by decide)
  exact zok_some i14
theorem s_X12_bytesAt_7_body {σ : zSt} {k7 : zSt → Int32 → Int32 → Int32 → Option (zSt × Int32)} {Mk7 : Int} (hk7 : ∀ (x1 : Int32) (x3 : Int32) (x4 : Int32), zr (10) (32777) x1 → zr (-1) (1) x4 → x4.toInt - (-1) < Mk7 → zok (k7 σ x1 x3 x4) (zPi σ (fun v : Int32 => True))) (hσ : zPM σ) {x1 : Int32} (h_x1 : zr (10) (32777) x1) {x3 : Int32} {x4 : Int32} (h_x4 : zr (-1) (1) x4) (hMk7 : x4.toInt - (-1) ≤ Mk7) : zok (fX12_bytesAt_7_body k7 σ x1 x3 x4) (zPi σ (fun v : Int32 => True)) := by
  unfold fX12_bytesAt_7_body
  refine zok_if (fun q1 => ?_) (fun q1 => ?_)
  · have h2 := zc_ltl (-1) q1 h_x4 (zr_c (lo := 0) (hi := 0) (by decide)) (by decide)
    exact zok_spi trivial
  have h3 := zc_ler (0) (z_nlt q1) (zr_c (lo := 0) (hi := 0) (by decide)) h_x4 (by decide)
  refine zok_ck (zin_ok (zr_add (lo := 10) (hi := 32778) h_x1 h3 (by decide)) (by decide)) ?_
  refine zok_bv (fun v1 e5 => ?_)
  refine zok_br (zr_add (lo := -1) (hi := 0) h3 (zr_c (lo := -1) (hi := -1) (by decide)) (by decide)) (fun v2 e7 h6 => ?_)
  exact hk7 _ _ _  h_x1 (zr_w h6 (by decide)) (by rw [e7]; have := z_tadd (y := (-1 : Int32)) h3 (zr_c (lo := -1) (hi := -1) (by decide)) (by decide); have e9 : (-1 : Int32).toInt = -1 := rfl; omega) 
theorem s_X12_bytesAt_7 {σ : zSt} (hσ : zPM σ) : ∀ (n : Nat) {x1 : Int32} (h_x1 : zr (10) (32777) x1) {x3 : Int32} {x4 : Int32} (h_x4 : zr (-1) (1) x4) (hm : x4.toInt - (-1) < n), zok (fX12_bytesAt_7 n σ x1 x3 x4) (zPi σ (fun v : Int32 => True)) := by
  intro n
  induction n with
  | zero => intro x1 h_x1 x3 x4 h_x4 hm ; have h9 := h_x4.1; have h8 := h_x4.2; exfalso; omega
  | succ n ih => intro x1 h_x1 x3 x4 h_x4 hm ; exact s_X12_bytesAt_7_body (fun x1 x3 x4 h_x1 h_x4 hm1 => ih h_x1 h_x4 (by omega)) hσ h_x1 h_x4 (Int.le_refl _)
theorem s_X12_bytesAt {σ : zSt} (hσ : zPM σ) {x1 : Int32} (h_x1 : zr (10) (32777) x1) {x2 : Int32} (h_x2 : zr (2) (2) x2) : zok (fX12_bytesAt σ x1 x2) (zPi σ (fun v : Int32 => True)) := by
  unfold fX12_bytesAt
  refine zok_br (zr_sub (lo := 1) (hi := 1) h_x2 (zr_c (lo := 1) (hi := 1) (by decide)) (by decide)) (fun v3 e2 h1 => ?_)
  exact (s_X12_bytesAt_7 hσ zfuel h_x1 (zr_w h1 (by decide)) (z_sd h1 (by decide)))
theorem s_X12_isHeader_125 {σ : zSt} (hσ : zPM σ) {s0 : Int32} (h_s0 : zr (0) (1) s0) : zok (fX12_isHeader_125 σ s0) (zPi σ (fun v : Int32 => zr (0) (1) v)) := by
  unfold fX12_isHeader_125
  refine zok_ck (zbo_ok h_s0 (by decide)) ?_
  exact zok_spi h_s0
theorem s_X12_isHeader_114 {σ : zSt} (hσ : zPM σ) {x2 : Int32} (h_x2 : zr (0) (8) x2) : zok (fX12_isHeader_114 σ x2) (zPi σ (fun v : Int32 => zr (0) (1) v)) := by
  unfold fX12_isHeader_114
  refine zok_if (fun q1 => ?_) (fun q1 => ?_)
  · have h2 := zc_eql (8) (8) q1 h_x2 (zr_c (lo := 8) (hi := 8) (by decide)) (by decide)
    exact (s_X12_isHeader_125 hσ (zr_w (zr_c (lo := 1) (hi := 1) (by decide)) (by decide)))
  have h3 := zc_nel (0) (7) q1 h_x2 (zr_c (lo := 8) (hi := 8) (by decide)) (by decide)
  exact (s_X12_isHeader_125 hσ (zr_w (zr_c (lo := 0) (hi := 0) (by decide)) (by decide)))
theorem s_X12_isHeader_105 {σ : zSt} {k15 : zSt → Int32 → Int32 → Option (zSt × Int32)} {Mk15 : Int} (hk15 : ∀ (x1 : Int32) (x2 : Int32), zr (8176) (32767) x1 → zr (0) (8) x2 → (8) - x2.toInt < Mk15 → zok (k15 σ x1 x2) (zPi σ (fun v : Int32 => zr (0) (1) v))) (hσ : zPM σ) {x1 : Int32} (h_x1 : zr (8176) (32767) x1) {x2 : Int32} (h_x2 : zr (0) (7) x2) {s0 : Int32} (h_s0 : zr (32) (84) s0) {s1 : Int32} (h_s1 : zr (0) (255) s1) (hMk15 : (8) - x2.toInt ≤ Mk15) : zok (fX12_isHeader_105 k15 σ x1 x2 s0 s1) (zPi σ (fun v : Int32 => zr (0) (1) v)) := by
  unfold fX12_isHeader_105
  refine zok_if (fun q1 => ?_) (fun q1 => ?_)
  · have h2 := zc_eql (32) (84) q1 h_s1 h_s0 (by decide)
    refine zok_br (zr_add (lo := 1) (hi := 8) h_x2 (zr_c (lo := 1) (hi := 1) (by decide)) (by decide)) (fun v1 e4 h3 => ?_)
    exact hk15 _ _  h_x1 (zr_w h3 (by decide)) (by rw [e4]; have := z_tadd (y := (1 : Int32)) h_x2 (zr_c (lo := 1) (hi := 1) (by decide)) (by decide); have e9 : (1 : Int32).toInt = 1 := rfl; omega) 
  exact (s_X12_isHeader_114 hσ (zr_w h_x2 (by decide)))
theorem s_X12_isHeader_15_body {σ : zSt} {k15 : zSt → Int32 → Int32 → Option (zSt × Int32)} {Mk15 : Int} (hk15 : ∀ (x1 : Int32) (x2 : Int32), zr (8176) (32767) x1 → zr (0) (8) x2 → (8) - x2.toInt < Mk15 → zok (k15 σ x1 x2) (zPi σ (fun v : Int32 => zr (0) (1) v))) (hσ : zPM σ) {x1 : Int32} (h_x1 : zr (8176) (32767) x1) {x2 : Int32} (h_x2 : zr (0) (8) x2) (hMk15 : (8) - x2.toInt ≤ Mk15) : zok (fX12_isHeader_15_body k15 σ x1 x2) (zPi σ (fun v : Int32 => zr (0) (1) v)) := by
  unfold fX12_isHeader_15_body
  refine zok_if (fun q1 => ?_) (fun q1 => ?_)
  · have h2 := zc_ler (8) q1 (zr_c (lo := 8) (hi := 8) (by decide)) h_x2 (by decide)
    exact (s_X12_isHeader_114 hσ (zr_w h2 (by decide)))
  have h3 := zc_ltl (7) (z_nle q1) h_x2 (zr_c (lo := 8) (hi := 8) (by decide)) (by decide)
  refine zok_ck (zin_ok (zr_add (lo := 8176) (hi := 32774) h_x1 h3 (by decide)) (by decide)) ?_
  refine zok_if (fun q4 => ?_) (fun q4 => ?_)
  · have h5 := zc_eql (0) (0) q4 h3 (zr_c (lo := 0) (hi := 0) (by decide)) (by decide)
    exact (s_X12_isHeader_105 hk15 hσ h_x1 (zr_w h5 (by decide)) (zr_w (zr_c (lo := 84) (hi := 84) (by decide)) (by decide)) (zr_andr (lo := 0) (hi := 255) (zr_c (lo := 255) (hi := 255) (by decide)) (by decide)) hMk15)
  have h6 := zc_nel (1) (7) q4 h3 (zr_c (lo := 0) (hi := 0) (by decide)) (by decide)
  refine zok_if (fun q7 => ?_) (fun q7 => ?_)
  · have h8 := zc_eql (1) (1) q7 h6 (zr_c (lo := 1) (hi := 1) (by decide)) (by decide)
    exact (s_X12_isHeader_105 hk15 hσ h_x1 (zr_w h8 (by decide)) (zr_w (zr_c (lo := 77) (hi := 77) (by decide)) (by decide)) (zr_andr (lo := 0) (hi := 255) (zr_c (lo := 255) (hi := 255) (by decide)) (by decide)) hMk15)
  have h9 := zc_nel (2) (7) q7 h6 (zr_c (lo := 1) (hi := 1) (by decide)) (by decide)
  refine zok_if (fun q10 => ?_) (fun q10 => ?_)
  · have h11 := zc_eql (2) (2) q10 h9 (zr_c (lo := 2) (hi := 2) (by decide)) (by decide)
    exact (s_X12_isHeader_105 hk15 hσ h_x1 (zr_w h11 (by decide)) (zr_w (zr_c (lo := 82) (hi := 82) (by decide)) (by decide)) (zr_andr (lo := 0) (hi := 255) (zr_c (lo := 255) (hi := 255) (by decide)) (by decide)) hMk15)
  have h12 := zc_nel (3) (7) q10 h9 (zr_c (lo := 2) (hi := 2) (by decide)) (by decide)
  refine zok_if (fun q13 => ?_) (fun q13 => ?_)
  · have h14 := zc_eql (3) (3) q13 h12 (zr_c (lo := 3) (hi := 3) (by decide)) (by decide)
    exact (s_X12_isHeader_105 hk15 hσ h_x1 (zr_w h14 (by decide)) (zr_w (zr_c (lo := 32) (hi := 32) (by decide)) (by decide)) (zr_andr (lo := 0) (hi := 255) (zr_c (lo := 255) (hi := 255) (by decide)) (by decide)) hMk15)
  have h15 := zc_nel (4) (7) q13 h12 (zr_c (lo := 3) (hi := 3) (by decide)) (by decide)
  refine zok_if (fun q16 => ?_) (fun q16 => ?_)
  · have h17 := zc_eql (4) (4) q16 h15 (zr_c (lo := 4) (hi := 4) (by decide)) (by decide)
    exact (s_X12_isHeader_105 hk15 hσ h_x1 (zr_w h17 (by decide)) (zr_w (zr_c (lo := 83) (hi := 83) (by decide)) (by decide)) (zr_andr (lo := 0) (hi := 255) (zr_c (lo := 255) (hi := 255) (by decide)) (by decide)) hMk15)
  have h18 := zc_nel (5) (7) q16 h15 (zr_c (lo := 4) (hi := 4) (by decide)) (by decide)
  refine zok_if (fun q19 => ?_) (fun q19 => ?_)
  · have h20 := zc_eql (5) (5) q19 h18 (zr_c (lo := 5) (hi := 5) (by decide)) (by decide)
    exact (s_X12_isHeader_105 hk15 hσ h_x1 (zr_w h20 (by decide)) (zr_w (zr_c (lo := 69) (hi := 69) (by decide)) (by decide)) (zr_andr (lo := 0) (hi := 255) (zr_c (lo := 255) (hi := 255) (by decide)) (by decide)) hMk15)
  have h21 := zc_nel (6) (7) q19 h18 (zr_c (lo := 5) (hi := 5) (by decide)) (by decide)
  refine zok_if (fun q22 => ?_) (fun q22 => ?_)
  · have h23 := zc_eql (6) (6) q22 h21 (zr_c (lo := 6) (hi := 6) (by decide)) (by decide)
    exact (s_X12_isHeader_105 hk15 hσ h_x1 (zr_w h23 (by decide)) (zr_w (zr_c (lo := 71) (hi := 71) (by decide)) (by decide)) (zr_andr (lo := 0) (hi := 255) (zr_c (lo := 255) (hi := 255) (by decide)) (by decide)) hMk15)
  have h24 := zc_nel (7) (7) q22 h21 (zr_c (lo := 6) (hi := 6) (by decide)) (by decide)
  exact (s_X12_isHeader_105 hk15 hσ h_x1 (zr_w h24 (by decide)) (zr_w (zr_c (lo := 65) (hi := 65) (by decide)) (by decide)) (zr_andr (lo := 0) (hi := 255) (zr_c (lo := 255) (hi := 255) (by decide)) (by decide)) hMk15)
theorem s_X12_isHeader_15 {σ : zSt} (hσ : zPM σ) : ∀ (n : Nat) {x1 : Int32} (h_x1 : zr (8176) (32767) x1) {x2 : Int32} (h_x2 : zr (0) (8) x2) (hm : (8) - x2.toInt < n), zok (fX12_isHeader_15 n σ x1 x2) (zPi σ (fun v : Int32 => zr (0) (1) v)) := by
  intro n
  induction n with
  | zero => intro x1 h_x1 x2 h_x2 hm ; have h9 := h_x2.1; have h8 := h_x2.2; exfalso; omega
  | succ n ih => intro x1 h_x1 x2 h_x2 hm ; exact s_X12_isHeader_15_body (fun x1 x2 h_x1 h_x2 hm1 => ih h_x1 h_x2 (by omega)) hσ h_x1 h_x2 (Int.le_refl _)
theorem s_X12_isHeader {σ : zSt} (hσ : zPM σ) {x1 : Int32} (h_x1 : zr (8176) (32767) x1) : zok (fX12_isHeader σ x1) (zPi σ (fun v : Int32 => zr (0) (1) v)) := by
  unfold fX12_isHeader
  refine zok_if (fun q1 => ?_) (fun q1 => ?_)
  · have h2 := zc_ler (8192) q1 (zr_add (lo := 8192) (hi := 32783) h_x1 (zr_c (lo := 16) (hi := 16) (by decide)) (by decide)) (rM_2 hσ.sg _ (by decide)) (by decide)
    exact (s_X12_isHeader_15 hσ zfuel h_x1 (zr_w (zr_c (lo := 0) (hi := 0) (by decide)) (by decide)) (by decide))
  have h3 := zc_ltl (32782) (z_nle q1) (rM_2 hσ.sg _ (by decide)) (zr_add (lo := 8192) (hi := 32783) h_x1 (zr_c (lo := 16) (hi := 16) (by decide)) (by decide)) (by decide)
  refine zok_ck rfl ?_
  exact zok_spi (zr_w (zr_c (lo := 0) (hi := 0) (by decide)) (by decide))
theorem s_X12_anew_236 {G : Nat → Int} {σ : zSt} {k196 : zSt → Int32 → Option (zSt)} {Mk196 : Int} (hk196 : ∀ (σ : zSt) (x1 : Int32), zIM G σ → zr (0) (108) x1 → (108) - x1.toInt < Mk196 → zok (k196 σ x1) (zIM G)) (hσ : zIM G σ) {x1 : Int32} (h_x1 : zr (0) (107) x1) {s0 : Int32} (h_s0 : zr (0) (127) s0) {s1 : Int32} (h_s1 : zr (172) (279) s1) (hMk196 : (108) - x1.toInt ≤ Mk196) : zok (fX12_anew_236 k196 σ x1 s0 s1) (zIM G) := by
  unfold fX12_anew_236
  refine zok_ck (zin_ok h_s1 (by decide)) ?_
  refine zok_bs (hσ.lva (z_ix h_s1 (by decide)) h_s0 (by decide)) (fun σ1 e2 i1 => ?_)
  refine zok_br (zr_add (lo := 1) (hi := 108) h_x1 (zr_c (lo := 1) (hi := 1) (by decide)) (by decide)) (fun v2 e4 h3 => ?_)
  exact hk196 _ _ i1 (zr_w h3 (by decide)) (by rw [e4]; have := z_tadd (y := (1 : Int32)) h_x1 (zr_c (lo := 1) (hi := 1) (by decide)) (by decide); have e9 : (1 : Int32).toInt = 1 := rfl; omega) 
theorem s_X12_anew_267_body {G : Nat → Int} {σ : zSt} {k267 : zSt → Int32 → Option (zSt)} {Mk267 : Int} (hk267 : ∀ (σ : zSt) (x1 : Int32), zIM G σ → zr (0) (64) x1 → (64) - x1.toInt < Mk267 → zok (k267 σ x1) (zIM G)) (hσ : zIM G σ) {x1 : Int32} (h_x1 : zr (0) (64) x1) (hMk267 : (64) - x1.toInt ≤ Mk267) : zok (fX12_anew_267_body k267 σ x1) (zIM G) := by
  unfold fX12_anew_267_body
  refine zok_if (fun q1 => ?_) (fun q1 => ?_)
  · have h2 := zc_ler (64) q1 (zr_c (lo := 64) (hi := 64) (by decide)) h_x1 (by decide)
    exact zok_some hσ
  have h3 := zc_ltl (63) (z_nle q1) h_x1 (zr_c (lo := 64) (hi := 64) (by decide)) (by decide)
  refine zok_ck (zin_ok h3 (by decide)) ?_
  refine zok_bs (hσ.wk (by decide)) (fun σ3 e5 i4 => ?_)
  refine zok_br (zr_add (lo := 1) (hi := 64) h3 (zr_c (lo := 1) (hi := 1) (by decide)) (by decide)) (fun v4 e7 h6 => ?_)
  exact hk267 _ _ i4 (zr_w h6 (by decide)) (by rw [e7]; have := z_tadd (y := (1 : Int32)) h3 (zr_c (lo := 1) (hi := 1) (by decide)) (by decide); have e9 : (1 : Int32).toInt = 1 := rfl; omega) 
theorem s_X12_anew_267 {G : Nat → Int} : ∀ (n : Nat) {σ : zSt} (hσ : zIM G σ) {x1 : Int32} (h_x1 : zr (0) (64) x1) (hm : (64) - x1.toInt < n), zok (fX12_anew_267 n σ x1) (zIM G) := by
  intro n
  induction n with
  | zero => intro σ hσ x1 h_x1 hm ; have h9 := h_x1.1; have h8 := h_x1.2; exfalso; omega
  | succ n ih => intro σ hσ x1 h_x1 hm ; exact s_X12_anew_267_body (fun σ x1 hσ h_x1 hm1 => ih hσ h_x1 (by omega)) hσ h_x1 (Int.le_refl _)
theorem s_X12_anew_245_body {G : Nat → Int} {σ : zSt} {k245 : zSt → Int32 → Option (zSt)} {Mk245 : Int} (hk245 : ∀ (σ : zSt) (x1 : Int32), zIM G σ → zr (0) (16384) x1 → (16384) - x1.toInt < Mk245 → zok (k245 σ x1) (zIM G)) (hσ : zIM G σ) {x1 : Int32} (h_x1 : zr (0) (16384) x1) (hMk245 : (16384) - x1.toInt ≤ Mk245) : zok (fX12_anew_245_body k245 σ x1) (zIM G) := by
  unfold fX12_anew_245_body
  refine zok_if (fun q1 => ?_) (fun q1 => ?_)
  · have h2 := zc_ler (16384) q1 (zr_c (lo := 16384) (hi := 16384) (by decide)) h_x1 (by decide)
    exact (s_X12_anew_267 zfuel hσ (zr_w (zr_c (lo := 0) (hi := 0) (by decide)) (by decide)) (by decide))
  have h3 := zc_ltl (16383) (z_nle q1) h_x1 (zr_c (lo := 16384) (hi := 16384) (by decide)) (by decide)
  refine zok_ck (zin_ok h3 (by decide)) ?_
  refine zok_bs (hσ.wk (by decide)) (fun σ5 e5 i4 => ?_)
  refine zok_br (zr_add (lo := 1) (hi := 16384) h3 (zr_c (lo := 1) (hi := 1) (by decide)) (by decide)) (fun v6 e7 h6 => ?_)
  exact hk245 _ _ i4 (zr_w h6 (by decide)) (by rw [e7]; have := z_tadd (y := (1 : Int32)) h3 (zr_c (lo := 1) (hi := 1) (by decide)) (by decide); have e9 : (1 : Int32).toInt = 1 := rfl; omega) 
theorem s_X12_anew_245 {G : Nat → Int} : ∀ (n : Nat) {σ : zSt} (hσ : zIM G σ) {x1 : Int32} (h_x1 : zr (0) (16384) x1) (hm : (16384) - x1.toInt < n), zok (fX12_anew_245 n σ x1) (zIM G) := by
  intro n
  induction n with
  | zero => intro σ hσ x1 h_x1 hm ; have h9 := h_x1.1; have h8 := h_x1.2; exfalso; omega
  | succ n ih => intro σ hσ x1 h_x1 hm ; exact s_X12_anew_245_body (fun σ x1 hσ h_x1 hm1 => ih hσ h_x1 (by omega)) hσ h_x1 (Int.le_refl _)
theorem s_X12_anew_196_body {G : Nat → Int} {σ : zSt} {k196 : zSt → Int32 → Option (zSt)} {Mk196 : Int} (hk196 : ∀ (σ : zSt) (x1 : Int32), zIM G σ → zr (0) (108) x1 → (108) - x1.toInt < Mk196 → zok (k196 σ x1) (zIM G)) (hσ : zIM G σ) {x1 : Int32} (h_x1 : zr (0) (108) x1) (hMk196 : (108) - x1.toInt ≤ Mk196) : zok (fX12_anew_196_body k196 σ x1) (zIM G) := by
  unfold fX12_anew_196_body
  refine zok_if (fun q1 => ?_) (fun q1 => ?_)
  · have h2 := zc_ler (108) q1 (zr_c (lo := 108) (hi := 108) (by decide)) h_x1 (by decide)
    exact (s_X12_anew_245 zfuel hσ (zr_w (zr_c (lo := 0) (hi := 0) (by decide)) (by decide)) (by decide))
  have h3 := zc_ltl (107) (z_nle q1) h_x1 (zr_c (lo := 108) (hi := 108) (by decide)) (by decide)
  refine zok_ck (by decide) ?_
  refine zok_if (fun q4 => ?_) (fun q4 => ?_)
  · have h5 := zc_eql (0) (0) q4 (zr_rem (lo := 0) (hi := 5) 6 (by decide) h3 (by decide)) (zr_c (lo := 0) (hi := 0) (by decide)) (by decide)
    exact (s_X12_anew_236 hk196 hσ h3 (zr_w (zr_c (lo := 127) (hi := 127) (by decide)) (by decide)) (zr_add (lo := 172) (hi := 279) (zr_c (lo := 172) (hi := 172) (by decide)) h3 (by decide)) hMk196)
  have h6 := zc_nel (1) (5) q4 (zr_rem (lo := 0) (hi := 5) 6 (by decide) h3 (by decide)) (zr_c (lo := 0) (hi := 0) (by decide)) (by decide)
  refine zok_ck (by decide) ?_
  refine zok_if (fun q7 => ?_) (fun q7 => ?_)
  · have h8 := zc_eql (1) (1) q7 h6 (zr_c (lo := 1) (hi := 1) (by decide)) (by decide)
    exact (s_X12_anew_236 hk196 hσ h3 (zr_w (zr_c (lo := 4) (hi := 4) (by decide)) (by decide)) (zr_add (lo := 172) (hi := 279) (zr_c (lo := 172) (hi := 172) (by decide)) h3 (by decide)) hMk196)
  have h9 := zc_nel (2) (5) q7 h6 (zr_c (lo := 1) (hi := 1) (by decide)) (by decide)
  exact (s_X12_anew_236 hk196 hσ h3 (zr_w (zr_c (lo := 0) (hi := 0) (by decide)) (by decide)) (zr_add (lo := 172) (hi := 279) (zr_c (lo := 172) (hi := 172) (by decide)) h3 (by decide)) hMk196)
theorem s_X12_anew_196 {G : Nat → Int} : ∀ (n : Nat) {σ : zSt} (hσ : zIM G σ) {x1 : Int32} (h_x1 : zr (0) (108) x1) (hm : (108) - x1.toInt < n), zok (fX12_anew_196 n σ x1) (zIM G) := by
  intro n
  induction n with
  | zero => intro σ hσ x1 h_x1 hm ; have h9 := h_x1.1; have h8 := h_x1.2; exfalso; omega
  | succ n ih => intro σ hσ x1 h_x1 hm ; exact s_X12_anew_196_body (fun σ x1 hσ h_x1 hm1 => ih hσ h_x1 (by omega)) hσ h_x1 (Int.le_refl _)
theorem s_X12_anew_165_body {G : Nat → Int} {σ : zSt} {k165 : zSt → Int32 → Option (zSt)} {Mk165 : Int} (hk165 : ∀ (σ : zSt) (x1 : Int32), zIM G σ → zr (98) (166) x1 → (166) - x1.toInt < Mk165 → zok (k165 σ x1) (zIM G)) (hσ : zIM G σ) {x1 : Int32} (h_x1 : zr (98) (166) x1) (hMk165 : (166) - x1.toInt ≤ Mk165) : zok (fX12_anew_165_body k165 σ x1) (zIM G) := by
  unfold fX12_anew_165_body
  refine zok_if (fun q1 => ?_) (fun q1 => ?_)
  · have h2 := zc_ler (166) q1 (zr_c (lo := 166) (hi := 166) (by decide)) h_x1 (by decide)
    refine zok_ck rfl ?_
    refine zok_bs (hσ.wi 164 164 (by decide) (zr_c (lo := 1) (hi := 1) (by decide)) (by decide +kernel)) (fun σ7 e4 i3 => ?_)
    exact (s_X12_anew_196 zfuel i3 (zr_w (zr_c (lo := 0) (hi := 0) (by decide)) (by decide)) (by decide))
  have h5 := zc_ltl (165) (z_nle q1) h_x1 (zr_c (lo := 166) (hi := 166) (by decide)) (by decide)
  refine zok_ck (zin_ok h5 (by decide)) ?_
  refine zok_bs (hσ.wi 98 165 (z_ix h5 (by decide)) (zr_c (lo := 0) (hi := 0) (by decide)) (by decide +kernel)) (fun σ8 e7 i6 => ?_)
  refine zok_br (zr_add (lo := 99) (hi := 166) h5 (zr_c (lo := 1) (hi := 1) (by decide)) (by decide)) (fun v9 e9 h8 => ?_)
  exact hk165 _ _ i6 (zr_w h8 (by decide)) (by rw [e9]; have := z_tadd (y := (1 : Int32)) h5 (zr_c (lo := 1) (hi := 1) (by decide)) (by decide); have e9 : (1 : Int32).toInt = 1 := rfl; omega) 
theorem s_X12_anew_165 {G : Nat → Int} : ∀ (n : Nat) {σ : zSt} (hσ : zIM G σ) {x1 : Int32} (h_x1 : zr (98) (166) x1) (hm : (166) - x1.toInt < n), zok (fX12_anew_165 n σ x1) (zIM G) := by
  intro n
  induction n with
  | zero => intro σ hσ x1 h_x1 hm ; have h9 := h_x1.1; have h8 := h_x1.2; exfalso; omega
  | succ n ih => intro σ hσ x1 h_x1 hm ; exact s_X12_anew_165_body (fun σ x1 hσ h_x1 hm1 => ih hσ h_x1 (by omega)) hσ h_x1 (Int.le_refl _)
theorem s_X12_anew_131_body {G : Nat → Int} {σ : zSt} {k131 : zSt → Int32 → Option (zSt)} {Mk131 : Int} (hk131 : ∀ (σ : zSt) (x1 : Int32), zIM G σ → zr (0) (4) x1 → (4) - x1.toInt < Mk131 → zok (k131 σ x1) (zIM G)) (hσ : zIM G σ) {x1 : Int32} (h_x1 : zr (0) (4) x1) (hMk131 : (4) - x1.toInt ≤ Mk131) : zok (fX12_anew_131_body k131 σ x1) (zIM G) := by
  unfold fX12_anew_131_body
  refine zok_if (fun q1 => ?_) (fun q1 => ?_)
  · have h2 := zc_ler (4) q1 (zr_c (lo := 4) (hi := 4) (by decide)) h_x1 (by decide)
    refine zok_ck rfl ?_
    refine zok_bs (hσ.wi 85 85 (by decide) (zr_c (lo := 32768) (hi := 32768) (by decide)) (by decide +kernel)) (fun σ10 e4 i3 => ?_)
    exact (s_X12_anew_165 zfuel i3 (zr_w (zr_c (lo := 98) (hi := 98) (by decide)) (by decide)) (by decide))
  have h5 := zc_ltl (3) (z_nle q1) h_x1 (zr_c (lo := 4) (hi := 4) (by decide)) (by decide)
  refine zok_ck (zin_ok (zr_add (lo := 78) (hi := 81) (zr_c (lo := 78) (hi := 78) (by decide)) h5 (by decide)) (by decide)) ?_
  refine zok_bs (hσ.wi 78 81 (z_ix (zr_add (lo := 78) (hi := 81) (zr_c (lo := 78) (hi := 78) (by decide)) h5 (by decide)) (by decide)) (zr_c (lo := 15) (hi := 15) (by decide)) (by decide +kernel)) (fun σ11 e7 i6 => ?_)
  refine zok_br (zr_add (lo := 1) (hi := 4) h5 (zr_c (lo := 1) (hi := 1) (by decide)) (by decide)) (fun v12 e9 h8 => ?_)
  exact hk131 _ _ i6 (zr_w h8 (by decide)) (by rw [e9]; have := z_tadd (y := (1 : Int32)) h5 (zr_c (lo := 1) (hi := 1) (by decide)) (by decide); have e9 : (1 : Int32).toInt = 1 := rfl; omega) 
theorem s_X12_anew_131 {G : Nat → Int} : ∀ (n : Nat) {σ : zSt} (hσ : zIM G σ) {x1 : Int32} (h_x1 : zr (0) (4) x1) (hm : (4) - x1.toInt < n), zok (fX12_anew_131 n σ x1) (zIM G) := by
  intro n
  induction n with
  | zero => intro σ hσ x1 h_x1 hm ; have h9 := h_x1.1; have h8 := h_x1.2; exfalso; omega
  | succ n ih => intro σ hσ x1 h_x1 hm ; exact s_X12_anew_131_body (fun σ x1 hσ h_x1 hm1 => ih hσ h_x1 (by omega)) hσ h_x1 (Int.le_refl _)
theorem s_X12_anew_79 {G : Nat → Int} {σ : zSt} (hσ : zIM G σ) {s0 : Int32} (h_s0 : zr (0) (2) s0) {s1 : Int32} (h_s1 : zr (31) (31) s1) : zok (fX12_anew_79 σ s0 s1) (zIM G) := by
  unfold fX12_anew_79
  refine zok_ck (zin_ok h_s1 (by decide)) ?_
  refine zok_bs (hσ.wi 31 31 (z_ix h_s1 (by decide)) h_s0 (by decide +kernel)) (fun σ13 e2 i1 => ?_)
  refine zok_ck rfl ?_
  refine zok_bs (i1.wi 33 33 (by decide) (zr_c (lo := 255) (hi := 255) (by decide)) (by decide +kernel)) (fun σ14 e4 i3 => ?_)
  refine zok_ck rfl ?_
  refine zok_bs (i3.wi 34 34 (by decide) (zr_c (lo := 255) (hi := 255) (by decide)) (by decide +kernel)) (fun σ15 e6 i5 => ?_)
  refine zok_ck rfl ?_
  refine zok_bs (i5.wi 37 37 (by decide) (zr_c (lo := 127) (hi := 127) (by decide)) (by decide +kernel)) (fun σ16 e8 i7 => ?_)
  refine zok_ck rfl ?_
  refine zok_bs (i7.wi 38 38 (by decide) (zr_c (lo := 255) (hi := 255) (by decide)) (by decide +kernel)) (fun σ17 e10 i9 => ?_)
  refine zok_ck rfl ?_
  refine zok_bs (i9.wi 40 40 (by decide) (zr_c (lo := 255) (hi := 255) (by decide)) (by decide +kernel)) (fun σ18 e12 i11 => ?_)
  exact (s_X12_anew_131 zfuel i11 (zr_w (zr_c (lo := 0) (hi := 0) (by decide)) (by decide)) (by decide))
theorem s_X12_anew_24_body {G : Nat → Int} {σ : zSt} {k24 : zSt → Int32 → Option (zSt)} {Mk24 : Int} (hk24 : ∀ (σ : zSt) (x1 : Int32), zEM [3, 4] G σ → zr (47) (87) x1 → (87) - x1.toInt < Mk24 → zok (k24 σ x1) (zEM [3, 4] G)) (hσ : zEM [3, 4] G σ) {x1 : Int32} (h_x1 : zr (47) (87) x1) (hMk24 : (87) - x1.toInt ≤ Mk24) : zok (fX12_anew_24_body k24 σ x1) (zEM [3, 4] G) := by
  unfold fX12_anew_24_body
  refine zok_if (fun q1 => ?_) (fun q1 => ?_)
  · have h2 := zc_ler (87) q1 (zr_c (lo := 87) (hi := 87) (by decide)) h_x1 (by decide)
    refine zok_ck rfl ?_
    refine zok_bs (hσ.wi 18 18 (by decide) (zr_c (lo := 57328) (hi := 57328) (by decide)) (by decide +kernel)) (fun σ19 e4 i3 => ?_)
    refine zok_ck rfl ?_
    refine zok_bs (i3.wi 30 30 (by decide) (zr_c (lo := 1) (hi := 1) (by decide)) (by decide +kernel)) (fun σ20 e6 i5 => ?_)
    refine zok_if (fun q7 => ?_) (fun q7 => ?_)
    · have h8 := zc_eql (2) (2) q7 (rM_4 i5.sg _ (by decide)) (zr_c (lo := 2) (hi := 2) (by decide)) (by decide)
      have h9 := rM_bk i5.Y i5.sg h8 (by decide)
      exact (i5.upu (fun G1 hG => s_X12_anew_79 hG (zr_w (zr_c (lo := 0) (hi := 0) (by decide)) (by decide)) (zr_c (lo := 31) (hi := 31) (by decide))))
    exact (i5.upu (fun G1 hG => s_X12_anew_79 hG (zr_w (zr_c (lo := 2) (hi := 2) (by decide)) (by decide)) (zr_c (lo := 31) (hi := 31) (by decide))))
  have h10 := zc_ltl (86) (z_nle q1) h_x1 (zr_c (lo := 87) (hi := 87) (by decide)) (by decide)
  refine zok_ck (zin_ok h10 (by decide)) ?_
  refine zok_bs (hσ.wi 47 86 (z_ix h10 (by decide)) (zr_c (lo := 0) (hi := 0) (by decide)) (by decide +kernel)) (fun σ21 e12 i11 => ?_)
  refine zok_br (zr_add (lo := 48) (hi := 87) h10 (zr_c (lo := 1) (hi := 1) (by decide)) (by decide)) (fun v22 e14 h13 => ?_)
  exact hk24 _ _ i11 (zr_w h13 (by decide)) (by rw [e14]; have := z_tadd (y := (1 : Int32)) h10 (zr_c (lo := 1) (hi := 1) (by decide)) (by decide); have e9 : (1 : Int32).toInt = 1 := rfl; omega) 
theorem s_X12_anew_24 {G : Nat → Int} : ∀ (n : Nat) {σ : zSt} (hσ : zEM [3, 4] G σ) {x1 : Int32} (h_x1 : zr (47) (87) x1) (hm : (87) - x1.toInt < n), zok (fX12_anew_24 n σ x1) (zEM [3, 4] G) := by
  intro n
  induction n with
  | zero => intro σ hσ x1 h_x1 hm ; have h9 := h_x1.1; have h8 := h_x1.2; exfalso; omega
  | succ n ih => intro σ hσ x1 h_x1 hm ; exact s_X12_anew_24_body (fun σ x1 hσ h_x1 hm1 => ih hσ h_x1 (by omega)) hσ h_x1 (Int.le_refl _)
theorem s_X12_anew_2_body {G : Nat → Int} {σ : zSt} {k2 : zSt → Int32 → Option (zSt)} {Mk2 : Int} (hk2 : ∀ (σ : zSt) (x1 : Int32), zEM [3, 4] G σ → zr (0) (42) x1 → (42) - x1.toInt < Mk2 → zok (k2 σ x1) (zEM [3, 4] G)) (hσ : zEM [3, 4] G σ) {x1 : Int32} (h_x1 : zr (0) (42) x1) (hMk2 : (42) - x1.toInt ≤ Mk2) : zok (fX12_anew_2_body k2 σ x1) (zEM [3, 4] G) := by
  unfold fX12_anew_2_body
  refine zok_if (fun q1 => ?_) (fun q1 => ?_)
  · have h2 := zc_ler (42) q1 (zr_c (lo := 42) (hi := 42) (by decide)) h_x1 (by decide)
    exact (s_X12_anew_24 zfuel hσ (zr_w (zr_c (lo := 47) (hi := 47) (by decide)) (by decide)) (by decide))
  have h3 := zc_ltl (41) (z_nle q1) h_x1 (zr_c (lo := 42) (hi := 42) (by decide)) (by decide)
  refine zok_ck (zin_ok h3 (by decide)) ?_
  refine zok_bs (hσ.wi 0 41 (z_ix h3 (by decide)) (zr_c (lo := 0) (hi := 0) (by decide)) (by decide +kernel)) (fun σ23 e5 i4 => ?_)
  refine zok_br (zr_add (lo := 1) (hi := 42) h3 (zr_c (lo := 1) (hi := 1) (by decide)) (by decide)) (fun v24 e7 h6 => ?_)
  exact hk2 _ _ i4 (zr_w h6 (by decide)) (by rw [e7]; have := z_tadd (y := (1 : Int32)) h3 (zr_c (lo := 1) (hi := 1) (by decide)) (by decide); have e9 : (1 : Int32).toInt = 1 := rfl; omega) 
theorem s_X12_anew_2 {G : Nat → Int} : ∀ (n : Nat) {σ : zSt} (hσ : zEM [3, 4] G σ) {x1 : Int32} (h_x1 : zr (0) (42) x1) (hm : (42) - x1.toInt < n), zok (fX12_anew_2 n σ x1) (zEM [3, 4] G) := by
  intro n
  induction n with
  | zero => intro σ hσ x1 h_x1 hm ; have h9 := h_x1.1; have h8 := h_x1.2; exfalso; omega
  | succ n ih => intro σ hσ x1 h_x1 hm ; exact s_X12_anew_2_body (fun σ x1 hσ h_x1 hm1 => ih hσ h_x1 (by omega)) hσ h_x1 (Int.le_refl _)
theorem s_X12_anew {G : Nat → Int} {σ : zSt} (hσ : zEM [3, 4] G σ) : zok (fX12_anew σ ) (zEM [3, 4] G) := by
  unfold fX12_anew
  exact (s_X12_anew_2 zfuel hσ (zr_w (zr_c (lo := 0) (hi := 0) (by decide)) (by decide)) (by decide))
theorem s_X12_load_126 {G : Nat → Int} {σ : zSt} {k89 : zSt → Int32 → Int32 → Option (zSt × Int32)} {Mk89 : Int} (hk89 : ∀ (σ : zSt) (x1 : Int32) (x3 : Int32), zEM [2, 3, 4] G σ → zr (0) (512) x1 → zr (0) (262144) x3 → zr (1) (16) (zgi σ 0 6) → (262144) - x3.toInt < Mk89 → zok (k89 σ x1 x3) (zAi (zEM [2, 3, 4] G) (fun v : Int32 => zr (0) (3) v))) (hσ : zEM [2, 3, 4] G σ) {x1 : Int32} (h_x1 : zr (0) (512) x1) {x3 : Int32} (h_x3 : zr (0) (262143) x3) {s0 : Int32} {s1 : Int32} (h_s1 : zr (0) (262143) s1) (c_0_6 : zr (1) (16) (zgi σ 0 6)) (hMk89 : (262144) - x3.toInt ≤ Mk89) : zok (fX12_load_126 k89 σ x1 x3 s0 s1) (zAi (zEM [2, 3, 4] G) (fun v : Int32 => zr (0) (3) v)) := by
  unfold fX12_load_126
  refine zok_ck (zin_ok h_s1 (by decide)) ?_
  refine zok_bs (hσ.wk (by decide)) (fun σ1 e2 i1 => ?_)
  refine zok_br (zr_add (lo := 1) (hi := 262144) h_x3 (zr_c (lo := 1) (hi := 1) (by decide)) (by decide)) (fun v2 e4 h3 => ?_)
  exact hk89 _ _ _ i1 h_x1 (zr_w h3 (by decide)) (z_tr e2 rfl c_0_6) (by rw [e4]; have := z_tadd (y := (1 : Int32)) h_x3 (zr_c (lo := 1) (hi := 1) (by decide)) (by decide); have e9 : (1 : Int32).toInt = 1 := rfl; omega) 
theorem s_X12_load_161 {G : Nat → Int} {σ : zSt} {k142 : zSt → Int32 → Option (zSt × Int32)} {Mk142 : Int} (hk142 : ∀ (σ : zSt) (x3 : Int32), zEM [2, 3, 4] G σ → zr (8176) (65550) x3 → zr (1) (16) (zgi σ 0 6) → (65550) - x3.toInt < Mk142 → zok (k142 σ x3) (zAi (zEM [2, 3, 4] G) (fun v : Int32 => zr (0) (3) v))) (hσ : zEM [2, 3, 4] G σ) {x3 : Int32} (h_x3 : zr (8176) (32767) x3) (c_0_6 : zr (1) (16) (zgi σ 0 6)) (hMk142 : (65550) - x3.toInt ≤ Mk142) : zok (fX12_load_161 k142 σ x3) (zAi (zEM [2, 3, 4] G) (fun v : Int32 => zr (0) (3) v)) := by
  unfold fX12_load_161
  refine zok_br (zr_add (lo := 16368) (hi := 65550) (zr_mul (lo := 16352) (hi := 65534) (zr_c (lo := 2) (hi := 2) (by decide)) h_x3 (by decide)) (zr_c (lo := 16) (hi := 16) (by decide)) (by decide)) (fun v3 e2 h1 => ?_)
  exact hk142 _ _ hσ (zr_w h1 (by decide)) c_0_6 (z_l142 e2 h_x3 (by decide) hMk142) 
theorem s_X12_load_414_body {G : Nat → Int} {σ : zSt} {k414 : zSt → Int32 → Option (zSt × Int32)} {Mk414 : Int} (hk414 : ∀ (σ : zSt) (x6 : Int32), zEM [2] G σ → zr (0) (8192) x6 → (8192) - x6.toInt < Mk414 → zok (k414 σ x6) (zAi (zEM [2] G) (fun v : Int32 => zr (0) (3) v))) (hσ : zEM [2] G σ) {x6 : Int32} (h_x6 : zr (0) (8192) x6) (hMk414 : (8192) - x6.toInt ≤ Mk414) : zok (fX12_load_414_body k414 σ x6) (zAi (zEM [2] G) (fun v : Int32 => zr (0) (3) v)) := by
  unfold fX12_load_414_body
  refine zok_if (fun q1 => ?_) (fun q1 => ?_)
  · have h2 := zc_ler (8192) q1 (zr_c (lo := 8192) (hi := 8192) (by decide)) h_x6 (by decide)
    refine zok_ck rfl ?_
    refine zok_bs (hσ.wi 19 19 (by decide) (zr_c (lo := 0) (hi := 0) (by decide)) (by decide +kernel)) (fun σ4 e4 i3 => ?_)
    exact zok_sai i3 (zr_w (zr_c (lo := 0) (hi := 0) (by decide)) (by decide))
  have h5 := zc_ltl (8191) (z_nle q1) h_x6 (zr_c (lo := 8192) (hi := 8192) (by decide)) (by decide)
  refine zok_ck (zin_ok h5 (by decide)) ?_
  refine zok_bs (hσ.wk (by decide)) (fun σ5 e7 i6 => ?_)
  refine zok_br (zr_add (lo := 1) (hi := 8192) h5 (zr_c (lo := 1) (hi := 1) (by decide)) (by decide)) (fun v6 e9 h8 => ?_)
  exact hk414 _ _ i6 (zr_w h8 (by decide)) (by rw [e9]; have := z_tadd (y := (1 : Int32)) h5 (zr_c (lo := 1) (hi := 1) (by decide)) (by decide); have e9 : (1 : Int32).toInt = 1 := rfl; omega) 
theorem s_X12_load_414 {G : Nat → Int} : ∀ (n : Nat) {σ : zSt} (hσ : zEM [2] G σ) {x6 : Int32} (h_x6 : zr (0) (8192) x6) (hm : (8192) - x6.toInt < n), zok (fX12_load_414 n σ x6) (zAi (zEM [2] G) (fun v : Int32 => zr (0) (3) v)) := by
  intro n
  induction n with
  | zero => intro σ hσ x6 h_x6 hm ; have h9 := h_x6.1; have h8 := h_x6.2; exfalso; omega
  | succ n ih => intro σ hσ x6 h_x6 hm ; exact s_X12_load_414_body (fun σ x6 hσ h_x6 hm1 => ih hσ h_x6 (by omega)) hσ h_x6 (Int.le_refl _)
theorem s_X12_load_404 {G : Nat → Int} {σ : zSt} (hσ : zEM [2, 3, 4] G σ) {s0 : Int32} (h_s0 : zr (0) (65535) s0) : zok (fX12_load_404 σ s0) (zAi (zEM [2, 3, 4] G) (fun v : Int32 => zr (0) (3) v)) := by
  unfold fX12_load_404
  refine zok_bs (hσ.wi 9 9 (by decide) h_s0 (by decide +kernel)) (fun σ7 e2 i1 => ?_)
  refine zok_bu (i1.uEu (by decide) (fun G1 hG => s_X12_anew hG)) (fun σ8 i3 => ?_)
  exact (i3.uEi (by decide) (fun G1 hG => s_X12_load_414 zfuel hG (zr_w (zr_c (lo := 0) (hi := 0) (by decide)) (by decide)) (by decide)))
theorem s_X12_load_385 {G : Nat → Int} {σ : zSt} (hσ : zEM [2, 3, 4] G σ) : zok (fX12_load_385 σ ) (zAi (zEM [2, 3, 4] G) (fun v : Int32 => zr (0) (3) v)) := by
  unfold fX12_load_385
  refine zok_if (fun q1 => ?_) (fun q1 => ?_)
  · have h2 := zc_ler (0) q1 (zr_c (lo := 0) (hi := 0) (by decide)) (rM_5 hσ.sg _ (by decide)) (by decide)
    exact (s_X12_load_404 hσ (zr_andr (lo := 0) (hi := 65535) (zr_c (lo := 65535) (hi := 65535) (by decide)) (by decide)))
  have h3 := zc_ltl (-1) (z_nle q1) (rM_5 hσ.sg _ (by decide)) (zr_c (lo := 0) (hi := 0) (by decide)) (by decide)
  exact (s_X12_load_404 hσ (zr_w (zr_c (lo := 0) (hi := 0) (by decide)) (by decide)))
theorem s_X12_load_359 {G : Nat → Int} {σ : zSt} {k337 : zSt → Int32 → Int32 → Option (zSt × Int32)} {Mk337 : Int} (hk337 : ∀ (σ : zSt) (x5 : Int32) (x6 : Int32), zEM [2, 3, 4] G σ → zr (0) (15) x5 → zr (32768) (262144) x6 → (262144) - x6.toInt < Mk337 → zok (k337 σ x5 x6) (zAi (zEM [2, 3, 4] G) (fun v : Int32 => zr (0) (3) v))) (hσ : zEM [2, 3, 4] G σ) {x5 : Int32} (h_x5 : zr (0) (15) x5) {x6 : Int32} (h_x6 : zr (32768) (262143) x6) (hMk337 : (262144) - x6.toInt ≤ Mk337) : zok (fX12_load_359 k337 σ x5 x6) (zAi (zEM [2, 3, 4] G) (fun v : Int32 => zr (0) (3) v)) := by
  unfold fX12_load_359
  refine zok_ck (zin_ok h_x6 (by decide)) ?_
  refine zok_bs (hσ.wi 9 9 (by decide) zr_any (by decide +kernel)) (fun σ9 e2 i1 => ?_)
  refine zok_br (zr_add (lo := 32769) (hi := 262144) h_x6 (zr_c (lo := 1) (hi := 1) (by decide)) (by decide)) (fun v10 e4 h3 => ?_)
  exact hk337 _ _ _ i1 h_x5 (zr_w h3 (by decide)) (by rw [e4]; have := z_tadd (y := (1 : Int32)) h_x6 (zr_c (lo := 1) (hi := 1) (by decide)) (by decide); have e9 : (1 : Int32).toInt = 1 := rfl; omega) 
theorem s_X12_load_337_body {G : Nat → Int} {σ : zSt} {k337 : zSt → Int32 → Int32 → Option (zSt × Int32)} {Mk337 : Int} (hk337 : ∀ (σ : zSt) (x5 : Int32) (x6 : Int32), zEM [2, 3, 4] G σ → zr (0) (15) x5 → zr (32768) (262144) x6 → (262144) - x6.toInt < Mk337 → zok (k337 σ x5 x6) (zAi (zEM [2, 3, 4] G) (fun v : Int32 => zr (0) (3) v))) (hσ : zEM [2, 3, 4] G σ) {x5 : Int32} (h_x5 : zr (0) (15) x5) {x6 : Int32} (h_x6 : zr (32768) (262144) x6) (hMk337 : (262144) - x6.toInt ≤ Mk337) : zok (fX12_load_337_body k337 σ x5 x6) (zAi (zEM [2, 3, 4] G) (fun v : Int32 => zr (0) (3) v)) := by
  unfold fX12_load_337_body
  refine zok_if (fun q1 => ?_) (fun q1 => ?_)
  · exact (s_X12_load_385 hσ)
  have h2 := zc_ltl (262143) (z_nle q1) h_x6 (rM_2 hσ.sg _ (by decide)) (by decide)
  have h3 := zc_ltr (32769) (z_nle q1) h_x6 (rM_2 hσ.sg _ (by decide)) (by decide)
  refine zok_if (fun q4 => ?_) (fun q4 => ?_)
  · have h5 := zc_ltr (14) q4 (zr_c (lo := 13) (hi := 13) (by decide)) h_x5 (by decide)
    exact (s_X12_load_359 hk337 hσ (zr_w h5 (by decide)) h2 hMk337)
  have h6 := zc_lel (13) (z_nlt q4) h_x5 (zr_c (lo := 13) (hi := 13) (by decide)) (by decide)
  refine zok_if (fun q7 => ?_) (fun q7 => ?_)
  · have h8 := zc_ler (3) q7 (zr_c (lo := 3) (hi := 3) (by decide)) h6 (by decide)
    exact (s_X12_load_385 hσ)
  have h9 := zc_ltl (2) (z_nle q7) h6 (zr_c (lo := 3) (hi := 3) (by decide)) (by decide)
  exact (s_X12_load_359 hk337 hσ (zr_w h9 (by decide)) h2 hMk337)
theorem s_X12_load_337 {G : Nat → Int} : ∀ (n : Nat) {σ : zSt} (hσ : zEM [2, 3, 4] G σ) {x5 : Int32} (h_x5 : zr (0) (15) x5) {x6 : Int32} (h_x6 : zr (32768) (262144) x6) (hm : (262144) - x6.toInt < n), zok (fX12_load_337 n σ x5 x6) (zAi (zEM [2, 3, 4] G) (fun v : Int32 => zr (0) (3) v)) := by
  intro n
  induction n with
  | zero => intro σ hσ x5 h_x5 x6 h_x6 hm ; have h9 := h_x6.1; have h8 := h_x6.2; exfalso; omega
  | succ n ih => intro σ hσ x5 h_x5 x6 h_x6 hm ; exact s_X12_load_337_body (fun σ x5 x6 hσ h_x5 h_x6 hm1 => ih hσ h_x5 h_x6 (by omega)) hσ h_x5 h_x6 (Int.le_refl _)
theorem s_X12_load_298_body {G : Nat → Int} {σ : zSt} {k298 : zSt → Int32 → Int32 → Option (zSt × Int32)} {Mk298 : Int} (hk298 : ∀ (σ : zSt) (x5 : Int32) (x6 : Int32), zEM [2, 3, 4] G σ → zr (0) (15) x5 → zr (0) (32767) x6 → (32767) - x6.toInt < Mk298 → zok (k298 σ x5 x6) (zAi (zEM [2, 3, 4] G) (fun v : Int32 => zr (0) (3) v))) (hσ : zEM [2, 3, 4] G σ) {x5 : Int32} (h_x5 : zr (0) (15) x5) {x6 : Int32} (h_x6 : zr (0) (32767) x6) (hMk298 : (32767) - x6.toInt ≤ Mk298) : zok (fX12_load_298_body k298 σ x5 x6) (zAi (zEM [2, 3, 4] G) (fun v : Int32 => zr (0) (3) v)) := by
  unfold fX12_load_298_body
  refine zok_if (fun q1 => ?_) (fun q1 => ?_)
  · exact (s_X12_load_337 zfuel hσ h_x5 (zr_w (zr_c (lo := 32768) (hi := 32768) (by decide)) (by decide)) (by decide))
  have h2 := zc_ltl (32766) (z_nle q1) h_x6 (rM_5 hσ.sg _ (by decide)) (by decide)
  have h3 := zc_ltr (1) (z_nle q1) h_x6 (rM_5 hσ.sg _ (by decide)) (by decide)
  refine zok_ck (zin_ok h2 (by decide)) ?_
  refine zok_bs (hσ.wi 9 9 (by decide) zr_any (by decide +kernel)) (fun σ11 e5 i4 => ?_)
  refine zok_br (zr_add (lo := 1) (hi := 32767) h2 (zr_c (lo := 1) (hi := 1) (by decide)) (by decide)) (fun v12 e7 h6 => ?_)
  exact hk298 _ _ _ i4 h_x5 (zr_w h6 (by decide)) (by rw [e7]; have := z_tadd (y := (1 : Int32)) h2 (zr_c (lo := 1) (hi := 1) (by decide)) (by decide); have e9 : (1 : Int32).toInt = 1 := rfl; omega) 
theorem s_X12_load_298 {G : Nat → Int} : ∀ (n : Nat) {σ : zSt} (hσ : zEM [2, 3, 4] G σ) {x5 : Int32} (h_x5 : zr (0) (15) x5) {x6 : Int32} (h_x6 : zr (0) (32767) x6) (hm : (32767) - x6.toInt < n), zok (fX12_load_298 n σ x5 x6) (zAi (zEM [2, 3, 4] G) (fun v : Int32 => zr (0) (3) v)) := by
  intro n
  induction n with
  | zero => intro σ hσ x5 h_x5 x6 h_x6 hm ; have h9 := h_x6.1; have h8 := h_x6.2; exfalso; omega
  | succ n ih => intro σ hσ x5 h_x5 x6 h_x6 hm ; exact s_X12_load_298_body (fun σ x5 x6 hσ h_x5 h_x6 hm1 => ih hσ h_x5 h_x6 (by omega)) hσ h_x5 h_x6 (Int.le_refl _)
theorem s_X12_load_293 {G : Nat → Int} {σ : zSt} (hσ : zEM [2, 3, 4] G σ) {s0 : Int32} (h_s0 : zr (0) (15) s0) : zok (fX12_load_293 σ s0) (zAi (zEM [2, 3, 4] G) (fun v : Int32 => zr (0) (3) v)) := by
  unfold fX12_load_293
  exact (s_X12_load_298 zfuel hσ h_s0 (zr_w (zr_c (lo := 0) (hi := 0) (by decide)) (by decide)) (by decide))
theorem s_X12_load_259 {G : Nat → Int} {σ : zSt} (hσ : zEM [2, 3, 4] G σ) {s0 : Int32} (h_s0 : zr (0) (3) s0) (c_0_6 : zr (1) (16) (zgi σ 0 6)) : zok (fX12_load_259 σ s0) (zAi (zEM [2, 3, 4] G) (fun v : Int32 => zr (0) (3) v)) := by
  unfold fX12_load_259
  refine zok_bs (hσ.wp h_s0 c_0_6 (by decide)) (fun σ13 e2 i1 => ?_)
  refine zok_bs (i1.wi 9 9 (by decide) (zr_c (lo := 0) (hi := 0) (by decide)) (by decide +kernel)) (fun σ14 e4 i3 => ?_)
  refine zok_if (fun q5 => ?_) (fun q5 => ?_)
  · have h6 := zc_ler (0) q5 (zr_c (lo := 0) (hi := 0) (by decide)) (rM_5 i3.sg _ (by decide)) (by decide)
    refine zok_ck (zin_ok (zr_add (lo := 15) (hi := 32782) h6 (zr_c (lo := 15) (hi := 15) (by decide)) (by decide)) (by decide)) ?_
    exact (s_X12_load_293 i3 (zr_andr (lo := 0) (hi := 15) (zr_c (lo := 15) (hi := 15) (by decide)) (by decide)))
  have h7 := zc_ltl (-1) (z_nle q5) (rM_5 i3.sg _ (by decide)) (zr_c (lo := 0) (hi := 0) (by decide)) (by decide)
  exact (s_X12_load_293 i3 (zr_w (zr_c (lo := 3) (hi := 3) (by decide)) (by decide)))
theorem s_X12_load_247 {G : Nat → Int} {σ : zSt} (hσ : zEM [2, 3, 4] G σ) (c_0_6 : zr (1) (16) (zgi σ 0 6)) : zok (fX12_load_247 σ ) (zAi (zEM [2, 3, 4] G) (fun v : Int32 => zr (0) (3) v)) := by
  unfold fX12_load_247
  refine zok_if (fun q1 => ?_) (fun q1 => ?_)
  · have h2 := zc_ler (0) q1 (zr_c (lo := 0) (hi := 0) (by decide)) (rM_5 hσ.sg _ (by decide)) (by decide)
    exact (s_X12_load_259 hσ (zr_w (zr_c (lo := 1) (hi := 1) (by decide)) (by decide)) c_0_6)
  have h3 := zc_ltl (-1) (z_nle q1) (rM_5 hσ.sg _ (by decide)) (zr_c (lo := 0) (hi := 0) (by decide)) (by decide)
  exact (s_X12_load_259 hσ (zr_w (zr_c (lo := 3) (hi := 3) (by decide)) (by decide)) c_0_6)
theorem s_X12_load_214 {G : Nat → Int} {σ : zSt} (hσ : zEM [2, 3, 4] G σ) {x3 : Int32} {s0 : Int32} (c_0_6 : zr (1) (16) (zgi σ 0 6)) : zok (fX12_load_214 σ x3 s0) (zAi (zEM [2, 3, 4] G) (fun v : Int32 => zr (0) (3) v)) := by
  unfold fX12_load_214
  refine zok_if (fun q1 => ?_) (fun q1 => ?_)
  · have h2 := zc_ltr (49153) q1 (zr_c (lo := 49152) (hi := 49152) (by decide)) (rM_2 hσ.sg _ (by decide)) (by decide)
    refine zok_if (fun q3 => ?_) (fun q3 => ?_)
    · have h4 := zc_lel (0) q3 zr_any (zr_c (lo := 0) (hi := 0) (by decide)) (by decide)
      exact (s_X12_load_247 hσ c_0_6)
    have h5 := zc_ltr (1) (z_nle q3) (zr_c (lo := 0) (hi := 0) (by decide)) zr_any (by decide)
    refine zok_if (fun q6 => ?_) (fun q6 => ?_)
    · have h7 := zc_eql (65536) (65536) q6 zr_any (zr_c (lo := 65536) (hi := 65536) (by decide)) (by decide)
      exact (s_X12_load_259 hσ (zr_w (zr_c (lo := 2) (hi := 2) (by decide)) (by decide)) c_0_6)
    exact (s_X12_load_247 hσ c_0_6)
  have h8 := zc_lel (49152) (z_nlt q1) (rM_2 hσ.sg _ (by decide)) (zr_c (lo := 49152) (hi := 49152) (by decide)) (by decide)
  exact (s_X12_load_259 hσ (zr_w (zr_c (lo := 0) (hi := 0) (by decide)) (by decide)) c_0_6)
theorem s_X12_load_192 {G : Nat → Int} {σ : zSt} (hσ : zEM [2, 3, 4] G σ) {s0 : Int32} (c_0_6 : zr (1) (16) (zgi σ 0 6)) : zok (fX12_load_192 σ s0) (zAi (zEM [2, 3, 4] G) (fun v : Int32 => zr (0) (3) v)) := by
  unfold fX12_load_192
  refine zok_if (fun q1 => ?_) (fun q1 => ?_)
  · have h2 := zc_lel (49152) q1 (rM_2 hσ.sg _ (by decide)) (zr_c (lo := 49152) (hi := 49152) (by decide)) (by decide)
    exact (s_X12_load_214 hσ c_0_6)
  have h3 := zc_ltr (49153) (z_nle q1) (zr_c (lo := 49152) (hi := 49152) (by decide)) (rM_2 hσ.sg _ (by decide)) (by decide)
  refine zok_pi (s_X12_bytesAt hσ.P (zr_w (zr_c (lo := 32744) (hi := 32744) (by decide)) (by decide)) (zr_c (lo := 2) (hi := 2) (by decide))) (fun v16 h4 => ?_)
  exact (s_X12_load_214 hσ c_0_6)
theorem s_X12_load_142_body {G : Nat → Int} {σ : zSt} {k142 : zSt → Int32 → Option (zSt × Int32)} {Mk142 : Int} (hk142 : ∀ (σ : zSt) (x3 : Int32), zEM [2, 3, 4] G σ → zr (8176) (65550) x3 → zr (1) (16) (zgi σ 0 6) → (65550) - x3.toInt < Mk142 → zok (k142 σ x3) (zAi (zEM [2, 3, 4] G) (fun v : Int32 => zr (0) (3) v))) (hσ : zEM [2, 3, 4] G σ) {x3 : Int32} (h_x3 : zr (8176) (65550) x3) (c_0_6 : zr (1) (16) (zgi σ 0 6)) (hMk142 : (65550) - x3.toInt ≤ Mk142) : zok (fX12_load_142_body k142 σ x3) (zAi (zEM [2, 3, 4] G) (fun v : Int32 => zr (0) (3) v)) := by
  unfold fX12_load_142_body
  refine zok_if (fun q1 => ?_) (fun q1 => ?_)
  · have h2 := zc_ler (32768) q1 (zr_c (lo := 32768) (hi := 32768) (by decide)) h_x3 (by decide)
    refine zok_if (fun q3 => ?_) (fun q3 => ?_)
    · have h4 := zc_lel (49152) q3 (rM_2 hσ.sg _ (by decide)) (zr_c (lo := 49152) (hi := 49152) (by decide)) (by decide)
      exact (s_X12_load_192 hσ c_0_6)
    have h5 := zc_ltr (49153) (z_nle q3) (zr_c (lo := 49152) (hi := 49152) (by decide)) (rM_2 hσ.sg _ (by decide)) (by decide)
    refine zok_pi (s_X12_bytesAt hσ.P (zr_w (zr_c (lo := 32742) (hi := 32742) (by decide)) (by decide)) (zr_c (lo := 2) (hi := 2) (by decide))) (fun v18 h6 => ?_)
    exact (s_X12_load_192 hσ c_0_6)
  have h7 := zc_ltl (32767) (z_nle q1) h_x3 (zr_c (lo := 32768) (hi := 32768) (by decide)) (by decide)
  refine zok_pi (s_X12_isHeader hσ.P h7) (fun v20 h8 => ?_)
  refine zok_if (fun q9 => ?_) (fun q9 => ?_)
  · have h10 := zc_eql (0) (0) q9 h8 (zr_c (lo := 0) (hi := 0) (by decide)) (by decide)
    exact (s_X12_load_161 hk142 hσ h7 c_0_6 hMk142)
  have h11 := zc_nel (1) (1) q9 h8 (zr_c (lo := 0) (hi := 0) (by decide)) (by decide)
  refine zok_bs (hσ.wi 8 8 (by decide) h7 (by decide +kernel)) (fun σ21 e13 i12 => ?_)
  exact (s_X12_load_161 hk142 i12 h7 (z_trj e13 (by decide) c_0_6) hMk142)
theorem s_X12_load_142 {G : Nat → Int} : ∀ (n : Nat) {σ : zSt} (hσ : zEM [2, 3, 4] G σ) {x3 : Int32} (h_x3 : zr (8176) (65550) x3) (c_0_6 : zr (1) (16) (zgi σ 0 6)) (hm : (65550) - x3.toInt < n), zok (fX12_load_142 n σ x3) (zAi (zEM [2, 3, 4] G) (fun v : Int32 => zr (0) (3) v)) := by
  intro n
  induction n with
  | zero => intro σ hσ x3 h_x3 c_0_6 hm ; have h9 := h_x3.1; have h8 := h_x3.2; exfalso; omega
  | succ n ih => intro σ hσ x3 h_x3 c_0_6 hm ; exact s_X12_load_142_body (fun σ x3 hσ h_x3 c_0_6 hm1 => ih hσ h_x3 c_0_6 (by omega)) hσ h_x3 c_0_6 (Int.le_refl _)
theorem s_X12_load_89_body {G : Nat → Int} {σ : zSt} {k89 : zSt → Int32 → Int32 → Option (zSt × Int32)} {Mk89 : Int} (hk89 : ∀ (σ : zSt) (x1 : Int32) (x3 : Int32), zEM [2, 3, 4] G σ → zr (0) (512) x1 → zr (0) (262144) x3 → zr (1) (16) (zgi σ 0 6) → (262144) - x3.toInt < Mk89 → zok (k89 σ x1 x3) (zAi (zEM [2, 3, 4] G) (fun v : Int32 => zr (0) (3) v))) (hσ : zEM [2, 3, 4] G σ) {x1 : Int32} (h_x1 : zr (0) (512) x1) {x3 : Int32} (h_x3 : zr (0) (262144) x3) (c_0_6 : zr (1) (16) (zgi σ 0 6)) (hMk89 : (262144) - x3.toInt ≤ Mk89) : zok (fX12_load_89_body k89 σ x1 x3) (zAi (zEM [2, 3, 4] G) (fun v : Int32 => zr (0) (3) v)) := by
  unfold fX12_load_89_body
  refine zok_if (fun q1 => ?_) (fun q1 => ?_)
  · have h2 := zc_ler (16384) q1 (zr_mul (lo := 16384) (hi := 262144) (zr_c (lo := 16384) (hi := 16384) (by decide)) c_0_6 (by decide)) h_x3 (by decide)
    refine zok_bs (hσ.wi 8 8 (by decide) (zr_c (lo := -1) (hi := -1) (by decide)) (by decide +kernel)) (fun σ22 e4 i3 => ?_)
    exact (s_X12_load_142 zfuel i3 (zr_w (zr_c (lo := 8176) (hi := 8176) (by decide)) (by decide)) (z_trj e4 (by decide) c_0_6) (by decide))
  have h5 := zc_ltl (262143) (z_nle q1) h_x3 (zr_mul (lo := 16384) (hi := 262144) (zr_c (lo := 16384) (hi := 16384) (by decide)) c_0_6 (by decide)) (by decide)
  refine zok_if (fun q6 => ?_) (fun q6 => ?_)
  · have h7 := zc_lel (262143) q6 (rM_2 hσ.sg _ (by decide)) h5 (by decide)
    exact (s_X12_load_126 hk89 hσ h_x1 h5 h5 c_0_6 hMk89)
  have h8 := zc_ltr (1) (z_nle q6) h5 (rM_2 hσ.sg _ (by decide)) (by decide)
  refine zok_ck (zin_ok (zr_add (lo := 0) (hi := 262655) h_x1 h5 (by decide)) (by decide)) ?_
  exact (s_X12_load_126 hk89 hσ h_x1 h5 h5 c_0_6 hMk89)
theorem s_X12_load_89 {G : Nat → Int} : ∀ (n : Nat) {σ : zSt} (hσ : zEM [2, 3, 4] G σ) {x1 : Int32} (h_x1 : zr (0) (512) x1) {x3 : Int32} (h_x3 : zr (0) (262144) x3) (c_0_6 : zr (1) (16) (zgi σ 0 6)) (hm : (262144) - x3.toInt < n), zok (fX12_load_89 n σ x1 x3) (zAi (zEM [2, 3, 4] G) (fun v : Int32 => zr (0) (3) v)) := by
  intro n
  induction n with
  | zero => intro σ hσ x1 h_x1 x3 h_x3 c_0_6 hm ; have h9 := h_x3.1; have h8 := h_x3.2; exfalso; omega
  | succ n ih => intro σ hσ x1 h_x1 x3 h_x3 c_0_6 hm ; exact s_X12_load_89_body (fun σ x1 x3 hσ h_x1 h_x3 c_0_6 hm1 => ih hσ h_x1 h_x3 c_0_6 (by omega)) hσ h_x1 h_x3 c_0_6 (Int.le_refl _)
theorem s_X12_load_26 {G : Nat → Int} {σ : zSt} (hσ : zEM [0, 2, 3, 4] G σ) {s0 : Int32} (h_s0 : zr (0) (512) s0) : zok (fX12_load_26 σ s0) (zAi (zEM [0, 2, 3, 4] G) (fun v : Int32 => zr (0) (3) v)) := by
  unfold fX12_load_26
  refine zok_br (zr_sub (lo := -512) (hi := 262656) (rM_0 hσ.sg _ (by decide)) h_s0 (by decide)) (fun v23 e2 h1 => ?_)
  refine zok_bs (hσ.wi 2 2 (by decide) (zr_c (lo := 0) (hi := 0) (by decide)) (by decide +kernel)) (fun σ24 e4 i3 => ?_)
  refine zok_if (fun q5 => ?_) (fun q5 => ?_)
  · have h6 := zc_ler (8192) q5 (zr_c (lo := 8192) (hi := 8192) (by decide)) h1 (by decide)
    refine zok_ck (by decide) ?_
    refine zok_if (fun q7 => ?_) (fun q7 => ?_)
    · have h8 := zc_eql (0) (0) q7 (zr_rem (lo := 0) (hi := 8191) 8192 (by decide) h6 (by decide)) (zr_c (lo := 0) (hi := 0) (by decide)) (by decide)
      refine zok_if (fun q9 => ?_) (fun q9 => ?_)
      · have h10 := zc_lel (262144) q9 h6 (zr_c (lo := 262144) (hi := 262144) (by decide)) (by decide)
        refine zok_bs (i3.wi 5 5 (by decide) h10 (by decide +kernel)) (fun σ25 e12 i11 => ?_)
        refine zok_ck (by decide) ?_
        refine zok_bs (i11.wb (zr_div (lo := 1) (hi := 16) 16384 (by decide) (zr_add (lo := 24575) (hi := 278527) (z_own e12 h10) (zr_c (lo := 16383) (hi := 16383) (by decide)) (by decide)) (by decide)) (by decide)) (fun σ26 e14 i13 => ?_)
        exact (i13.uEi (by decide) (fun G1 hG => s_X12_load_89 zfuel hG h_s0 (zr_w (zr_c (lo := 0) (hi := 0) (by decide)) (by decide)) (z_own e14 (zr_div (lo := 1) (hi := 16) 16384 (by decide) (zr_add (lo := 24575) (hi := 278527) (z_own e12 h10) (zr_c (lo := 16383) (hi := 16383) (by decide)) (by decide)) (by decide))) (by decide)))
      have h15 := zc_ltr (262145) (z_nle q9) (zr_c (lo := 262144) (hi := 262144) (by decide)) h6 (by decide)
      exact zok_sai i3 (zr_w (zr_c (lo := 3) (hi := 3) (by decide)) (by decide))
    have h16 := zc_nel (1) (8191) q7 (zr_rem (lo := 0) (hi := 8191) 8192 (by decide) h6 (by decide)) (zr_c (lo := 0) (hi := 0) (by decide)) (by decide)
    exact zok_sai i3 (zr_w (zr_c (lo := 2) (hi := 2) (by decide)) (by decide))
  have h17 := zc_ltl (8191) (z_nle q5) h1 (zr_c (lo := 8192) (hi := 8192) (by decide)) (by decide)
  exact zok_sai i3 (zr_w (zr_c (lo := 1) (hi := 1) (by decide)) (by decide))
theorem s_X12_load {G : Nat → Int} {σ : zSt} (hσ : zEM [0, 2, 3, 4] G σ) : zok (fX12_load σ ) (zAi (zEM [0, 2, 3, 4] G) (fun v : Int32 => zr (0) (3) v)) := by
  unfold fX12_load
  refine zok_bs (hσ.wi 0 0 (by decide) (zr_c (lo := 0) (hi := 0) (by decide)) (by decide +kernel)) (fun σ27 e2 i1 => ?_)
  refine zok_ck (by decide) ?_
  refine zok_if (fun q3 => ?_) (fun q3 => ?_)
  · have h4 := zc_eql (512) (512) q3 (zr_rem (lo := 0) (hi := 16383) 16384 (by decide) (rM_0 i1.sg _ (by decide)) (by decide)) (zr_c (lo := 512) (hi := 512) (by decide)) (by decide)
    exact (s_X12_load_26 i1 (zr_w (zr_c (lo := 512) (hi := 512) (by decide)) (by decide)))
  exact (s_X12_load_26 i1 (zr_w (zr_c (lo := 0) (hi := 0) (by decide)) (by decide)))
theorem s_X12_tens {σ : zSt} (hσ : zPM σ) {x1 : Int32} (h_x1 : zr (12) (32780) x1) : zok (fX12_tens σ x1) (zPi σ (fun v : Int32 => zr (0) (165) v)) := by
  unfold fX12_tens
  refine zok_ck (zin_ok h_x1 (by decide)) ?_
  refine zok_ck (zin_ok h_x1 (by decide)) ?_
  exact zok_spi (zr_add (lo := 0) (hi := 165) (zr_mul (lo := 0) (hi := 150) (zr_c (lo := 10) (hi := 10) (by decide)) (zr_andr (lo := 0) (hi := 15) (zr_c (lo := 15) (hi := 15) (by decide)) (by decide)) (by decide)) (zr_andr (lo := 0) (hi := 15) (zr_c (lo := 15) (hi := 15) (by decide)) (by decide)) (by decide))
theorem s_X12_card {G : Nat → Int} {σ : zSt} (hσ : zIM G σ) {x1 : Int32} : zok (fX12_card σ x1) (zAi (zIM G) (fun v : Int32 => True)) := by
  unfold fX12_card
  refine zok_within (fun w1 w2 => ?_) (fun w3 => ?_)
  · have h4 := z_wir w1 w2 (zrl_c (lo := 0) (hi := 0) (by decide)) (zrl_c (lo := 7) (hi := 7) (by decide))
    refine zok_if (fun q5 => ?_) (fun q5 => ?_)
    · exact zr_no (zc_eql (1) (0) q5 (zr_c (lo := 1) (hi := 1) (by decide)) (zr_c (lo := 0) (hi := 0) (by decide)) (by decide)) (by decide)
    unfold fX12_card_18
    refine zok_fails0 (hσ.wi 0 0 (by decide) zr_any (by decide +kernel)) (fun σ1 e6 i7 => ?_)
    refine zok_if (fun q8 => ?_) (fun q8 => ?_)
    · refine zok_if (fun q9 => ?_) (fun q9 => ?_)
      · have h10 := zc_ler (3) q9 (zr_c (lo := 3) (hi := 3) (by decide)) h4 (by decide)
        refine zok_if (fun q11 => ?_) (fun q11 => ?_)
        · have h12 := zc_ler (0) q11 (zr_c (lo := 0) (hi := 0) (by decide)) (rM_5 i7.sg _ (by decide)) (by decide)
          refine zok_if (fun q13 => ?_) (fun q13 => ?_)
          · have h14 := zc_eql (3) (3) q13 h10 (zr_c (lo := 3) (hi := 3) (by decide)) (by decide)
            refine zok_pi (s_X12_tens i7.P (zr_w (zr_add (lo := 12) (hi := 32779) h12 (zr_c (lo := 12) (hi := 12) (by decide)) (by decide)) (by decide))) (fun v4 h15 => ?_)
            refine zok_pi (s_X12_tens i7.P (zr_w (zr_add (lo := 13) (hi := 32780) h12 (zr_c (lo := 13) (hi := 13) (by decide)) (by decide)) (by decide))) (fun v6 h16 => ?_)
            refine zok_ck (zin_ok (zr_add (lo := 14) (hi := 32781) h12 (zr_c (lo := 14) (hi := 14) (by decide)) (by decide)) (by decide)) ?_
            exact zok_sai i7 trivial
          have h17 := zc_nel (4) (7) q13 h10 (zr_c (lo := 3) (hi := 3) (by decide)) (by decide)
          refine zok_if (fun q18 => ?_) (fun q18 => ?_)
          · have h19 := zc_eql (4) (4) q18 h17 (zr_c (lo := 4) (hi := 4) (by decide)) (by decide)
            refine zok_ck (zin_ok (zr_add (lo := 15) (hi := 32782) h12 (zr_c (lo := 15) (hi := 15) (by decide)) (by decide)) (by decide)) ?_
            exact zok_sai i7 trivial
          have h20 := zc_nel (5) (7) q18 h17 (zr_c (lo := 4) (hi := 4) (by decide)) (by decide)
          refine zok_if (fun q21 => ?_) (fun q21 => ?_)
          · have h22 := zc_eql (5) (5) q21 h20 (zr_c (lo := 5) (hi := 5) (by decide)) (by decide)
            refine zok_ck (zin_ok (zr_add (lo := 15) (hi := 32782) h12 (zr_c (lo := 15) (hi := 15) (by decide)) (by decide)) (by decide)) ?_
            exact zok_sai i7 trivial
          have h23 := zc_nel (6) (7) q21 h20 (zr_c (lo := 5) (hi := 5) (by decide)) (by decide)
          refine zok_if (fun q24 => ?_) (fun q24 => ?_)
          · have h25 := zc_eql (6) (6) q24 h23 (zr_c (lo := 6) (hi := 6) (by decide)) (by decide)
            refine zok_pi (s_X12_bytesAt i7.P (zr_add (lo := 10) (hi := 32777) h12 (zr_c (lo := 10) (hi := 10) (by decide)) (by decide)) (zr_c (lo := 2) (hi := 2) (by decide))) (fun v8 h26 => ?_)
            exact zok_sai i7 trivial
          have h27 := zc_nel (7) (7) q24 h23 (zr_c (lo := 6) (hi := 6) (by decide)) (by decide)
          exact zok_sai i7 trivial
        have h28 := zc_ltl (-1) (z_nle q11) (rM_5 i7.sg _ (by decide)) (zr_c (lo := 0) (hi := 0) (by decide)) (by decide)
        exact zok_sai i7 trivial
      have h29 := zc_ltl (2) (z_nle q9) h4 (zr_c (lo := 3) (hi := 3) (by decide)) (by decide)
      refine zok_if (fun q30 => ?_) (fun q30 => ?_)
      · have h31 := zc_eql (0) (0) q30 h29 (zr_c (lo := 0) (hi := 0) (by decide)) (by decide)
        unfold fX12_card_59
        exact zok_sai i7 trivial
      have h32 := zc_nel (1) (2) q30 h29 (zr_c (lo := 0) (hi := 0) (by decide)) (by decide)
      refine zok_if (fun q33 => ?_) (fun q33 => ?_)
      · have h34 := zc_eql (1) (1) q33 h32 (zr_c (lo := 1) (hi := 1) (by decide)) (by decide)
        unfold fX12_card_59
        exact zok_sai i7 trivial
      have h35 := zc_nel (2) (2) q33 h32 (zr_c (lo := 1) (hi := 1) (by decide)) (by decide)
      unfold fX12_card_59
      exact zok_sai i7 trivial
    exact zr_no (zc_nel (1) (0) q8 (zr_c (lo := 0) (hi := 0) (by decide)) (zr_c (lo := 0) (hi := 0) (by decide)) (by decide)) (by decide)
  refine zok_if (fun q36 => ?_) (fun q36 => ?_)
  · unfold fX12_card_18
    refine zok_fails1 (hσ.wi 0 0 (by decide) zr_any (by decide +kernel)) (fun σ1 e37 i38 => ?_)
    refine zok_if (fun q39 => ?_) (fun q39 => ?_)
    · exact zr_no (zc_eql (1) (0) q39 (zr_c (lo := 1) (hi := 1) (by decide)) (zr_c (lo := 0) (hi := 0) (by decide)) (by decide)) (by decide)
    exact zok_sai i38 trivial
  exact zr_no (zc_nel (1) (0) q36 (zr_c (lo := 0) (hi := 0) (by decide)) (zr_c (lo := 0) (hi := 0) (by decide)) (by decide)) (by decide)
theorem s_X12_ofBank {σ : zSt} (hσ : zPM σ) {x1 : Int32} (h_x1 : zr (0) (255) x1) {x2 : Int32} (h_x2 : zr (0) (49151) x2) (c_0_6 : zr (1) (16) (zgi σ 0 6)) : zok (fX12_ofBank σ x1 x2) (zPi σ (fun v : Int32 => zr (0) (255) v)) := by
  unfold fX12_ofBank
  refine zok_ck (zdv_ok c_0_6 (by decide)) ?_
  refine zok_ck (by decide) ?_
  refine zok_ck (zin_ok (zr_add (lo := 0) (hi := 262143) (zr_mul (lo := 0) (hi := 245760) (zr_c (lo := 16384) (hi := 16384) (by decide)) (zr_remv (lo := 0) (hi := 15) h_x1 c_0_6 (by decide)) (by decide)) (zr_rem (lo := 0) (hi := 16383) 16384 (by decide) h_x2 (by decide)) (by decide)) (by decide)) ?_
  exact zok_spi (zr_andr (lo := 0) (hi := 255) (zr_c (lo := 255) (hi := 255) (by decide)) (by decide))
theorem s_X12_batteryAt_23 {σ : zSt} (hσ : zPM σ) {s0 : Int32} (h_s0 : zr (0) (16384) s0) {s1 : Int32} (h_s1 : zr (0) (16383) s1) : zok (fX12_batteryAt_23 σ s0 s1) (zPi σ (fun v : Int32 => zr (0) (32767) v)) := by
  unfold fX12_batteryAt_23
  exact zok_spi (zr_add (lo := 0) (hi := 32767) h_s1 h_s0 (by decide))
theorem s_X12_batteryAt {σ : zSt} (hσ : zPM σ) {x1 : Int32} (h_x1 : zr (32768) (49151) x1) : zok (fX12_batteryAt σ x1) (zPi σ (fun v : Int32 => zr (0) (32767) v)) := by
  unfold fX12_batteryAt
  refine zok_ck rfl ?_
  refine zok_if (fun q1 => ?_) (fun q1 => ?_)
  · have h2 := zc_eql (0) (0) q1 (zr_andr (lo := 0) (hi := 4) (zr_c (lo := 4) (hi := 4) (by decide)) (by decide)) (zr_c (lo := 0) (hi := 0) (by decide)) (by decide)
    exact (s_X12_batteryAt_23 hσ (zr_w (zr_c (lo := 0) (hi := 0) (by decide)) (by decide)) (zr_sub (lo := 0) (hi := 16383) h_x1 (zr_c (lo := 32768) (hi := 32768) (by decide)) (by decide)))
  have h3 := zc_nel (1) (4) q1 (zr_andr (lo := 0) (hi := 4) (zr_c (lo := 4) (hi := 4) (by decide)) (by decide)) (zr_c (lo := 0) (hi := 0) (by decide)) (by decide)
  exact (s_X12_batteryAt_23 hσ (zr_w (zr_c (lo := 16384) (hi := 16384) (by decide)) (by decide)) (zr_sub (lo := 0) (hi := 16383) h_x1 (zr_c (lo := 32768) (hi := 32768) (by decide)) (by decide)))
theorem s_X12_read_80 {σ : zSt} (hσ : zPM σ) {s0 : Int32} (h_s0 : zr (0) (255) s0) : zok (fX12_read_80 σ s0) (zPi σ (fun v : Int32 => zr (0) (255) v)) := by
  unfold fX12_read_80
  exact zok_spi h_s0
theorem s_X12_read_111 {σ : zSt} (hσ : zPM σ) {x2 : Int32} (h_x2 : zr (0) (49151) x2) {s0 : Int32} (h_s0 : zr (0) (255) s0) (c_0_6 : zr (1) (16) (zgi σ 0 6)) : zok (fX12_read_111 σ x2 s0) (zPi σ (fun v : Int32 => zr (0) (255) v)) := by
  unfold fX12_read_111
  refine zok_pi (s_X12_ofBank hσ h_s0 h_x2 c_0_6) (fun v2 h1 => ?_)
  exact zok_spi h1
theorem s_X12_read_138 {σ : zSt} (hσ : zPM σ) {x2 : Int32} (h_x2 : zr (0) (49151) x2) (c_0_6 : zr (1) (16) (zgi σ 0 6)) : zok (fX12_read_138 σ x2) (zPi σ (fun v : Int32 => zr (0) (255) v)) := by
  unfold fX12_read_138
  refine zok_ck (by decide) ?_
  refine zok_ck (zin_ok (zr_add (lo := 29) (hi := 31) (zr_c (lo := 29) (hi := 29) (by decide)) (zr_div (lo := 0) (hi := 2) 16384 (by decide) h_x2 (by decide)) (by decide)) (by decide)) ?_
  refine zok_pi (s_X12_ofBank hσ (rM_18 hσ.sg _ (z_ix (zr_add (lo := 29) (hi := 31) (zr_c (lo := 29) (hi := 29) (by decide)) (zr_div (lo := 0) (hi := 2) 16384 (by decide) h_x2 (by decide)) (by decide)) (by decide))) h_x2 c_0_6) (fun v4 h1 => ?_)
  exact zok_spi h1
theorem s_X12_read {σ : zSt} (hσ : zPM σ) {x1 : Int32} : zok (fX12_read σ x1) (zPi σ (fun v : Int32 => zr (0) (255) v)) := by
  unfold fX12_read
  refine zok_br (zr_andr (lo := 0) (hi := 65535) (zr_c (lo := 65535) (hi := 65535) (by decide)) (by decide)) (fun v5 e2 h1 => ?_)
  refine zok_if (fun q3 => ?_) (fun q3 => ?_)
  · have h4 := zc_ltl (49151) q3 h1 (zr_c (lo := 49152) (hi := 49152) (by decide)) (by decide)
    refine zok_isBat (fun h5 => ?_) ?_
    · have h6 := h5
      refine zok_if (fun q7 => ?_) (fun q7 => ?_)
      · exact zr_no (zc_eql (1) (0) q7 (zr_c (lo := 1) (hi := 1) (by decide)) (zr_c (lo := 0) (hi := 0) (by decide)) (by decide)) (by decide)
      refine zok_pi (s_X12_batteryAt hσ h6) (fun v11 h8 => ?_)
      refine zok_ck (zin_ok h8 (by decide)) ?_
      exact zok_spi (zr_andr (lo := 0) (hi := 255) (zr_c (lo := 255) (hi := 255) (by decide)) (by decide))
    refine zok_if (fun q9 => ?_) (fun q9 => ?_)
    · refine zok_if (fun q10 => ?_) (fun q10 => ?_)
      · have h11 := zc_eql (0) (0) q10 (rM_4 hσ.sg _ (by decide)) (zr_c (lo := 0) (hi := 0) (by decide)) (by decide)
        refine zok_if (fun q12 => ?_) (fun q12 => ?_)
        · have h13 := zc_lel (49151) q12 (rM_2 hσ.sg _ (by decide)) h4 (by decide)
          exact (s_X12_read_80 hσ (zr_w (zr_c (lo := 255) (hi := 255) (by decide)) (by decide)))
        have h14 := zc_ltr (1) (z_nle q12) h4 (rM_2 hσ.sg _ (by decide)) (by decide)
        refine zok_ck (zin_ok h4 (by decide)) ?_
        exact (s_X12_read_80 hσ (zr_andr (lo := 0) (hi := 255) (zr_c (lo := 255) (hi := 255) (by decide)) (by decide)))
      have h15 := zc_nel (1) (3) q10 (rM_4 hσ.sg _ (by decide)) (zr_c (lo := 0) (hi := 0) (by decide)) (by decide)
      have h16 := rM_bk hσ.Y hσ.sg h15 (by decide)
      refine zok_if (fun q17 => ?_) (fun q17 => ?_)
      · have h18 := zc_eql (3) (3) q17 h15 (zr_c (lo := 3) (hi := 3) (by decide)) (by decide)
        have h19 := rM_bk hσ.Y hσ.sg h18 (by decide)
        refine zok_if (fun q20 => ?_) (fun q20 => ?_)
        · have h21 := zc_ler (32768) q20 (zr_c (lo := 32768) (hi := 32768) (by decide)) h4 (by decide)
          refine zok_ck rfl ?_
          exact (s_X12_read_111 hσ (zr_w h21 (by decide)) (rM_18 hσ.sg _ (by decide)) h19)
        have h22 := zc_ltl (32767) (z_nle q20) h4 (zr_c (lo := 32768) (hi := 32768) (by decide)) (by decide)
        refine zok_ck (by decide) ?_
        exact (s_X12_read_111 hσ (zr_w h22 (by decide)) (zr_w (zr_div (lo := 0) (hi := 1) 16384 (by decide) h22 (by decide)) (by decide)) h19)
      have h23 := zc_nel (1) (2) q17 h15 (zr_c (lo := 3) (hi := 3) (by decide)) (by decide)
      have h24 := rM_bk hσ.Y hσ.sg h23 (by decide)
      refine zok_if (fun q25 => ?_) (fun q25 => ?_)
      · have h26 := zc_eql (1) (1) q25 h23 (zr_c (lo := 1) (hi := 1) (by decide)) (by decide)
        have h27 := rM_bk hσ.Y hσ.sg h26 (by decide)
        refine zok_if (fun q28 => ?_) (fun q28 => ?_)
        · have h29 := zc_ler (1024) q28 (zr_c (lo := 1024) (hi := 1024) (by decide)) h4 (by decide)
          exact (s_X12_read_138 hσ (zr_w h29 (by decide)) h27)
        have h30 := zc_ltl (1023) (z_nle q28) h4 (zr_c (lo := 1024) (hi := 1024) (by decide)) (by decide)
        refine zok_pi (s_X12_ofBank hσ (zr_w (zr_c (lo := 0) (hi := 0) (by decide)) (by decide)) (zr_w h30 (by decide)) h27) (fun v9 h31 => ?_)
        exact zok_spi h31
      have h32 := zc_nel (2) (2) q25 h23 (zr_c (lo := 1) (hi := 1) (by decide)) (by decide)
      have h33 := rM_bk hσ.Y hσ.sg h32 (by decide)
      exact (s_X12_read_138 hσ h4 h33)
    exact zr_no (zc_nel (1) (0) q9 (zr_c (lo := 0) (hi := 0) (by decide)) (zr_c (lo := 0) (hi := 0) (by decide)) (by decide)) (by decide)
  have h34 := zc_ler (49152) (z_nlt q3) (zr_c (lo := 49152) (hi := 49152) (by decide)) h1 (by decide)
  refine zok_ck (by decide) ?_
  refine zok_ck (zin_ok (zr_rem (lo := 0) (hi := 8191) 8192 (by decide) h34 (by decide)) (by decide)) ?_
  exact zok_spi (zr_andr (lo := 0) (hi := 255) (zr_c (lo := 255) (hi := 255) (by decide)) (by decide))
theorem s_X12_write_163 {σ : zSt} (hσ : zPM σ) : zok (fX12_write_163 σ ) (zPu σ) := by
  unfold fX12_write_163
  exact zok_spu
theorem s_X12_write_140 {G : Nat → Int} {σ : zSt} (hσ : zIM G σ) {x3 : Int32} (h_x3 : zr (0) (65535) x3) {x4 : Int32} (h_x4 : zr (0) (255) x4) : zok (fX12_write_140 σ x3 x4) (zIM G) := by
  unfold fX12_write_140
  refine zok_if (fun q1 => ?_) (fun q1 => ?_)
  · have h2 := zc_eql (3) (3) q1 (rM_4 hσ.sg _ (by decide)) (zr_c (lo := 3) (hi := 3) (by decide)) (by decide)
    have h3 := rM_bk hσ.Y hσ.sg h2 (by decide)
    refine zok_if (fun q4 => ?_) (fun q4 => ?_)
    · have h5 := zc_eql (40960) (40960) q4 h_x3 (zr_c (lo := 40960) (hi := 40960) (by decide)) (by decide)
      refine zok_ck rfl ?_
      refine zok_bs (hσ.wi 31 31 (by decide) h_x4 (by decide +kernel)) (fun σ1 e7 i6 => ?_)
      exact zok_pau i6 (s_X12_write_163 i6.P)
    exact zok_pau hσ (s_X12_write_163 hσ.P)
  have h8 := zc_nel (0) (2) q1 (rM_4 hσ.sg _ (by decide)) (zr_c (lo := 3) (hi := 3) (by decide)) (by decide)
  exact zok_pau hσ (s_X12_write_163 hσ.P)
theorem s_X12_write_103 {G : Nat → Int} {σ : zSt} (hσ : zIM G σ) {x3 : Int32} (h_x3 : zr (0) (65535) x3) {x4 : Int32} (h_x4 : zr (0) (255) x4) : zok (fX12_write_103 σ x3 x4) (zIM G) := by
  unfold fX12_write_103
  refine zok_if (fun q1 => ?_) (fun q1 => ?_)
  · have h2 := zc_eql (2) (2) q1 (rM_4 hσ.sg _ (by decide)) (zr_c (lo := 2) (hi := 2) (by decide)) (by decide)
    have h3 := rM_bk hσ.Y hσ.sg h2 (by decide)
    refine zok_if (fun q4 => ?_) (fun q4 => ?_)
    · have h5 := zc_ler (49152) q4 (zr_c (lo := 49152) (hi := 49152) (by decide)) h_x3 (by decide)
      exact (s_X12_write_140 hσ (zr_w h5 (by decide)) h_x4)
    have h6 := zc_ltl (49151) (z_nle q4) h_x3 (zr_c (lo := 49152) (hi := 49152) (by decide)) (by decide)
    refine zok_ck (by decide) ?_
    refine zok_if (fun q7 => ?_) (fun q7 => ?_)
    · have h8 := zc_eql (0) (0) q7 (zr_rem (lo := 0) (hi := 16383) 16384 (by decide) h6 (by decide)) (zr_c (lo := 0) (hi := 0) (by decide)) (by decide)
      refine zok_ck (by decide) ?_
      refine zok_ck (zin_ok (zr_add (lo := 29) (hi := 31) (zr_c (lo := 29) (hi := 29) (by decide)) (zr_div (lo := 0) (hi := 2) 16384 (by decide) h6 (by decide)) (by decide)) (by decide)) ?_
      refine zok_bs (hσ.wi 29 31 (z_ix (zr_add (lo := 29) (hi := 31) (zr_c (lo := 29) (hi := 29) (by decide)) (zr_div (lo := 0) (hi := 2) 16384 (by decide) h6 (by decide)) (by decide)) (by decide)) h_x4 (by decide +kernel)) (fun σ2 e10 i9 => ?_)
      exact (s_X12_write_140 i9 (zr_w h6 (by decide)) h_x4)
    have h11 := zc_nel (1) (16383) q7 (zr_rem (lo := 0) (hi := 16383) 16384 (by decide) h6 (by decide)) (zr_c (lo := 0) (hi := 0) (by decide)) (by decide)
    exact (s_X12_write_140 hσ (zr_w h6 (by decide)) h_x4)
  exact (s_X12_write_140 hσ h_x3 h_x4)
theorem s_X12_write_75 {G : Nat → Int} {σ : zSt} (hσ : zIM G σ) {x3 : Int32} (h_x3 : zr (0) (65535) x3) {x4 : Int32} (h_x4 : zr (0) (255) x4) : zok (fX12_write_75 σ x3 x4) (zIM G) := by
  unfold fX12_write_75
  refine zok_if (fun q1 => ?_) (fun q1 => ?_)
  · have h2 := zc_eql (1) (1) q1 (rM_4 hσ.sg _ (by decide)) (zr_c (lo := 1) (hi := 1) (by decide)) (by decide)
    have h3 := rM_bk hσ.Y hσ.sg h2 (by decide)
    refine zok_if (fun q4 => ?_) (fun q4 => ?_)
    · have h5 := zc_lel (65532) q4 h_x3 (zr_c (lo := 65532) (hi := 65532) (by decide)) (by decide)
      exact (s_X12_write_103 hσ (zr_w h5 (by decide)) h_x4)
    have h6 := zc_ltr (65533) (z_nle q4) (zr_c (lo := 65532) (hi := 65532) (by decide)) h_x3 (by decide)
    refine zok_ck (zin_ok (zr_sub (lo := 29) (hi := 31) (zr_add (lo := 65562) (hi := 65564) (zr_c (lo := 29) (hi := 29) (by decide)) h6 (by decide)) (zr_c (lo := 65533) (hi := 65533) (by decide)) (by decide)) (by decide)) ?_
    refine zok_bs (hσ.wi 29 31 (z_ix (zr_sub (lo := 29) (hi := 31) (zr_add (lo := 65562) (hi := 65564) (zr_c (lo := 29) (hi := 29) (by decide)) h6 (by decide)) (zr_c (lo := 65533) (hi := 65533) (by decide)) (by decide)) (by decide)) h_x4 (by decide +kernel)) (fun σ3 e8 i7 => ?_)
    exact (s_X12_write_103 i7 (zr_w h6 (by decide)) h_x4)
  exact (s_X12_write_103 hσ h_x3 h_x4)
theorem s_X12_write_52 {G : Nat → Int} {σ : zSt} (hσ : zIM G σ) {x3 : Int32} (h_x3 : zr (0) (65535) x3) {x4 : Int32} (h_x4 : zr (0) (255) x4) : zok (fX12_write_52 σ x3 x4) (zIM G) := by
  unfold fX12_write_52
  refine zok_if (fun q1 => ?_) (fun q1 => ?_)
  · have h2 := zc_eql (1) (1) q1 (rM_4 hσ.sg _ (by decide)) (zr_c (lo := 1) (hi := 1) (by decide)) (by decide)
    have h3 := rM_bk hσ.Y hσ.sg h2 (by decide)
    refine zok_if (fun q4 => ?_) (fun q4 => ?_)
    · have h5 := zc_eql (65532) (65532) q4 h_x3 (zr_c (lo := 65532) (hi := 65532) (by decide)) (by decide)
      refine zok_ck rfl ?_
      refine zok_bs (hσ.wi 32 32 (by decide) h_x4 (by decide +kernel)) (fun σ4 e7 i6 => ?_)
      exact (s_X12_write_75 i6 (zr_w h5 (by decide)) h_x4)
    exact (s_X12_write_75 hσ h_x3 h_x4)
  exact (s_X12_write_75 hσ h_x3 h_x4)
theorem s_X12_write_31 {G : Nat → Int} {σ : zSt} (hσ : zIM G σ) {x3 : Int32} (h_x3 : zr (0) (65535) x3) {x4 : Int32} (h_x4 : zr (0) (255) x4) : zok (fX12_write_31 σ x3 x4) (zIM G) := by
  unfold fX12_write_31
  refine zok_isBat (fun h1 => ?_) ?_
  · have h2 := h1
    refine zok_if (fun q3 => ?_) (fun q3 => ?_)
    · exact zr_no (zc_eql (1) (0) q3 (zr_c (lo := 1) (hi := 1) (by decide)) (zr_c (lo := 0) (hi := 0) (by decide)) (by decide)) (by decide)
    refine zok_pi (s_X12_batteryAt hσ.P h2) (fun v8 h4 => ?_)
    refine zok_ck (zin_ok h4 (by decide)) ?_
    refine zok_bs (hσ.wk (by decide)) (fun σ9 e6 i5 => ?_)
    exact (s_X12_write_52 i5 (zr_w h2 (by decide)) h_x4)
  refine zok_if (fun q7 => ?_) (fun q7 => ?_)
  · exact (s_X12_write_52 hσ h_x3 h_x4)
  exact zr_no (zc_nel (1) (0) q7 (zr_c (lo := 0) (hi := 0) (by decide)) (zr_c (lo := 0) (hi := 0) (by decide)) (by decide)) (by decide)
theorem s_X12_write {G : Nat → Int} {σ : zSt} (hσ : zIM G σ) {x1 : Int32} {x2 : Int32} : zok (fX12_write σ x1 x2) (zIM G) := by
  unfold fX12_write
  refine zok_br (zr_andr (lo := 0) (hi := 65535) (zr_c (lo := 65535) (hi := 65535) (by decide)) (by decide)) (fun v10 e2 h1 => ?_)
  refine zok_br (zr_andr (lo := 0) (hi := 255) (zr_c (lo := 255) (hi := 255) (by decide)) (by decide)) (fun v11 e4 h3 => ?_)
  refine zok_if (fun q5 => ?_) (fun q5 => ?_)
  · have h6 := zc_ltl (49151) q5 h1 (zr_c (lo := 49152) (hi := 49152) (by decide)) (by decide)
    exact (s_X12_write_31 hσ (zr_w h6 (by decide)) h3)
  have h7 := zc_ler (49152) (z_nlt q5) (zr_c (lo := 49152) (hi := 49152) (by decide)) h1 (by decide)
  refine zok_ck (by decide) ?_
  refine zok_ck (zin_ok (zr_rem (lo := 0) (hi := 8191) 8192 (by decide) h7 (by decide)) (by decide)) ?_
  refine zok_bs (hσ.wk (by decide)) (fun σ12 e9 i8 => ?_)
  exact (s_X12_write_31 i8 (zr_w h7 (by decide)) h3)
theorem s_X12_word {σ : zSt} (hσ : zPM σ) {x1 : Int32} (h_x1 : zr (0) (65535) x1) : zok (fX12_word σ x1) (zPi σ (fun v : Int32 => zr (0) (65535) v)) := by
  unfold fX12_word
  refine zok_pi (s_X12_read hσ) (fun v2 h1 => ?_)
  refine zok_pi (s_X12_read hσ) (fun v4 h2 => ?_)
  exact zok_spi (zr_or (lo := 0) (hi := 65535) 16 h1 (zr_shl (lo := 0) (hi := 65280) 8 (by decide) h2 (by decide)) (by decide))
theorem s_X12_wordTo {G : Nat → Int} {σ : zSt} (hσ : zIM G σ) {x1 : Int32} (h_x1 : zr (0) (65535) x1) {x2 : Int32} (h_x2 : zr (0) (65535) x2) : zok (fX12_wordTo σ x1 x2) (zIM G) := by
  unfold fX12_wordTo
  refine zok_bu (s_X12_write hσ) (fun σ1 i1 => ?_)
  refine zok_bu (s_X12_write i1) (fun σ2 i2 => ?_)
  exact zok_some i2
theorem s_X12_pair {σ : zSt} (hσ : zPM σ) {x1 : Int32} (h_x1 : zr (0) (6) x1) : zok (fX12_pair σ x1) (zPi σ (fun v : Int32 => zr (0) (65535) v)) := by
  unfold fX12_pair
  refine zok_ck (zin_ok h_x1 (by decide)) ?_
  refine zok_ck (zin_ok (zr_add (lo := 1) (hi := 7) h_x1 (zr_c (lo := 1) (hi := 1) (by decide)) (by decide)) (by decide)) ?_
  exact zok_spi (zr_or (lo := 0) (hi := 65535) 16 (zr_shl (lo := 0) (hi := 65280) 8 (by decide) (rM_11 hσ.sg _ (z_ix h_x1 (by decide))) (by decide)) (rM_11 hσ.sg _ (z_ix (zr_add (lo := 1) (hi := 7) h_x1 (zr_c (lo := 1) (hi := 1) (by decide)) (by decide)) (by decide))) (by decide))
theorem s_X12_pairTo {G : Nat → Int} {σ : zSt} (hσ : zIM G σ) {x1 : Int32} (h_x1 : zr (0) (6) x1) {x2 : Int32} (h_x2 : zr (-65536) (131071) x2) : zok (fX12_pairTo σ x1 x2) (zIM G) := by
  unfold fX12_pairTo
  refine zok_ck (zin_ok h_x1 (by decide)) ?_
  refine zok_bs (hσ.wi 0 6 (z_ix h_x1 (by decide)) (zr_andr (lo := 0) (hi := 255) (zr_c (lo := 255) (hi := 255) (by decide)) (by decide)) (by decide +kernel)) (fun σ1 e2 i1 => ?_)
  refine zok_ck (zin_ok (zr_add (lo := 1) (hi := 7) h_x1 (zr_c (lo := 1) (hi := 1) (by decide)) (by decide)) (by decide)) ?_
  refine zok_bs (i1.wi 1 7 (z_ix (zr_add (lo := 1) (hi := 7) h_x1 (zr_c (lo := 1) (hi := 1) (by decide)) (by decide)) (by decide)) (zr_andr (lo := 0) (hi := 255) (zr_c (lo := 255) (hi := 255) (by decide)) (by decide)) (by decide +kernel)) (fun σ2 e4 i3 => ?_)
  exact zok_some i3
theorem s_X12_hl_25 {σ : zSt} (hσ : zPM σ) {s0 : Int32} (h_s0 : zr (0) (65535) s0) : zok (fX12_hl_25 σ s0) (zPi σ (fun v : Int32 => zr (0) (65535) v)) := by
  unfold fX12_hl_25
  exact zok_spi h_s0
theorem s_X12_hl {σ : zSt} (hσ : zPM σ) : zok (fX12_hl σ ) (zPi σ (fun v : Int32 => zr (0) (65535) v)) := by
  unfold fX12_hl
  refine zok_if (fun q1 => ?_) (fun q1 => ?_)
  · have h2 := zc_eql (0) (0) q1 (rM_6 hσ.sg _ (by decide)) (zr_c (lo := 0) (hi := 0) (by decide)) (by decide)
    refine zok_pi (s_X12_pair hσ (zr_w (zr_c (lo := 6) (hi := 6) (by decide)) (by decide))) (fun v2 h3 => ?_)
    exact (s_X12_hl_25 hσ h3)
  have h4 := zc_nel (1) (17) q1 (rM_6 hσ.sg _ (by decide)) (zr_c (lo := 0) (hi := 0) (by decide)) (by decide)
  have h5 := xM_sp hσ.sp h4 (by decide)
  refine zok_ck (zin_ok h5 (by decide)) ?_
  exact (s_X12_hl_25 hσ (rM_12 hσ.sg _ (z_ix h5 (by decide))))
theorem s_X12_hlTo_30 {σ : zSt} (hσ : zPM σ) : zok (fX12_hlTo_30 σ ) (zPu σ) := by
  unfold fX12_hlTo_30
  exact zok_spu
theorem s_X12_hlTo {G : Nat → Int} {σ : zSt} (hσ : zIM G σ) {x1 : Int32} (h_x1 : zr (-65536) (131071) x1) : zok (fX12_hlTo σ x1) (zIM G) := by
  unfold fX12_hlTo
  refine zok_if (fun q1 => ?_) (fun q1 => ?_)
  · have h2 := zc_eql (0) (0) q1 (rM_6 hσ.sg _ (by decide)) (zr_c (lo := 0) (hi := 0) (by decide)) (by decide)
    refine zok_bu (s_X12_pairTo hσ (zr_w (zr_c (lo := 6) (hi := 6) (by decide)) (by decide)) h_x1) (fun σ2 i3 => ?_)
    exact zok_pau i3 (s_X12_hlTo_30 i3.P)
  have h4 := zc_nel (1) (17) q1 (rM_6 hσ.sg _ (by decide)) (zr_c (lo := 0) (hi := 0) (by decide)) (by decide)
  have h5 := xM_sp hσ.sp h4 (by decide)
  refine zok_ck (zin_ok h5 (by decide)) ?_
  refine zok_bs (hσ.wi 16 17 (z_ix h5 (by decide)) (zr_andr (lo := 0) (hi := 65535) (zr_c (lo := 65535) (hi := 65535) (by decide)) (by decide)) (by decide +kernel)) (fun σ1 e7 i6 => ?_)
  exact zok_pau i6 (s_X12_hlTo_30 i6.P)
theorem s_X12_rp_44 {σ : zSt} (hσ : zPM σ) {s0 : Int32} (h_s0 : zr (0) (65535) s0) : zok (fX12_rp_44 σ s0) (zPi σ (fun v : Int32 => zr (0) (65535) v)) := by
  unfold fX12_rp_44
  exact zok_spi h_s0
theorem s_X12_rp {σ : zSt} (hσ : zPM σ) {x1 : Int32} (h_x1 : zr (0) (3) x1) : zok (fX12_rp σ x1) (zPi σ (fun v : Int32 => zr (0) (65535) v)) := by
  unfold fX12_rp
  refine zok_if (fun q1 => ?_) (fun q1 => ?_)
  · have h2 := zc_eql (0) (0) q1 h_x1 (zr_c (lo := 0) (hi := 0) (by decide)) (by decide)
    refine zok_pi (s_X12_pair hσ (zr_w (zr_c (lo := 2) (hi := 2) (by decide)) (by decide))) (fun v6 h3 => ?_)
    exact (s_X12_rp_44 hσ h3)
  have h4 := zc_nel (1) (3) q1 h_x1 (zr_c (lo := 0) (hi := 0) (by decide)) (by decide)
  refine zok_if (fun q5 => ?_) (fun q5 => ?_)
  · have h6 := zc_eql (1) (1) q5 h4 (zr_c (lo := 1) (hi := 1) (by decide)) (by decide)
    refine zok_pi (s_X12_pair hσ (zr_w (zr_c (lo := 4) (hi := 4) (by decide)) (by decide))) (fun v4 h7 => ?_)
    exact (s_X12_rp_44 hσ h7)
  have h8 := zc_nel (2) (3) q5 h4 (zr_c (lo := 1) (hi := 1) (by decide)) (by decide)
  refine zok_if (fun q9 => ?_) (fun q9 => ?_)
  · have h10 := zc_eql (2) (2) q9 h8 (zr_c (lo := 2) (hi := 2) (by decide)) (by decide)
    refine zok_pi (s_X12_hl hσ) (fun v2 h11 => ?_)
    exact (s_X12_rp_44 hσ h11)
  have h12 := zc_nel (3) (3) q9 h8 (zr_c (lo := 2) (hi := 2) (by decide)) (by decide)
  refine zok_ck rfl ?_
  exact (s_X12_rp_44 hσ (rM_12 hσ.sg _ (by decide)))
theorem s_X12_rpTo_51 {σ : zSt} (hσ : zPM σ) : zok (fX12_rpTo_51 σ ) (zPu σ) := by
  unfold fX12_rpTo_51
  exact zok_spu
theorem s_X12_rpTo {G : Nat → Int} {σ : zSt} (hσ : zIM G σ) {x1 : Int32} (h_x1 : zr (0) (3) x1) {x2 : Int32} (h_x2 : zr (-1) (65536) x2) : zok (fX12_rpTo σ x1 x2) (zIM G) := by
  unfold fX12_rpTo
  refine zok_if (fun q1 => ?_) (fun q1 => ?_)
  · have h2 := zc_eql (0) (0) q1 h_x1 (zr_c (lo := 0) (hi := 0) (by decide)) (by decide)
    refine zok_bu (s_X12_pairTo hσ (zr_w (zr_c (lo := 2) (hi := 2) (by decide)) (by decide)) (zr_w h_x2 (by decide))) (fun σ4 i3 => ?_)
    exact zok_pau i3 (s_X12_rpTo_51 i3.P)
  have h4 := zc_nel (1) (3) q1 h_x1 (zr_c (lo := 0) (hi := 0) (by decide)) (by decide)
  refine zok_if (fun q5 => ?_) (fun q5 => ?_)
  · have h6 := zc_eql (1) (1) q5 h4 (zr_c (lo := 1) (hi := 1) (by decide)) (by decide)
    refine zok_bu (s_X12_pairTo hσ (zr_w (zr_c (lo := 4) (hi := 4) (by decide)) (by decide)) (zr_w h_x2 (by decide))) (fun σ3 i7 => ?_)
    exact zok_pau i7 (s_X12_rpTo_51 i7.P)
  have h8 := zc_nel (2) (3) q5 h4 (zr_c (lo := 1) (hi := 1) (by decide)) (by decide)
  refine zok_if (fun q9 => ?_) (fun q9 => ?_)
  · have h10 := zc_eql (2) (2) q9 h8 (zr_c (lo := 2) (hi := 2) (by decide)) (by decide)
    refine zok_bu (s_X12_hlTo hσ (zr_w h_x2 (by decide))) (fun σ2 i11 => ?_)
    exact zok_pau i11 (s_X12_rpTo_51 i11.P)
  have h12 := zc_nel (3) (3) q9 h8 (zr_c (lo := 2) (hi := 2) (by decide)) (by decide)
  refine zok_ck rfl ?_
  refine zok_bs (hσ.wi 18 18 (by decide) (zr_andr (lo := 0) (hi := 65535) (zr_c (lo := 65535) (hi := 65535) (by decide)) (by decide)) (by decide +kernel)) (fun σ1 e14 i13 => ?_)
  exact zok_pau i13 (s_X12_rpTo_51 i13.P)
theorem s_X12_m_23 {σ : zSt} (hσ : zPM σ) {s0 : Int32} (h_s0 : zr (0) (65535) s0) : zok (fX12_m_23 σ s0) (zPi σ (fun v : Int32 => zr (0) (65535) v)) := by
  unfold fX12_m_23
  exact zok_spi h_s0
theorem s_X12_m {σ : zSt} (hσ : zPM σ) : zok (fX12_m σ ) (zPi σ (fun v : Int32 => zr (0) (65535) v)) := by
  unfold fX12_m
  refine zok_if (fun q1 => ?_) (fun q1 => ?_)
  · have h2 := zc_eql (0) (0) q1 (rM_7 hσ.sg _ (by decide)) (zr_c (lo := 0) (hi := 0) (by decide)) (by decide)
    refine zok_pi (s_X12_pair hσ (zr_w (zr_c (lo := 6) (hi := 6) (by decide)) (by decide))) (fun v2 h3 => ?_)
    exact (s_X12_m_23 hσ h3)
  have h4 := zc_nel (1) (1) q1 (rM_7 hσ.sg _ (by decide)) (zr_c (lo := 0) (hi := 0) (by decide)) (by decide)
  refine zok_ck rfl ?_
  exact (s_X12_m_23 hσ (rM_12 hσ.sg _ (by decide)))
theorem s_X12_r_74 {σ : zSt} (hσ : zPM σ) {x1 : Int32} (h_x1 : zr (0) (6) x1) : zok (fX12_r_74 σ x1) (zPi σ (fun v : Int32 => zr (0) (255) v)) := by
  unfold fX12_r_74
  refine zok_ck (zin_ok (zr_add (lo := 2) (hi := 8) (zr_c (lo := 2) (hi := 2) (by decide)) h_x1 (by decide)) (by decide)) ?_
  exact zok_spi (rM_11 hσ.sg _ (z_ix (zr_add (lo := 2) (hi := 8) (zr_c (lo := 2) (hi := 2) (by decide)) h_x1 (by decide)) (by decide)))
theorem s_X12_r_73 {σ : zSt} (hσ : zPM σ) {s0 : Int32} (h_s0 : zr (0) (255) s0) : zok (fX12_r_73 σ s0) (zPi σ (fun v : Int32 => zr (0) (255) v)) := by
  unfold fX12_r_73
  exact zok_spi h_s0
theorem s_X12_r {σ : zSt} (hσ : zPM σ) {x1 : Int32} (h_x1 : zr (0) (7) x1) : zok (fX12_r σ x1) (zPi σ (fun v : Int32 => zr (0) (255) v)) := by
  unfold fX12_r
  refine zok_if (fun q1 => ?_) (fun q1 => ?_)
  · have h2 := zc_eql (6) (6) q1 h_x1 (zr_c (lo := 6) (hi := 6) (by decide)) (by decide)
    refine zok_pi (s_X12_m hσ) (fun v2 h3 => ?_)
    refine zok_pi (s_X12_read hσ) (fun v4 h4 => ?_)
    exact zok_spi h4
  refine zok_if (fun q5 => ?_) (fun q5 => ?_)
  · have h6 := zc_eql (7) (7) q5 h_x1 (zr_c (lo := 7) (hi := 7) (by decide)) (by decide)
    refine zok_ck rfl ?_
    exact zok_spi (rM_11 hσ.sg _ (by decide))
  have h7 := zc_nel (0) (6) q5 h_x1 (zr_c (lo := 7) (hi := 7) (by decide)) (by decide)
  refine zok_if (fun q8 => ?_) (fun q8 => ?_)
  · have h9 := zc_lel (0) q8 (rM_6 hσ.sg _ (by decide)) (zr_c (lo := 0) (hi := 0) (by decide)) (by decide)
    exact (s_X12_r_74 hσ h7)
  have h10 := zc_ltr (1) (z_nle q8) (zr_c (lo := 0) (hi := 0) (by decide)) (rM_6 hσ.sg _ (by decide)) (by decide)
  have h11 := xM_sp hσ.sp h10 (by decide)
  refine zok_if (fun q12 => ?_) (fun q12 => ?_)
  · have h13 := zc_lel (3) q12 h7 (zr_c (lo := 3) (hi := 3) (by decide)) (by decide)
    exact (s_X12_r_74 hσ (zr_w h13 (by decide)))
  have h14 := zc_ltr (4) (z_nle q12) (zr_c (lo := 3) (hi := 3) (by decide)) h7 (by decide)
  refine zok_if (fun q15 => ?_) (fun q15 => ?_)
  · have h16 := zc_eql (4) (4) q15 h14 (zr_c (lo := 4) (hi := 4) (by decide)) (by decide)
    refine zok_ck (zin_ok h11 (by decide)) ?_
    exact (s_X12_r_73 hσ (zr_shr (lo := 0) (hi := 255) 8 (by decide) (rM_12 hσ.sg _ (z_ix h11 (by decide))) (by decide)))
  have h17 := zc_nel (5) (6) q15 h14 (zr_c (lo := 4) (hi := 4) (by decide)) (by decide)
  refine zok_ck (zin_ok h11 (by decide)) ?_
  exact (s_X12_r_73 hσ (zr_andr (lo := 0) (hi := 255) (zr_c (lo := 255) (hi := 255) (by decide)) (by decide)))
theorem s_X12_rTo_113 {σ : zSt} (hσ : zPM σ) : zok (fX12_rTo_113 σ ) (zPu σ) := by
  unfold fX12_rTo_113
  exact zok_spu
