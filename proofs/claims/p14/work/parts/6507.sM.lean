theorem s_X12_save_12 {G : Nat → Int} : ∀ (n : Nat) {σ : zSt} (hσ : zEM [6, 7, 8, 102, 105, 106] G σ) {x1 : Int32} (h_x1 : zr (0) (1048) x1) (hm : (1048) - x1.toInt < n), zok (fX12_save_12 n σ x1) (zEM [6, 7, 8, 102, 105, 106] G) := by
  intro n
  induction n with
  | zero => intro σ hσ x1 h_x1 hm ; have h9 := h_x1.1; have h8 := h_x1.2; exfalso; omega
  | succ n ih => intro σ hσ x1 h_x1 hm ; exact s_X12_save_12_body (fun σ x1 hσ h_x1 hm1 => ih hσ h_x1 (by omega)) hσ h_x1 (Int.le_refl _)
theorem s_X12_save {G : Nat → Int} {σ : zSt} (hσ : zEM [2, 6, 7, 8, 102, 105, 106] G σ) : zok (fX12_save σ ) (zEM [2, 6, 7, 8, 102, 105, 106] G) := by
  unfold fX12_save
  refine zok_bs (hσ.wi 0 0 (by decide) (zr_c (lo := 0) (hi := 0) (by decide)) (by decide +kernel)) (fun σ18 e2 i1 => ?_)
  refine zok_ck rfl ?_
  refine zok_bs (i1.wi 19 19 (by decide) (zr_c (lo := 1) (hi := 1) (by decide)) (by decide +kernel)) (fun σ19 e4 i3 => ?_)
  exact (i3.uEu (by decide) (fun G1 hG => s_X12_save_12 zfuel hG (zr_w (zr_c (lo := 0) (hi := 0) (by decide)) (by decide)) (by decide)))
theorem s_X12_restore_207_body {G : Nat → Int} {σ : zSt} {k207 : zSt → Int32 → Option (zSt)} {Mk207 : Int} (hk207 : ∀ (σ : zSt) (x1 : Int32), zIM G σ → zr (0) (4096) x1 → (4096) - x1.toInt < Mk207 → zok (k207 σ x1) (zIM G)) (hσ : zIM G σ) {x1 : Int32} (h_x1 : zr (0) (4096) x1) (hMk207 : (4096) - x1.toInt ≤ Mk207) : zok (fX12_restore_207_body k207 σ x1) (zIM G) := by
  unfold fX12_restore_207_body
  refine zok_if (fun q1 => ?_) (fun q1 => ?_)
  · have h2 := zc_ler (4096) q1 (zr_c (lo := 4096) (hi := 4096) (by decide)) h_x1 (by decide)
    exact zok_some hσ
  have h3 := zc_ltl (4095) (z_nle q1) h_x1 (zr_c (lo := 4096) (hi := 4096) (by decide)) (by decide)
  refine zok_ck (zin_ok h3 (by decide)) ?_
  refine zok_ck (zin_ok h3 (by decide)) ?_
  refine zok_bs (hσ.wl 0 4095 (z_ix h3 (by decide)) (by decide)) (fun σ1 e5 i4 => ?_)
  refine zok_ck (zin_ok h3 (by decide)) ?_
  refine zok_ck (zin_ok h3 (by decide)) ?_
  refine zok_bs (i4.wl 0 4095 (z_ix h3 (by decide)) (by decide)) (fun σ2 e7 i6 => ?_)
  refine zok_br (zr_add (lo := 1) (hi := 4096) h3 (zr_c (lo := 1) (hi := 1) (by decide)) (by decide)) (fun v3 e9 h8 => ?_)
  exact hk207 _ _ i6 (zr_w h8 (by decide)) (by rw [e9]; have := z_tadd (y := (1 : Int32)) h3 (zr_c (lo := 1) (hi := 1) (by decide)) (by decide); have e9 : (1 : Int32).toInt = 1 := rfl; omega) 
theorem s_X12_restore_207 {G : Nat → Int} : ∀ (n : Nat) {σ : zSt} (hσ : zIM G σ) {x1 : Int32} (h_x1 : zr (0) (4096) x1) (hm : (4096) - x1.toInt < n), zok (fX12_restore_207 n σ x1) (zIM G) := by
  intro n
  induction n with
  | zero => intro σ hσ x1 h_x1 hm ; have h9 := h_x1.1; have h8 := h_x1.2; exfalso; omega
  | succ n ih => intro σ hσ x1 h_x1 hm ; exact s_X12_restore_207_body (fun σ x1 hσ h_x1 hm1 => ih hσ h_x1 (by omega)) hσ h_x1 (Int.le_refl _)
theorem s_X12_restore_181_body {G : Nat → Int} {σ : zSt} {k181 : zSt → Int32 → Option (zSt)} {Mk181 : Int} (hk181 : ∀ (σ : zSt) (x1 : Int32), zIM G σ → zr (0) (61440) x1 → (61440) - x1.toInt < Mk181 → zok (k181 σ x1) (zIM G)) (hσ : zIM G σ) {x1 : Int32} (h_x1 : zr (0) (61440) x1) (hMk181 : (61440) - x1.toInt ≤ Mk181) : zok (fX12_restore_181_body k181 σ x1) (zIM G) := by
  unfold fX12_restore_181_body
  refine zok_if (fun q1 => ?_) (fun q1 => ?_)
  · have h2 := zc_ler (61440) q1 (zr_c (lo := 61440) (hi := 61440) (by decide)) h_x1 (by decide)
    exact (s_X12_restore_207 zfuel hσ (zr_w (zr_c (lo := 0) (hi := 0) (by decide)) (by decide)) (by decide))
  have h3 := zc_ltl (61439) (z_nle q1) h_x1 (zr_c (lo := 61440) (hi := 61440) (by decide)) (by decide)
  refine zok_ck (zin_ok h3 (by decide)) ?_
  refine zok_ck (zin_ok h3 (by decide)) ?_
  refine zok_bs (hσ.wk (by decide)) (fun σ4 e5 i4 => ?_)
  refine zok_br (zr_add (lo := 1) (hi := 61440) h3 (zr_c (lo := 1) (hi := 1) (by decide)) (by decide)) (fun v5 e7 h6 => ?_)
  exact hk181 _ _ i4 (zr_w h6 (by decide)) (by rw [e7]; have := z_tadd (y := (1 : Int32)) h3 (zr_c (lo := 1) (hi := 1) (by decide)) (by decide); have e9 : (1 : Int32).toInt = 1 := rfl; omega) 
theorem s_X12_restore_181 {G : Nat → Int} : ∀ (n : Nat) {σ : zSt} (hσ : zIM G σ) {x1 : Int32} (h_x1 : zr (0) (61440) x1) (hm : (61440) - x1.toInt < n), zok (fX12_restore_181 n σ x1) (zIM G) := by
  intro n
  induction n with
  | zero => intro σ hσ x1 h_x1 hm ; have h9 := h_x1.1; have h8 := h_x1.2; exfalso; omega
  | succ n ih => intro σ hσ x1 h_x1 hm ; exact s_X12_restore_181_body (fun σ x1 hσ h_x1 hm1 => ih hσ h_x1 (by omega)) hσ h_x1 (Int.le_refl _)
theorem s_X12_restore_155_body {G : Nat → Int} {σ : zSt} {k155 : zSt → Int32 → Option (zSt)} {Mk155 : Int} (hk155 : ∀ (σ : zSt) (x1 : Int32), zIM G σ → zr (0) (64) x1 → (64) - x1.toInt < Mk155 → zok (k155 σ x1) (zIM G)) (hσ : zIM G σ) {x1 : Int32} (h_x1 : zr (0) (64) x1) (hMk155 : (64) - x1.toInt ≤ Mk155) : zok (fX12_restore_155_body k155 σ x1) (zIM G) := by
  unfold fX12_restore_155_body
  refine zok_if (fun q1 => ?_) (fun q1 => ?_)
  · have h2 := zc_ler (64) q1 (zr_c (lo := 64) (hi := 64) (by decide)) h_x1 (by decide)
    exact (s_X12_restore_181 zfuel hσ (zr_w (zr_c (lo := 0) (hi := 0) (by decide)) (by decide)) (by decide))
  have h3 := zc_ltl (63) (z_nle q1) h_x1 (zr_c (lo := 64) (hi := 64) (by decide)) (by decide)
  refine zok_ck (zin_ok h3 (by decide)) ?_
  refine zok_ck (zin_ok h3 (by decide)) ?_
  refine zok_bs (hσ.wk (by decide)) (fun σ6 e5 i4 => ?_)
  refine zok_br (zr_add (lo := 1) (hi := 64) h3 (zr_c (lo := 1) (hi := 1) (by decide)) (by decide)) (fun v7 e7 h6 => ?_)
  exact hk155 _ _ i4 (zr_w h6 (by decide)) (by rw [e7]; have := z_tadd (y := (1 : Int32)) h3 (zr_c (lo := 1) (hi := 1) (by decide)) (by decide); have e9 : (1 : Int32).toInt = 1 := rfl; omega) 
theorem s_X12_restore_155 {G : Nat → Int} : ∀ (n : Nat) {σ : zSt} (hσ : zIM G σ) {x1 : Int32} (h_x1 : zr (0) (64) x1) (hm : (64) - x1.toInt < n), zok (fX12_restore_155 n σ x1) (zIM G) := by
  intro n
  induction n with
  | zero => intro σ hσ x1 h_x1 hm ; have h9 := h_x1.1; have h8 := h_x1.2; exfalso; omega
  | succ n ih => intro σ hσ x1 h_x1 hm ; exact s_X12_restore_155_body (fun σ x1 hσ h_x1 hm1 => ih hσ h_x1 (by omega)) hσ h_x1 (Int.le_refl _)
theorem s_X12_restore_128_body {G : Nat → Int} {σ : zSt} {k128 : zSt → Int32 → Option (zSt)} {Mk128 : Int} (hk128 : ∀ (σ : zSt) (x1 : Int32), zIM G σ → zr (0) (16384) x1 → (16384) - x1.toInt < Mk128 → zok (k128 σ x1) (zIM G)) (hσ : zIM G σ) {x1 : Int32} (h_x1 : zr (0) (16384) x1) (hMk128 : (16384) - x1.toInt ≤ Mk128) : zok (fX12_restore_128_body k128 σ x1) (zIM G) := by
  unfold fX12_restore_128_body
  refine zok_if (fun q1 => ?_) (fun q1 => ?_)
  · have h2 := zc_ler (16384) q1 (zr_c (lo := 16384) (hi := 16384) (by decide)) h_x1 (by decide)
    exact (s_X12_restore_155 zfuel hσ (zr_w (zr_c (lo := 0) (hi := 0) (by decide)) (by decide)) (by decide))
  have h3 := zc_ltl (16383) (z_nle q1) h_x1 (zr_c (lo := 16384) (hi := 16384) (by decide)) (by decide)
  refine zok_ck (zin_ok h3 (by decide)) ?_
  refine zok_ck (zin_ok h3 (by decide)) ?_
  refine zok_bs (hσ.wk (by decide)) (fun σ8 e5 i4 => ?_)
  refine zok_br (zr_add (lo := 1) (hi := 16384) h3 (zr_c (lo := 1) (hi := 1) (by decide)) (by decide)) (fun v9 e7 h6 => ?_)
  exact hk128 _ _ i4 (zr_w h6 (by decide)) (by rw [e7]; have := z_tadd (y := (1 : Int32)) h3 (zr_c (lo := 1) (hi := 1) (by decide)) (by decide); have e9 : (1 : Int32).toInt = 1 := rfl; omega) 
theorem s_X12_restore_128 {G : Nat → Int} : ∀ (n : Nat) {σ : zSt} (hσ : zIM G σ) {x1 : Int32} (h_x1 : zr (0) (16384) x1) (hm : (16384) - x1.toInt < n), zok (fX12_restore_128 n σ x1) (zIM G) := by
  intro n
  induction n with
  | zero => intro σ hσ x1 h_x1 hm ; have h9 := h_x1.1; have h8 := h_x1.2; exfalso; omega
  | succ n ih => intro σ hσ x1 h_x1 hm ; exact s_X12_restore_128_body (fun σ x1 hσ h_x1 hm1 => ih hσ h_x1 (by omega)) hσ h_x1 (Int.le_refl _)
theorem s_X12_restore_102_body {G : Nat → Int} {σ : zSt} {k102 : zSt → Int32 → Option (zSt)} {Mk102 : Int} (hk102 : ∀ (σ : zSt) (x1 : Int32), zIM G σ → zr (0) (32768) x1 → (32768) - x1.toInt < Mk102 → zok (k102 σ x1) (zIM G)) (hσ : zIM G σ) {x1 : Int32} (h_x1 : zr (0) (32768) x1) (hMk102 : (32768) - x1.toInt ≤ Mk102) : zok (fX12_restore_102_body k102 σ x1) (zIM G) := by
  unfold fX12_restore_102_body
  refine zok_if (fun q1 => ?_) (fun q1 => ?_)
  · have h2 := zc_ler (32768) q1 (zr_c (lo := 32768) (hi := 32768) (by decide)) h_x1 (by decide)
    exact (s_X12_restore_128 zfuel hσ (zr_w (zr_c (lo := 0) (hi := 0) (by decide)) (by decide)) (by decide))
  have h3 := zc_ltl (32767) (z_nle q1) h_x1 (zr_c (lo := 32768) (hi := 32768) (by decide)) (by decide)
  refine zok_ck (zin_ok h3 (by decide)) ?_
  refine zok_ck (zin_ok h3 (by decide)) ?_
  refine zok_bs (hσ.wk (by decide)) (fun σ10 e5 i4 => ?_)
  refine zok_br (zr_add (lo := 1) (hi := 32768) h3 (zr_c (lo := 1) (hi := 1) (by decide)) (by decide)) (fun v11 e7 h6 => ?_)
  exact hk102 _ _ i4 (zr_w h6 (by decide)) (by rw [e7]; have := z_tadd (y := (1 : Int32)) h3 (zr_c (lo := 1) (hi := 1) (by decide)) (by decide); have e9 : (1 : Int32).toInt = 1 := rfl; omega) 
theorem s_X12_restore_102 {G : Nat → Int} : ∀ (n : Nat) {σ : zSt} (hσ : zIM G σ) {x1 : Int32} (h_x1 : zr (0) (32768) x1) (hm : (32768) - x1.toInt < n), zok (fX12_restore_102 n σ x1) (zIM G) := by
  intro n
  induction n with
  | zero => intro σ hσ x1 h_x1 hm ; have h9 := h_x1.1; have h8 := h_x1.2; exfalso; omega
  | succ n ih => intro σ hσ x1 h_x1 hm ; exact s_X12_restore_102_body (fun σ x1 hσ h_x1 hm1 => ih hσ h_x1 (by omega)) hσ h_x1 (Int.le_refl _)
theorem s_X12_restore_75_body {G : Nat → Int} {σ : zSt} {k75 : zSt → Int32 → Option (zSt)} {Mk75 : Int} (hk75 : ∀ (σ : zSt) (x1 : Int32), zIM G σ → zr (0) (8192) x1 → (8192) - x1.toInt < Mk75 → zok (k75 σ x1) (zIM G)) (hσ : zIM G σ) {x1 : Int32} (h_x1 : zr (0) (8192) x1) (hMk75 : (8192) - x1.toInt ≤ Mk75) : zok (fX12_restore_75_body k75 σ x1) (zIM G) := by
  unfold fX12_restore_75_body
  refine zok_if (fun q1 => ?_) (fun q1 => ?_)
  · have h2 := zc_ler (8192) q1 (zr_c (lo := 8192) (hi := 8192) (by decide)) h_x1 (by decide)
    exact (s_X12_restore_102 zfuel hσ (zr_w (zr_c (lo := 0) (hi := 0) (by decide)) (by decide)) (by decide))
  have h3 := zc_ltl (8191) (z_nle q1) h_x1 (zr_c (lo := 8192) (hi := 8192) (by decide)) (by decide)
  refine zok_ck (zin_ok h3 (by decide)) ?_
  refine zok_ck (zin_ok h3 (by decide)) ?_
  refine zok_bs (hσ.wk (by decide)) (fun σ12 e5 i4 => ?_)
  refine zok_br (zr_add (lo := 1) (hi := 8192) h3 (zr_c (lo := 1) (hi := 1) (by decide)) (by decide)) (fun v13 e7 h6 => ?_)
  exact hk75 _ _ i4 (zr_w h6 (by decide)) (by rw [e7]; have := z_tadd (y := (1 : Int32)) h3 (zr_c (lo := 1) (hi := 1) (by decide)) (by decide); have e9 : (1 : Int32).toInt = 1 := rfl; omega) 
theorem s_X12_restore_75 {G : Nat → Int} : ∀ (n : Nat) {σ : zSt} (hσ : zIM G σ) {x1 : Int32} (h_x1 : zr (0) (8192) x1) (hm : (8192) - x1.toInt < n), zok (fX12_restore_75 n σ x1) (zIM G) := by
  intro n
  induction n with
  | zero => intro σ hσ x1 h_x1 hm ; have h9 := h_x1.1; have h8 := h_x1.2; exfalso; omega
  | succ n ih => intro σ hσ x1 h_x1 hm ; exact s_X12_restore_75_body (fun σ x1 hσ h_x1 hm1 => ih hσ h_x1 (by omega)) hσ h_x1 (Int.le_refl _)
theorem s_X12_restore_50_body {G : Nat → Int} {σ : zSt} {k50 : zSt → Int32 → Option (zSt)} {Mk50 : Int} (hk50 : ∀ (σ : zSt) (x1 : Int32), zEM [100, 101, 104] G σ → zr (0) (5) x1 → (5) - x1.toInt < Mk50 → zok (k50 σ x1) (zEM [100, 101, 104] G)) (hσ : zEM [100, 101, 104] G σ) {x1 : Int32} (h_x1 : zr (0) (5) x1) (hMk50 : (5) - x1.toInt ≤ Mk50) : zok (fX12_restore_50_body k50 σ x1) (zEM [100, 101, 104] G) := by
  unfold fX12_restore_50_body
  refine zok_if (fun q1 => ?_) (fun q1 => ?_)
  · have h2 := zc_ler (5) q1 (zr_c (lo := 5) (hi := 5) (by decide)) h_x1 (by decide)
    exact (hσ.upu (fun G1 hG => s_X12_restore_75 zfuel hG (zr_w (zr_c (lo := 0) (hi := 0) (by decide)) (by decide)) (by decide)))
  have h3 := zc_ltl (4) (z_nle q1) h_x1 (zr_c (lo := 5) (hi := 5) (by decide)) (by decide)
  refine zok_ck (zin_ok h3 (by decide)) ?_
  refine zok_ck (zin_ok h3 (by decide)) ?_
  refine zok_bs (hσ.wle 0 4 (z_ix h3 (by decide)) (by decide +kernel)) (fun σ14 e5 i4 => ?_)
  refine zok_br (zr_add (lo := 1) (hi := 5) h3 (zr_c (lo := 1) (hi := 1) (by decide)) (by decide)) (fun v15 e7 h6 => ?_)
  exact hk50 _ _ i4 (zr_w h6 (by decide)) (by rw [e7]; have := z_tadd (y := (1 : Int32)) h3 (zr_c (lo := 1) (hi := 1) (by decide)) (by decide); have e9 : (1 : Int32).toInt = 1 := rfl; omega) 
theorem s_X12_restore_50 {G : Nat → Int} : ∀ (n : Nat) {σ : zSt} (hσ : zEM [100, 101, 104] G σ) {x1 : Int32} (h_x1 : zr (0) (5) x1) (hm : (5) - x1.toInt < n), zok (fX12_restore_50 n σ x1) (zEM [100, 101, 104] G) := by
  intro n
  induction n with
  | zero => intro σ hσ x1 h_x1 hm ; have h9 := h_x1.1; have h8 := h_x1.2; exfalso; omega
  | succ n ih => intro σ hσ x1 h_x1 hm ; exact s_X12_restore_50_body (fun σ x1 hσ h_x1 hm1 => ih hσ h_x1 (by omega)) hσ h_x1 (Int.le_refl _)
theorem s_X12_restore_23_body {G : Nat → Int} {σ : zSt} {k23 : zSt → Int32 → Option (zSt)} {Mk23 : Int} (hk23 : ∀ (σ : zSt) (x1 : Int32), zEM [3, 4, 5, 100, 101, 104] G σ → zr (0) (1048) x1 → (1048) - x1.toInt < Mk23 → zok (k23 σ x1) (zEM [3, 4, 5, 100, 101, 104] G)) (hσ : zEM [3, 4, 5, 100, 101, 104] G σ) {x1 : Int32} (h_x1 : zr (0) (1048) x1) (hMk23 : (1048) - x1.toInt ≤ Mk23) : zok (fX12_restore_23_body k23 σ x1) (zEM [3, 4, 5, 100, 101, 104] G) := by
  unfold fX12_restore_23_body
  refine zok_if (fun q => ?_) (fun q => ?_)
  · exact hσ.uEu (l1 := [100, 101, 104]) (by decide) (fun G1 h1 => s_X12_restore_50 zfuel h1 (zr_c (by decide)) (by decide))
  · have q1 := Int32.lt_iff_toInt_lt.mp (z_nle q)
    have c2 : (1048 : Int32).toInt = 1048 := rfl
    have h5 : zr 0 1047 x1 := ⟨h_x1.1, by omega⟩
    have c1 : (1 : Int32).toInt = 1 := rfl
    have b := h_x1.1
    have t : (x1 + 1).toInt = x1.toInt + (1 : Int32).toInt := z_tadd h5 (zr_c (lo := 1) (hi := 1) (x := 1) (by decide)) (by decide)
    refine zok_ck (zin_ok h5 (by decide)) (zok_ck (zin_ok h5 (by decide)) ?_)
    refine zok_bs (I := zEM [3, 4, 5, 100, 101, 104] G) (hσ.c3 (z_ix h5 (by decide)) (by decide +kernel)) (fun σ1 e1 i1 => ?_)
    refine zok_bv (fun v3 e3 => ?_)
    subst e3
    exact hk23 _ _ i1 ⟨by omega, by omega⟩ (by omega)
theorem s_X12_restore_23 {G : Nat → Int} : ∀ (n : Nat) {σ : zSt} (hσ : zEM [3, 4, 5, 100, 101, 104] G σ) {x1 : Int32} (h_x1 : zr (0) (1048) x1) (hm : (1048) - x1.toInt < n), zok (fX12_restore_23 n σ x1) (zEM [3, 4, 5, 100, 101, 104] G) := by
  intro n
  induction n with
  | zero => intro σ hσ x1 h_x1 hm ; have h9 := h_x1.1; have h8 := h_x1.2; exfalso; omega
  | succ n ih => intro σ hσ x1 h_x1 hm ; exact s_X12_restore_23_body (fun σ x1 hσ h_x1 hm1 => ih hσ h_x1 (by omega)) hσ h_x1 (Int.le_refl _)
theorem s_X12_restore {G : Nat → Int} {σ : zSt} (hσ : zEM [3, 4, 5, 100, 101, 104] G σ) : zok (fX12_restore σ ) (zEM [3, 4, 5, 100, 101, 104] G) := by
  unfold fX12_restore
  refine zok_if (fun q1 => ?_) (fun q1 => ?_)
  · have h2 := zc_eql (0) (0) q1 zr_any (zr_c (lo := 0) (hi := 0) (by decide)) (by decide)
    unfold fX12_restore_13
    refine zok_fails1 (hσ.wi 0 0 (by decide) zr_any (by decide +kernel)) (fun σ18 e3 i4 => ?_)
    refine zok_if (fun q5 => ?_) (fun q5 => ?_)
    · exact zr_no (zc_eql (1) (0) q5 (zr_c (lo := 1) (hi := 1) (by decide)) (zr_c (lo := 0) (hi := 0) (by decide)) (by decide)) (by decide)
    exact zok_some i4
  unfold fX12_restore_13
  refine zok_fails0 (hσ.wi 0 0 (by decide) zr_any (by decide +kernel)) (fun σ18 e6 i7 => ?_)
  refine zok_if (fun q8 => ?_) (fun q8 => ?_)
  · exact (s_X12_restore_23 zfuel i7 (zr_w (zr_c (lo := 0) (hi := 0) (by decide)) (by decide)) (by decide))
  exact zr_no (zc_nel (1) (0) q8 (zr_c (lo := 0) (hi := 0) (by decide)) (zr_c (lo := 0) (hi := 0) (by decide)) (by decide)) (by decide)
theorem s_X12_register {G : Nat → Int} {σ : zSt} (hσ : zIM G σ) {x1 : Int32} : zok (fX12_register σ x1) (zAi (zIM G) (fun v : Int32 => True)) := by
  unfold fX12_register
  refine zok_within (fun w1 w2 => ?_) (fun w3 => ?_)
  · have h4 := z_wir w1 w2 (zrl_c (lo := 0) (hi := 0) (by decide)) (zrl_c (lo := 26) (hi := 26) (by decide))
    refine zok_if (fun q5 => ?_) (fun q5 => ?_)
    · exact zr_no (zc_eql (1) (0) q5 (zr_c (lo := 1) (hi := 1) (by decide)) (zr_c (lo := 0) (hi := 0) (by decide)) (by decide)) (by decide)
    unfold fX12_register_18
    refine zok_fails0 (hσ.wi 0 0 (by decide) zr_any (by decide +kernel)) (fun σ1 e6 i7 => ?_)
    refine zok_if (fun q8 => ?_) (fun q8 => ?_)
    · refine zok_ck (zin_ok h4 (by decide)) ?_
      unfold fX12_register_35
      exact zok_sai i7 trivial
    exact zr_no (zc_nel (1) (0) q8 (zr_c (lo := 0) (hi := 0) (by decide)) (zr_c (lo := 0) (hi := 0) (by decide)) (by decide)) (by decide)
  refine zok_if (fun q9 => ?_) (fun q9 => ?_)
  · unfold fX12_register_18
    refine zok_fails1 (hσ.wi 0 0 (by decide) zr_any (by decide +kernel)) (fun σ1 e10 i11 => ?_)
    refine zok_if (fun q12 => ?_) (fun q12 => ?_)
    · exact zr_no (zc_eql (1) (0) q12 (zr_c (lo := 1) (hi := 1) (by decide)) (zr_c (lo := 0) (hi := 0) (by decide)) (by decide)) (by decide)
    unfold fX12_register_35
    exact zok_sai i11 trivial
  exact zr_no (zc_nel (1) (0) q9 (zr_c (lo := 0) (hi := 0) (by decide)) (zr_c (lo := 0) (hi := 0) (by decide)) (by decide)) (by decide)
theorem s_X12_set {G : Nat → Int} {σ : zSt} (hσ : zIM G σ) {x1 : Int32} {x2 : Int32} : zok (fX12_set σ x1 x2) (zIM G) := by
  unfold fX12_set
  refine zok_within (fun w1 w2 => ?_) (fun w3 => ?_)
  · have h4 := z_wir w1 w2 (zrl_c (lo := 0) (hi := 0) (by decide)) (zrl_c (lo := 25) (hi := 25) (by decide))
    refine zok_if (fun q5 => ?_) (fun q5 => ?_)
    · exact zr_no (zc_eql (1) (0) q5 (zr_c (lo := 1) (hi := 1) (by decide)) (zr_c (lo := 0) (hi := 0) (by decide)) (by decide)) (by decide)
    unfold fX12_set_18
    refine zok_fails0 (hσ.wi 0 0 (by decide) zr_any (by decide +kernel)) (fun σ3 e6 i7 => ?_)
    refine zok_if (fun q8 => ?_) (fun q8 => ?_)
    · refine zok_if (fun q9 => ?_) (fun q9 => ?_)
      · have h10 := zc_eql (25) (25) q9 h4 (zr_c (lo := 25) (hi := 25) (by decide)) (by decide)
        refine zok_if (fun q11 => ?_) (fun q11 => ?_)
        · have h12 := zc_eql (3) (3) q11 (zr_andr (lo := 0) (hi := 3) (zr_c (lo := 3) (hi := 3) (by decide)) (by decide)) (zr_c (lo := 3) (hi := 3) (by decide)) (by decide)
          unfold fX12_set_51
          refine zok_ck (zin_ok h10 (by decide)) ?_
          refine zok_bs (i7.wi 25 25 (z_ix h10 (by decide)) (zr_c (lo := 2) (hi := 2) (by decide)) (by decide +kernel)) (fun σ1 e14 i13 => ?_)
          unfold fX12_set_105
          exact zok_some i13
        have h15 := zc_nel (0) (2) q11 (zr_andr (lo := 0) (hi := 3) (zr_c (lo := 3) (hi := 3) (by decide)) (by decide)) (zr_c (lo := 3) (hi := 3) (by decide)) (by decide)
        unfold fX12_set_51
        refine zok_ck (zin_ok h10 (by decide)) ?_
        refine zok_bs (i7.wi 25 25 (z_ix h10 (by decide)) h15 (by decide +kernel)) (fun σ1 e17 i16 => ?_)
        unfold fX12_set_105
        exact zok_some i16
      have h18 := zc_nel (0) (24) q9 h4 (zr_c (lo := 25) (hi := 25) (by decide)) (by decide)
      refine zok_if (fun q19 => ?_) (fun q19 => ?_)
      · have h20 := zc_ler (16) q19 (zr_c (lo := 16) (hi := 16) (by decide)) h18 (by decide)
        refine zok_if (fun q21 => ?_) (fun q21 => ?_)
        · have h22 := zc_ltr (21) q21 (zr_c (lo := 20) (hi := 20) (by decide)) h20 (by decide)
          refine zok_if (fun q23 => ?_) (fun q23 => ?_)
          · have h24 := zc_ltr (23) q23 (zr_c (lo := 22) (hi := 22) (by decide)) h22 (by decide)
            unfold fX12_set_104
            refine zok_ck (zin_ok h24 (by decide)) ?_
            refine zok_bs (i7.wi 23 24 (z_ix h24 (by decide)) (zr_andr (lo := 0) (hi := 1) (zr_c (lo := 1) (hi := 1) (by decide)) (by decide)) (by decide +kernel)) (fun σ2 e26 i25 => ?_)
            unfold fX12_set_105
            exact zok_some i25
          have h27 := zc_lel (22) (z_nlt q23) h22 (zr_c (lo := 22) (hi := 22) (by decide)) (by decide)
          unfold fX12_set_104
          refine zok_ck (zin_ok h27 (by decide)) ?_
          refine zok_bs (i7.wi 21 22 (z_ix h27 (by decide)) (zr_andr (lo := 0) (hi := 255) (zr_c (lo := 255) (hi := 255) (by decide)) (by decide)) (by decide +kernel)) (fun σ2 e29 i28 => ?_)
          unfold fX12_set_105
          exact zok_some i28
        have h30 := zc_lel (20) (z_nlt q21) h20 (zr_c (lo := 20) (hi := 20) (by decide)) (by decide)
        unfold fX12_set_104
        refine zok_ck (zin_ok h30 (by decide)) ?_
        refine zok_bs (i7.wi 16 20 (z_ix h30 (by decide)) (zr_andr (lo := 0) (hi := 65535) (zr_c (lo := 65535) (hi := 65535) (by decide)) (by decide)) (by decide +kernel)) (fun σ2 e32 i31 => ?_)
        unfold fX12_set_105
        exact zok_some i31
      have h33 := zc_ltl (15) (z_nle q19) h18 (zr_c (lo := 16) (hi := 16) (by decide)) (by decide)
      unfold fX12_set_104
      refine zok_ck (zin_ok h33 (by decide)) ?_
      refine zok_bs (i7.wi 0 15 (z_ix h33 (by decide)) (zr_andr (lo := 0) (hi := 255) (zr_c (lo := 255) (hi := 255) (by decide)) (by decide)) (by decide +kernel)) (fun σ2 e35 i34 => ?_)
      unfold fX12_set_105
      exact zok_some i34
    exact zr_no (zc_nel (1) (0) q8 (zr_c (lo := 0) (hi := 0) (by decide)) (zr_c (lo := 0) (hi := 0) (by decide)) (by decide)) (by decide)
  refine zok_if (fun q36 => ?_) (fun q36 => ?_)
  · unfold fX12_set_18
    refine zok_fails1 (hσ.wi 0 0 (by decide) zr_any (by decide +kernel)) (fun σ3 e37 i38 => ?_)
    refine zok_if (fun q39 => ?_) (fun q39 => ?_)
    · exact zr_no (zc_eql (1) (0) q39 (zr_c (lo := 1) (hi := 1) (by decide)) (zr_c (lo := 0) (hi := 0) (by decide)) (by decide)) (by decide)
    exact zok_some i38
  exact zr_no (zc_nel (1) (0) q36 (zr_c (lo := 0) (hi := 0) (by decide)) (zr_c (lo := 0) (hi := 0) (by decide)) (by decide)) (by decide)
theorem s_X12_peek {G : Nat → Int} {σ : zSt} (hσ : zIM G σ) {x1 : Int32} : zok (fX12_peek σ x1) (zAi (zIM G) (fun v : Int32 => zr (0) (255) v)) := by
  unfold fX12_peek
  refine zok_bs (hσ.wi 0 0 (by decide) (zr_c (lo := 0) (hi := 0) (by decide)) (by decide +kernel)) (fun σ1 e2 i1 => ?_)
  refine zok_pi (s_X12_read i1.P) (fun v3 h3 => ?_)
  exact zok_sai i1 h3
theorem s_X12_poke {G : Nat → Int} {σ : zSt} (hσ : zIM G σ) {x1 : Int32} {x2 : Int32} : zok (fX12_poke σ x1 x2) (zIM G) := by
  unfold fX12_poke
  refine zok_bs (hσ.wi 0 0 (by decide) (zr_c (lo := 0) (hi := 0) (by decide)) (by decide +kernel)) (fun σ1 e2 i1 => ?_)
  refine zok_bu (s_X12_write i1) (fun σ2 i3 => ?_)
  exact zok_some i3
theorem s_X12_in {G : Nat → Int} {σ : zSt} (hσ : zIM G σ) {x1 : Int32} : zok (fX12_in σ x1) (zAi (zIM G) (fun v : Int32 => zr (0) (255) v)) := by
  unfold fX12_in
  refine zok_bs (hσ.wi 0 0 (by decide) (zr_c (lo := 0) (hi := 0) (by decide)) (by decide +kernel)) (fun σ1 e2 i1 => ?_)
  refine zok_ai (s_X12_port i1 (zr_andr (lo := 0) (hi := 255) (zr_c (lo := 255) (hi := 255) (by decide)) (by decide))) (fun σ2 v3 i3 h4 => ?_)
  exact zok_sai i3 h4
theorem s_X12_out {G : Nat → Int} {σ : zSt} (hσ : zIM G σ) {x1 : Int32} {x2 : Int32} : zok (fX12_out σ x1 x2) (zIM G) := by
  unfold fX12_out
  refine zok_bs (hσ.wi 0 0 (by decide) (zr_c (lo := 0) (hi := 0) (by decide)) (by decide +kernel)) (fun σ1 e2 i1 => ?_)
  refine zok_bu (s_X12_portTo i1 (zr_andr (lo := 0) (hi := 255) (zr_c (lo := 255) (hi := 255) (by decide)) (by decide)) (zr_andr (lo := 0) (hi := 255) (zr_c (lo := 255) (hi := 255) (by decide)) (by decide))) (fun σ2 i3 => ?_)
  exact zok_some i3
theorem s_X12_battery {G : Nat → Int} {σ : zSt} (hσ : zIM G σ) {x1 : Int32} : zok (fX12_battery σ x1) (zAi (zIM G) (fun v : Int32 => zr (0) (255) v)) := by
  unfold fX12_battery
  refine zok_within (fun w1 w2 => ?_) (fun w3 => ?_)
  · have h4 := z_wir w1 w2 (zrl_c (lo := 0) (hi := 0) (by decide)) (zrl_c (lo := 32767) (hi := 32767) (by decide))
    refine zok_if (fun q5 => ?_) (fun q5 => ?_)
    · exact zr_no (zc_eql (1) (0) q5 (zr_c (lo := 1) (hi := 1) (by decide)) (zr_c (lo := 0) (hi := 0) (by decide)) (by decide)) (by decide)
    unfold fX12_battery_18
    refine zok_fails0 (hσ.wi 0 0 (by decide) zr_any (by decide +kernel)) (fun σ1 e6 i7 => ?_)
    refine zok_if (fun q8 => ?_) (fun q8 => ?_)
    · refine zok_ck (zin_ok h4 (by decide)) ?_
      unfold fX12_battery_39
      exact zok_sai i7 (zr_andr (lo := 0) (hi := 255) (zr_c (lo := 255) (hi := 255) (by decide)) (by decide))
    exact zr_no (zc_nel (1) (0) q8 (zr_c (lo := 0) (hi := 0) (by decide)) (zr_c (lo := 0) (hi := 0) (by decide)) (by decide)) (by decide)
  refine zok_if (fun q9 => ?_) (fun q9 => ?_)
  · unfold fX12_battery_18
    refine zok_fails1 (hσ.wi 0 0 (by decide) zr_any (by decide +kernel)) (fun σ1 e10 i11 => ?_)
    refine zok_if (fun q12 => ?_) (fun q12 => ?_)
    · exact zr_no (zc_eql (1) (0) q12 (zr_c (lo := 1) (hi := 1) (by decide)) (zr_c (lo := 0) (hi := 0) (by decide)) (by decide)) (by decide)
    unfold fX12_battery_39
    exact zok_sai i11 (zr_w (zr_c (lo := 0) (hi := 0) (by decide)) (by decide))
  exact zr_no (zc_nel (1) (0) q9 (zr_c (lo := 0) (hi := 0) (by decide)) (zr_c (lo := 0) (hi := 0) (by decide)) (by decide)) (by decide)
theorem s_X12_wipe_7_body {G : Nat → Int} {σ : zSt} {k7 : zSt → Int32 → Option (zSt)} {Mk7 : Int} (hk7 : ∀ (σ : zSt) (x1 : Int32), zIM G σ → zr (0) (32768) x1 → (32768) - x1.toInt < Mk7 → zok (k7 σ x1) (zIM G)) (hσ : zIM G σ) {x1 : Int32} (h_x1 : zr (0) (32768) x1) (hMk7 : (32768) - x1.toInt ≤ Mk7) : zok (fX12_wipe_7_body k7 σ x1) (zIM G) := by
  unfold fX12_wipe_7_body
  refine zok_if (fun q1 => ?_) (fun q1 => ?_)
  · have h2 := zc_ler (32768) q1 (zr_c (lo := 32768) (hi := 32768) (by decide)) h_x1 (by decide)
    exact zok_some hσ
  have h3 := zc_ltl (32767) (z_nle q1) h_x1 (zr_c (lo := 32768) (hi := 32768) (by decide)) (by decide)
  refine zok_ck (zin_ok h3 (by decide)) ?_
  refine zok_bs (hσ.wk (by decide)) (fun σ1 e5 i4 => ?_)
  refine zok_br (zr_add (lo := 1) (hi := 32768) h3 (zr_c (lo := 1) (hi := 1) (by decide)) (by decide)) (fun v2 e7 h6 => ?_)
  exact hk7 _ _ i4 (zr_w h6 (by decide)) (by rw [e7]; have := z_tadd (y := (1 : Int32)) h3 (zr_c (lo := 1) (hi := 1) (by decide)) (by decide); have e9 : (1 : Int32).toInt = 1 := rfl; omega) 
theorem s_X12_wipe_7 {G : Nat → Int} : ∀ (n : Nat) {σ : zSt} (hσ : zIM G σ) {x1 : Int32} (h_x1 : zr (0) (32768) x1) (hm : (32768) - x1.toInt < n), zok (fX12_wipe_7 n σ x1) (zIM G) := by
  intro n
  induction n with
  | zero => intro σ hσ x1 h_x1 hm ; have h9 := h_x1.1; have h8 := h_x1.2; exfalso; omega
  | succ n ih => intro σ hσ x1 h_x1 hm ; exact s_X12_wipe_7_body (fun σ x1 hσ h_x1 hm1 => ih hσ h_x1 (by omega)) hσ h_x1 (Int.le_refl _)
theorem s_X12_wipe {G : Nat → Int} {σ : zSt} (hσ : zIM G σ) : zok (fX12_wipe σ ) (zIM G) := by
  unfold fX12_wipe
  refine zok_bs (hσ.wi 0 0 (by decide) (zr_c (lo := 0) (hi := 0) (by decide)) (by decide +kernel)) (fun σ3 e2 i1 => ?_)
  exact (s_X12_wipe_7 zfuel i1 (zr_w (zr_c (lo := 0) (hi := 0) (by decide)) (by decide)) (by decide))
theorem s_X12_video_11_body {σ : zSt} {k11 : zSt → Int32 → Int64 → Int32 → Option (zSt × Int64)} {Mk11 : Int} (hk11 : ∀ (x1 : Int32) (x2 : Int64) (x4 : Int32), zr (-1) (7) x4 → x4.toInt - (-1) < Mk11 → zok (k11 σ x1 x2 x4) (zPl σ (fun v : Int64 => True))) (hσ : zPM σ) {x1 : Int32} {x2 : Int64} {x4 : Int32} (h_x4 : zr (-1) (7) x4) (hMk11 : x4.toInt - (-1) ≤ Mk11) : zok (fX12_video_11_body k11 σ x1 x2 x4) (zPl σ (fun v : Int64 => True)) := by
  unfold fX12_video_11_body
  refine zok_if (fun q1 => ?_) (fun q1 => ?_)
  · have h2 := zc_ltl (-1) q1 h_x4 (zr_c (lo := 0) (hi := 0) (by decide)) (by decide)
    exact zok_spl trivial
  have h3 := zc_ler (0) (z_nlt q1) (zr_c (lo := 0) (hi := 0) (by decide)) h_x4 (by decide)
  refine zok_pi (s_X12_video8 hσ) (fun v2 h4 => ?_)
  refine zok_bv (fun v3 e6 => ?_)
  refine zok_br (zr_add (lo := -1) (hi := 6) h3 (zr_c (lo := -1) (hi := -1) (by decide)) (by decide)) (fun v4 e8 h7 => ?_)
  exact hk11 _ _ _  (zr_w h7 (by decide)) (by rw [e8]; have := z_tadd (y := (-1 : Int32)) h3 (zr_c (lo := -1) (hi := -1) (by decide)) (by decide); have e9 : (-1 : Int32).toInt = -1 := rfl; omega) 
theorem s_X12_video_11 {σ : zSt} (hσ : zPM σ) : ∀ (n : Nat) {x1 : Int32} {x2 : Int64} {x4 : Int32} (h_x4 : zr (-1) (7) x4) (hm : x4.toInt - (-1) < n), zok (fX12_video_11 n σ x1 x2 x4) (zPl σ (fun v : Int64 => True)) := by
  intro n
  induction n with
  | zero => intro x1 x2 x4 h_x4 hm ; have h9 := h_x4.1; have h8 := h_x4.2; exfalso; omega
  | succ n ih => intro x1 x2 x4 h_x4 hm ; exact s_X12_video_11_body (fun x1 x2 x4 h_x4 hm1 => ih h_x4 (by omega)) hσ h_x4 (Int.le_refl _)
theorem s_X12_video {G : Nat → Int} {σ : zSt} (hσ : zIM G σ) {x1 : Int32} : zok (fX12_video σ x1) (zAL (zIM G) (fun v : Int64 => True)) := by
  unfold fX12_video
  refine zok_bs (hσ.wi 0 0 (by decide) (zr_c (lo := 0) (hi := 0) (by decide)) (by decide +kernel)) (fun σ5 e2 i1 => ?_)
  exact zok_pal i1 (s_X12_video_11 i1.P zfuel (zr_w (zr_c (lo := 7) (hi := 7) (by decide)) (by decide)) (by decide))
theorem s_X12_chip {G : Nat → Int} {σ : zSt} (hσ : zIM G σ) {x1 : Int32} : zok (fX12_chip σ x1) (zAi (zIM G) (fun v : Int32 => True)) := by
  unfold fX12_chip
  refine zok_within (fun w1 w2 => ?_) (fun w3 => ?_)
  · have h4 := z_wir w1 w2 (zrl_c (lo := 0) (hi := 0) (by decide)) (zrl_c (lo := 25) (hi := 25) (by decide))
    refine zok_if (fun q5 => ?_) (fun q5 => ?_)
    · exact zr_no (zc_eql (1) (0) q5 (zr_c (lo := 1) (hi := 1) (by decide)) (zr_c (lo := 0) (hi := 0) (by decide)) (by decide)) (by decide)
    unfold fX12_chip_31
    unfold fX12_chip_32
    refine zok_fails0 (hσ.wi 0 0 (by decide) zr_any (by decide +kernel)) (fun σ1 e6 i7 => ?_)
    refine zok_if (fun q8 => ?_) (fun q8 => ?_)
    · refine zok_if (fun q9 => ?_) (fun q9 => ?_)
      · refine zok_if (fun q10 => ?_) (fun q10 => ?_)
        · have h11 := zc_ler (17) q10 (zr_c (lo := 17) (hi := 17) (by decide)) h4 (by decide)
          refine zok_if (fun q12 => ?_) (fun q12 => ?_)
          · have h13 := zc_eql (17) (17) q12 h11 (zr_c (lo := 17) (hi := 17) (by decide)) (by decide)
            refine zok_pi (s_X12_asks i7.P) (fun v4 h14 => ?_)
            refine zok_if (fun q15 => ?_) (fun q15 => ?_)
            · have h16 := zc_eql (0) (0) q15 h14 (zr_c (lo := 0) (hi := 0) (by decide)) (by decide)
              unfold fX12_chip_136
              exact zok_sai i7 trivial
            have h17 := zc_nel (1) (1) q15 h14 (zr_c (lo := 0) (hi := 0) (by decide)) (by decide)
            unfold fX12_chip_136
            exact zok_sai i7 trivial
          have h18 := zc_nel (18) (25) q12 h11 (zr_c (lo := 17) (hi := 17) (by decide)) (by decide)
          refine zok_if (fun q19 => ?_) (fun q19 => ?_)
          · have h20 := zc_eql (18) (18) q19 h18 (zr_c (lo := 18) (hi := 18) (by decide)) (by decide)
            refine zok_ck rfl ?_
            exact zok_sai i7 trivial
          have h21 := zc_nel (19) (25) q19 h18 (zr_c (lo := 18) (hi := 18) (by decide)) (by decide)
          refine zok_if (fun q22 => ?_) (fun q22 => ?_)
          · have h23 := zc_eql (19) (19) q22 h21 (zr_c (lo := 19) (hi := 19) (by decide)) (by decide)
            refine zok_ck rfl ?_
            exact zok_sai i7 trivial
          have h24 := zc_nel (20) (25) q22 h21 (zr_c (lo := 19) (hi := 19) (by decide)) (by decide)
          refine zok_if (fun q25 => ?_) (fun q25 => ?_)
          · have h26 := zc_eql (20) (20) q25 h24 (zr_c (lo := 20) (hi := 20) (by decide)) (by decide)
            refine zok_ck rfl ?_
            exact zok_sai i7 trivial
          have h27 := zc_nel (21) (25) q25 h24 (zr_c (lo := 20) (hi := 20) (by decide)) (by decide)
          refine zok_if (fun q28 => ?_) (fun q28 => ?_)
          · have h29 := zc_eql (21) (21) q28 h27 (zr_c (lo := 21) (hi := 21) (by decide)) (by decide)
            refine zok_ck rfl ?_
            exact zok_sai i7 trivial
          have h30 := zc_nel (22) (25) q28 h27 (zr_c (lo := 21) (hi := 21) (by decide)) (by decide)
          refine zok_if (fun q31 => ?_) (fun q31 => ?_)
          · have h32 := zc_eql (22) (22) q31 h30 (zr_c (lo := 22) (hi := 22) (by decide)) (by decide)
            refine zok_pi (s_X12_mode i7.P) (fun v6 h33 => ?_)
            exact zok_sai i7 trivial
          have h34 := zc_nel (23) (25) q31 h30 (zr_c (lo := 22) (hi := 22) (by decide)) (by decide)
          refine zok_if (fun q35 => ?_) (fun q35 => ?_)
          · have h36 := zc_eql (23) (23) q35 h34 (zr_c (lo := 23) (hi := 23) (by decide)) (by decide)
            refine zok_pi (s_X12_height i7.P) (fun v8 h37 => ?_)
            exact zok_sai i7 trivial
          have h38 := zc_nel (24) (25) q35 h34 (zr_c (lo := 23) (hi := 23) (by decide)) (by decide)
          refine zok_if (fun q39 => ?_) (fun q39 => ?_)
          · have h40 := zc_eql (24) (24) q39 h38 (zr_c (lo := 24) (hi := 24) (by decide)) (by decide)
            refine zok_pi (s_X12_hCount i7.P) (fun v10 h41 => ?_)
            exact zok_sai i7 trivial
          have h42 := zc_nel (25) (25) q39 h38 (zr_c (lo := 24) (hi := 24) (by decide)) (by decide)
          refine zok_pi (s_X12_vCount i7.P) (fun v12 h43 => ?_)
          exact zok_sai i7 trivial
        have h44 := zc_ltl (16) (z_nle q10) h4 (zr_c (lo := 17) (hi := 17) (by decide)) (by decide)
        refine zok_ck (zin_ok (zr_add (lo := 47) (hi := 63) (zr_c (lo := 47) (hi := 47) (by decide)) h44 (by decide)) (by decide)) ?_
        exact zok_sai i7 trivial
      exact zr_no (zc_ltl (24) (z_nle q9) (zr_c (lo := 31) (hi := 31) (by decide)) h4 (by decide)) (by decide)
    exact zr_no (zc_nel (1) (0) q8 (zr_c (lo := 0) (hi := 0) (by decide)) (zr_c (lo := 0) (hi := 0) (by decide)) (by decide)) (by decide)
  refine zok_if (fun q45 => ?_) (fun q45 => ?_)
  · refine zok_within (fun w46 w47 => ?_) (fun w48 => ?_)
    · have h49 := z_wir w46 w47 (zrl_c (lo := 32) (hi := 32) (by decide)) (zrl_c (lo := 95) (hi := 95) (by decide))
      refine zok_if (fun q50 => ?_) (fun q50 => ?_)
      · exact zr_no (zc_eql (1) (0) q50 (zr_c (lo := 1) (hi := 1) (by decide)) (zr_c (lo := 0) (hi := 0) (by decide)) (by decide)) (by decide)
      unfold fX12_chip_31
      unfold fX12_chip_32
      refine zok_fails0 (hσ.wi 0 0 (by decide) zr_any (by decide +kernel)) (fun σ1 e51 i52 => ?_)
      refine zok_if (fun q53 => ?_) (fun q53 => ?_)
      · refine zok_if (fun q54 => ?_) (fun q54 => ?_)
        · exact zr_no (zc_lel (31) q54 h49 (zr_c (lo := 31) (hi := 31) (by decide)) (by decide)) (by decide)
        refine zok_ck (zin_ok (zr_sub (lo := 0) (hi := 63) h49 (zr_c (lo := 32) (hi := 32) (by decide)) (by decide)) (by decide)) ?_
        exact zok_sai i52 trivial
      exact zr_no (zc_nel (1) (0) q53 (zr_c (lo := 0) (hi := 0) (by decide)) (zr_c (lo := 0) (hi := 0) (by decide)) (by decide)) (by decide)
    refine zok_if (fun q55 => ?_) (fun q55 => ?_)
    · unfold fX12_chip_32
      refine zok_fails1 (hσ.wi 0 0 (by decide) zr_any (by decide +kernel)) (fun σ1 e56 i57 => ?_)
      refine zok_if (fun q58 => ?_) (fun q58 => ?_)
      · exact zr_no (zc_eql (1) (0) q58 (zr_c (lo := 1) (hi := 1) (by decide)) (zr_c (lo := 0) (hi := 0) (by decide)) (by decide)) (by decide)
      exact zok_sai i57 trivial
    exact zr_no (zc_nel (1) (0) q55 (zr_c (lo := 0) (hi := 0) (by decide)) (zr_c (lo := 0) (hi := 0) (by decide)) (by decide)) (by decide)
  exact zr_no (zc_nel (1) (0) q45 (zr_c (lo := 0) (hi := 0) (by decide)) (zr_c (lo := 0) (hi := 0) (by decide)) (by decide)) (by decide)
theorem s_X12_trace_50 {σ : zSt} (hσ : zPM σ) {s0 : Int32} : zok (fX12_trace_50 σ s0) (zPi σ (fun v : Int32 => True)) := by
  unfold fX12_trace_50
  exact zok_spi trivial
theorem s_X12_trace_27 {σ : zSt} (hσ : zPM σ) : zok (fX12_trace_27 σ ) (zPi σ (fun v : Int32 => True)) := by
  unfold fX12_trace_27
  exact (s_X12_trace_50 hσ)
theorem s_X12_trace {G : Nat → Int} {σ : zSt} (hσ : zIM G σ) {x1 : Int32} : zok (fX12_trace σ x1) (zAi (zIM G) (fun v : Int32 => True)) := by
  unfold fX12_trace
  refine zok_bs (I := zIM G) (hσ.wi 0 0 (by decide) zr_any (by decide +kernel)) (fun σ1 e1 i1 => ?_)
  have z9 : zok (fX12_trace_27 σ1) (zAi (zIM G) (fun v : Int32 => True)) := zok_sai i1 trivial
  refine zok_within (fun w1 w2 => ?_) (fun w3 => ?_)
  · refine zok_if (fun q => absurd q (by decide)) (fun _ => ?_)
    have h1 := z_wir w1 w2 (zrl_c (lo := 0) (hi := 0) (by decide)) (zrl_c (lo := 31) (hi := 31) (by decide))
    refine zok_if (fun q => ?_) (fun _ => z9)
    have q1 := z_cmp_lt.mp q
    rw [Int32.toInt_toInt64] at q1
    have b1 := h1.1
    have b2 := h1.2
    have hA : zrl 1 9223372036854775807 (zgl σ1 0 30) := ⟨by omega, zrl_any.2⟩
    have hA1 : ((zgl σ1 0 30) - 1).toInt = (zgl σ1 0 30).toInt - 1 := by
      have b3 := hA.1
      have b4 := hA.2
      rw [Int64.toInt_sub, show (1 : Int64).toInt = 1 from rfl]; exact z_bml (by omega) (by omega)
    have hA2 : (((zgl σ1 0 30) - 1) - x1.toInt64).toInt = (zgl σ1 0 30).toInt - 1 - x1.toInt := by
      have b3 := hA.1
      have b4 := hA.2
      rw [Int64.toInt_sub, hA1, Int32.toInt_toInt64]; exact z_bml (by omega) (by omega)
    have h2 : zrl 0 9223372036854775807 (((zgl σ1 0 30) - 1) - x1.toInt64) := ⟨by omega, zrl_any.2⟩
    have h3 := zr_l (lo := 0) (hi := 31) (zrl_rem (y := 32) (lo := 0) (hi := 31) 32 (by decide) h2 (by decide)) (by decide)
    refine zok_ck rfl (zok_ck (zin_ok h3 (by decide)) ?_)
    exact zok_sai i1 trivial
  · exact zok_if (fun _ => z9) (fun q => absurd rfl q)
theorem s_X12_look_116 {σ : zSt} (hσ : zPM σ) {x1 : Int32} (h_x1 : zr (0) (2) x1) : zok (fX12_look_116 σ x1) (zPl σ (fun v : Int64 => True)) := by
  unfold fX12_look_116
  refine zok_ck (zin_ok h_x1 (by decide)) ?_
  exact zok_spl trivial
theorem s_X12_look_169 {σ : zSt} (hσ : zPM σ) {x1 : Int32} (h_x1 : zr (9) (11) x1) : zok (fX12_look_169 σ x1) (zPl σ (fun v : Int64 => True)) := by
  unfold fX12_look_169
  refine zok_ck (zin_ok (zr_sub (lo := 29) (hi := 31) (zr_add (lo := 38) (hi := 40) (zr_c (lo := 29) (hi := 29) (by decide)) h_x1 (by decide)) (zr_c (lo := 9) (hi := 9) (by decide)) (by decide)) (by decide)) ?_
  exact zok_spl trivial
theorem s_X12_look_222 {σ : zSt} (hσ : zPM σ) {s0 : Int64} (h_s0 : zrl (0) (1) s0) : zok (fX12_look_222 σ s0) (zPl σ (fun v : Int64 => True)) := by
  unfold fX12_look_222
  exact zok_spl trivial
theorem s_X12_look {G : Nat → Int} {σ : zSt} (hσ : zIM G σ) {x1 : Int32} : zok (fX12_look σ x1) (zAL (zIM G) (fun v : Int64 => True)) := by
  unfold fX12_look
  refine zok_within (fun w1 w2 => ?_) (fun w3 => ?_)
  · have h4 := z_wir w1 w2 (zrl_c (lo := 0) (hi := 0) (by decide)) (zrl_c (lo := 18) (hi := 18) (by decide))
    refine zok_if (fun q5 => ?_) (fun q5 => ?_)
    · exact zr_no (zc_eql (1) (0) q5 (zr_c (lo := 1) (hi := 1) (by decide)) (zr_c (lo := 0) (hi := 0) (by decide)) (by decide)) (by decide)
    unfold fX12_look_18
    refine zok_fails0 (hσ.wi 0 0 (by decide) zr_any (by decide +kernel)) (fun σ1 e6 i7 => ?_)
    refine zok_if (fun q8 => ?_) (fun q8 => ?_)
    · refine zok_if (fun q9 => ?_) (fun q9 => ?_)
      · have h10 := zc_eql (0) (0) q9 h4 (zr_c (lo := 0) (hi := 0) (by decide)) (by decide)
        exact zok_pal i7 (s_X12_look_116 i7.P (zr_w h10 (by decide)))
      have h11 := zc_nel (1) (18) q9 h4 (zr_c (lo := 0) (hi := 0) (by decide)) (by decide)
      refine zok_if (fun q12 => ?_) (fun q12 => ?_)
      · have h13 := zc_eql (1) (1) q12 h11 (zr_c (lo := 1) (hi := 1) (by decide)) (by decide)
        exact zok_pal i7 (s_X12_look_116 i7.P (zr_w h13 (by decide)))
      have h14 := zc_nel (2) (18) q12 h11 (zr_c (lo := 1) (hi := 1) (by decide)) (by decide)
      refine zok_if (fun q15 => ?_) (fun q15 => ?_)
      · have h16 := zc_eql (2) (2) q15 h14 (zr_c (lo := 2) (hi := 2) (by decide)) (by decide)
        exact zok_pal i7 (s_X12_look_116 i7.P (zr_w h16 (by decide)))
      have h17 := zc_nel (3) (18) q15 h14 (zr_c (lo := 2) (hi := 2) (by decide)) (by decide)
      refine zok_if (fun q18 => ?_) (fun q18 => ?_)
      · have h19 := zc_eql (3) (3) q18 h17 (zr_c (lo := 3) (hi := 3) (by decide)) (by decide)
        refine zok_ck rfl ?_
        exact zok_sal i7 trivial
      have h20 := zc_nel (4) (18) q18 h17 (zr_c (lo := 3) (hi := 3) (by decide)) (by decide)
      refine zok_if (fun q21 => ?_) (fun q21 => ?_)
      · have h22 := zc_eql (4) (4) q21 h20 (zr_c (lo := 4) (hi := 4) (by decide)) (by decide)
        refine zok_ck rfl ?_
        exact zok_sal i7 trivial
      have h23 := zc_nel (5) (18) q21 h20 (zr_c (lo := 4) (hi := 4) (by decide)) (by decide)
      refine zok_if (fun q24 => ?_) (fun q24 => ?_)
      · have h25 := zc_eql (5) (5) q24 h23 (zr_c (lo := 5) (hi := 5) (by decide)) (by decide)
        exact zok_sal i7 trivial
      have h26 := zc_nel (6) (18) q24 h23 (zr_c (lo := 5) (hi := 5) (by decide)) (by decide)
      refine zok_if (fun q27 => ?_) (fun q27 => ?_)
      · have h28 := zc_eql (6) (6) q27 h26 (zr_c (lo := 6) (hi := 6) (by decide)) (by decide)
        refine zok_ck rfl ?_
        exact zok_sal i7 trivial
      have h29 := zc_nel (7) (18) q27 h26 (zr_c (lo := 6) (hi := 6) (by decide)) (by decide)
      refine zok_if (fun q30 => ?_) (fun q30 => ?_)
      · have h31 := zc_eql (7) (7) q30 h29 (zr_c (lo := 7) (hi := 7) (by decide)) (by decide)
        exact zok_sal i7 trivial
      have h32 := zc_nel (8) (18) q30 h29 (zr_c (lo := 7) (hi := 7) (by decide)) (by decide)
      refine zok_if (fun q33 => ?_) (fun q33 => ?_)
      · have h34 := zc_eql (8) (8) q33 h32 (zr_c (lo := 8) (hi := 8) (by decide)) (by decide)
        refine zok_ck rfl ?_
        exact zok_sal i7 trivial
      have h35 := zc_nel (9) (18) q33 h32 (zr_c (lo := 8) (hi := 8) (by decide)) (by decide)
      refine zok_if (fun q36 => ?_) (fun q36 => ?_)
      · have h37 := zc_eql (9) (9) q36 h35 (zr_c (lo := 9) (hi := 9) (by decide)) (by decide)
        exact zok_pal i7 (s_X12_look_169 i7.P (zr_w h37 (by decide)))
      have h38 := zc_nel (10) (18) q36 h35 (zr_c (lo := 9) (hi := 9) (by decide)) (by decide)
      refine zok_if (fun q39 => ?_) (fun q39 => ?_)
      · have h40 := zc_eql (10) (10) q39 h38 (zr_c (lo := 10) (hi := 10) (by decide)) (by decide)
        exact zok_pal i7 (s_X12_look_169 i7.P (zr_w h40 (by decide)))
      have h41 := zc_nel (11) (18) q39 h38 (zr_c (lo := 10) (hi := 10) (by decide)) (by decide)
      refine zok_if (fun q42 => ?_) (fun q42 => ?_)
      · have h43 := zc_eql (11) (11) q42 h41 (zr_c (lo := 11) (hi := 11) (by decide)) (by decide)
        exact zok_pal i7 (s_X12_look_169 i7.P (zr_w h43 (by decide)))
      have h44 := zc_nel (12) (18) q42 h41 (zr_c (lo := 11) (hi := 11) (by decide)) (by decide)
      refine zok_if (fun q45 => ?_) (fun q45 => ?_)
      · have h46 := zc_eql (12) (12) q45 h44 (zr_c (lo := 12) (hi := 12) (by decide)) (by decide)
        refine zok_ck rfl ?_
        exact zok_sal i7 trivial
      have h47 := zc_nel (13) (18) q45 h44 (zr_c (lo := 12) (hi := 12) (by decide)) (by decide)
      refine zok_if (fun q48 => ?_) (fun q48 => ?_)
      · have h49 := zc_eql (13) (13) q48 h47 (zr_c (lo := 13) (hi := 13) (by decide)) (by decide)
        refine zok_ck rfl ?_
        exact zok_sal i7 trivial
      have h50 := zc_nel (14) (18) q48 h47 (zr_c (lo := 13) (hi := 13) (by decide)) (by decide)
      refine zok_if (fun q51 => ?_) (fun q51 => ?_)
      · have h52 := zc_eql (14) (14) q51 h50 (zr_c (lo := 14) (hi := 14) (by decide)) (by decide)
        refine zok_ck rfl ?_
        exact zok_sal i7 trivial
      have h53 := zc_nel (15) (18) q51 h50 (zr_c (lo := 14) (hi := 14) (by decide)) (by decide)
      refine zok_if (fun q54 => ?_) (fun q54 => ?_)
      · have h55 := zc_eql (15) (15) q54 h53 (zr_c (lo := 15) (hi := 15) (by decide)) (by decide)
        refine zok_if (fun q56 => ?_) (fun q56 => ?_)
        · have h57 := zc_eql (0) (0) q56 zr_any (zr_c (lo := 0) (hi := 0) (by decide)) (by decide)
          exact zok_pal i7 (s_X12_look_222 i7.P (zrl_w (zrl_c (lo := 0) (hi := 0) (by decide)) (by decide)))
        exact zok_pal i7 (s_X12_look_222 i7.P (zrl_w (zrl_c (lo := 1) (hi := 1) (by decide)) (by decide)))
      have h58 := zc_nel (16) (18) q54 h53 (zr_c (lo := 15) (hi := 15) (by decide)) (by decide)
      refine zok_if (fun q59 => ?_) (fun q59 => ?_)
      · have h60 := zc_eql (16) (16) q59 h58 (zr_c (lo := 16) (hi := 16) (by decide)) (by decide)
        refine zok_ck rfl ?_
        exact zok_sal i7 trivial
      have h61 := zc_nel (17) (18) q59 h58 (zr_c (lo := 16) (hi := 16) (by decide)) (by decide)
      refine zok_if (fun q62 => ?_) (fun q62 => ?_)
      · have h63 := zc_eql (17) (17) q62 h61 (zr_c (lo := 17) (hi := 17) (by decide)) (by decide)
        refine zok_ck rfl ?_
        exact zok_sal i7 trivial
      have h64 := zc_nel (18) (18) q62 h61 (zr_c (lo := 17) (hi := 17) (by decide)) (by decide)
      exact zok_sal i7 trivial
    exact zr_no (zc_nel (1) (0) q8 (zr_c (lo := 0) (hi := 0) (by decide)) (zr_c (lo := 0) (hi := 0) (by decide)) (by decide)) (by decide)
  refine zok_if (fun q65 => ?_) (fun q65 => ?_)
  · unfold fX12_look_18
    refine zok_fails1 (hσ.wi 0 0 (by decide) zr_any (by decide +kernel)) (fun σ1 e66 i67 => ?_)
    refine zok_if (fun q68 => ?_) (fun q68 => ?_)
    · exact zr_no (zc_eql (1) (0) q68 (zr_c (lo := 1) (hi := 1) (by decide)) (zr_c (lo := 0) (hi := 0) (by decide)) (by decide)) (by decide)
    exact zok_sal i67 trivial
  exact zr_no (zc_nel (1) (0) q65 (zr_c (lo := 0) (hi := 0) (by decide)) (zr_c (lo := 0) (hi := 0) (by decide)) (by decide)) (by decide)
theorem s_X12_mix {G : Nat → Int} {σ : zSt} (hσ : zIM G σ) : zok (fX12_mix σ ) (zAL (zIM G) (fun v : Int64 => True)) := by
  unfold fX12_mix
  refine zok_ck rfl ?_
  refine zok_if (fun q1 => ?_) (fun q1 => ?_)
  · have h2 := zc_eql (0) (0) q1 (rM_43 hσ.sg _ (by decide)) (zr_c (lo := 0) (hi := 0) (by decide)) (by decide)
    unfold fX12_mix_17
    refine zok_fails1 (hσ.wi 0 0 (by decide) zr_any (by decide +kernel)) (fun σ1 e3 i4 => ?_)
    refine zok_if (fun q5 => ?_) (fun q5 => ?_)
    · exact zr_no (zc_eql (1) (0) q5 (zr_c (lo := 1) (hi := 1) (by decide)) (zr_c (lo := 0) (hi := 0) (by decide)) (by decide)) (by decide)
    exact zok_sal i4 trivial
  have h6 := zc_nel (1) (4096) q1 (rM_43 hσ.sg _ (by decide)) (zr_c (lo := 0) (hi := 0) (by decide)) (by decide)
  unfold fX12_mix_17
  refine zok_fails0 (hσ.wi 0 0 (by decide) zr_any (by decide +kernel)) (fun σ1 e7 i8 => ?_)
  refine zok_if (fun q9 => ?_) (fun q9 => ?_)
  · refine zok_ck rfl ?_
    refine zok_ck (zin_ok (rM_44 i8.sg _ (by decide)) (by decide)) ?_
    refine zok_bv (fun v3 e11 => ?_)
    refine zok_ck rfl ?_
    refine zok_ck (by decide) ?_
    refine zok_ck rfl ?_
    refine zok_bs (i8.wi 170 170 (by decide) (zr_rem (lo := 0) (hi := 4095) 4096 (by decide) (zr_add (lo := 1) (hi := 4096) (rM_44 i8.sg _ (by decide)) (zr_c (lo := 1) (hi := 1) (by decide)) (by decide)) (by decide)) (by decide +kernel)) (fun σ4 e13 i12 => ?_)
    refine zok_ck rfl ?_
    refine zok_ck rfl ?_
    refine zok_bs (i12.wi 169 169 (by decide) (zr_sub (lo := 0) (hi := 4095) (z_trj e13 (by decide) (z_tr e7 rfl h6)) (zr_c (lo := 1) (hi := 1) (by decide)) (by decide)) (by decide +kernel)) (fun σ5 e15 i14 => ?_)
    exact zok_sal i14 trivial
  exact zr_no (zc_nel (1) (0) q9 (zr_c (lo := 0) (hi := 0) (by decide)) (zr_c (lo := 0) (hi := 0) (by decide)) (by decide)) (by decide)
theorem s_X12_wave {G : Nat → Int} {σ : zSt} (hσ : zIM G σ) {x1 : Int32} : zok (fX12_wave σ x1) (zAi (zIM G) (fun v : Int32 => True)) := by
  unfold fX12_wave
  refine zok_within (fun w1 w2 => ?_) (fun w3 => ?_)
  · have h4 := z_wir w1 w2 (zrl_c (lo := 0) (hi := 0) (by decide)) (zrl_c (lo := 67) (hi := 67) (by decide))
    refine zok_if (fun q5 => ?_) (fun q5 => ?_)
    · exact zr_no (zc_eql (1) (0) q5 (zr_c (lo := 1) (hi := 1) (by decide)) (zr_c (lo := 0) (hi := 0) (by decide)) (by decide)) (by decide)
    unfold fX12_wave_40
    unfold fX12_wave_41
    refine zok_fails0 (hσ.wi 0 0 (by decide) zr_any (by decide +kernel)) (fun σ1 e6 i7 => ?_)
    refine zok_if (fun q8 => ?_) (fun q8 => ?_)
    · refine zok_if (fun q9 => ?_) (fun q9 => ?_)
      · have h10 := zc_ler (64) q9 (zr_c (lo := 64) (hi := 64) (by decide)) h4 (by decide)
        refine zok_if (fun q11 => ?_) (fun q11 => ?_)
        · have h12 := zc_eql (64) (64) q11 h10 (zr_c (lo := 64) (hi := 64) (by decide)) (by decide)
          refine zok_ck rfl ?_
          exact zok_sai i7 trivial
        have h13 := zc_nel (65) (67) q11 h10 (zr_c (lo := 64) (hi := 64) (by decide)) (by decide)
        refine zok_if (fun q14 => ?_) (fun q14 => ?_)
        · have h15 := zc_eql (65) (65) q14 h13 (zr_c (lo := 65) (hi := 65) (by decide)) (by decide)
          refine zok_ck rfl ?_
          exact zok_sai i7 trivial
        have h16 := zc_nel (66) (67) q14 h13 (zr_c (lo := 65) (hi := 65) (by decide)) (by decide)
        refine zok_if (fun q17 => ?_) (fun q17 => ?_)
        · have h18 := zc_eql (66) (66) q17 h16 (zr_c (lo := 66) (hi := 66) (by decide)) (by decide)
          refine zok_ck rfl ?_
          refine zok_ck (by decide) ?_
          exact zok_sai i7 trivial
        have h19 := zc_nel (67) (67) q17 h16 (zr_c (lo := 66) (hi := 66) (by decide)) (by decide)
        refine zok_if (fun q20 => ?_) (fun q20 => ?_)
        · refine zok_ck rfl ?_
          exact zok_sai i7 trivial
        exact zr_no (zc_nel (68) (67) q20 h19 (zr_c (lo := 67) (hi := 67) (by decide)) (by decide)) (by decide)
      have h21 := zc_ltl (63) (z_nle q9) h4 (zr_c (lo := 64) (hi := 64) (by decide)) (by decide)
      refine zok_pi (s_X12_wreg i7.P h21) (fun v4 h22 => ?_)
      exact zok_sai i7 trivial
    exact zr_no (zc_nel (1) (0) q8 (zr_c (lo := 0) (hi := 0) (by decide)) (zr_c (lo := 0) (hi := 0) (by decide)) (by decide)) (by decide)
  refine zok_if (fun q23 => ?_) (fun q23 => ?_)
  · refine zok_within (fun w24 w25 => ?_) (fun w26 => ?_)
    · have h27 := z_wir w24 w25 (zrl_c (lo := 128) (hi := 128) (by decide)) (zrl_c (lo := 271) (hi := 271) (by decide))
      refine zok_if (fun q28 => ?_) (fun q28 => ?_)
      · exact zr_no (zc_eql (1) (0) q28 (zr_c (lo := 1) (hi := 1) (by decide)) (zr_c (lo := 0) (hi := 0) (by decide)) (by decide)) (by decide)
      refine zok_ck (by decide) ?_
      refine zok_if (fun q29 => ?_) (fun q29 => ?_)
      · have h30 := zc_ltl (5) q29 (zr_rem (lo := 0) (hi := 7) 8 (by decide) h27 (by decide)) (zr_c (lo := 6) (hi := 6) (by decide)) (by decide)
        unfold fX12_wave_40
        unfold fX12_wave_41
        refine zok_fails0 (hσ.wi 0 0 (by decide) zr_any (by decide +kernel)) (fun σ1 e31 i32 => ?_)
        refine zok_if (fun q33 => ?_) (fun q33 => ?_)
        · refine zok_if (fun q34 => ?_) (fun q34 => ?_)
          · refine zok_if (fun q35 => ?_) (fun q35 => ?_)
            · have h36 := zc_eql (128) (64) q35 h27 (zr_c (lo := 64) (hi := 64) (by decide)) (by decide)
              exact zr_no h36 (by decide)
            refine zok_if (fun q37 => ?_) (fun q37 => ?_)
            · have h38 := zc_eql (128) (65) q37 h27 (zr_c (lo := 65) (hi := 65) (by decide)) (by decide)
              exact zr_no h38 (by decide)
            refine zok_if (fun q39 => ?_) (fun q39 => ?_)
            · have h40 := zc_eql (128) (66) q39 h27 (zr_c (lo := 66) (hi := 66) (by decide)) (by decide)
              exact zr_no h40 (by decide)
            refine zok_if (fun q41 => ?_) (fun q41 => ?_)
            · have h42 := zc_eql (128) (67) q41 h27 (zr_c (lo := 67) (hi := 67) (by decide)) (by decide)
              exact zr_no h42 (by decide)
            refine zok_ck (by decide) ?_
            refine zok_ck (by decide) ?_
            refine zok_ck (zin_ok (zr_add (lo := 172) (hi := 279) (zr_add (lo := 172) (hi := 274) (zr_c (lo := 172) (hi := 172) (by decide)) (zr_mul (lo := 0) (hi := 102) (zr_c (lo := 6) (hi := 6) (by decide)) (zr_div (lo := 0) (hi := 17) 8 (by decide) (zr_sub (lo := 0) (hi := 143) h27 (zr_c (lo := 128) (hi := 128) (by decide)) (by decide)) (by decide)) (by decide)) (by decide)) h30 (by decide)) (by decide)) ?_
            exact zok_sai i32 trivial
          exact zr_no (zc_ltl (63) (z_nle q34) h27 (zr_c (lo := 64) (hi := 64) (by decide)) (by decide)) (by decide)
        exact zr_no (zc_nel (1) (0) q33 (zr_c (lo := 0) (hi := 0) (by decide)) (zr_c (lo := 0) (hi := 0) (by decide)) (by decide)) (by decide)
      have h43 := zc_ler (6) (z_nlt q29) (zr_c (lo := 6) (hi := 6) (by decide)) (zr_rem (lo := 0) (hi := 7) 8 (by decide) h27 (by decide)) (by decide)
      unfold fX12_wave_36
      unfold fX12_wave_41
      refine zok_fails1 (hσ.wi 0 0 (by decide) zr_any (by decide +kernel)) (fun σ1 e44 i45 => ?_)
      refine zok_if (fun q46 => ?_) (fun q46 => ?_)
      · exact zr_no (zc_eql (1) (0) q46 (zr_c (lo := 1) (hi := 1) (by decide)) (zr_c (lo := 0) (hi := 0) (by decide)) (by decide)) (by decide)
      exact zok_sai i45 trivial
    refine zok_if (fun q47 => ?_) (fun q47 => ?_)
    · unfold fX12_wave_36
      unfold fX12_wave_41
      refine zok_fails1 (hσ.wi 0 0 (by decide) zr_any (by decide +kernel)) (fun σ1 e48 i49 => ?_)
      refine zok_if (fun q50 => ?_) (fun q50 => ?_)
      · exact zr_no (zc_eql (1) (0) q50 (zr_c (lo := 1) (hi := 1) (by decide)) (zr_c (lo := 0) (hi := 0) (by decide)) (by decide)) (by decide)
      exact zok_sai i49 trivial
    exact zr_no (zc_nel (1) (0) q47 (zr_c (lo := 0) (hi := 0) (by decide)) (zr_c (lo := 0) (hi := 0) (by decide)) (by decide)) (by decide)
  exact zr_no (zc_nel (1) (0) q23 (zr_c (lo := 0) (hi := 0) (by decide)) (zr_c (lo := 0) (hi := 0) (by decide)) (by decide)) (by decide)
theorem s_X12_plan {G : Nat → Int} {σ : zSt} (hσ : zIM G σ) {x1 : Int32} {x2 : Int32} {x3 : Int32} : zok (fX12_plan σ x1 x2 x3) (zAi (zIM G) (fun v : Int32 => zr (0) (256) v)) := by
  unfold fX12_plan
  refine zok_ck rfl ?_
  refine zok_if (fun q1 => ?_) (fun q1 => ?_)
  · have h2 := zc_eql (0) (0) q1 (rM_45 hσ.sg _ (by decide)) (zr_c (lo := 0) (hi := 0) (by decide)) (by decide)
    unfold fX12_plan_36
    refine zok_if (fun q3 => ?_) (fun q3 => ?_)
    · have h4 := zc_ltl (-1) q3 zr_any (zr_c (lo := 0) (hi := 0) (by decide)) (by decide)
      unfold fX12_plan_71
      unfold fX12_plan_76
      refine zok_fails1 (hσ.wi 0 0 (by decide) zr_any (by decide +kernel)) (fun σ8 e5 i6 => ?_)
      refine zok_if (fun q7 => ?_) (fun q7 => ?_)
      · exact zr_no (zc_eql (1) (0) q7 (zr_c (lo := 1) (hi := 1) (by decide)) (zr_c (lo := 0) (hi := 0) (by decide)) (by decide)) (by decide)
      unfold fX12_plan_110
      exact zok_sai i6 (zr_w (zr_c (lo := 0) (hi := 0) (by decide)) (by decide))
    have h8 := zc_ler (0) (z_nlt q3) (zr_c (lo := 0) (hi := 0) (by decide)) zr_any (by decide)
    refine zok_if (fun q9 => ?_) (fun q9 => ?_)
    · exact zr_no (zc_ltl (-1) q9 h8 (zr_c (lo := 0) (hi := 0) (by decide)) (by decide)) (by decide)
    refine zok_within (fun w10 w11 => ?_) (fun w12 => ?_)
    · have h13 := z_wir w10 w11 (zrl_c (lo := 0) (hi := 0) (by decide)) (zrl_c (lo := 1) (hi := 1) (by decide))
      refine zok_if (fun q14 => ?_) (fun q14 => ?_)
      · exact zr_no (zc_eql (1) (0) q14 (zr_c (lo := 1) (hi := 1) (by decide)) (zr_c (lo := 0) (hi := 0) (by decide)) (by decide)) (by decide)
      refine zok_within (fun w15 w16 => ?_) (fun w17 => ?_)
      · have h18 := z_wir w15 w16 (zrl_c (lo := 0) (hi := 0) (by decide)) (zrl_c (lo := 63) (hi := 63) (by decide))
        refine zok_if (fun q19 => ?_) (fun q19 => ?_)
        · exact zr_no (zc_eql (1) (0) q19 (zr_c (lo := 1) (hi := 1) (by decide)) (zr_c (lo := 0) (hi := 0) (by decide)) (by decide)) (by decide)
        unfold fX12_plan_76
        refine zok_fails0 (hσ.wi 0 0 (by decide) zr_any (by decide +kernel)) (fun σ8 e20 i21 => ?_)
        refine zok_if (fun q22 => ?_) (fun q22 => ?_)
        · refine zok_ck rfl ?_
          refine zok_if (fun q23 => ?_) (fun q23 => ?_)
          · have h24 := zc_eql (256) (0) q23 (z_tr e20 rfl h2) (zr_c (lo := 256) (hi := 256) (by decide)) (by decide)
            exact zr_no h24 (by decide)
          unfold fX12_plan_103
          refine zok_fails0 (i21.wi 0 0 (by decide) zr_any (by decide +kernel)) (fun σ1 e25 i26 => ?_)
          refine zok_if (fun q27 => ?_) (fun q27 => ?_)
          · refine zok_ck rfl ?_
            refine zok_br (zr_add (lo := 280) (hi := 280) (zr_c (lo := 280) (hi := 280) (by decide)) (zr_mul (lo := 0) (hi := 0) (zr_c (lo := 3) (hi := 3) (by decide)) (z_tr e25 rfl (z_tr e20 rfl h2)) (by decide)) (by decide)) (fun v3 e29 h28 => ?_)
            have h30 := z_pt0 e29 (z_tr e25 rfl (z_tr e20 rfl h2)) (by decide)
            refine zok_ck (zin_ok h28 (by decide)) ?_
            refine zok_bs (i26.pl h30 (by decide)) (fun σ4 e32 i31 => ?_)
            refine zok_ck (zin_ok (zr_add (lo := 281) (hi := 281) h28 (zr_c (lo := 1) (hi := 1) (by decide)) (by decide)) (by decide)) ?_
            refine zok_bs (i31.pl1 (zpt_add h30 (c1 := 1) 1 (by decide) (by decide)) h13 (by decide)) (fun σ5 e34 i33 => ?_)
            refine zok_ck (zin_ok (zr_add (lo := 282) (hi := 282) h28 (zr_c (lo := 2) (hi := 2) (by decide)) (by decide)) (by decide)) ?_
            refine zok_bs (i33.pl (zpt_add h30 (c1 := 2) 2 (by decide) (by decide)) (by decide)) (fun σ6 e36 i35 => ?_)
            refine zok_ck rfl ?_
            refine zok_ck rfl ?_
            refine zok_bs (i35.wi 171 171 (by decide) (zr_add (lo := 1) (hi := 1) (z_trr e36 (z_ix (c := 282) (d := 282) (zr_add (lo := 282) (hi := 282) h28 (zr_c (lo := 2) (hi := 2) (by decide)) (by decide)) (by decide)) (by decide) (z_trr e34 (z_ix (c := 281) (d := 281) (zr_add (lo := 281) (hi := 281) h28 (zr_c (lo := 1) (hi := 1) (by decide)) (by decide)) (by decide)) (by decide) (z_trr e32 (z_ix (c := 280) (d := 280) h28 (by decide)) (by decide) (z_tr e25 rfl (z_tr e20 rfl h2))))) (zr_c (lo := 1) (hi := 1) (by decide)) (by decide)) (by decide +kernel)) (fun σ7 e38 i37 => ?_)
            refine zok_ck rfl ?_
            exact zok_sai i37 (zr_w (z_own e38 (zr_add (lo := 1) (hi := 1) (z_trr e36 (z_ix (c := 282) (d := 282) (zr_add (lo := 282) (hi := 282) h28 (zr_c (lo := 2) (hi := 2) (by decide)) (by decide)) (by decide)) (by decide) (z_trr e34 (z_ix (c := 281) (d := 281) (zr_add (lo := 281) (hi := 281) h28 (zr_c (lo := 1) (hi := 1) (by decide)) (by decide)) (by decide)) (by decide) (z_trr e32 (z_ix (c := 280) (d := 280) h28 (by decide)) (by decide) (z_tr e25 rfl (z_tr e20 rfl h2))))) (zr_c (lo := 1) (hi := 1) (by decide)) (by decide))) (by decide))
          exact zr_no (zc_nel (1) (0) q27 (zr_c (lo := 0) (hi := 0) (by decide)) (zr_c (lo := 0) (hi := 0) (by decide)) (by decide)) (by decide)
        exact zr_no (zc_nel (1) (0) q22 (zr_c (lo := 0) (hi := 0) (by decide)) (zr_c (lo := 0) (hi := 0) (by decide)) (by decide)) (by decide)
      refine zok_if (fun q39 => ?_) (fun q39 => ?_)
      · unfold fX12_plan_71
        unfold fX12_plan_76
        refine zok_fails1 (hσ.wi 0 0 (by decide) zr_any (by decide +kernel)) (fun σ8 e40 i41 => ?_)
        refine zok_if (fun q42 => ?_) (fun q42 => ?_)
        · exact zr_no (zc_eql (1) (0) q42 (zr_c (lo := 1) (hi := 1) (by decide)) (zr_c (lo := 0) (hi := 0) (by decide)) (by decide)) (by decide)
        unfold fX12_plan_110
        exact zok_sai i41 (zr_w (zr_c (lo := 0) (hi := 0) (by decide)) (by decide))
      exact zr_no (zc_nel (1) (0) q39 (zr_c (lo := 0) (hi := 0) (by decide)) (zr_c (lo := 0) (hi := 0) (by decide)) (by decide)) (by decide)
    refine zok_if (fun q43 => ?_) (fun q43 => ?_)
    · unfold fX12_plan_71
      unfold fX12_plan_76
      refine zok_fails1 (hσ.wi 0 0 (by decide) zr_any (by decide +kernel)) (fun σ8 e44 i45 => ?_)
      refine zok_if (fun q46 => ?_) (fun q46 => ?_)
      · exact zr_no (zc_eql (1) (0) q46 (zr_c (lo := 1) (hi := 1) (by decide)) (zr_c (lo := 0) (hi := 0) (by decide)) (by decide)) (by decide)
      unfold fX12_plan_110
      exact zok_sai i45 (zr_w (zr_c (lo := 0) (hi := 0) (by decide)) (by decide))
    exact zr_no (zc_nel (1) (0) q43 (zr_c (lo := 0) (hi := 0) (by decide)) (zr_c (lo := 0) (hi := 0) (by decide)) (by decide)) (by decide)
  have h47 := zc_nel (1) (256) q1 (rM_45 hσ.sg _ (by decide)) (zr_c (lo := 0) (hi := 0) (by decide)) (by decide)
  refine zok_ck rfl ?_
  refine zok_ck (zin_ok (zr_add (lo := 280) (hi := 1045) (zr_c (lo := 280) (hi := 280) (by decide)) (zr_mul (lo := 0) (hi := 765) (zr_c (lo := 3) (hi := 3) (by decide)) (zr_sub (lo := 0) (hi := 255) h47 (zr_c (lo := 1) (hi := 1) (by decide)) (by decide)) (by decide)) (by decide)) (by decide)) ?_
  unfold fX12_plan_36
  refine zok_if (fun q48 => ?_) (fun q48 => ?_)
  · have h49 := zc_ltl (2147483646) q48 zr_any zr_any (by decide)
    have h50 := zc_ltr (-2147483647) q48 zr_any zr_any (by decide)
    unfold fX12_plan_71
    unfold fX12_plan_76
    refine zok_fails1 (hσ.wi 0 0 (by decide) zr_any (by decide +kernel)) (fun σ8 e51 i52 => ?_)
    refine zok_if (fun q53 => ?_) (fun q53 => ?_)
    · exact zr_no (zc_eql (1) (0) q53 (zr_c (lo := 1) (hi := 1) (by decide)) (zr_c (lo := 0) (hi := 0) (by decide)) (by decide)) (by decide)
    unfold fX12_plan_110
    exact zok_sai i52 (zr_w (zr_c (lo := 0) (hi := 0) (by decide)) (by decide))
  refine zok_if (fun q54 => ?_) (fun q54 => ?_)
  · have h55 := zc_ltl (-1) q54 zr_any (zr_c (lo := 0) (hi := 0) (by decide)) (by decide)
    unfold fX12_plan_71
    unfold fX12_plan_76
    refine zok_fails1 (hσ.wi 0 0 (by decide) zr_any (by decide +kernel)) (fun σ8 e56 i57 => ?_)
    refine zok_if (fun q58 => ?_) (fun q58 => ?_)
    · exact zr_no (zc_eql (1) (0) q58 (zr_c (lo := 1) (hi := 1) (by decide)) (zr_c (lo := 0) (hi := 0) (by decide)) (by decide)) (by decide)
    unfold fX12_plan_110
    exact zok_sai i57 (zr_w (zr_c (lo := 0) (hi := 0) (by decide)) (by decide))
  have h59 := zc_ler (0) (z_nlt q54) (zr_c (lo := 0) (hi := 0) (by decide)) zr_any (by decide)
  refine zok_within (fun w60 w61 => ?_) (fun w62 => ?_)
  · have h63 := z_wir w60 w61 (zrl_c (lo := 0) (hi := 0) (by decide)) (zrl_c (lo := 1) (hi := 1) (by decide))
    refine zok_if (fun q64 => ?_) (fun q64 => ?_)
    · exact zr_no (zc_eql (1) (0) q64 (zr_c (lo := 1) (hi := 1) (by decide)) (zr_c (lo := 0) (hi := 0) (by decide)) (by decide)) (by decide)
    refine zok_within (fun w65 w66 => ?_) (fun w67 => ?_)
    · have h68 := z_wir w65 w66 (zrl_c (lo := 0) (hi := 0) (by decide)) (zrl_c (lo := 63) (hi := 63) (by decide))
      refine zok_if (fun q69 => ?_) (fun q69 => ?_)
      · exact zr_no (zc_eql (1) (0) q69 (zr_c (lo := 1) (hi := 1) (by decide)) (zr_c (lo := 0) (hi := 0) (by decide)) (by decide)) (by decide)
      unfold fX12_plan_76
      refine zok_fails0 (hσ.wi 0 0 (by decide) zr_any (by decide +kernel)) (fun σ8 e70 i71 => ?_)
      refine zok_if (fun q72 => ?_) (fun q72 => ?_)
      · refine zok_ck rfl ?_
        refine zok_if (fun q73 => ?_) (fun q73 => ?_)
        · have h74 := zc_eql (256) (256) q73 (z_tr e70 rfl h47) (zr_c (lo := 256) (hi := 256) (by decide)) (by decide)
          unfold fX12_plan_103
          refine zok_fails1 (i71.wi 0 0 (by decide) zr_any (by decide +kernel)) (fun σ1 e75 i76 => ?_)
          refine zok_if (fun q77 => ?_) (fun q77 => ?_)
          · exact zr_no (zc_eql (1) (0) q77 (zr_c (lo := 1) (hi := 1) (by decide)) (zr_c (lo := 0) (hi := 0) (by decide)) (by decide)) (by decide)
          unfold fX12_plan_110
          exact zok_sai i76 (zr_w (zr_c (lo := 0) (hi := 0) (by decide)) (by decide))
        have h78 := zc_nel (1) (255) q73 (z_tr e70 rfl h47) (zr_c (lo := 256) (hi := 256) (by decide)) (by decide)
        unfold fX12_plan_103
        refine zok_fails0 (i71.wi 0 0 (by decide) zr_any (by decide +kernel)) (fun σ1 e79 i80 => ?_)
        refine zok_if (fun q81 => ?_) (fun q81 => ?_)
        · refine zok_ck rfl ?_
          refine zok_br (zr_add (lo := 283) (hi := 1045) (zr_c (lo := 280) (hi := 280) (by decide)) (zr_mul (lo := 3) (hi := 765) (zr_c (lo := 3) (hi := 3) (by decide)) (z_tr e79 rfl h78) (by decide)) (by decide)) (fun v3 e83 h82 => ?_)
          have h84 := z_pt0 e83 (z_tr e79 rfl h78) (by decide)
          refine zok_ck (zin_ok h82 (by decide)) ?_
          refine zok_bs (i80.pl h84 (by decide)) (fun σ4 e86 i85 => ?_)
          refine zok_ck (zin_ok (zr_add (lo := 284) (hi := 1046) h82 (zr_c (lo := 1) (hi := 1) (by decide)) (by decide)) (by decide)) ?_
          refine zok_bs (i85.pl1 (zpt_add h84 (c1 := 1) 1 (by decide) (by decide)) h63 (by decide)) (fun σ5 e88 i87 => ?_)
          refine zok_ck (zin_ok (zr_add (lo := 285) (hi := 1047) h82 (zr_c (lo := 2) (hi := 2) (by decide)) (by decide)) (by decide)) ?_
          refine zok_bs (i87.pl (zpt_add h84 (c1 := 2) 2 (by decide) (by decide)) (by decide)) (fun σ6 e90 i89 => ?_)
          refine zok_ck rfl ?_
          refine zok_ck rfl ?_
          refine zok_bs (i89.wi 171 171 (by decide) (zr_add (lo := 2) (hi := 256) (z_trr e90 (z_ix (c := 285) (d := 1047) (zr_add (lo := 285) (hi := 1047) h82 (zr_c (lo := 2) (hi := 2) (by decide)) (by decide)) (by decide)) (by decide) (z_trr e88 (z_ix (c := 284) (d := 1046) (zr_add (lo := 284) (hi := 1046) h82 (zr_c (lo := 1) (hi := 1) (by decide)) (by decide)) (by decide)) (by decide) (z_trr e86 (z_ix (c := 283) (d := 1045) h82 (by decide)) (by decide) (z_tr e79 rfl h78)))) (zr_c (lo := 1) (hi := 1) (by decide)) (by decide)) (by decide +kernel)) (fun σ7 e92 i91 => ?_)
          refine zok_ck rfl ?_
          exact zok_sai i91 (zr_w (z_own e92 (zr_add (lo := 2) (hi := 256) (z_trr e90 (z_ix (c := 285) (d := 1047) (zr_add (lo := 285) (hi := 1047) h82 (zr_c (lo := 2) (hi := 2) (by decide)) (by decide)) (by decide)) (by decide) (z_trr e88 (z_ix (c := 284) (d := 1046) (zr_add (lo := 284) (hi := 1046) h82 (zr_c (lo := 1) (hi := 1) (by decide)) (by decide)) (by decide)) (by decide) (z_trr e86 (z_ix (c := 283) (d := 1045) h82 (by decide)) (by decide) (z_tr e79 rfl h78)))) (zr_c (lo := 1) (hi := 1) (by decide)) (by decide))) (by decide))
        exact zr_no (zc_nel (1) (0) q81 (zr_c (lo := 0) (hi := 0) (by decide)) (zr_c (lo := 0) (hi := 0) (by decide)) (by decide)) (by decide)
      exact zr_no (zc_nel (1) (0) q72 (zr_c (lo := 0) (hi := 0) (by decide)) (zr_c (lo := 0) (hi := 0) (by decide)) (by decide)) (by decide)
    refine zok_if (fun q93 => ?_) (fun q93 => ?_)
    · unfold fX12_plan_71
      unfold fX12_plan_76
      refine zok_fails1 (hσ.wi 0 0 (by decide) zr_any (by decide +kernel)) (fun σ8 e94 i95 => ?_)
      refine zok_if (fun q96 => ?_) (fun q96 => ?_)
      · exact zr_no (zc_eql (1) (0) q96 (zr_c (lo := 1) (hi := 1) (by decide)) (zr_c (lo := 0) (hi := 0) (by decide)) (by decide)) (by decide)
      unfold fX12_plan_110
      exact zok_sai i95 (zr_w (zr_c (lo := 0) (hi := 0) (by decide)) (by decide))
    exact zr_no (zc_nel (1) (0) q93 (zr_c (lo := 0) (hi := 0) (by decide)) (zr_c (lo := 0) (hi := 0) (by decide)) (by decide)) (by decide)
  refine zok_if (fun q97 => ?_) (fun q97 => ?_)
  · unfold fX12_plan_71
    unfold fX12_plan_76
    refine zok_fails1 (hσ.wi 0 0 (by decide) zr_any (by decide +kernel)) (fun σ8 e98 i99 => ?_)
    refine zok_if (fun q100 => ?_) (fun q100 => ?_)
    · exact zr_no (zc_eql (1) (0) q100 (zr_c (lo := 1) (hi := 1) (by decide)) (zr_c (lo := 0) (hi := 0) (by decide)) (by decide)) (by decide)
    unfold fX12_plan_110
    exact zok_sai i99 (zr_w (zr_c (lo := 0) (hi := 0) (by decide)) (by decide))
  exact zr_no (zc_nel (1) (0) q97 (zr_c (lo := 0) (hi := 0) (by decide)) (zr_c (lo := 0) (hi := 0) (by decide)) (by decide)) (by decide)
theorem s_say_h {G : Nat → Int} {n1 : Nat} (hn : n1 < zNK) : ∀ (n : Nat) {σ : zSt} (hσ : zEM [9] G σ) {x2 : Int32} (h0 : 0 ≤ x2.toInt) (hL : x2.toInt ≤ ((zkL n1 : Nat) : Int)) (hs : (zgi σ 0 39).toInt + (((zkL n1 : Nat) : Int) - x2.toInt) ≤ 40) (hm : ((zkL n1 : Nat) : Int) - x2.toInt < n), zok (fX12_say_2 n σ n1 x2) (zMtu (zEM [9] G) ((zgi σ 0 39).toInt + (((zkL n1 : Nat) : Int) - x2.toInt))) := by
  intro n
  induction n with
  | zero => intro σ hσ x2 h0 hL hs hm; exfalso; omega
  | succ n ih =>
    intro σ hσ x2 h0 hL hs hm
    show zok (fX12_say_2_body (fX12_say_2 n) σ n1 x2) _
    unfold fX12_say_2_body
    have kl := z_kL n1
    have eN : (zkN n1).toInt = zkL n1 := Int32.toInt_ofNat_of_lt (by omega)
    refine zok_ck (decide_eq_true hn) ?_
    refine zok_if (fun q => zok_smu hσ (by omega)) (fun q => ?_)
    have q1 := Int32.lt_iff_toInt_lt.mp (z_nle q)
    refine zok_ck (decide_eq_true hn) ?_
    refine zok_ck (zin_ok (lo := x2.toInt) (hi := x2.toInt) ⟨Int.le_refl _, Int.le_refl _⟩ ⟨h0, by omega⟩) ?_
    have hsg := rM_8 hσ.sg 39 (by decide)
    have hs1 := hsg.1
    have hs9 : zr 0 39 (zgi σ 0 39) := ⟨hs1, by omega⟩
    refine zok_ck (zin_ok hs9 (by decide)) ?_
    refine zok_bs (hσ.wk (by decide +kernel)) (fun σ1 e1 i1 => ?_)
    have k1 := z_k39 e1 (fun h => absurd h.1 (by decide))
    have hsA : zr 0 39 (zgi σ1 0 39) := ⟨by omega, by omega⟩
    have c1 : (1 : Int32).toInt = 1 := rfl
    have t1 := z_tadd hsA (zr_c (lo := 1) (hi := 1) (x := 1) (by decide)) (by decide)
    refine zok_bs (i1.wi 39 39 (by decide) (zr_add (lo := 1) (hi := 40) hsA (zr_c (lo := 1) (hi := 1) (x := 1) (by decide)) (by decide)) (by decide +kernel)) (fun σ2 e2 i2 => ?_)
    have k2 : (zgi σ2 0 39).toInt = (zgi σ 0 39).toInt + 1 := by
      rw [e2]; unfold zgi; rw [zsi_ej]
      show (zgi σ1 0 39 + 1).toInt = _
      unfold zgi at t1 k1 ⊢
      omega
    have t2 : (x2 + 1).toInt = x2.toInt + 1 := by rw [Int32.toInt_add, c1]; exact z_bm (by omega) (by omega)
    refine zok_bv (fun v3 e3 => ?_)
    subst e3
    exact zok_wmu (ih i2 (by omega) (by omega) (by omega) (by omega)) (by omega)
theorem s_X12_say {G : Nat → Int} {σ : zSt} (hσ : zEM [9] G σ) {n1 : Nat} (h_n1 : n1 ∈ ([71, 72, 73, 74, 75, 76, 77, 78, 79, 80, 81, 82, 83, 84, 85, 86, 87, 88, 89, 90, 91, 92, 93, 94, 95, 96, 97, 98, 99, 100, 101, 102, 103, 104, 105, 106, 107, 108, 109, 110, 111, 112, 113, 114, 115, 116, 117, 118, 119, 120, 121, 122, 123, 124, 125, 126, 127, 128, 129, 130, 131, 132, 133, 134, 135, 136, 137, 138, 139, 140, 141, 142, 143, 144, 145, 146, 147, 148, 149, 150, 151, 152, 153, 154, 155, 156, 157, 158, 159, 160, 161, 162, 163, 164, 165, 166, 167, 168, 169, 170, 171, 172, 173, 174, 175, 176, 177, 178] : List Nat)) {d : Nat} (hd : ((zkL n1 : Nat) : Int) ≤ (d : Int)) (hs : (zgi σ 0 39).toInt + (d : Int) ≤ 40) : zok (fX12_say σ n1) (zMtu (zEM [9] G) ((zgi σ 0 39).toInt + (d : Int))) := by
  unfold fX12_say
  have kl : ((zkL n1 : Nat) : Int) < (zfuel : Nat) := by
    have := rM_8 hσ.sg 39 (by decide)
    have := this.1
    unfold zfuel; omega
  have c0 : (0 : Int32).toInt = 0 := rfl
  exact zok_wmu (s_say_h (z_memlt h_n1 (by decide)) zfuel hσ (by decide) (by omega) (by omega) (by omega)) (by omega)
theorem s_hex_h {G : Nat → Int} {x1 : Int32} : ∀ (n : Nat) {σ : zSt} (hσ : zEM [9] G σ) {x3 : Int32} (h3 : zr (-1) 3 x3) (hs : (zgi σ 0 39).toInt + (x3.toInt + 1) ≤ 40) (hm : x3.toInt + 1 < n), zok (fX12_hex_4 n σ x1 x3) (zMtu (zEM [9] G) ((zgi σ 0 39).toInt + (x3.toInt + 1))) := by
  intro n
  induction n with
  | zero => intro σ hσ x3 h3 hs hm; have := h3.1; exfalso; omega
  | succ n ih =>
    intro σ hσ x3 h3 hs hm
    show zok (fX12_hex_4_body (fX12_hex_4 n) σ x1 x3) _
    unfold fX12_hex_4_body
    have b1 := h3.1
    have c0 : (0 : Int32).toInt = 0 := rfl
    refine zok_if (fun q => zok_smu hσ (by omega)) (fun q => ?_)
    have q1 := Int32.le_iff_toInt_le.mp (z_nlt q)
    have hsg := rM_8 hσ.sg 39 (by decide)
    have hs1 := hsg.1
    have hs9 : zr 0 39 (zgi σ 0 39) := ⟨hs1, by omega⟩
    have k : ∀ s0 : Int32, zok (fX12_hex_49 (fX12_hex_4 n) σ x1 x3 s0 (zgi σ 0 39)) (zMtu (zEM [9] G) ((zgi σ 0 39).toInt + (x3.toInt + 1))) := fun s0 => by
      unfold fX12_hex_49
      refine zok_ck (zin_ok hs9 (by decide)) ?_
      refine zok_bs (hσ.wk (by decide +kernel)) (fun σ1 e1 i1 => ?_)
      have k1 := z_k39 e1 (fun h => absurd h.1 (by decide))
      have hsA : zr 0 39 (zgi σ1 0 39) := ⟨by omega, by omega⟩
      have c1 : (1 : Int32).toInt = 1 := rfl
      have t1 := z_tadd hsA (zr_c (lo := 1) (hi := 1) (x := 1) (by decide)) (by decide)
      refine zok_bs (i1.wi 39 39 (by decide) (zr_add (lo := 1) (hi := 40) hsA (zr_c (lo := 1) (hi := 1) (x := 1) (by decide)) (by decide)) (by decide +kernel)) (fun σ2 e2 i2 => ?_)
      have k2 : (zgi σ2 0 39).toInt = (zgi σ 0 39).toInt + 1 := by
        rw [e2]; unfold zgi; rw [zsi_ej]
        show (zgi σ1 0 39 + 1).toInt = _
        unfold zgi at t1 k1 ⊢
        omega
      have t2 := z_tadd h3 (zr_c (lo := -1) (hi := -1) (x := -1) (by decide)) (by decide)
      have cm : (-1 : Int32).toInt = -1 := rfl
      have b2 := h3.2
      refine zok_bv (fun v3 e3 => ?_)
      subst e3
      exact zok_wmu (ih i2 ⟨by omega, by omega⟩ (by omega) (by omega)) (by omega)
    refine zok_bv (fun v4 _ => zok_if (fun _ => k _) (fun _ => k _))
theorem s_X12_hex {G : Nat → Int} {σ : zSt} (hσ : zEM [9] G σ) {x1 : Int32} {x2 : Int32} (h_x2 : zr (1) (4) x2) {d : Nat} (hd : x2.toInt ≤ (d : Int)) (hs : (zgi σ 0 39).toInt + (d : Int) ≤ 40) : zok (fX12_hex σ x1 x2) (zMtu (zEM [9] G) ((zgi σ 0 39).toInt + (d : Int))) := by
  unfold fX12_hex
  have t := z_tsub h_x2 (zr_c (lo := 1) (hi := 1) (x := 1) (by decide)) (by decide)
  have c1 : (1 : Int32).toInt = 1 := rfl
  have b1 := h_x2.1
  have b2 := h_x2.2
  refine zok_bv (fun v5 e5 => ?_)
  subst e5
  exact zok_wmu (s_hex_h zfuel hσ ⟨by omega, by omega⟩ (by omega) (by unfold zfuel; omega)) (by omega)
theorem s_X12_taken {G : Nat → Int} {σ : zSt} (hσ : zEM [9] G σ) (hs : (zgi σ 0 39).toInt + 0 ≤ 40) : zok (fX12_taken σ ) (zMti (zEM [9] G) ((zgi σ 0 39).toInt + 0) (fun v : Int32 => zr (0) (255) v)) := by
  unfold fX12_taken
  refine zok_pi (s_X12_read hσ.P) (fun v2 h1 => ?_)
  refine zok_bs (hσ.wi 40 40 (by decide) zr_any (by decide +kernel)) (fun σ3 e3 i2 => ?_)
  have m4 := z_k39 e3 (by decide)
  exact zok_smi i2 (by omega) h1
theorem s_X12_takenWord {G : Nat → Int} {σ : zSt} (hσ : zEM [9] G σ) (hs : (zgi σ 0 39).toInt + 0 ≤ 40) : zok (fX12_takenWord σ ) (zMti (zEM [9] G) ((zgi σ 0 39).toInt + 0) (fun v : Int32 => zr (0) (65535) v)) := by
  unfold fX12_takenWord
  refine zok_mi (s_X12_taken hσ (by omega)) (fun σ1 v2 i1 m2 h3 => ?_)
  refine zok_mi (s_X12_taken i1 (by omega)) (fun σ3 v4 i4 m5 h6 => ?_)
  exact zok_smi i4 (by omega) (zr_or (lo := 0) (hi := 65535) 16 h3 (zr_shl (lo := 0) (hi := 65280) 8 (by decide) h6 (by decide)) (by decide))
theorem s_X12_sayHl_31 {G : Nat → Int} {σ : zSt} (hσ : zEM [9] G σ) {s0 : Nat} (h_s0 : s0 ∈ ([90, 91, 92] : List Nat)) (hs : (zgi σ 0 39).toInt + 2 ≤ 40) : zok (fX12_sayHl_31 σ s0) (zMtu (zEM [9] G) ((zgi σ 0 39).toInt + 2)) := by
  unfold fX12_sayHl_31
  refine zok_mu (s_X12_say hσ (z_memsub h_s0 (by decide)) (d := 2) (z_kd h_s0 (by decide +kernel)) (by omega)) (fun σ1 i1 m2 => ?_)
  exact zok_smu i1 (by omega)
theorem s_X12_sayHl {G : Nat → Int} {σ : zSt} (hσ : zEM [9] G σ) (hs : (zgi σ 0 39).toInt + 2 ≤ 40) : zok (fX12_sayHl σ ) (zMtu (zEM [9] G) ((zgi σ 0 39).toInt + 2)) := by
  unfold fX12_sayHl
  refine zok_if (fun q1 => ?_) (fun q1 => ?_)
  · have h2 := zc_eql (0) (0) q1 zr_any (zr_c (lo := 0) (hi := 0) (by decide)) (by decide)
    exact zok_wmu (s_X12_sayHl_31 hσ (by decide) (by omega)) (by omega)
  refine zok_if (fun q3 => ?_) (fun q3 => ?_)
  · have h4 := zc_eql (1) (1) q3 zr_any (zr_c (lo := 1) (hi := 1) (by decide)) (by decide)
    exact zok_wmu (s_X12_sayHl_31 hσ (by decide) (by omega)) (by omega)
  exact zok_wmu (s_X12_sayHl_31 hσ (by decide) (by omega)) (by omega)
theorem s_X12_sayPlace_76 {G : Nat → Int} {σ : zSt} (hσ : zEM [9] G σ) {s0 : Int32} (hs : (zgi σ 0 39).toInt + 3 ≤ 40) : zok (fX12_sayPlace_76 σ s0) (zMtu (zEM [9] G) ((zgi σ 0 39).toInt + 3)) := by
  unfold fX12_sayPlace_76
  refine zok_mu (s_X12_hex hσ (zr_w (zr_c (lo := 2) (hi := 2) (by decide)) (by decide)) (d := 2) (by decide) (by omega)) (fun σ1 i1 m2 => ?_)
  refine zok_mu (s_X12_say i1 (by decide) (d := 1) (by decide +kernel) (by omega)) (fun σ2 i4 m5 => ?_)
  exact zok_smu i4 (by omega)
theorem s_X12_sayPlace_53 {G : Nat → Int} {σ : zSt} (hσ : zEM [9] G σ) {s0 : Nat} (h_s0 : s0 ∈ ([87, 88] : List Nat)) (hs : (zgi σ 0 39).toInt + 4 ≤ 40) : zok (fX12_sayPlace_53 σ s0) (zMtu (zEM [9] G) ((zgi σ 0 39).toInt + 4)) := by
  unfold fX12_sayPlace_53
  refine zok_mu (s_X12_say hσ (z_memsub h_s0 (by decide)) (d := 1) (z_kd h_s0 (by decide +kernel)) (by omega)) (fun σ3 i1 m2 => ?_)
  refine zok_if (fun q4 => ?_) (fun q4 => ?_)
  · have h5 := zc_ler (0) q4 (zr_c (lo := 0) (hi := 0) (by decide)) zr_any (by decide)
    exact zok_wmu (s_X12_sayPlace_76 i1 (by omega)) (by omega)
  have h6 := zc_ltl (-1) (z_nle q4) zr_any (zr_c (lo := 0) (hi := 0) (by decide)) (by decide)
  exact zok_wmu (s_X12_sayPlace_76 i1 (by omega)) (by omega)
theorem s_X12_sayPlace_33 {G : Nat → Int} {σ : zSt} (hσ : zEM [9] G σ) {s0 : Nat} (h_s0 : s0 ∈ ([85, 86] : List Nat)) (hs : (zgi σ 0 39).toInt + 7 ≤ 40) : zok (fX12_sayPlace_33 σ s0) (zMtu (zEM [9] G) ((zgi σ 0 39).toInt + 7)) := by
  unfold fX12_sayPlace_33
  refine zok_mu (s_X12_say hσ (z_memsub h_s0 (by decide)) (d := 3) (z_kd h_s0 (by decide +kernel)) (by omega)) (fun σ4 i1 m2 => ?_)
  refine zok_if (fun q4 => ?_) (fun q4 => ?_)
  · have h5 := zc_ler (0) q4 (zr_c (lo := 0) (hi := 0) (by decide)) zr_any (by decide)
    exact zok_wmu (s_X12_sayPlace_53 i1 (by decide) (by omega)) (by omega)
  have h6 := zc_ltl (-1) (z_nle q4) zr_any (zr_c (lo := 0) (hi := 0) (by decide)) (by decide)
  exact zok_wmu (s_X12_sayPlace_53 i1 (by decide) (by omega)) (by omega)
theorem s_X12_sayPlace {G : Nat → Int} {σ : zSt} (hσ : zEM [9] G σ) (hs : (zgi σ 0 39).toInt + 7 ≤ 40) : zok (fX12_sayPlace σ ) (zMtu (zEM [9] G) ((zgi σ 0 39).toInt + 7)) := by
  unfold fX12_sayPlace
  refine zok_if (fun q1 => ?_) (fun q1 => ?_)
  · have h2 := zc_eql (0) (0) q1 zr_any (zr_c (lo := 0) (hi := 0) (by decide)) (by decide)
    refine zok_mu (s_X12_say hσ (by decide) (d := 4) (by decide +kernel) (by omega)) (fun σ5 i3 m4 => ?_)
    exact zok_smu i3 (by omega)
  refine zok_if (fun q6 => ?_) (fun q6 => ?_)
  · have h7 := zc_eql (1) (1) q6 zr_any (zr_c (lo := 1) (hi := 1) (by decide)) (by decide)
    exact zok_wmu (s_X12_sayPlace_33 hσ (by decide) (by omega)) (by omega)
  exact zok_wmu (s_X12_sayPlace_33 hσ (by decide) (by omega)) (by omega)
theorem s_X12_sayR_108 {G : Nat → Int} {σ : zSt} (hσ : zEM [9] G σ) {s0 : Nat} (h_s0 : s0 ∈ ([93, 94, 95, 96, 97, 98, 99] : List Nat)) (hs : (zgi σ 0 39).toInt + 1 ≤ 40) : zok (fX12_sayR_108 σ s0) (zMtu (zEM [9] G) ((zgi σ 0 39).toInt + 1)) := by
  unfold fX12_sayR_108
  refine zok_mu (s_X12_say hσ (z_memsub h_s0 (by decide)) (d := 1) (z_kd h_s0 (by decide +kernel)) (by omega)) (fun σ1 i1 m2 => ?_)
  exact zok_smu i1 (by omega)
theorem s_X12_sayR_39 {G : Nat → Int} {σ : zSt} (hσ : zEM [9] G σ) {x1 : Int32} (h_x1 : zr (0) (7) x1) (hs : (zgi σ 0 39).toInt + 1 ≤ 40) : zok (fX12_sayR_39 σ x1) (zMtu (zEM [9] G) ((zgi σ 0 39).toInt + 1)) := by
  unfold fX12_sayR_39
  refine zok_if (fun q1 => ?_) (fun q1 => ?_)
  · have h2 := zc_eql (0) (0) q1 h_x1 (zr_c (lo := 0) (hi := 0) (by decide)) (by decide)
    exact zok_wmu (s_X12_sayR_108 hσ (by decide) (by omega)) (by omega)
  have h3 := zc_nel (1) (7) q1 h_x1 (zr_c (lo := 0) (hi := 0) (by decide)) (by decide)
  refine zok_if (fun q4 => ?_) (fun q4 => ?_)
  · have h5 := zc_eql (1) (1) q4 h3 (zr_c (lo := 1) (hi := 1) (by decide)) (by decide)
    exact zok_wmu (s_X12_sayR_108 hσ (by decide) (by omega)) (by omega)
  have h6 := zc_nel (2) (7) q4 h3 (zr_c (lo := 1) (hi := 1) (by decide)) (by decide)
  refine zok_if (fun q7 => ?_) (fun q7 => ?_)
  · have h8 := zc_eql (2) (2) q7 h6 (zr_c (lo := 2) (hi := 2) (by decide)) (by decide)
    exact zok_wmu (s_X12_sayR_108 hσ (by decide) (by omega)) (by omega)
  have h9 := zc_nel (3) (7) q7 h6 (zr_c (lo := 2) (hi := 2) (by decide)) (by decide)
  refine zok_if (fun q10 => ?_) (fun q10 => ?_)
  · have h11 := zc_eql (3) (3) q10 h9 (zr_c (lo := 3) (hi := 3) (by decide)) (by decide)
    exact zok_wmu (s_X12_sayR_108 hσ (by decide) (by omega)) (by omega)
  have h12 := zc_nel (4) (7) q10 h9 (zr_c (lo := 3) (hi := 3) (by decide)) (by decide)
  refine zok_if (fun q13 => ?_) (fun q13 => ?_)
  · have h14 := zc_eql (4) (4) q13 h12 (zr_c (lo := 4) (hi := 4) (by decide)) (by decide)
    exact zok_wmu (s_X12_sayR_108 hσ (by decide) (by omega)) (by omega)
  have h15 := zc_nel (5) (7) q13 h12 (zr_c (lo := 4) (hi := 4) (by decide)) (by decide)
  refine zok_if (fun q16 => ?_) (fun q16 => ?_)
  · have h17 := zc_eql (5) (5) q16 h15 (zr_c (lo := 5) (hi := 5) (by decide)) (by decide)
    exact zok_wmu (s_X12_sayR_108 hσ (by decide) (by omega)) (by omega)
  have h18 := zc_nel (6) (7) q16 h15 (zr_c (lo := 5) (hi := 5) (by decide)) (by decide)
  exact zok_wmu (s_X12_sayR_108 hσ (by decide) (by omega)) (by omega)
theorem s_X12_sayR_35 {G : Nat → Int} {σ : zSt} (hσ : zEM [9] G σ) {x1 : Int32} (h_x1 : zr (4) (5) x1) (hs : (zgi σ 0 39).toInt + 3 ≤ 40) : zok (fX12_sayR_35 σ x1) (zMtu (zEM [9] G) ((zgi σ 0 39).toInt + 3)) := by
  unfold fX12_sayR_35
  refine zok_mu (s_X12_sayHl hσ (by omega)) (fun σ2 i1 m2 => ?_)
  exact zok_wmu (s_X12_sayR_39 i1 (zr_w h_x1 (by decide)) (by omega)) (by omega)
theorem s_X12_sayR {G : Nat → Int} {σ : zSt} (hσ : zEM [9] G σ) {x1 : Int32} (h_x1 : zr (0) (7) x1) (hs : (zgi σ 0 39).toInt + 7 ≤ 40) : zok (fX12_sayR σ x1) (zMtu (zEM [9] G) ((zgi σ 0 39).toInt + 7)) := by
  unfold fX12_sayR
  refine zok_if (fun q1 => ?_) (fun q1 => ?_)
  · have h2 := zc_eql (6) (6) q1 h_x1 (zr_c (lo := 6) (hi := 6) (by decide)) (by decide)
    refine zok_mu (s_X12_sayPlace hσ (by omega)) (fun σ3 i3 m4 => ?_)
    exact zok_smu i3 (by omega)
  refine zok_if (fun q6 => ?_) (fun q6 => ?_)
  · have h7 := zc_lel (0) q6 zr_any (zr_c (lo := 0) (hi := 0) (by decide)) (by decide)
    exact zok_wmu (s_X12_sayR_39 hσ h_x1 (by omega)) (by omega)
  have h8 := zc_ltr (1) (z_nle q6) (zr_c (lo := 0) (hi := 0) (by decide)) zr_any (by decide)
  refine zok_if (fun q9 => ?_) (fun q9 => ?_)
  · have h10 := zc_eql (0) (0) q9 zr_any (zr_c (lo := 0) (hi := 0) (by decide)) (by decide)
    refine zok_if (fun q11 => ?_) (fun q11 => ?_)
    · have h12 := zc_eql (4) (4) q11 h_x1 (zr_c (lo := 4) (hi := 4) (by decide)) (by decide)
      exact zok_wmu (s_X12_sayR_35 hσ (zr_w h12 (by decide)) (by omega)) (by omega)
    refine zok_if (fun q13 => ?_) (fun q13 => ?_)
    · have h14 := zc_eql (5) (5) q13 h_x1 (zr_c (lo := 5) (hi := 5) (by decide)) (by decide)
      exact zok_wmu (s_X12_sayR_35 hσ (zr_w h14 (by decide)) (by omega)) (by omega)
    exact zok_wmu (s_X12_sayR_39 hσ h_x1 (by omega)) (by omega)
  exact zok_wmu (s_X12_sayR_39 hσ h_x1 (by omega)) (by omega)
theorem s_X12_sayRp_50 {σ : zSt} (hσ : zPM σ) : zok (fX12_sayRp_50 σ ) (zPu σ) := by
  unfold fX12_sayRp_50
  exact zok_spu
theorem s_X12_sayRp_47 {G : Nat → Int} {σ : zSt} (hσ : zEM [9] G σ) {s0 : Nat} (h_s0 : s0 ∈ ([112, 113, 114, 115] : List Nat)) (hs : (zgi σ 0 39).toInt + 2 ≤ 40) : zok (fX12_sayRp_47 σ s0) (zMtu (zEM [9] G) ((zgi σ 0 39).toInt + 2)) := by
  unfold fX12_sayRp_47
  refine zok_mu (s_X12_say hσ (z_memsub h_s0 (by decide)) (d := 2) (z_kd h_s0 (by decide +kernel)) (by omega)) (fun σ1 i1 m2 => ?_)
  exact zok_pmu i1 (by omega) (s_X12_sayRp_50 i1.P)
theorem s_X12_sayRp {G : Nat → Int} {σ : zSt} (hσ : zEM [9] G σ) {x1 : Int32} (h_x1 : zr (0) (3) x1) {x2 : Int32} (h_x2 : zr (0) (1) x2) (hs : (zgi σ 0 39).toInt + 2 ≤ 40) : zok (fX12_sayRp σ x1 x2) (zMtu (zEM [9] G) ((zgi σ 0 39).toInt + 2)) := by
  unfold fX12_sayRp
  refine zok_if (fun q1 => ?_) (fun q1 => ?_)
  · have h2 := zc_eql (2) (2) q1 h_x1 (zr_c (lo := 2) (hi := 2) (by decide)) (by decide)
    refine zok_mu (s_X12_sayHl hσ (by omega)) (fun σ2 i3 m4 => ?_)
    exact zok_pmu i3 (by omega) (s_X12_sayRp_50 i3.P)
  refine zok_if (fun q6 => ?_) (fun q6 => ?_)
  · have h7 := zc_eql (0) (0) q6 h_x1 (zr_c (lo := 0) (hi := 0) (by decide)) (by decide)
    exact zok_wmu (s_X12_sayRp_47 hσ (by decide) (by omega)) (by omega)
  have h8 := zc_nel (1) (3) q6 h_x1 (zr_c (lo := 0) (hi := 0) (by decide)) (by decide)
  refine zok_if (fun q9 => ?_) (fun q9 => ?_)
  · have h10 := zc_eql (1) (1) q9 h8 (zr_c (lo := 1) (hi := 1) (by decide)) (by decide)
    exact zok_wmu (s_X12_sayRp_47 hσ (by decide) (by omega)) (by omega)
  have h11 := zc_nel (2) (3) q9 h8 (zr_c (lo := 1) (hi := 1) (by decide)) (by decide)
  refine zok_if (fun q12 => ?_) (fun q12 => ?_)
  · have h13 := zc_eql (0) (0) q12 h_x2 (zr_c (lo := 0) (hi := 0) (by decide)) (by decide)
    exact zok_wmu (s_X12_sayRp_47 hσ (by decide) (by omega)) (by omega)
  have h14 := zc_nel (1) (1) q12 h_x2 (zr_c (lo := 0) (hi := 0) (by decide)) (by decide)
  exact zok_wmu (s_X12_sayRp_47 hσ (by decide) (by omega)) (by omega)
theorem s_X12_sayCc_81 {G : Nat → Int} {σ : zSt} (hσ : zEM [9] G σ) {s0 : Nat} (h_s0 : s0 ∈ ([94, 103, 104, 105, 106, 107, 108, 109] : List Nat)) (hs : (zgi σ 0 39).toInt + 2 ≤ 40) : zok (fX12_sayCc_81 σ s0) (zMtu (zEM [9] G) ((zgi σ 0 39).toInt + 2)) := by
  unfold fX12_sayCc_81
  refine zok_mu (s_X12_say hσ (z_memsub h_s0 (by decide)) (d := 2) (z_kd h_s0 (by decide +kernel)) (by omega)) (fun σ1 i1 m2 => ?_)
  exact zok_smu i1 (by omega)
theorem s_X12_sayCc {G : Nat → Int} {σ : zSt} (hσ : zEM [9] G σ) {x1 : Int32} (h_x1 : zr (0) (7) x1) (hs : (zgi σ 0 39).toInt + 2 ≤ 40) : zok (fX12_sayCc σ x1) (zMtu (zEM [9] G) ((zgi σ 0 39).toInt + 2)) := by
  unfold fX12_sayCc
  refine zok_if (fun q1 => ?_) (fun q1 => ?_)
  · have h2 := zc_eql (0) (0) q1 h_x1 (zr_c (lo := 0) (hi := 0) (by decide)) (by decide)
    exact zok_wmu (s_X12_sayCc_81 hσ (by decide) (by omega)) (by omega)
  have h3 := zc_nel (1) (7) q1 h_x1 (zr_c (lo := 0) (hi := 0) (by decide)) (by decide)
  refine zok_if (fun q4 => ?_) (fun q4 => ?_)
  · have h5 := zc_eql (1) (1) q4 h3 (zr_c (lo := 1) (hi := 1) (by decide)) (by decide)
    exact zok_wmu (s_X12_sayCc_81 hσ (by decide) (by omega)) (by omega)
  have h6 := zc_nel (2) (7) q4 h3 (zr_c (lo := 1) (hi := 1) (by decide)) (by decide)
  refine zok_if (fun q7 => ?_) (fun q7 => ?_)
  · have h8 := zc_eql (2) (2) q7 h6 (zr_c (lo := 2) (hi := 2) (by decide)) (by decide)
    exact zok_wmu (s_X12_sayCc_81 hσ (by decide) (by omega)) (by omega)
  have h9 := zc_nel (3) (7) q7 h6 (zr_c (lo := 2) (hi := 2) (by decide)) (by decide)
  refine zok_if (fun q10 => ?_) (fun q10 => ?_)
  · have h11 := zc_eql (3) (3) q10 h9 (zr_c (lo := 3) (hi := 3) (by decide)) (by decide)
    exact zok_wmu (s_X12_sayCc_81 hσ (by decide) (by omega)) (by omega)
  have h12 := zc_nel (4) (7) q10 h9 (zr_c (lo := 3) (hi := 3) (by decide)) (by decide)
  refine zok_if (fun q13 => ?_) (fun q13 => ?_)
  · have h14 := zc_eql (4) (4) q13 h12 (zr_c (lo := 4) (hi := 4) (by decide)) (by decide)
    exact zok_wmu (s_X12_sayCc_81 hσ (by decide) (by omega)) (by omega)
  have h15 := zc_nel (5) (7) q13 h12 (zr_c (lo := 4) (hi := 4) (by decide)) (by decide)
  refine zok_if (fun q16 => ?_) (fun q16 => ?_)
  · have h17 := zc_eql (5) (5) q16 h15 (zr_c (lo := 5) (hi := 5) (by decide)) (by decide)
    exact zok_wmu (s_X12_sayCc_81 hσ (by decide) (by omega)) (by omega)
  have h18 := zc_nel (6) (7) q16 h15 (zr_c (lo := 5) (hi := 5) (by decide)) (by decide)
  refine zok_if (fun q19 => ?_) (fun q19 => ?_)
  · have h20 := zc_eql (6) (6) q19 h18 (zr_c (lo := 6) (hi := 6) (by decide)) (by decide)
    exact zok_wmu (s_X12_sayCc_81 hσ (by decide) (by omega)) (by omega)
  have h21 := zc_nel (7) (7) q19 h18 (zr_c (lo := 6) (hi := 6) (by decide)) (by decide)
  exact zok_wmu (s_X12_sayCc_81 hσ (by decide) (by omega)) (by omega)
theorem s_X12_sayPlaced {G : Nat → Int} {σ : zSt} (hσ : zEM [9] G σ) {x1 : Int32} (h_x1 : zr (0) (65535) x1) (hs : (zgi σ 0 39).toInt + 6 ≤ 40) : zok (fX12_sayPlaced σ x1) (zMtu (zEM [9] G) ((zgi σ 0 39).toInt + 6)) := by
  unfold fX12_sayPlaced
  refine zok_mu (s_X12_say hσ (by decide) (d := 1) (by decide +kernel) (by omega)) (fun σ1 i1 m2 => ?_)
  refine zok_mu (s_X12_hex i1 (zr_w (zr_c (lo := 4) (hi := 4) (by decide)) (by decide)) (d := 4) (by decide) (by omega)) (fun σ2 i4 m5 => ?_)
  refine zok_mu (s_X12_say i4 (by decide) (d := 1) (by decide +kernel) (by omega)) (fun σ3 i7 m8 => ?_)
  exact zok_smu i7 (by omega)
theorem s_X12_sayJump {G : Nat → Int} {σ : zSt} (hσ : zEM [9] G σ) (hs : (zgi σ 0 39).toInt + 4 ≤ 40) : zok (fX12_sayJump σ ) (zMtu (zEM [9] G) ((zgi σ 0 39).toInt + 4)) := by
  unfold fX12_sayJump
  refine zok_mi (s_X12_taken hσ (by omega)) (fun σ1 v2 i1 m2 h3 => ?_)
  refine zok_pi (s_X12_signed i1.P h3) (fun v4 h4 => ?_)
  refine zok_mu (s_X12_hex i1 (zr_w (zr_c (lo := 4) (hi := 4) (by decide)) (by decide)) (d := 4) (by decide) (by omega)) (fun σ5 i5 m6 => ?_)
  exact zok_smu i5 (by omega)
theorem s_X12_sayDo_81 {G : Nat → Int} {σ : zSt} (hσ : zEM [9] G σ) {s0 : Nat} (h_s0 : s0 ∈ ([110, 130, 131, 132, 133, 134, 135, 136] : List Nat)) (hs : (zgi σ 0 39).toInt + 4 ≤ 40) : zok (fX12_sayDo_81 σ s0) (zMtu (zEM [9] G) ((zgi σ 0 39).toInt + 4)) := by
  unfold fX12_sayDo_81
  refine zok_mu (s_X12_say hσ (z_memsub h_s0 (by decide)) (d := 4) (z_kd h_s0 (by decide +kernel)) (by omega)) (fun σ1 i1 m2 => ?_)
  exact zok_smu i1 (by omega)
