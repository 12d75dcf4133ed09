section ZJN0
theorem s_X12_save_12 {G : Nat → Int} : ∀ (n : Nat) {σ : zSt} (hσ : zEM [6, 7, 8, 102, 105, 106] G σ) {x1 : Int32} (h_x1 : zr (0) (1048) x1) (hm : (1048) - x1.toInt < n), zok (fX12_save_12 n σ x1) (zEM [6, 7, 8, 102, 105, 106] G) := by
  intro n
  induction n with
  | zero => intro σ hσ x1 h_x1 hm ; have h9 := h_x1.1; have h8 := h_x1.2; exfalso; omega
  | succ n ih => intro σ hσ x1 h_x1 hm ; exact s_X12_save_12_body (fun σ x1 hσ h_x1 hm1 => ih hσ h_x1 (by omega)) hσ h_x1 (Int.le_refl _)
theorem s_X12_save {G : Nat → Int} {σ : zSt} (hσ : zEM [2, 6, 7, 8, 102, 105, 106] G σ) : zok (fX12_save σ ) (zEM [2, 6, 7, 8, 102, 105, 106] G) := by
  unfold fX12_save
  refine zok_bs (hσ.wi 0 0 (by decide) (zr_c (lo := 0) (hi := 0) (by decide)) (by decide +kernel)) (fun σ18 e2 i1 => ?_)
  refine zok_ck rfl ?_
  refine zok_bs (i1.wi 19 19 (by decide) (zr_c (lo := 1) (hi := 1) (by decide)) (by decide +kernel)) (fun σ19 e4 i3 => ?_)
  exact (i3.uEu (by decide) (fun G1 hG => s_X12_save_12 zfuel hG (zr_w (zr_c (lo := 0) (hi := 0) (by decide)) (by decide)) (by decide)))
theorem s_X12_restore_207_body {G : Nat → Int} {σ : zSt} {k207 : zSt → Int32 → Option (zSt)} {Mk207 : Int} (hk207 : ∀ (σ : zSt) (x1 : Int32), zIM G σ → zr (0) (4096) x1 → (4096) - x1.toInt < Mk207 → zok (k207 σ x1) (zIM G)) (hσ : zIM G σ) {x1 : Int32} (h_x1 : zr (0) (4096) x1) (hMk207 : (4096) - x1.toInt ≤ Mk207) : zok (fX12_restore_207_body k207 σ x1) (zIM G) := by
  unfold fX12_restore_207_body
  refine zok_if (fun q1 => ?_) (fun q1 => ?_)
  · have h2 := zc_ler (4096) q1 (zr_c (lo := 4096) (hi := 4096) (by decide)) h_x1 (by decide)
    exact zok_some hσ
  have h3 := zc_ltl (4095) (z_nle q1) h_x1 (zr_c (lo := 4096) (hi := 4096) (by decide)) (by decide)
  refine zok_ck (zin_ok h3 (by decide)) ?_
  refine zok_ck (zin_ok h3 (by decide)) ?_
  refine zok_bs (hσ.wl 0 4095 (z_ix h3 (by decide)) (by decide)) (fun σ1 e5 i4 => ?_)
  refine zok_ck (zin_ok h3 (by decide)) ?_
  refine zok_ck (zin_ok h3 (by decide)) ?_
  refine zok_bs (i4.wl 0 4095 (z_ix h3 (by decide)) (by decide)) (fun σ2 e7 i6 => ?_)
  refine zok_br (zr_add (lo := 1) (hi := 4096) h3 (zr_c (lo := 1) (hi := 1) (by decide)) (by decide)) (fun v3 e9 h8 => ?_)
  exact hk207 _ _ i6 (zr_w h8 (by decide)) (by rw [e9]; have := z_tadd (y := (1 : Int32)) h3 (zr_c (lo := 1) (hi := 1) (by decide)) (by decide); have e9 : (1 : Int32).toInt = 1 := rfl; omega) 
theorem s_X12_restore_207 {G : Nat → Int} : ∀ (n : Nat) {σ : zSt} (hσ : zIM G σ) {x1 : Int32} (h_x1 : zr (0) (4096) x1) (hm : (4096) - x1.toInt < n), zok (fX12_restore_207 n σ x1) (zIM G) := by
  intro n
  induction n with
  | zero => intro σ hσ x1 h_x1 hm ; have h9 := h_x1.1; have h8 := h_x1.2; exfalso; omega
  | succ n ih => intro σ hσ x1 h_x1 hm ; exact s_X12_restore_207_body (fun σ x1 hσ h_x1 hm1 => ih hσ h_x1 (by omega)) hσ h_x1 (Int.le_refl _)
theorem s_X12_restore_181_body {G : Nat → Int} {σ : zSt} {k181 : zSt → Int32 → Option (zSt)} {Mk181 : Int} (hk181 : ∀ (σ : zSt) (x1 : Int32), zIM G σ → zr (0) (61440) x1 → (61440) - x1.toInt < Mk181 → zok (k181 σ x1) (zIM G)) (hσ : zIM G σ) {x1 : Int32} (h_x1 : zr (0) (61440) x1) (hMk181 : (61440) - x1.toInt ≤ Mk181) : zok (fX12_restore_181_body k181 σ x1) (zIM G) := by
  unfold fX12_restore_181_body
  refine zok_if (fun q1 => ?_) (fun q1 => ?_)
  · have h2 := zc_ler (61440) q1 (zr_c (lo := 61440) (hi := 61440) (by decide)) h_x1 (by decide)
    exact (s_X12_restore_207 zfuel hσ (zr_w (zr_c (lo := 0) (hi := 0) (by decide)) (by decide)) (by decide))
  have h3 := zc_ltl (61439) (z_nle q1) h_x1 (zr_c (lo := 61440) (hi := 61440) (by decide)) (by decide)
  refine zok_ck (zin_ok h3 (by decide)) ?_
  refine zok_ck (zin_ok h3 (by decide)) ?_
  refine zok_bs (hσ.wk (by decide)) (fun σ4 e5 i4 => ?_)
  refine zok_br (zr_add (lo := 1) (hi := 61440) h3 (zr_c (lo := 1) (hi := 1) (by decide)) (by decide)) (fun v5 e7 h6 => ?_)
  exact hk181 _ _ i4 (zr_w h6 (by decide)) (by rw [e7]; have := z_tadd (y := (1 : Int32)) h3 (zr_c (lo := 1) (hi := 1) (by decide)) (by decide); have e9 : (1 : Int32).toInt = 1 := rfl; omega) 
theorem s_X12_restore_181 {G : Nat → Int} : ∀ (n : Nat) {σ : zSt} (hσ : zIM G σ) {x1 : Int32} (h_x1 : zr (0) (61440) x1) (hm : (61440) - x1.toInt < n), zok (fX12_restore_181 n σ x1) (zIM G) := by
  intro n
  induction n with
  | zero => intro σ hσ x1 h_x1 hm ; have h9 := h_x1.1; have h8 := h_x1.2; exfalso; omega
  | succ n ih => intro σ hσ x1 h_x1 hm ; exact s_X12_restore_181_body (fun σ x1 hσ h_x1 hm1 => ih hσ h_x1 (by omega)) hσ h_x1 (Int.le_refl _)
theorem s_X12_restore_155_body {G : Nat → Int} {σ : zSt} {k155 : zSt → Int32 → Option (zSt)} {Mk155 : Int} (hk155 : ∀ (σ : zSt) (x1 : Int32), zIM G σ → zr (0) (64) x1 → (64) - x1.toInt < Mk155 → zok (k155 σ x1) (zIM G)) (hσ : zIM G σ) {x1 : Int32} (h_x1 : zr (0) (64) x1) (hMk155 : (64) - x1.toInt ≤ Mk155) : zok (fX12_restore_155_body k155 σ x1) (zIM G) := by
  unfold fX12_restore_155_body
  refine zok_if (fun q1 => ?_) (fun q1 => ?_)
  · have h2 := zc_ler (64) q1 (zr_c (lo := 64) (hi := 64) (by decide)) h_x1 (by decide)
    exact (s_X12_restore_181 zfuel hσ (zr_w (zr_c (lo := 0) (hi := 0) (by decide)) (by decide)) (by decide))
  have h3 := zc_ltl (63) (z_nle q1) h_x1 (zr_c (lo := 64) (hi := 64) (by decide)) (by decide)
  refine zok_ck (zin_ok h3 (by decide)) ?_
  refine zok_ck (zin_ok h3 (by decide)) ?_
  refine zok_bs (hσ.wk (by decide)) (fun σ6 e5 i4 => ?_)
  refine zok_br (zr_add (lo := 1) (hi := 64) h3 (zr_c (lo := 1) (hi := 1) (by decide)) (by decide)) (fun v7 e7 h6 => ?_)
  exact hk155 _ _ i4 (zr_w h6 (by decide)) (by rw [e7]; have := z_tadd (y := (1 : Int32)) h3 (zr_c (lo := 1) (hi := 1) (by decide)) (by decide); have e9 : (1 : Int32).toInt = 1 := rfl; omega) 
theorem s_X12_restore_155 {G : Nat → Int} : ∀ (n : Nat) {σ : zSt} (hσ : zIM G σ) {x1 : Int32} (h_x1 : zr (0) (64) x1) (hm : (64) - x1.toInt < n), zok (fX12_restore_155 n σ x1) (zIM G) := by
  intro n
  induction n with
  | zero => intro σ hσ x1 h_x1 hm ; have h9 := h_x1.1; have h8 := h_x1.2; exfalso; omega
  | succ n ih => intro σ hσ x1 h_x1 hm ; exact s_X12_restore_155_body (fun σ x1 hσ h_x1 hm1 => ih hσ h_x1 (by omega)) hσ h_x1 (Int.le_refl _)
theorem s_X12_restore_128_body {G : Nat → Int} {σ : zSt} {k128 : zSt → Int32 → Option (zSt)} {Mk128 : Int} (hk128 : ∀ (σ : zSt) (x1 : Int32), zIM G σ → zr (0) (16384) x1 → (16384) - x1.toInt < Mk128 → zok (k128 σ x1) (zIM G)) (hσ : zIM G σ) {x1 : Int32} (h_x1 : zr (0) (16384) x1) (hMk128 : (16384) - x1.toInt ≤ Mk128) : zok (fX12_restore_128_body k128 σ x1) (zIM G) := by
  unfold fX12_restore_128_body
  refine zok_if (fun q1 => ?_) (fun q1 => ?_)
  · have h2 := zc_ler (16384) q1 (zr_c (lo := 16384) (hi := 16384) (by decide)) h_x1 (by decide)
    exact (s_X12_restore_155 zfuel hσ (zr_w (zr_c (lo := 0) (hi := 0) (by decide)) (by decide)) (by decide))
  have h3 := zc_ltl (16383) (z_nle q1) h_x1 (zr_c (lo := 16384) (hi := 16384) (by decide)) (by decide)
  refine zok_ck (zin_ok h3 (by decide)) ?_
  refine zok_ck (zin_ok h3 (by decide)) ?_
  refine zok_bs (hσ.wk (by decide)) (fun σ8 e5 i4 => ?_)
  refine zok_br (zr_add (lo := 1) (hi := 16384) h3 (zr_c (lo := 1) (hi := 1) (by decide)) (by decide)) (fun v9 e7 h6 => ?_)
  exact hk128 _ _ i4 (zr_w h6 (by decide)) (by rw [e7]; have := z_tadd (y := (1 : Int32)) h3 (zr_c (lo := 1) (hi := 1) (by decide)) (by decide); have e9 : (1 : Int32).toInt = 1 := rfl; omega) 
theorem s_X12_restore_128 {G : Nat → Int} : ∀ (n : Nat) {σ : zSt} (hσ : zIM G σ) {x1 : Int32} (h_x1 : zr (0) (16384) x1) (hm : (16384) - x1.toInt < n), zok (fX12_restore_128 n σ x1) (zIM G) := by
  intro n
  induction n with
  | zero => intro σ hσ x1 h_x1 hm ; have h9 := h_x1.1; have h8 := h_x1.2; exfalso; omega
  | succ n ih => intro σ hσ x1 h_x1 hm ; exact s_X12_restore_128_body (fun σ x1 hσ h_x1 hm1 => ih hσ h_x1 (by omega)) hσ h_x1 (Int.le_refl _)
theorem s_X12_restore_102_body {G : Nat → Int} {σ : zSt} {k102 : zSt → Int32 → Option (zSt)} {Mk102 : Int} (hk102 : ∀ (σ : zSt) (x1 : Int32), zIM G σ → zr (0) (32768) x1 → (32768) - x1.toInt < Mk102 → zok (k102 σ x1) (zIM G)) (hσ : zIM G σ) {x1 : Int32} (h_x1 : zr (0) (32768) x1) (hMk102 : (32768) - x1.toInt ≤ Mk102) : zok (fX12_restore_102_body k102 σ x1) (zIM G) := by
  unfold fX12_restore_102_body
  refine zok_if (fun q1 => ?_) (fun q1 => ?_)
  · have h2 := zc_ler (32768) q1 (zr_c (lo := 32768) (hi := 32768) (by decide)) h_x1 (by decide)
    exact (s_X12_restore_128 zfuel hσ (zr_w (zr_c (lo := 0) (hi := 0) (by decide)) (by decide)) (by decide))
  have h3 := zc_ltl (32767) (z_nle q1) h_x1 (zr_c (lo := 32768) (hi := 32768) (by decide)) (by decide)
  refine zok_ck (zin_ok h3 (by decide)) ?_
  refine zok_ck (zin_ok h3 (by decide)) ?_
  refine zok_bs (hσ.wk (by decide)) (fun σ10 e5 i4 => ?_)
  refine zok_br (zr_add (lo := 1) (hi := 32768) h3 (zr_c (lo := 1) (hi := 1) (by decide)) (by decide)) (fun v11 e7 h6 => ?_)
  exact hk102 _ _ i4 (zr_w h6 (by decide)) (by rw [e7]; have := z_tadd (y := (1 : Int32)) h3 (zr_c (lo := 1) (hi := 1) (by decide)) (by decide); have e9 : (1 : Int32).toInt = 1 := rfl; omega) 
theorem s_X12_restore_102 {G : Nat → Int} : ∀ (n : Nat) {σ : zSt} (hσ : zIM G σ) {x1 : Int32} (h_x1 : zr (0) (32768) x1) (hm : (32768) - x1.toInt < n), zok (fX12_restore_102 n σ x1) (zIM G) := by
  intro n
  induction n with
  | zero => intro σ hσ x1 h_x1 hm ; have h9 := h_x1.1; have h8 := h_x1.2; exfalso; omega
  | succ n ih => intro σ hσ x1 h_x1 hm ; exact s_X12_restore_102_body (fun σ x1 hσ h_x1 hm1 => ih hσ h_x1 (by omega)) hσ h_x1 (Int.le_refl _)
theorem s_X12_restore_75_body {G : Nat → Int} {σ : zSt} {k75 : zSt → Int32 → Option (zSt)} {Mk75 : Int} (hk75 : ∀ (σ : zSt) (x1 : Int32), zIM G σ → zr (0) (8192) x1 → (8192) - x1.toInt < Mk75 → zok (k75 σ x1) (zIM G)) (hσ : zIM G σ) {x1 : Int32} (h_x1 : zr (0) (8192) x1) (hMk75 : (8192) - x1.toInt ≤ Mk75) : zok (fX12_restore_75_body k75 σ x1) (zIM G) := by
  unfold fX12_restore_75_body
  refine zok_if (fun q1 => ?_) (fun q1 => ?_)
  · have h2 := zc_ler (8192) q1 (zr_c (lo := 8192) (hi := 8192) (by decide)) h_x1 (by decide)
    exact (s_X12_restore_102 zfuel hσ (zr_w (zr_c (lo := 0) (hi := 0) (by decide)) (by decide)) (by decide))
  have h3 := zc_ltl (8191) (z_nle q1) h_x1 (zr_c (lo := 8192) (hi := 8192) (by decide)) (by decide)
  refine zok_ck (zin_ok h3 (by decide)) ?_
  refine zok_ck (zin_ok h3 (by decide)) ?_
  refine zok_bs (hσ.wk (by decide)) (fun σ12 e5 i4 => ?_)
  refine zok_br (zr_add (lo := 1) (hi := 8192) h3 (zr_c (lo := 1) (hi := 1) (by decide)) (by decide)) (fun v13 e7 h6 => ?_)
  exact hk75 _ _ i4 (zr_w h6 (by decide)) (by rw [e7]; have := z_tadd (y := (1 : Int32)) h3 (zr_c (lo := 1) (hi := 1) (by decide)) (by decide); have e9 : (1 : Int32).toInt = 1 := rfl; omega) 
theorem s_X12_restore_75 {G : Nat → Int} : ∀ (n : Nat) {σ : zSt} (hσ : zIM G σ) {x1 : Int32} (h_x1 : zr (0) (8192) x1) (hm : (8192) - x1.toInt < n), zok (fX12_restore_75 n σ x1) (zIM G) := by
  intro n
  induction n with
  | zero => intro σ hσ x1 h_x1 hm ; have h9 := h_x1.1; have h8 := h_x1.2; exfalso; omega
  | succ n ih => intro σ hσ x1 h_x1 hm ; exact s_X12_restore_75_body (fun σ x1 hσ h_x1 hm1 => ih hσ h_x1 (by omega)) hσ h_x1 (Int.le_refl _)
theorem s_X12_restore_50_body {G : Nat → Int} {σ : zSt} {k50 : zSt → Int32 → Option (zSt)} {Mk50 : Int} (hk50 : ∀ (σ : zSt) (x1 : Int32), zEM [100, 101, 104] G σ → zr (0) (5) x1 → (5) - x1.toInt < Mk50 → zok (k50 σ x1) (zEM [100, 101, 104] G)) (hσ : zEM [100, 101, 104] G σ) {x1 : Int32} (h_x1 : zr (0) (5) x1) (hMk50 : (5) - x1.toInt ≤ Mk50) : zok (fX12_restore_50_body k50 σ x1) (zEM [100, 101, 104] G) := by
  unfold fX12_restore_50_body
  refine zok_if (fun q1 => ?_) (fun q1 => ?_)
  · have h2 := zc_ler (5) q1 (zr_c (lo := 5) (hi := 5) (by decide)) h_x1 (by decide)
    exact (hσ.upu (fun G1 hG => s_X12_restore_75 zfuel hG (zr_w (zr_c (lo := 0) (hi := 0) (by decide)) (by decide)) (by decide)))
  have h3 := zc_ltl (4) (z_nle q1) h_x1 (zr_c (lo := 5) (hi := 5) (by decide)) (by decide)
  refine zok_ck (zin_ok h3 (by decide)) ?_
  refine zok_ck (zin_ok h3 (by decide)) ?_
  refine zok_bs (hσ.wle 0 4 (z_ix h3 (by decide)) (by decide +kernel)) (fun σ14 e5 i4 => ?_)
  refine zok_br (zr_add (lo := 1) (hi := 5) h3 (zr_c (lo := 1) (hi := 1) (by decide)) (by decide)) (fun v15 e7 h6 => ?_)
  exact hk50 _ _ i4 (zr_w h6 (by decide)) (by rw [e7]; have := z_tadd (y := (1 : Int32)) h3 (zr_c (lo := 1) (hi := 1) (by decide)) (by decide); have e9 : (1 : Int32).toInt = 1 := rfl; omega) 
theorem s_X12_restore_50 {G : Nat → Int} : ∀ (n : Nat) {σ : zSt} (hσ : zEM [100, 101, 104] G σ) {x1 : Int32} (h_x1 : zr (0) (5) x1) (hm : (5) - x1.toInt < n), zok (fX12_restore_50 n σ x1) (zEM [100, 101, 104] G) := by
  intro n
  induction n with
  | zero => intro σ hσ x1 h_x1 hm ; have h9 := h_x1.1; have h8 := h_x1.2; exfalso; omega
  | succ n ih => intro σ hσ x1 h_x1 hm ; exact s_X12_restore_50_body (fun σ x1 hσ h_x1 hm1 => ih hσ h_x1 (by omega)) hσ h_x1 (Int.le_refl _)
theorem s_X12_restore_23_body {G : Nat → Int} {σ : zSt} {k23 : zSt → Int32 → Option (zSt)} {Mk23 : Int} (hk23 : ∀ (σ : zSt) (x1 : Int32), zEM [3, 4, 5, 100, 101, 104] G σ → zr (0) (1048) x1 → (1048) - x1.toInt < Mk23 → zok (k23 σ x1) (zEM [3, 4, 5, 100, 101, 104] G)) (hσ : zEM [3, 4, 5, 100, 101, 104] G σ) {x1 : Int32} (h_x1 : zr (0) (1048) x1) (hMk23 : (1048) - x1.toInt ≤ Mk23) : zok (fX12_restore_23_body k23 σ x1) (zEM [3, 4, 5, 100, 101, 104] G) := by
  unfold fX12_restore_23_body
  refine zok_if (fun q => ?_) (fun q => ?_)
  · exact hσ.uEu (l1 := [100, 101, 104]) (by decide) (fun G1 h1 => s_X12_restore_50 zfuel h1 (zr_c (by decide)) (by decide))
  · have q1 := Int32.lt_iff_toInt_lt.mp (z_nle q)
    have c2 : (1048 : Int32).toInt = 1048 := rfl
    have h5 : zr 0 1047 x1 := ⟨h_x1.1, by omega⟩
    have c1 : (1 : Int32).toInt = 1 := rfl
    have b := h_x1.1
    have t : (x1 + 1).toInt = x1.toInt + (1 : Int32).toInt := z_tadd h5 (zr_c (lo := 1) (hi := 1) (x := 1) (by decide)) (by decide)
    refine zok_ck (zin_ok h5 (by decide)) (zok_ck (zin_ok h5 (by decide)) ?_)
    refine zok_bs (I := zEM [3, 4, 5, 100, 101, 104] G) (hσ.c3 (z_ix h5 (by decide)) (by decide +kernel)) (fun σ1 e1 i1 => ?_)
    refine zok_bv (fun v3 e3 => ?_)
    subst e3
    exact hk23 _ _ i1 ⟨by omega, by omega⟩ (by omega)
theorem s_X12_restore_23 {G : Nat → Int} : ∀ (n : Nat) {σ : zSt} (hσ : zEM [3, 4, 5, 100, 101, 104] G σ) {x1 : Int32} (h_x1 : zr (0) (1048) x1) (hm : (1048) - x1.toInt < n), zok (fX12_restore_23 n σ x1) (zEM [3, 4, 5, 100, 101, 104] G) := by
  intro n
  induction n with
  | zero => intro σ hσ x1 h_x1 hm ; have h9 := h_x1.1; have h8 := h_x1.2; exfalso; omega
  | succ n ih => intro σ hσ x1 h_x1 hm ; exact s_X12_restore_23_body (fun σ x1 hσ h_x1 hm1 => ih hσ h_x1 (by omega)) hσ h_x1 (Int.le_refl _)
theorem s_X12_restore {G : Nat → Int} {σ : zSt} (hσ : zEM [3, 4, 5, 100, 101, 104] G σ) : zok (fX12_restore σ ) (zEM [3, 4, 5, 100, 101, 104] G) := by
  unfold fX12_restore
  refine zok_if (fun q1 => ?_) (fun q1 => ?_)
  · have h2 := zc_eql (0) (0) q1 zr_any (zr_c (lo := 0) (hi := 0) (by decide)) (by decide)
    unfold fX12_restore_13
    refine zok_fails1 (hσ.wi 0 0 (by decide) zr_any (by decide +kernel)) (fun σ18 e3 i4 => ?_)
    refine zok_if (fun q5 => ?_) (fun q5 => ?_)
    · exact zr_no (zc_eql (1) (0) q5 (zr_c (lo := 1) (hi := 1) (by decide)) (zr_c (lo := 0) (hi := 0) (by decide)) (by decide)) (by decide)
    exact zok_some i4
  unfold fX12_restore_13
  refine zok_fails0 (hσ.wi 0 0 (by decide) zr_any (by decide +kernel)) (fun σ18 e6 i7 => ?_)
  refine zok_if (fun q8 => ?_) (fun q8 => ?_)
  · exact (s_X12_restore_23 zfuel i7 (zr_w (zr_c (lo := 0) (hi := 0) (by decide)) (by decide)) (by decide))
  exact zr_no (zc_nel (1) (0) q8 (zr_c (lo := 0) (hi := 0) (by decide)) (zr_c (lo := 0) (hi := 0) (by decide)) (by decide)) (by decide)
theorem s_X12_register {G : Nat → Int} {σ : zSt} (hσ : zIM G σ) {x1 : Int32} : zok (fX12_register σ x1) (zAi (zIM G) (fun v : Int32 => True)) := by
  unfold fX12_register
  refine zok_within (fun w1 w2 => ?_) (fun w3 => ?_)
  · have h4 := z_wir w1 w2 (zrl_c (lo := 0) (hi := 0) (by decide)) (zrl_c (lo := 26) (hi := 26) (by decide))
    refine zok_if (fun q5 => ?_) (fun q5 => ?_)
    · exact zr_no (zc_eql (1) (0) q5 (zr_c (lo := 1) (hi := 1) (by decide)) (zr_c (lo := 0) (hi := 0) (by decide)) (by decide)) (by decide)
    unfold fX12_register_18
    refine zok_fails0 (hσ.wi 0 0 (by decide) zr_any (by decide +kernel)) (fun σ1 e6 i7 => ?_)
    refine zok_if (fun q8 => ?_) (fun q8 => ?_)
    · refine zok_ck (zin_ok h4 (by decide)) ?_
      unfold fX12_register_35
      exact zok_sai i7 trivial
    exact zr_no (zc_nel (1) (0) q8 (zr_c (lo := 0) (hi := 0) (by decide)) (zr_c (lo := 0) (hi := 0) (by decide)) (by decide)) (by decide)
  refine zok_if (fun q9 => ?_) (fun q9 => ?_)
  · unfold fX12_register_18
    refine zok_fails1 (hσ.wi 0 0 (by decide) zr_any (by decide +kernel)) (fun σ1 e10 i11 => ?_)
    refine zok_if (fun q12 => ?_) (fun q12 => ?_)
    · exact zr_no (zc_eql (1) (0) q12 (zr_c (lo := 1) (hi := 1) (by decide)) (zr_c (lo := 0) (hi := 0) (by decide)) (by decide)) (by decide)
    unfold fX12_register_35
    exact zok_sai i11 trivial
  exact zr_no (zc_nel (1) (0) q9 (zr_c (lo := 0) (hi := 0) (by decide)) (zr_c (lo := 0) (hi := 0) (by decide)) (by decide)) (by decide)
theorem s_X12_set {G : Nat → Int} {σ : zSt} (hσ : zIM G σ) {x1 : Int32} {x2 : Int32} : zok (fX12_set σ x1 x2) (zIM G) := by
  unfold fX12_set
  refine zok_within (fun w1 w2 => ?_) (fun w3 => ?_)
  · have h4 := z_wir w1 w2 (zrl_c (lo := 0) (hi := 0) (by decide)) (zrl_c (lo := 25) (hi := 25) (by decide))
    refine zok_if (fun q5 => ?_) (fun q5 => ?_)
    · exact zr_no (zc_eql (1) (0) q5 (zr_c (lo := 1) (hi := 1) (by decide)) (zr_c (lo := 0) (hi := 0) (by decide)) (by decide)) (by decide)
    unfold fX12_set_18
    refine zok_fails0 (hσ.wi 0 0 (by decide) zr_any (by decide +kernel)) (fun σ3 e6 i7 => ?_)
    refine zok_if (fun q8 => ?_) (fun q8 => ?_)
    · refine zok_if (fun q9 => ?_) (fun q9 => ?_)
      · have h10 := zc_eql (25) (25) q9 h4 (zr_c (lo := 25) (hi := 25) (by decide)) (by decide)
        refine zok_if (fun q11 => ?_) (fun q11 => ?_)
        · have h12 := zc_eql (3) (3) q11 (zr_andr (lo := 0) (hi := 3) (zr_c (lo := 3) (hi := 3) (by decide)) (by decide)) (zr_c (lo := 3) (hi := 3) (by decide)) (by decide)
          unfold fX12_set_51
          refine zok_ck (zin_ok h10 (by decide)) ?_
          refine zok_bs (i7.wi 25 25 (z_ix h10 (by decide)) (zr_c (lo := 2) (hi := 2) (by decide)) (by decide +kernel)) (fun σ1 e14 i13 => ?_)
          unfold fX12_set_105
          exact zok_some i13
        have h15 := zc_nel (0) (2) q11 (zr_andr (lo := 0) (hi := 3) (zr_c (lo := 3) (hi := 3) (by decide)) (by decide)) (zr_c (lo := 3) (hi := 3) (by decide)) (by decide)
        unfold fX12_set_51
        refine zok_ck (zin_ok h10 (by decide)) ?_
        refine zok_bs (i7.wi 25 25 (z_ix h10 (by decide)) h15 (by decide +kernel)) (fun σ1 e17 i16 => ?_)
        unfold fX12_set_105
        exact zok_some i16
      have h18 := zc_nel (0) (24) q9 h4 (zr_c (lo := 25) (hi := 25) (by decide)) (by decide)
      refine zok_if (fun q19 => ?_) (fun q19 => ?_)
      · have h20 := zc_ler (16) q19 (zr_c (lo := 16) (hi := 16) (by decide)) h18 (by decide)
        refine zok_if (fun q21 => ?_) (fun q21 => ?_)
        · have h22 := zc_ltr (21) q21 (zr_c (lo := 20) (hi := 20) (by decide)) h20 (by decide)
          refine zok_if (fun q23 => ?_) (fun q23 => ?_)
          · have h24 := zc_ltr (23) q23 (zr_c (lo := 22) (hi := 22) (by decide)) h22 (by decide)
            unfold fX12_set_104
            refine zok_ck (zin_ok h24 (by decide)) ?_
            refine zok_bs (i7.wi 23 24 (z_ix h24 (by decide)) (zr_andr (lo := 0) (hi := 1) (zr_c (lo := 1) (hi := 1) (by decide)) (by decide)) (by decide +kernel)) (fun σ2 e26 i25 => ?_)
            unfold fX12_set_105
            exact zok_some i25
          have h27 := zc_lel (22) (z_nlt q23) h22 (zr_c (lo := 22) (hi := 22) (by decide)) (by decide)
          unfold fX12_set_104
          refine zok_ck (zin_ok h27 (by decide)) ?_
          refine zok_bs (i7.wi 21 22 (z_ix h27 (by decide)) (zr_andr (lo := 0) (hi := 255) (zr_c (lo := 255) (hi := 255) (by decide)) (by decide)) (by decide +kernel)) (fun σ2 e29 i28 => ?_)
          unfold fX12_set_105
          exact zok_some i28
        have h30 := zc_lel (20) (z_nlt q21) h20 (zr_c (lo := 20) (hi := 20) (by decide)) (by decide)
        unfold fX12_set_104
        refine zok_ck (zin_ok h30 (by decide)) ?_
        refine zok_bs (i7.wi 16 20 (z_ix h30 (by decide)) (zr_andr (lo := 0) (hi := 65535) (zr_c (lo := 65535) (hi := 65535) (by decide)) (by decide)) (by decide +kernel)) (fun σ2 e32 i31 => ?_)
        unfold fX12_set_105
        exact zok_some i31
      have h33 := zc_ltl (15) (z_nle q19) h18 (zr_c (lo := 16) (hi := 16) (by decide)) (by decide)
      unfold fX12_set_104
      refine zok_ck (zin_ok h33 (by decide)) ?_
      refine zok_bs (i7.wi 0 15 (z_ix h33 (by decide)) (zr_andr (lo := 0) (hi := 255) (zr_c (lo := 255) (hi := 255) (by decide)) (by decide)) (by decide +kernel)) (fun σ2 e35 i34 => ?_)
      unfold fX12_set_105
      exact zok_some i34
    exact zr_no (zc_nel (1) (0) q8 (zr_c (lo := 0) (hi := 0) (by decide)) (zr_c (lo := 0) (hi := 0) (by decide)) (by decide)) (by decide)
  refine zok_if (fun q36 => ?_) (fun q36 => ?_)
  · unfold fX12_set_18
    refine zok_fails1 (hσ.wi 0 0 (by decide) zr_any (by decide +kernel)) (fun σ3 e37 i38 => ?_)
    refine zok_if (fun q39 => ?_) (fun q39 => ?_)
    · exact zr_no (zc_eql (1) (0) q39 (zr_c (lo := 1) (hi := 1) (by decide)) (zr_c (lo := 0) (hi := 0) (by decide)) (by decide)) (by decide)
    exact zok_some i38
  exact zr_no (zc_nel (1) (0) q36 (zr_c (lo := 0) (hi := 0) (by decide)) (zr_c (lo := 0) (hi := 0) (by decide)) (by decide)) (by decide)
theorem s_X12_peek {G : Nat → Int} {σ : zSt} (hσ : zIM G σ) {x1 : Int32} : zok (fX12_peek σ x1) (zAi (zIM G) (fun v : Int32 => zr (0) (255) v)) := by
  unfold fX12_peek
  refine zok_bs (hσ.wi 0 0 (by decide) (zr_c (lo := 0) (hi := 0) (by decide)) (by decide +kernel)) (fun σ1 e2 i1 => ?_)
  refine zok_pi (s_X12_read i1.P) (fun v3 h3 => ?_)
  exact zok_sai i1 h3
theorem s_X12_poke {G : Nat → Int} {σ : zSt} (hσ : zIM G σ) {x1 : Int32} {x2 : Int32} : zok (fX12_poke σ x1 x2) (zIM G) := by
  unfold fX12_poke
  refine zok_bs (hσ.wi 0 0 (by decide) (zr_c (lo := 0) (hi := 0) (by decide)) (by decide +kernel)) (fun σ1 e2 i1 => ?_)
  refine zok_bu (s_X12_write i1) (fun σ2 i3 => ?_)
  exact zok_some i3
theorem s_X12_in {G : Nat → Int} {σ : zSt} (hσ : zIM G σ) {x1 : Int32} : zok (fX12_in σ x1) (zAi (zIM G) (fun v : Int32 => zr (0) (255) v)) := by
  unfold fX12_in
  refine zok_bs (hσ.wi 0 0 (by decide) (zr_c (lo := 0) (hi := 0) (by decide)) (by decide +kernel)) (fun σ1 e2 i1 => ?_)
  refine zok_ai (s_X12_port i1 (zr_andr (lo := 0) (hi := 255) (zr_c (lo := 255) (hi := 255) (by decide)) (by decide))) (fun σ2 v3 i3 h4 => ?_)
  exact zok_sai i3 h4
theorem s_X12_out {G : Nat → Int} {σ : zSt} (hσ : zIM G σ) {x1 : Int32} {x2 : Int32} : zok (fX12_out σ x1 x2) (zIM G) := by
  unfold fX12_out
  refine zok_bs (hσ.wi 0 0 (by decide) (zr_c (lo := 0) (hi := 0) (by decide)) (by decide +kernel)) (fun σ1 e2 i1 => ?_)
  refine zok_bu (s_X12_portTo i1 (zr_andr (lo := 0) (hi := 255) (zr_c (lo := 255) (hi := 255) (by decide)) (by decide)) (zr_andr (lo := 0) (hi := 255) (zr_c (lo := 255) (hi := 255) (by decide)) (by decide))) (fun σ2 i3 => ?_)
  exact zok_some i3
theorem s_X12_battery {G : Nat → Int} {σ : zSt} (hσ : zIM G σ) {x1 : Int32} : zok (fX12_battery σ x1) (zAi (zIM G) (fun v : Int32 => zr (0) (255) v)) := by
  unfold fX12_battery
  refine zok_within (fun w1 w2 => ?_) (fun w3 => ?_)
  · have h4 := z_wir w1 w2 (zrl_c (lo := 0) (hi := 0) (by decide)) (zrl_c (lo := 32767) (hi := 32767) (by decide))
    refine zok_if (fun q5 => ?_) (fun q5 => ?_)
    · exact zr_no (zc_eql (1) (0) q5 (zr_c (lo := 1) (hi := 1) (by decide)) (zr_c (lo := 0) (hi := 0) (by decide)) (by decide)) (by decide)
    unfold fX12_battery_18
    refine zok_fails0 (hσ.wi 0 0 (by decide) zr_any (by decide +kernel)) (fun σ1 e6 i7 => ?_)
    refine zok_if (fun q8 => ?_) (fun q8 => ?_)
    · refine zok_ck (zin_ok h4 (by decide)) ?_
      unfold fX12_battery_39
      exact zok_sai i7 (zr_andr (lo := 0) (hi := 255) (zr_c (lo := 255) (hi := 255) (by decide)) (by decide))
    exact zr_no (zc_nel (1) (0) q8 (zr_c (lo := 0) (hi := 0) (by decide)) (zr_c (lo := 0) (hi := 0) (by decide)) (by decide)) (by decide)
  refine zok_if (fun q9 => ?_) (fun q9 => ?_)
  · unfold fX12_battery_18
    refine zok_fails1 (hσ.wi 0 0 (by decide) zr_any (by decide +kernel)) (fun σ1 e10 i11 => ?_)
    refine zok_if (fun q12 => ?_) (fun q12 => ?_)
    · exact zr_no (zc_eql (1) (0) q12 (zr_c (lo := 1) (hi := 1) (by decide)) (zr_c (lo := 0) (hi := 0) (by decide)) (by decide)) (by decide)
    unfold fX12_battery_39
    exact zok_sai i11 (zr_w (zr_c (lo := 0) (hi := 0) (by decide)) (by decide))
  exact zr_no (zc_nel (1) (0) q9 (zr_c (lo := 0) (hi := 0) (by decide)) (zr_c (lo := 0) (hi := 0) (by decide)) (by decide)) (by decide)
theorem s_X12_wipe_7_body {G : Nat → Int} {σ : zSt} {k7 : zSt → Int32 → Option (zSt)} {Mk7 : Int} (hk7 : ∀ (σ : zSt) (x1 : Int32), zIM G σ → zr (0) (32768) x1 → (32768) - x1.toInt < Mk7 → zok (k7 σ x1) (zIM G)) (hσ : zIM G σ) {x1 : Int32} (h_x1 : zr (0) (32768) x1) (hMk7 : (32768) - x1.toInt ≤ Mk7) : zok (fX12_wipe_7_body k7 σ x1) (zIM G) := by
  unfold fX12_wipe_7_body
  refine zok_if (fun q1 => ?_) (fun q1 => ?_)
  · have h2 := zc_ler (32768) q1 (zr_c (lo := 32768) (hi := 32768) (by decide)) h_x1 (by decide)
    exact zok_some hσ
  have h3 := zc_ltl (32767) (z_nle q1) h_x1 (zr_c (lo := 32768) (hi := 32768) (by decide)) (by decide)
  refine zok_ck (zin_ok h3 (by decide)) ?_
  refine zok_bs (hσ.wk (by decide)) (fun σ1 e5 i4 => ?_)
  refine zok_br (zr_add (lo := 1) (hi := 32768) h3 (zr_c (lo := 1) (hi := 1) (by decide)) (by decide)) (fun v2 e7 h6 => ?_)
  exact hk7 _ _ i4 (zr_w h6 (by decide)) (by rw [e7]; have := z_tadd (y := (1 : Int32)) h3 (zr_c (lo := 1) (hi := 1) (by decide)) (by decide); have e9 : (1 : Int32).toInt = 1 := rfl; omega) 
theorem s_X12_wipe_7 {G : Nat → Int} : ∀ (n : Nat) {σ : zSt} (hσ : zIM G σ) {x1 : Int32} (h_x1 : zr (0) (32768) x1) (hm : (32768) - x1.toInt < n), zok (fX12_wipe_7 n σ x1) (zIM G) := by
  intro n
  induction n with
  | zero => intro σ hσ x1 h_x1 hm ; have h9 := h_x1.1; have h8 := h_x1.2; exfalso; omega
  | succ n ih => intro σ hσ x1 h_x1 hm ; exact s_X12_wipe_7_body (fun σ x1 hσ h_x1 hm1 => ih hσ h_x1 (by omega)) hσ h_x1 (Int.le_refl _)
theorem s_X12_wipe {G : Nat → Int} {σ : zSt} (hσ : zIM G σ) : zok (fX12_wipe σ ) (zIM G) := by
  unfold fX12_wipe
  refine zok_bs (hσ.wi 0 0 (by decide) (zr_c (lo := 0) (hi := 0) (by decide)) (by decide +kernel)) (fun σ3 e2 i1 => ?_)
  exact (s_X12_wipe_7 zfuel i1 (zr_w (zr_c (lo := 0) (hi := 0) (by decide)) (by decide)) (by decide))
theorem s_X12_video_11_body {σ : zSt} {k11 : zSt → Int32 → Int64 → Int32 → Option (zSt × Int64)} {Mk11 : Int} (hk11 : ∀ (x1 : Int32) (x2 : Int64) (x4 : Int32), zr (-1) (7) x4 → x4.toInt - (-1) < Mk11 → zok (k11 σ x1 x2 x4) (zPl σ (fun v : Int64 => True))) (hσ : zPM σ) {x1 : Int32} {x2 : Int64} {x4 : Int32} (h_x4 : zr (-1) (7) x4) (hMk11 : x4.toInt - (-1) ≤ Mk11) : zok (fX12_video_11_body k11 σ x1 x2 x4) (zPl σ (fun v : Int64 => True)) := by
  unfold fX12_video_11_body
  refine zok_if (fun q1 => ?_) (fun q1 => ?_)
  · have h2 := zc_ltl (-1) q1 h_x4 (zr_c (lo := 0) (hi := 0) (by decide)) (by decide)
    exact zok_spl trivial
  have h3 := zc_ler (0) (z_nlt q1) (zr_c (lo := 0) (hi := 0) (by decide)) h_x4 (by decide)
  refine zok_pi (s_X12_video8 hσ) (fun v2 h4 => ?_)
  refine zok_bv (fun v3 e6 => ?_)
  refine zok_br (zr_add (lo := -1) (hi := 6) h3 (zr_c (lo := -1) (hi := -1) (by decide)) (by decide)) (fun v4 e8 h7 => ?_)
  exact hk11 _ _ _  (zr_w h7 (by decide)) (by rw [e8]; have := z_tadd (y := (-1 : Int32)) h3 (zr_c (lo := -1) (hi := -1) (by decide)) (by decide); have e9 : (-1 : Int32).toInt = -1 := rfl; omega) 
theorem s_X12_video_11 {σ : zSt} (hσ : zPM σ) : ∀ (n : Nat) {x1 : Int32} {x2 : Int64} {x4 : Int32} (h_x4 : zr (-1) (7) x4) (hm : x4.toInt - (-1) < n), zok (fX12_video_11 n σ x1 x2 x4) (zPl σ (fun v : Int64 => True)) := by
  intro n
  induction n with
  | zero => intro x1 x2 x4 h_x4 hm ; have h9 := h_x4.1; have h8 := h_x4.2; exfalso; omega
  | succ n ih => intro x1 x2 x4 h_x4 hm ; exact s_X12_video_11_body (fun x1 x2 x4 h_x4 hm1 => ih h_x4 (by omega)) hσ h_x4 (Int.le_refl _)
theorem s_X12_video {G : Nat → Int} {σ : zSt} (hσ : zIM G σ) {x1 : Int32} : zok (fX12_video σ x1) (zAL (zIM G) (fun v : Int64 => True)) := by
  unfold fX12_video
  refine zok_bs (hσ.wi 0 0 (by decide) (zr_c (lo := 0) (hi := 0) (by decide)) (by decide +kernel)) (fun σ5 e2 i1 => ?_)
  exact zok_pal i1 (s_X12_video_11 i1.P zfuel (zr_w (zr_c (lo := 7) (hi := 7) (by decide)) (by decide)) (by decide))
theorem s_X12_chip {G : Nat → Int} {σ : zSt} (hσ : zIM G σ) {x1 : Int32} : zok (fX12_chip σ x1) (zAi (zIM G) (fun v : Int32 => True)) := by
  unfold fX12_chip
  refine zok_within (fun w1 w2 => ?_) (fun w3 => ?_)
  · have h4 := z_wir w1 w2 (zrl_c (lo := 0) (hi := 0) (by decide)) (zrl_c (lo := 25) (hi := 25) (by decide))
    refine zok_if (fun q5 => ?_) (fun q5 => ?_)
    · exact zr_no (zc_eql (1) (0) q5 (zr_c (lo := 1) (hi := 1) (by decide)) (zr_c (lo := 0) (hi := 0) (by decide)) (by decide)) (by decide)
    unfold fX12_chip_31
    unfold fX12_chip_32
    refine zok_fails0 (hσ.wi 0 0 (by decide) zr_any (by decide +kernel)) (fun σ1 e6 i7 => ?_)
    refine zok_if (fun q8 => ?_) (fun q8 => ?_)
    · refine zok_if (fun q9 => ?_) (fun q9 => ?_)
      · refine zok_if (fun q10 => ?_) (fun q10 => ?_)
        · have h11 := zc_ler (17) q10 (zr_c (lo := 17) (hi := 17) (by decide)) h4 (by decide)
          refine zok_if (fun q12 => ?_) (fun q12 => ?_)
          · have h13 := zc_eql (17) (17) q12 h11 (zr_c (lo := 17) (hi := 17) (by decide)) (by decide)
            refine zok_pi (s_X12_asks i7.P) (fun v4 h14 => ?_)
            refine zok_if (fun q15 => ?_) (fun q15 => ?_)
            · have h16 := zc_eql (0) (0) q15 h14 (zr_c (lo := 0) (hi := 0) (by decide)) (by decide)
              unfold fX12_chip_136
              exact zok_sai i7 trivial
            have h17 := zc_nel (1) (1) q15 h14 (zr_c (lo := 0) (hi := 0) (by decide)) (by decide)
            unfold fX12_chip_136
            exact zok_sai i7 trivial
          have h18 := zc_nel (18) (25) q12 h11 (zr_c (lo := 17) (hi := 17) (by decide)) (by decide)
          refine zok_if (fun q19 => ?_) (fun q19 => ?_)
          · have h20 := zc_eql (18) (18) q19 h18 (zr_c (lo := 18) (hi := 18) (by decide)) (by decide)
            refine zok_ck rfl ?_
            exact zok_sai i7 trivial
          have h21 := zc_nel (19) (25) q19 h18 (zr_c (lo := 18) (hi := 18) (by decide)) (by decide)
          refine zok_if (fun q22 => ?_) (fun q22 => ?_)
          · have h23 := zc_eql (19) (19) q22 h21 (zr_c (lo := 19) (hi := 19) (by decide)) (by decide)
            refine zok_ck rfl ?_
            exact zok_sai i7 trivial
          have h24 := zc_nel (20) (25) q22 h21 (zr_c (lo := 19) (hi := 19) (by decide)) (by decide)
          refine zok_if (fun q25 => ?_) (fun q25 => ?_)
          · have h26 := zc_eql (20) (20) q25 h24 (zr_c (lo := 20) (hi := 20) (by decide)) (by decide)
            refine zok_ck rfl ?_
            exact zok_sai i7 trivial
          have h27 := zc_nel (21) (25) q25 h24 (zr_c (lo := 20) (hi := 20) (by decide)) (by decide)
          refine zok_if (fun q28 => ?_) (fun q28 => ?_)
          · have h29 := zc_eql (21) (21) q28 h27 (zr_c (lo := 21) (hi := 21) (by decide)) (by decide)
            refine zok_ck rfl ?_
            exact zok_sai i7 trivial
          have h30 := zc_nel (22) (25) q28 h27 (zr_c (lo := 21) (hi := 21) (by decide)) (by decide)
          refine zok_if (fun q31 => ?_) (fun q31 => ?_)
          · have h32 := zc_eql (22) (22) q31 h30 (zr_c (lo := 22) (hi := 22) (by decide)) (by decide)
            refine zok_pi (s_X12_mode i7.P) (fun v6 h33 => ?_)
            exact zok_sai i7 trivial
          have h34 := zc_nel (23) (25) q31 h30 (zr_c (lo := 22) (hi := 22) (by decide)) (by decide)
          refine zok_if (fun q35 => ?_) (fun q35 => ?_)
          · have h36 := zc_eql (23) (23) q35 h34 (zr_c (lo := 23) (hi := 23) (by decide)) (by decide)
            refine zok_pi (s_X12_height i7.P) (fun v8 h37 => ?_)
            exact zok_sai i7 trivial
          have h38 := zc_nel (24) (25) q35 h34 (zr_c (lo := 23) (hi := 23) (by decide)) (by decide)
          refine zok_if (fun q39 => ?_) (fun q39 => ?_)
          · have h40 := zc_eql (24) (24) q39 h38 (zr_c (lo := 24) (hi := 24) (by decide)) (by decide)
            refine zok_pi (s_X12_hCount i7.P) (fun v10 h41 => ?_)
            exact zok_sai i7 trivial
          have h42 := zc_nel (25) (25) q39 h38 (zr_c (lo := 24) (hi := 24) (by decide)) (by decide)
          refine zok_pi (s_X12_vCount i7.P) (fun v12 h43 => ?_)
          exact zok_sai i7 trivial
        have h44 := zc_ltl (16) (z_nle q10) h4 (zr_c (lo := 17) (hi := 17) (by decide)) (by decide)
        refine zok_ck (zin_ok (zr_add (lo := 47) (hi := 63) (zr_c (lo := 47) (hi := 47) (by decide)) h44 (by decide)) (by decide)) ?_
        exact zok_sai i7 trivial
      exact zr_no (zc_ltl (24) (z_nle q9) (zr_c (lo := 31) (hi := 31) (by decide)) h4 (by decide)) (by decide)
    exact zr_no (zc_nel (1) (0) q8 (zr_c (lo := 0) (hi := 0) (by decide)) (zr_c (lo := 0) (hi := 0) (by decide)) (by decide)) (by decide)
  refine zok_if (fun q45 => ?_) (fun q45 => ?_)
  · refine zok_within (fun w46 w47 => ?_) (fun w48 => ?_)
    · have h49 := z_wir w46 w47 (zrl_c (lo := 32) (hi := 32) (by decide)) (zrl_c (lo := 95) (hi := 95) (by decide))
      refine zok_if (fun q50 => ?_) (fun q50 => ?_)
      · exact zr_no (zc_eql (1) (0) q50 (zr_c (lo := 1) (hi := 1) (by decide)) (zr_c (lo := 0) (hi := 0) (by decide)) (by decide)) (by decide)
      unfold fX12_chip_31
      unfold fX12_chip_32
      refine zok_fails0 (hσ.wi 0 0 (by decide) zr_any (by decide +kernel)) (fun σ1 e51 i52 => ?_)
      refine zok_if (fun q53 => ?_) (fun q53 => ?_)
      · refine zok_if (fun q54 => ?_) (fun q54 => ?_)
        · exact zr_no (zc_lel (31) q54 h49 (zr_c (lo := 31) (hi := 31) (by decide)) (by decide)) (by decide)
        refine zok_ck (zin_ok (zr_sub (lo := 0) (hi := 63) h49 (zr_c (lo := 32) (hi := 32) (by decide)) (by decide)) (by decide)) ?_
        exact zok_sai i52 trivial
      exact zr_no (zc_nel (1) (0) q53 (zr_c (lo := 0) (hi := 0) (by decide)) (zr_c (lo := 0) (hi := 0) (by decide)) (by decide)) (by decide)
    refine zok_if (fun q55 => ?_) (fun q55 => ?_)
    · unfold fX12_chip_32
      refine zok_fails1 (hσ.wi 0 0 (by decide) zr_any (by decide +kernel)) (fun σ1 e56 i57 => ?_)
      refine zok_if (fun q58 => ?_) (fun q58 => ?_)
      · exact zr_no (zc_eql (1) (0) q58 (zr_c (lo := 1) (hi := 1) (by decide)) (zr_c (lo := 0) (hi := 0) (by decide)) (by decide)) (by decide)
      exact zok_sai i57 trivial
    exact zr_no (zc_nel (1) (0) q55 (zr_c (lo := 0) (hi := 0) (by decide)) (zr_c (lo := 0) (hi := 0) (by decide)) (by decide)) (by decide)
  exact zr_no (zc_nel (1) (0) q45 (zr_c (lo := 0) (hi := 0) (by decide)) (zr_c (lo := 0) (hi := 0) (by decide)) (by decide)) (by decide)
theorem s_X12_trace_50 {σ : zSt} (hσ : zPM σ) {s0 : Int32} : zok (fX12_trace_50 σ s0) (zPi σ (fun v : Int32 => True)) := by
  unfold fX12_trace_50
  exact zok_spi trivial
theorem s_X12_trace_27 {σ : zSt} (hσ : zPM σ) : zok (fX12_trace_27 σ ) (zPi σ (fun v : Int32 => True)) := by
  unfold fX12_trace_27
  exact (s_X12_trace_50 hσ)
theorem s_X12_trace {G : Nat → Int} {σ : zSt} (hσ : zIM G σ) {x1 : Int32} : zok (fX12_trace σ x1) (zAi (zIM G) (fun v : Int32 => True)) := by
  unfold fX12_trace
  refine zok_bs (I := zIM G) (hσ.wi 0 0 (by decide) zr_any (by decide +kernel)) (fun σ1 e1 i1 => ?_)
  have z9 : zok (fX12_trace_27 σ1) (zAi (zIM G) (fun v : Int32 => True)) := zok_sai i1 trivial
  refine zok_within (fun w1 w2 => ?_) (fun w3 => ?_)
  · refine zok_if (fun q => absurd q (by decide)) (fun _ => ?_)
    have h1 := z_wir w1 w2 (zrl_c (lo := 0) (hi := 0) (by decide)) (zrl_c (lo := 31) (hi := 31) (by decide))
    refine zok_if (fun q => ?_) (fun _ => z9)
    have q1 := z_cmp_lt.mp q
    rw [Int32.toInt_toInt64] at q1
    have b1 := h1.1
    have b2 := h1.2
    have hA : zrl 1 9223372036854775807 (zgl σ1 0 30) := ⟨by omega, zrl_any.2⟩
    have hA1 : ((zgl σ1 0 30) - 1).toInt = (zgl σ1 0 30).toInt - 1 := by
      have b3 := hA.1
      have b4 := hA.2
      rw [Int64.toInt_sub, show (1 : Int64).toInt = 1 from rfl]; exact z_bml (by omega) (by omega)
    have hA2 : (((zgl σ1 0 30) - 1) - x1.toInt64).toInt = (zgl σ1 0 30).toInt - 1 - x1.toInt := by
      have b3 := hA.1
      have b4 := hA.2
      rw [Int64.toInt_sub, hA1, Int32.toInt_toInt64]; exact z_bml (by omega) (by omega)
    have h2 : zrl 0 9223372036854775807 (((zgl σ1 0 30) - 1) - x1.toInt64) := ⟨by omega, zrl_any.2⟩
    have h3 := zr_l (lo := 0) (hi := 31) (zrl_rem (y := 32) (lo := 0) (hi := 31) 32 (by decide) h2 (by decide)) (by decide)
    refine zok_ck rfl (zok_ck (zin_ok h3 (by decide)) ?_)
    exact zok_sai i1 trivial
  · exact zok_if (fun _ => z9) (fun q => absurd rfl q)
theorem s_X12_look_116 {σ : zSt} (hσ : zPM σ) {x1 : Int32} (h_x1 : zr (0) (2) x1) : zok (fX12_look_116 σ x1) (zPl σ (fun v : Int64 => True)) := by
  unfold fX12_look_116
  refine zok_ck (zin_ok h_x1 (by decide)) ?_
  exact zok_spl trivial
theorem s_X12_look_169 {σ : zSt} (hσ : zPM σ) {x1 : Int32} (h_x1 : zr (9) (11) x1) : zok (fX12_look_169 σ x1) (zPl σ (fun v : Int64 => True)) := by
  unfold fX12_look_169
  refine zok_ck (zin_ok (zr_sub (lo := 29) (hi := 31) (zr_add (lo := 38) (hi := 40) (zr_c (lo := 29) (hi := 29) (by decide)) h_x1 (by decide)) (zr_c (lo := 9) (hi := 9) (by decide)) (by decide)) (by decide)) ?_
  exact zok_spl trivial
theorem s_X12_look_222 {σ : zSt} (hσ : zPM σ) {s0 : Int64} (h_s0 : zrl (0) (1) s0) : zok (fX12_look_222 σ s0) (zPl σ (fun v : Int64 => True)) := by
  unfold fX12_look_222
  exact zok_spl trivial
theorem s_X12_look {G : Nat → Int} {σ : zSt} (hσ : zIM G σ) {x1 : Int32} : zok (fX12_look σ x1) (zAL (zIM G) (fun v : Int64 => True)) := by
  unfold fX12_look
  refine zok_within (fun w1 w2 => ?_) (fun w3 => ?_)
  · have h4 := z_wir w1 w2 (zrl_c (lo := 0) (hi := 0) (by decide)) (zrl_c (lo := 18) (hi := 18) (by decide))
    refine zok_if (fun q5 => ?_) (fun q5 => ?_)
    · exact zr_no (zc_eql (1) (0) q5 (zr_c (lo := 1) (hi := 1) (by decide)) (zr_c (lo := 0) (hi := 0) (by decide)) (by decide)) (by decide)
    unfold fX12_look_18
    refine zok_fails0 (hσ.wi 0 0 (by decide) zr_any (by decide +kernel)) (fun σ1 e6 i7 => ?_)
    refine zok_if (fun q8 => ?_) (fun q8 => ?_)
    · refine zok_if (fun q9 => ?_) (fun q9 => ?_)
      · have h10 := zc_eql (0) (0) q9 h4 (zr_c (lo := 0) (hi := 0) (by decide)) (by decide)
        exact zok_pal i7 (s_X12_look_116 i7.P (zr_w h10 (by decide)))
      have h11 := zc_nel (1) (18) q9 h4 (zr_c (lo := 0) (hi := 0) (by decide)) (by decide)
      refine zok_if (fun q12 => ?_) (fun q12 => ?_)
      · have h13 := zc_eql (1) (1) q12 h11 (zr_c (lo := 1) (hi := 1) (by decide)) (by decide)
        exact zok_pal i7 (s_X12_look_116 i7.P (zr_w h13 (by decide)))
      have h14 := zc_nel (2) (18) q12 h11 (zr_c (lo := 1) (hi := 1) (by decide)) (by decide)
      refine zok_if (fun q15 => ?_) (fun q15 => ?_)
      · have h16 := zc_eql (2) (2) q15 h14 (zr_c (lo := 2) (hi := 2) (by decide)) (by decide)
        exact zok_pal i7 (s_X12_look_116 i7.P (zr_w h16 (by decide)))
      have h17 := zc_nel (3) (18) q15 h14 (zr_c (lo := 2) (hi := 2) (by decide)) (by decide)
      refine zok_if (fun q18 => ?_) (fun q18 => ?_)
      · have h19 := zc_eql (3) (3) q18 h17 (zr_c (lo := 3) (hi := 3) (by decide)) (by decide)
        refine zok_ck rfl ?_
        exact zok_sal i7 trivial
      have h20 := zc_nel (4) (18) q18 h17 (zr_c (lo := 3) (hi := 3) (by decide)) (by decide)
      refine zok_if (fun q21 => ?_) (fun q21 => ?_)
      · have h22 := zc_eql (4) (4) q21 h20 (zr_c (lo := 4) (hi := 4) (by decide)) (by decide)
        refine zok_ck rfl ?_
        exact zok_sal i7 trivial
      have h23 := zc_nel (5) (18) q21 h20 (zr_c (lo := 4) (hi := 4) (by decide)) (by decide)
      refine zok_if (fun q24 => ?_) (fun q24 => ?_)
      · have h25 := zc_eql (5) (5) q24 h23 (zr_c (lo := 5) (hi := 5) (by decide)) (by decide)
        exact zok_sal i7 trivial
      have h26 := zc_nel (6) (18) q24 h23 (zr_c (lo := 5) (hi := 5) (by decide)) (by decide)
      refine zok_if (fun q27 => ?_) (fun q27 => ?_)
      · have h28 := zc_eql (6) (6) q27 h26 (zr_c (lo := 6) (hi := 6) (by decide)) (by decide)
        refine zok_ck rfl ?_
        exact zok_sal i7 trivial
      have h29 := zc_nel (7) (18) q27 h26 (zr_c (lo := 6) (hi := 6) (by decide)) (by decide)
      refine zok_if (fun q30 => ?_) (fun q30 => ?_)
      · have h31 := zc_eql (7) (7) q30 h29 (zr_c (lo := 7) (hi := 7) (by decide)) (by decide)
        exact zok_sal i7 trivial
      have h32 := zc_nel (8) (18) q30 h29 (zr_c (lo := 7) (hi := 7) (by decide)) (by decide)
      refine zok_if (fun q33 => ?_) (fun q33 => ?_)
      · have h34 := zc_eql (8) (8) q33 h32 (zr_c (lo := 8) (hi := 8) (by decide)) (by decide)
        refine zok_ck rfl ?_
        exact zok_sal i7 trivial
      have h35 := zc_nel (9) (18) q33 h32 (zr_c (lo := 8) (hi := 8) (by decide)) (by decide)
      refine zok_if (fun q36 => ?_) (fun q36 => ?_)
      · have h37 := zc_eql (9) (9) q36 h35 (zr_c (lo := 9) (hi := 9) (by decide)) (by decide)
        exact zok_pal i7 (s_X12_look_169 i7.P (zr_w h37 (by decide)))
      have h38 := zc_nel (10) (18) q36 h35 (zr_c (lo := 9) (hi := 9) (by decide)) (by decide)
      refine zok_if (fun q39 => ?_) (fun q39 => ?_)
      · have h40 := zc_eql (10) (10) q39 h38 (zr_c (lo := 10) (hi := 10) (by decide)) (by decide)
        exact zok_pal i7 (s_X12_look_169 i7.P (zr_w h40 (by decide)))
      have h41 := zc_nel (11) (18) q39 h38 (zr_c (lo := 10) (hi := 10) (by decide)) (by decide)
      refine zok_if (fun q42 => ?_) (fun q42 => ?_)
      · have h43 := zc_eql (11) (11) q42 h41 (zr_c (lo := 11) (hi := 11) (by decide)) (by decide)
        exact zok_pal i7 (s_X12_look_169 i7.P (zr_w h43 (by decide)))
      have h44 := zc_nel (12) (18) q42 h41 (zr_c (lo := 11) (hi := 11) (by decide)) (by decide)
      refine zok_if (fun q45 => ?_) (fun q45 => ?_)
      · have h46 := zc_eql (12) (12) q45 h44 (zr_c (lo := 12) (hi := 12) (by decide)) (by decide)
        refine zok_ck rfl ?_
        exact zok_sal i7 trivial
      have h47 := zc_nel (13) (18) q45 h44 (zr_c (lo := 12) (hi := 12) (by decide)) (by decide)
      refine zok_if (fun q48 => ?_) (fun q48 => ?_)
      · have h49 := zc_eql (13) (13) q48 h47 (zr_c (lo := 13) (hi := 13) (by decide)) (by decide)
        refine zok_ck rfl ?_
        exact zok_sal i7 trivial
      have h50 := zc_nel (14) (18) q48 h47 (zr_c (lo := 13) (hi := 13) (by decide)) (by decide)
      refine zok_if (fun q51 => ?_) (fun q51 => ?_)
      · have h52 := zc_eql (14) (14) q51 h50 (zr_c (lo := 14) (hi := 14) (by decide)) (by decide)
        refine zok_ck rfl ?_
        exact zok_sal i7 trivial
      have h53 := zc_nel (15) (18) q51 h50 (zr_c (lo := 14) (hi := 14) (by decide)) (by decide)
      refine zok_if (fun q54 => ?_) (fun q54 => ?_)
      · have h55 := zc_eql (15) (15) q54 h53 (zr_c (lo := 15) (hi := 15) (by decide)) (by decide)
        refine zok_if (fun q56 => ?_) (fun q56 => ?_)
        · have h57 := zc_eql (0) (0) q56 zr_any (zr_c (lo := 0) (hi := 0) (by decide)) (by decide)
          exact zok_pal i7 (s_X12_look_222 i7.P (zrl_w (zrl_c (lo := 0) (hi := 0) (by decide)) (by decide)))
        exact zok_pal i7 (s_X12_look_222 i7.P (zrl_w (zrl_c (lo := 1) (hi := 1) (by decide)) (by decide)))
      have h58 := zc_nel (16) (18) q54 h53 (zr_c (lo := 15) (hi := 15) (by decide)) (by decide)
      refine zok_if (fun q59 => ?_) (fun q59 => ?_)
      · have h60 := zc_eql (16) (16) q59 h58 (zr_c (lo := 16) (hi := 16) (by decide)) (by decide)
        refine zok_ck rfl ?_
        exact zok_sal i7 trivial
      have h61 := zc_nel (17) (18) q59 h58 (zr_c (lo := 16) (hi := 16) (by decide)) (by decide)
      refine zok_if (fun q62 => ?_) (fun q62 => ?_)
      · have h63 := zc_eql (17) (17) q62 h61 (zr_c (lo := 17) (hi := 17) (by decide)) (by decide)
        refine zok_ck rfl ?_
        exact zok_sal i7 trivial
      have h64 := zc_nel (18) (18) q62 h61 (zr_c (lo := 17) (hi := 17) (by decide)) (by decide)
      exact zok_sal i7 trivial
    exact zr_no (zc_nel (1) (0) q8 (zr_c (lo := 0) (hi := 0) (by decide)) (zr_c (lo := 0) (hi := 0) (by decide)) (by decide)) (by decide)
  refine zok_if (fun q65 => ?_) (fun q65 => ?_)
  · unfold fX12_look_18
    refine zok_fails1 (hσ.wi 0 0 (by decide) zr_any (by decide +kernel)) (fun σ1 e66 i67 => ?_)
    refine zok_if (fun q68 => ?_) (fun q68 => ?_)
    · exact zr_no (zc_eql (1) (0) q68 (zr_c (lo := 1) (hi := 1) (by decide)) (zr_c (lo := 0) (hi := 0) (by decide)) (by decide)) (by decide)
    exact zok_sal i67 trivial
  exact zr_no (zc_nel (1) (0) q65 (zr_c (lo := 0) (hi := 0) (by decide)) (zr_c (lo := 0) (hi := 0) (by decide)) (by decide)) (by decide)
theorem s_X12_mix {G : Nat → Int} {σ : zSt} (hσ : zIM G σ) : zok (fX12_mix σ ) (zAL (zIM G) (fun v : Int64 => True)) := by
  unfold fX12_mix
  refine zok_ck rfl ?_
  refine zok_if (fun q1 => ?_) (fun q1 => ?_)
  · have h2 := zc_eql (0) (0) q1 (rM_43 hσ.sg _ (by decide)) (zr_c (lo := 0) (hi := 0) (by decide)) (by decide)
    unfold fX12_mix_17
    refine zok_fails1 (hσ.wi 0 0 (by decide) zr_any (by decide +kernel)) (fun σ1 e3 i4 => ?_)
    refine zok_if (fun q5 => ?_) (fun q5 => ?_)
    · exact zr_no (zc_eql (1) (0) q5 (zr_c (lo := 1) (hi := 1) (by decide)) (zr_c (lo := 0) (hi := 0) (by decide)) (by decide)) (by decide)
    exact zok_sal i4 trivial
  have h6 := zc_nel (1) (4096) q1 (rM_43 hσ.sg _ (by decide)) (zr_c (lo := 0) (hi := 0) (by decide)) (by decide)
  unfold fX12_mix_17
  refine zok_fails0 (hσ.wi 0 0 (by decide) zr_any (by decide +kernel)) (fun σ1 e7 i8 => ?_)
  refine zok_if (fun q9 => ?_) (fun q9 => ?_)
  · refine zok_ck rfl ?_
    refine zok_ck (zin_ok (rM_44 i8.sg _ (by decide)) (by decide)) ?_
    refine zok_bv (fun v3 e11 => ?_)
    refine zok_ck rfl ?_
    refine zok_ck (by decide) ?_
    refine zok_ck rfl ?_
    refine zok_bs (i8.wi 170 170 (by decide) (zr_rem (lo := 0) (hi := 4095) 4096 (by decide) (zr_add (lo := 1) (hi := 4096) (rM_44 i8.sg _ (by decide)) (zr_c (lo := 1) (hi := 1) (by decide)) (by decide)) (by decide)) (by decide +kernel)) (fun σ4 e13 i12 => ?_)
    refine zok_ck rfl ?_
    refine zok_ck rfl ?_
    refine zok_bs (i12.wi 169 169 (by decide) (zr_sub (lo := 0) (hi := 4095) (z_trj e13 (by decide) (z_tr e7 rfl h6)) (zr_c (lo := 1) (hi := 1) (by decide)) (by decide)) (by decide +kernel)) (fun σ5 e15 i14 => ?_)
    exact zok_sal i14 trivial
  exact zr_no (zc_nel (1) (0) q9 (zr_c (lo := 0) (hi := 0) (by decide)) (zr_c (lo := 0) (hi := 0) (by decide)) (by decide)) (by decide)
theorem s_X12_wave {G : Nat → Int} {σ : zSt} (hσ : zIM G σ) {x1 : Int32} : zok (fX12_wave σ x1) (zAi (zIM G) (fun v : Int32 => True)) := by
  unfold fX12_wave
  refine zok_within (fun w1 w2 => ?_) (fun w3 => ?_)
  · have h4 := z_wir w1 w2 (zrl_c (lo := 0) (hi := 0) (by decide)) (zrl_c (lo := 67) (hi := 67) (by decide))
    refine zok_if (fun q5 => ?_) (fun q5 => ?_)
    · exact zr_no (zc_eql (1) (0) q5 (zr_c (lo := 1) (hi := 1) (by decide)) (zr_c (lo := 0) (hi := 0) (by decide)) (by decide)) (by decide)
    unfold fX12_wave_40
    unfold fX12_wave_41
    refine zok_fails0 (hσ.wi 0 0 (by decide) zr_any (by decide +kernel)) (fun σ1 e6 i7 => ?_)
    refine zok_if (fun q8 => ?_) (fun q8 => ?_)
    · refine zok_if (fun q9 => ?_) (fun q9 => ?_)
      · have h10 := zc_ler (64) q9 (zr_c (lo := 64) (hi := 64) (by decide)) h4 (by decide)
        refine zok_if (fun q11 => ?_) (fun q11 => ?_)
        · have h12 := zc_eql (64) (64) q11 h10 (zr_c (lo := 64) (hi := 64) (by decide)) (by decide)
          refine zok_ck rfl ?_
          exact zok_sai i7 trivial
        have h13 := zc_nel (65) (67) q11 h10 (zr_c (lo := 64) (hi := 64) (by decide)) (by decide)
        refine zok_if (fun q14 => ?_) (fun q14 => ?_)
        · have h15 := zc_eql (65) (65) q14 h13 (zr_c (lo := 65) (hi := 65) (by decide)) (by decide)
          refine zok_ck rfl ?_
          exact zok_sai i7 trivial
        have h16 := zc_nel (66) (67) q14 h13 (zr_c (lo := 65) (hi := 65) (by decide)) (by decide)
        refine zok_if (fun q17 => ?_) (fun q17 => ?_)
        · have h18 := zc_eql (66) (66) q17 h16 (zr_c (lo := 66) (hi := 66) (by decide)) (by decide)
          refine zok_ck rfl ?_
          refine zok_ck (by decide) ?_
          exact zok_sai i7 trivial
        have h19 := zc_nel (67) (67) q17 h16 (zr_c (lo := 66) (hi := 66) (by decide)) (by decide)
        refine zok_if (fun q20 => ?_) (fun q20 => ?_)
        · refine zok_ck rfl ?_
          exact zok_sai i7 trivial
        exact zr_no (zc_nel (68) (67) q20 h19 (zr_c (lo := 67) (hi := 67) (by decide)) (by decide)) (by decide)
      have h21 := zc_ltl (63) (z_nle q9) h4 (zr_c (lo := 64) (hi := 64) (by decide)) (by decide)
      refine zok_pi (s_X12_wreg i7.P h21) (fun v4 h22 => ?_)
      exact zok_sai i7 trivial
    exact zr_no (zc_nel (1) (0) q8 (zr_c (lo := 0) (hi := 0) (by decide)) (zr_c (lo := 0) (hi := 0) (by decide)) (by decide)) (by decide)
  refine zok_if (fun q23 => ?_) (fun q23 => ?_)
  · refine zok_within (fun w24 w25 => ?_) (fun w26 => ?_)
    · have h27 := z_wir w24 w25 (zrl_c (lo := 128) (hi := 128) (by decide)) (zrl_c (lo := 271) (hi := 271) (by decide))
      refine zok_if (fun q28 => ?_) (fun q28 => ?_)
      · exact zr_no (zc_eql (1) (0) q28 (zr_c (lo := 1) (hi := 1) (by decide)) (zr_c (lo := 0) (hi := 0) (by decide)) (by decide)) (by decide)
      refine zok_ck (by decide) ?_
      refine zok_if (fun q29 => ?_) (fun q29 => ?_)
      · have h30 := zc_ltl (5) q29 (zr_rem (lo := 0) (hi := 7) 8 (by decide) h27 (by decide)) (zr_c (lo := 6) (hi := 6) (by decide)) (by decide)
        unfold fX12_wave_40
        unfold fX12_wave_41
        refine zok_fails0 (hσ.wi 0 0 (by decide) zr_any (by decide +kernel)) (fun σ1 e31 i32 => ?_)
        refine zok_if (fun q33 => ?_) (fun q33 => ?_)
        · refine zok_if (fun q34 => ?_) (fun q34 => ?_)
          · refine zok_if (fun q35 => ?_) (fun q35 => ?_)
            · have h36 := zc_eql (128) (64) q35 h27 (zr_c (lo := 64) (hi := 64) (by decide)) (by decide)
              exact zr_no h36 (by decide)
            refine zok_if (fun q37 => ?_) (fun q37 => ?_)
            · have h38 := zc_eql (128) (65) q37 h27 (zr_c (lo := 65) (hi := 65) (by decide)) (by decide)
              exact zr_no h38 (by decide)
            refine zok_if (fun q39 => ?_) (fun q39 => ?_)
            · have h40 := zc_eql (128) (66) q39 h27 (zr_c (lo := 66) (hi := 66) (by decide)) (by decide)
              exact zr_no h40 (by decide)
            refine zok_if (fun q41 => ?_) (fun q41 => ?_)
            · have h42 := zc_eql (128) (67) q41 h27 (zr_c (lo := 67) (hi := 67) (by decide)) (by decide)
              exact zr_no h42 (by decide)
            refine zok_ck (by decide) ?_
            refine zok_ck (by decide) ?_
            refine zok_ck (zin_ok (zr_add (lo := 172) (hi := 279) (zr_add (lo := 172) (hi := 274) (zr_c (lo := 172) (hi := 172) (by decide)) (zr_mul (lo := 0) (hi := 102) (zr_c (lo := 6) (hi := 6) (by decide)) (zr_div (lo := 0) (hi := 17) 8 (by decide) (zr_sub (lo := 0) (hi := 143) h27 (zr_c (lo := 128) (hi := 128) (by decide)) (by decide)) (by decide)) (by decide)) (by decide)) h30 (by decide)) (by decide)) ?_
            exact zok_sai i32 trivial
          exact zr_no (zc_ltl (63) (z_nle q34) h27 (zr_c (lo := 64) (hi := 64) (by decide)) (by decide)) (by decide)
        exact zr_no (zc_nel (1) (0) q33 (zr_c (lo := 0) (hi := 0) (by decide)) (zr_c (lo := 0) (hi := 0) (by decide)) (by decide)) (by decide)
      have h43 := zc_ler (6) (z_nlt q29) (zr_c (lo := 6) (hi := 6) (by decide)) (zr_rem (lo := 0) (hi := 7) 8 (by decide) h27 (by decide)) (by decide)
      unfold fX12_wave_36
      unfold fX12_wave_41
      refine zok_fails1 (hσ.wi 0 0 (by decide) zr_any (by decide +kernel)) (fun σ1 e44 i45 => ?_)
      refine zok_if (fun q46 => ?_) (fun q46 => ?_)
      · exact zr_no (zc_eql (1) (0) q46 (zr_c (lo := 1) (hi := 1) (by decide)) (zr_c (lo := 0) (hi := 0) (by decide)) (by decide)) (by decide)
      exact zok_sai i45 trivial
    refine zok_if (fun q47 => ?_) (fun q47 => ?_)
    · unfold fX12_wave_36
      unfold fX12_wave_41
      refine zok_fails1 (hσ.wi 0 0 (by decide) zr_any (by decide +kernel)) (fun σ1 e48 i49 => ?_)
      refine zok_if (fun q50 => ?_) (fun q50 => ?_)
      · exact zr_no (zc_eql (1) (0) q50 (zr_c (lo := 1) (hi := 1) (by decide)) (zr_c (lo := 0) (hi := 0) (by decide)) (by decide)) (by decide)
      exact zok_sai i49 trivial
    exact zr_no (zc_nel (1) (0) q47 (zr_c (lo := 0) (hi := 0) (by decide)) (zr_c (lo := 0) (hi := 0) (by decide)) (by decide)) (by decide)
  exact zr_no (zc_nel (1) (0) q23 (zr_c (lo := 0) (hi := 0) (by decide)) (zr_c (lo := 0) (hi := 0) (by decide)) (by decide)) (by decide)
theorem s_X12_plan {G : Nat → Int} {σ : zSt} (hσ : zIM G σ) {x1 : Int32} {x2 : Int32} {x3 : Int32} : zok (fX12_plan σ x1 x2 x3) (zAi (zIM G) (fun v : Int32 => zr (0) (256) v)) := by
  unfold fX12_plan
  refine zok_ck rfl ?_
  refine zok_if (fun q1 => ?_) (fun q1 => ?_)
  · have h2 := zc_eql (0) (0) q1 (rM_45 hσ.sg _ (by decide)) (zr_c (lo := 0) (hi := 0) (by decide)) (by decide)
    unfold fX12_plan_36
    refine zok_if (fun q3 => ?_) (fun q3 => ?_)
    · have h4 := zc_ltl (-1) q3 zr_any (zr_c (lo := 0) (hi := 0) (by decide)) (by decide)
      unfold fX12_plan_71
      unfold fX12_plan_76
      refine zok_fails1 (hσ.wi 0 0 (by decide) zr_any (by decide +kernel)) (fun σ8 e5 i6 => ?_)
      refine zok_if (fun q7 => ?_) (fun q7 => ?_)
      · exact zr_no (zc_eql (1) (0) q7 (zr_c (lo := 1) (hi := 1) (by decide)) (zr_c (lo := 0) (hi := 0) (by decide)) (by decide)) (by decide)
      unfold fX12_plan_110
      exact zok_sai i6 (zr_w (zr_c (lo := 0) (hi := 0) (by decide)) (by decide))
    have h8 := zc_ler (0) (z_nlt q3) (zr_c (lo := 0) (hi := 0) (by decide)) zr_any (by decide)
    refine zok_if (fun q9 => ?_) (fun q9 => ?_)
    · exact zr_no (zc_ltl (-1) q9 h8 (zr_c (lo := 0) (hi := 0) (by decide)) (by decide)) (by decide)
    refine zok_within (fun w10 w11 => ?_) (fun w12 => ?_)
    · have h13 := z_wir w10 w11 (zrl_c (lo := 0) (hi := 0) (by decide)) (zrl_c (lo := 1) (hi := 1) (by decide))
      refine zok_if (fun q14 => ?_) (fun q14 => ?_)
      · exact zr_no (zc_eql (1) (0) q14 (zr_c (lo := 1) (hi := 1) (by decide)) (zr_c (lo := 0) (hi := 0) (by decide)) (by decide)) (by decide)
      refine zok_within (fun w15 w16 => ?_) (fun w17 => ?_)
      · have h18 := z_wir w15 w16 (zrl_c (lo := 0) (hi := 0) (by decide)) (zrl_c (lo := 63) (hi := 63) (by decide))
        refine zok_if (fun q19 => ?_) (fun q19 => ?_)
        · exact zr_no (zc_eql (1) (0) q19 (zr_c (lo := 1) (hi := 1) (by decide)) (zr_c (lo := 0) (hi := 0) (by decide)) (by decide)) (by decide)
        unfold fX12_plan_76
        refine zok_fails0 (hσ.wi 0 0 (by decide) zr_any (by decide +kernel)) (fun σ8 e20 i21 => ?_)
        refine zok_if (fun q22 => ?_) (fun q22 => ?_)
        · refine zok_ck rfl ?_
          refine zok_if (fun q23 => ?_) (fun q23 => ?_)
          · have h24 := zc_eql (256) (0) q23 (z_tr e20 rfl h2) (zr_c (lo := 256) (hi := 256) (by decide)) (by decide)
            exact zr_no h24 (by decide)
          unfold fX12_plan_103
          refine zok_fails0 (i21.wi 0 0 (by decide) zr_any (by decide +kernel)) (fun σ1 e25 i26 => ?_)
          refine zok_if (fun q27 => ?_) (fun q27 => ?_)
          · refine zok_ck rfl ?_
            refine zok_br (zr_add (lo := 280) (hi := 280) (zr_c (lo := 280) (hi := 280) (by decide)) (zr_mul (lo := 0) (hi := 0) (zr_c (lo := 3) (hi := 3) (by decide)) (z_tr e25 rfl (z_tr e20 rfl h2)) (by decide)) (by decide)) (fun v3 e29 h28 => ?_)
            have h30 := z_pt0 e29 (z_tr e25 rfl (z_tr e20 rfl h2)) (by decide)
            refine zok_ck (zin_ok h28 (by decide)) ?_
            refine zok_bs (i26.pl h30 (by decide)) (fun σ4 e32 i31 => ?_)
            refine zok_ck (zin_ok (zr_add (lo := 281) (hi := 281) h28 (zr_c (lo := 1) (hi := 1) (by decide)) (by decide)) (by decide)) ?_
            refine zok_bs (i31.pl1 (zpt_add h30 (c1 := 1) 1 (by decide) (by decide)) h13 (by decide)) (fun σ5 e34 i33 => ?_)
            refine zok_ck (zin_ok (zr_add (lo := 282) (hi := 282) h28 (zr_c (lo := 2) (hi := 2) (by decide)) (by decide)) (by decide)) ?_
            refine zok_bs (i33.pl (zpt_add h30 (c1 := 2) 2 (by decide) (by decide)) (by decide)) (fun σ6 e36 i35 => ?_)
            refine zok_ck rfl ?_
            refine zok_ck rfl ?_
            refine zok_bs (i35.wi 171 171 (by decide) (zr_add (lo := 1) (hi := 1) (z_trr e36 (z_ix (c := 282) (d := 282) (zr_add (lo := 282) (hi := 282) h28 (zr_c (lo := 2) (hi := 2) (by decide)) (by decide)) (by decide)) (by decide) (z_trr e34 (z_ix (c := 281) (d := 281) (zr_add (lo := 281) (hi := 281) h28 (zr_c (lo := 1) (hi := 1) (by decide)) (by decide)) (by decide)) (by decide) (z_trr e32 (z_ix (c := 280) (d := 280) h28 (by decide)) (by decide) (z_tr e25 rfl (z_tr e20 rfl h2))))) (zr_c (lo := 1) (hi := 1) (by decide)) (by decide)) (by decide +kernel)) (fun σ7 e38 i37 => ?_)
            refine zok_ck rfl ?_
            exact zok_sai i37 (zr_w (z_own e38 (zr_add (lo := 1) (hi := 1) (z_trr e36 (z_ix (c := 282) (d := 282) (zr_add (lo := 282) (hi := 282) h28 (zr_c (lo := 2) (hi := 2) (by decide)) (by decide)) (by decide)) (by decide) (z_trr e34 (z_ix (c := 281) (d := 281) (zr_add (lo := 281) (hi := 281) h28 (zr_c (lo := 1) (hi := 1) (by decide)) (by decide)) (by decide)) (by decide) (z_trr e32 (z_ix (c := 280) (d := 280) h28 (by decide)) (by decide) (z_tr e25 rfl (z_tr e20 rfl h2))))) (zr_c (lo := 1) (hi := 1) (by decide)) (by decide))) (by decide))
          exact zr_no (zc_nel (1) (0) q27 (zr_c (lo := 0) (hi := 0) (by decide)) (zr_c (lo := 0) (hi := 0) (by decide)) (by decide)) (by decide)
        exact zr_no (zc_nel (1) (0) q22 (zr_c (lo := 0) (hi := 0) (by decide)) (zr_c (lo := 0) (hi := 0) (by decide)) (by decide)) (by decide)
      refine zok_if (fun q39 => ?_) (fun q39 => ?_)
      · unfold fX12_plan_71
        unfold fX12_plan_76
        refine zok_fails1 (hσ.wi 0 0 (by decide) zr_any (by decide +kernel)) (fun σ8 e40 i41 => ?_)
        refine zok_if (fun q42 => ?_) (fun q42 => ?_)
        · exact zr_no (zc_eql (1) (0) q42 (zr_c (lo := 1) (hi := 1) (by decide)) (zr_c (lo := 0) (hi := 0) (by decide)) (by decide)) (by decide)
        unfold fX12_plan_110
        exact zok_sai i41 (zr_w (zr_c (lo := 0) (hi := 0) (by decide)) (by decide))
      exact zr_no (zc_nel (1) (0) q39 (zr_c (lo := 0) (hi := 0) (by decide)) (zr_c (lo := 0) (hi := 0) (by decide)) (by decide)) (by decide)
    refine zok_if (fun q43 => ?_) (fun q43 => ?_)
    · unfold fX12_plan_71
      unfold fX12_plan_76
      refine zok_fails1 (hσ.wi 0 0 (by decide) zr_any (by decide +kernel)) (fun σ8 e44 i45 => ?_)
      refine zok_if (fun q46 => ?_) (fun q46 => ?_)
      · exact zr_no (zc_eql (1) (0) q46 (zr_c (lo := 1) (hi := 1) (by decide)) (zr_c (lo := 0) (hi := 0) (by decide)) (by decide)) (by decide)
      unfold fX12_plan_110
      exact zok_sai i45 (zr_w (zr_c (lo := 0) (hi := 0) (by decide)) (by decide))
    exact zr_no (zc_nel (1) (0) q43 (zr_c (lo := 0) (hi := 0) (by decide)) (zr_c (lo := 0) (hi := 0) (by decide)) (by decide)) (by decide)
  have h47 := zc_nel (1) (256) q1 (rM_45 hσ.sg _ (by decide)) (zr_c (lo := 0) (hi := 0) (by decide)) (by decide)
  refine zok_ck rfl ?_
  refine zok_ck (zin_ok (zr_add (lo := 280) (hi := 1045) (zr_c (lo := 280) (hi := 280) (by decide)) (zr_mul (lo := 0) (hi := 765) (zr_c (lo := 3) (hi := 3) (by decide)) (zr_sub (lo := 0) (hi := 255) h47 (zr_c (lo := 1) (hi := 1) (by decide)) (by decide)) (by decide)) (by decide)) (by decide)) ?_
  unfold fX12_plan_36
  refine zok_if (fun q48 => ?_) (fun q48 => ?_)
  · have h49 := zc_ltl (2147483646) q48 zr_any zr_any (by decide)
    have h50 := zc_ltr (-2147483647) q48 zr_any zr_any (by decide)
    unfold fX12_plan_71
    unfold fX12_plan_76
    refine zok_fails1 (hσ.wi 0 0 (by decide) zr_any (by decide +kernel)) (fun σ8 e51 i52 => ?_)
    refine zok_if (fun q53 => ?_) (fun q53 => ?_)
    · exact zr_no (zc_eql (1) (0) q53 (zr_c (lo := 1) (hi := 1) (by decide)) (zr_c (lo := 0) (hi := 0) (by decide)) (by decide)) (by decide)
    unfold fX12_plan_110
    exact zok_sai i52 (zr_w (zr_c (lo := 0) (hi := 0) (by decide)) (by decide))
  refine zok_if (fun q54 => ?_) (fun q54 => ?_)
  · have h55 := zc_ltl (-1) q54 zr_any (zr_c (lo := 0) (hi := 0) (by decide)) (by decide)
    unfold fX12_plan_71
    unfold fX12_plan_76
    refine zok_fails1 (hσ.wi 0 0 (by decide) zr_any (by decide +kernel)) (fun σ8 e56 i57 => ?_)
    refine zok_if (fun q58 => ?_) (fun q58 => ?_)
    · exact zr_no (zc_eql (1) (0) q58 (zr_c (lo := 1) (hi := 1) (by decide)) (zr_c (lo := 0) (hi := 0) (by decide)) (by decide)) (by decide)
    unfold fX12_plan_110
    exact zok_sai i57 (zr_w (zr_c (lo := 0) (hi := 0) (by decide)) (by decide))
  have h59 := zc_ler (0) (z_nlt q54) (zr_c (lo := 0) (hi := 0) (by decide)) zr_any (by decide)
  refine zok_within (fun w60 w61 => ?_) (fun w62 => ?_)
  · have h63 := z_wir w60 w61 (zrl_c (lo := 0) (hi := 0) (by decide)) (zrl_c (lo := 1) (hi := 1) (by decide))
    refine zok_if (fun q64 => ?_) (fun q64 => ?_)
    · exact zr_no (zc_eql (1) (0) q64 (zr_c (lo := 1) (hi := 1) (by decide)) (zr_c (lo := 0) (hi := 0) (by decide)) (by decide)) (by decide)
    refine zok_within (fun w65 w66 => ?_) (fun w67 => ?_)
    · have h68 := z_wir w65 w66 (zrl_c (lo := 0) (hi := 0) (by decide)) (zrl_c (lo := 63) (hi := 63) (by decide))
      refine zok_if (fun q69 => ?_) (fun q69 => ?_)
      · exact zr_no (zc_eql (1) (0) q69 (zr_c (lo := 1) (hi := 1) (by decide)) (zr_c (lo := 0) (hi := 0) (by decide)) (by decide)) (by decide)
      unfold fX12_plan_76
      refine zok_fails0 (hσ.wi 0 0 (by decide) zr_any (by decide +kernel)) (fun σ8 e70 i71 => ?_)
      refine zok_if (fun q72 => ?_) (fun q72 => ?_)
      · refine zok_ck rfl ?_
        refine zok_if (fun q73 => ?_) (fun q73 => ?_)
        · have h74 := zc_eql (256) (256) q73 (z_tr e70 rfl h47) (zr_c (lo := 256) (hi := 256) (by decide)) (by decide)
          unfold fX12_plan_103
          refine zok_fails1 (i71.wi 0 0 (by decide) zr_any (by decide +kernel)) (fun σ1 e75 i76 => ?_)
          refine zok_if (fun q77 => ?_) (fun q77 => ?_)
          · exact zr_no (zc_eql (1) (0) q77 (zr_c (lo := 1) (hi := 1) (by decide)) (zr_c (lo := 0) (hi := 0) (by decide)) (by decide)) (by decide)
          unfold fX12_plan_110
          exact zok_sai i76 (zr_w (zr_c (lo := 0) (hi := 0) (by decide)) (by decide))
        have h78 := zc_nel (1) (255) q73 (z_tr e70 rfl h47) (zr_c (lo := 256) (hi := 256) (by decide)) (by decide)
        unfold fX12_plan_103
        refine zok_fails0 (i71.wi 0 0 (by decide) zr_any (by decide +kernel)) (fun σ1 e79 i80 => ?_)
        refine zok_if (fun q81 => ?_) (fun q81 => ?_)
        · refine zok_ck rfl ?_
          refine zok_br (zr_add (lo := 283) (hi := 1045) (zr_c (lo := 280) (hi := 280) (by decide)) (zr_mul (lo := 3) (hi := 765) (zr_c (lo := 3) (hi := 3) (by decide)) (z_tr e79 rfl h78) (by decide)) (by decide)) (fun v3 e83 h82 => ?_)
          have h84 := z_pt0 e83 (z_tr e79 rfl h78) (by decide)
          refine zok_ck (zin_ok h82 (by decide)) ?_
          refine zok_bs (i80.pl h84 (by decide)) (fun σ4 e86 i85 => ?_)
          refine zok_ck (zin_ok (zr_add (lo := 284) (hi := 1046) h82 (zr_c (lo := 1) (hi := 1) (by decide)) (by decide)) (by decide)) ?_
          refine zok_bs (i85.pl1 (zpt_add h84 (c1 := 1) 1 (by decide) (by decide)) h63 (by decide)) (fun σ5 e88 i87 => ?_)
          refine zok_ck (zin_ok (zr_add (lo := 285) (hi := 1047) h82 (zr_c (lo := 2) (hi := 2) (by decide)) (by decide)) (by decide)) ?_
          refine zok_bs (i87.pl (zpt_add h84 (c1 := 2) 2 (by decide) (by decide)) (by decide)) (fun σ6 e90 i89 => ?_)
          refine zok_ck rfl ?_
          refine zok_ck rfl ?_
          refine zok_bs (i89.wi 171 171 (by decide) (zr_add (lo := 2) (hi := 256) (z_trr e90 (z_ix (c := 285) (d := 1047) (zr_add (lo := 285) (hi := 1047) h82 (zr_c (lo := 2) (hi := 2) (by decide)) (by decide)) (by decide)) (by decide) (z_trr e88 (z_ix (c := 284) (d := 1046) (zr_add (lo := 284) (hi := 1046) h82 (zr_c (lo := 1) (hi := 1) (by decide)) (by decide)) (by decide)) (by decide) (z_trr e86 (z_ix (c := 283) (d := 1045) h82 (by decide)) (by decide) (z_tr e79 rfl h78)))) (zr_c (lo := 1) (hi := 1) (by decide)) (by decide)) (by decide +kernel)) (fun σ7 e92 i91 => ?_)
          refine zok_ck rfl ?_
          exact zok_sai i91 (zr_w (z_own e92 (zr_add (lo := 2) (hi := 256) (z_trr e90 (z_ix (c := 285) (d := 1047) (zr_add (lo := 285) (hi := 1047) h82 (zr_c (lo := 2) (hi := 2) (by decide)) (by decide)) (by decide)) (by decide) (z_trr e88 (z_ix (c := 284) (d := 1046) (zr_add (lo := 284) (hi := 1046) h82 (zr_c (lo := 1) (hi := 1) (by decide)) (by decide)) (by decide)) (by decide) (z_trr e86 (z_ix (c := 283) (d := 1045) h82 (by decide)) (by decide) (z_tr e79 rfl h78)))) (zr_c (lo := 1) (hi := 1) (by decide)) (by decide))) (by decide))
        exact zr_no (zc_nel (1) (0) q81 (zr_c (lo := 0) (hi := 0) (by decide)) (zr_c (lo := 0) (hi := 0) (by decide)) (by decide)) (by decide)
      exact zr_no (zc_nel (1) (0) q72 (zr_c (lo := 0) (hi := 0) (by decide)) (zr_c (lo := 0) (hi := 0) (by decide)) (by decide)) (by decide)
    refine zok_if (fun q93 => ?_) (fun q93 => ?_)
    · unfold fX12_plan_71
      unfold fX12_plan_76
      refine zok_fails1 (hσ.wi 0 0 (by decide) zr_any (by decide +kernel)) (fun σ8 e94 i95 => ?_)
      refine zok_if (fun q96 => ?_) (fun q96 => ?_)
      · exact zr_no (zc_eql (1) (0) q96 (zr_c (lo := 1) (hi := 1) (by decide)) (zr_c (lo := 0) (hi := 0) (by decide)) (by decide)) (by decide)
      unfold fX12_plan_110
      exact zok_sai i95 (zr_w (zr_c (lo := 0) (hi := 0) (by decide)) (by decide))
    exact zr_no (zc_nel (1) (0) q93 (zr_c (lo := 0) (hi := 0) (by decide)) (zr_c (lo := 0) (hi := 0) (by decide)) (by decide)) (by decide)
  refine zok_if (fun q97 => ?_) (fun q97 => ?_)
  · unfold fX12_plan_71
    unfold fX12_plan_76
    refine zok_fails1 (hσ.wi 0 0 (by decide) zr_any (by decide +kernel)) (fun σ8 e98 i99 => ?_)
    refine zok_if (fun q100 => ?_) (fun q100 => ?_)
    · exact zr_no (zc_eql (1) (0) q100 (zr_c (lo := 1) (hi := 1) (by decide)) (zr_c (lo := 0) (hi := 0) (by decide)) (by decide)) (by decide)
    unfold fX12_plan_110
    exact zok_sai i99 (zr_w (zr_c (lo := 0) (hi := 0) (by decide)) (by decide))
  exact zr_no (zc_nel (1) (0) q97 (zr_c (lo := 0) (hi := 0) (by decide)) (zr_c (lo := 0) (hi := 0) (by decide)) (by decide)) (by decide)
theorem s_say_h {G : Nat → Int} {n1 : Nat} (hn : n1 < zNK) : ∀ (n : Nat) {σ : zSt} (hσ : zEM [9] G σ) {x2 : Int32} (h0 : 0 ≤ x2.toInt) (hL : x2.toInt ≤ ((zkL n1 : Nat) : Int)) (hs : (zgi σ 0 39).toInt + (((zkL n1 : Nat) : Int) - x2.toInt) ≤ 40) (hm : ((zkL n1 : Nat) : Int) - x2.toInt < n), zok (fX12_say_2 n σ n1 x2) (zMtu (zEM [9] G) ((zgi σ 0 39).toInt + (((zkL n1 : Nat) : Int) - x2.toInt))) := by
  intro n
  induction n with
  | zero => intro σ hσ x2 h0 hL hs hm; exfalso; omega
  | succ n ih =>
    intro σ hσ x2 h0 hL hs hm
    show zok (fX12_say_2_body (fX12_say_2 n) σ n1 x2) _
    unfold fX12_say_2_body
    have kl := z_kL n1
    have eN : (zkN n1).toInt = zkL n1 := Int32.toInt_ofNat_of_lt (by omega)
    refine zok_ck (decide_eq_true hn) ?_
    refine zok_if (fun q => zok_smu hσ (by omega)) (fun q => ?_)
    have q1 := Int32.lt_iff_toInt_lt.mp (z_nle q)
    refine zok_ck (decide_eq_true hn) ?_
    refine zok_ck (zin_ok (lo := x2.toInt) (hi := x2.toInt) ⟨Int.le_refl _, Int.le_refl _⟩ ⟨h0, by omega⟩) ?_
    have hsg := rM_8 hσ.sg 39 (by decide)
    have hs1 := hsg.1
    have hs9 : zr 0 39 (zgi σ 0 39) := ⟨hs1, by omega⟩
    refine zok_ck (zin_ok hs9 (by decide)) ?_
    refine zok_bs (hσ.wk (by decide +kernel)) (fun σ1 e1 i1 => ?_)
    have k1 := z_k39 e1 (fun h => absurd h.1 (by decide))
    have hsA : zr 0 39 (zgi σ1 0 39) := ⟨by omega, by omega⟩
    have c1 : (1 : Int32).toInt = 1 := rfl
    have t1 := z_tadd hsA (zr_c (lo := 1) (hi := 1) (x := 1) (by decide)) (by decide)
    refine zok_bs (i1.wi 39 39 (by decide) (zr_add (lo := 1) (hi := 40) hsA (zr_c (lo := 1) (hi := 1) (x := 1) (by decide)) (by decide)) (by decide +kernel)) (fun σ2 e2 i2 => ?_)
    have k2 : (zgi σ2 0 39).toInt = (zgi σ 0 39).toInt + 1 := by
      rw [e2]; unfold zgi; rw [zsi_ej]
      show (zgi σ1 0 39 + 1).toInt = _
      unfold zgi at t1 k1 ⊢
      omega
    have t2 : (x2 + 1).toInt = x2.toInt + 1 := by rw [Int32.toInt_add, c1]; exact z_bm (by omega) (by omega)
    refine zok_bv (fun v3 e3 => ?_)
    subst e3
    exact zok_wmu (ih i2 (by omega) (by omega) (by omega) (by omega)) (by omega)
theorem s_X12_say {G : Nat → Int} {σ : zSt} (hσ : zEM [9] G σ) {n1 : Nat} (h_n1 : n1 ∈ ([71, 72, 73, 74, 75, 76, 77, 78, 79, 80, 81, 82, 83, 84, 85, 86, 87, 88, 89, 90, 91, 92, 93, 94, 95, 96, 97, 98, 99, 100, 101, 102, 103, 104, 105, 106, 107, 108, 109, 110, 111, 112, 113, 114, 115, 116, 117, 118, 119, 120, 121, 122, 123, 124, 125, 126, 127, 128, 129, 130, 131, 132, 133, 134, 135, 136, 137, 138, 139, 140, 141, 142, 143, 144, 145, 146, 147, 148, 149, 150, 151, 152, 153, 154, 155, 156, 157, 158, 159, 160, 161, 162, 163, 164, 165, 166, 167, 168, 169, 170, 171, 172, 173, 174, 175, 176, 177, 178] : List Nat)) {d : Nat} (hd : ((zkL n1 : Nat) : Int) ≤ (d : Int)) (hs : (zgi σ 0 39).toInt + (d : Int) ≤ 40) : zok (fX12_say σ n1) (zMtu (zEM [9] G) ((zgi σ 0 39).toInt + (d : Int))) := by
  unfold fX12_say
  have kl : ((zkL n1 : Nat) : Int) < (zfuel : Nat) := by
    have := rM_8 hσ.sg 39 (by decide)
    have := this.1
    unfold zfuel; omega
  have c0 : (0 : Int32).toInt = 0 := rfl
  exact zok_wmu (s_say_h (z_memlt h_n1 (by decide)) zfuel hσ (by decide) (by omega) (by omega) (by omega)) (by omega)
theorem s_hex_h {G : Nat → Int} {x1 : Int32} : ∀ (n : Nat) {σ : zSt} (hσ : zEM [9] G σ) {x3 : Int32} (h3 : zr (-1) 3 x3) (hs : (zgi σ 0 39).toInt + (x3.toInt + 1) ≤ 40) (hm : x3.toInt + 1 < n), zok (fX12_hex_4 n σ x1 x3) (zMtu (zEM [9] G) ((zgi σ 0 39).toInt + (x3.toInt + 1))) := by
  intro n
  induction n with
  | zero => intro σ hσ x3 h3 hs hm; have := h3.1; exfalso; omega
  | succ n ih =>
    intro σ hσ x3 h3 hs hm
    show zok (fX12_hex_4_body (fX12_hex_4 n) σ x1 x3) _
    unfold fX12_hex_4_body
    have b1 := h3.1
    have c0 : (0 : Int32).toInt = 0 := rfl
    refine zok_if (fun q => zok_smu hσ (by omega)) (fun q => ?_)
    have q1 := Int32.le_iff_toInt_le.mp (z_nlt q)
    have hsg := rM_8 hσ.sg 39 (by decide)
    have hs1 := hsg.1
    have hs9 : zr 0 39 (zgi σ 0 39) := ⟨hs1, by omega⟩
    have k : ∀ s0 : Int32, zok (fX12_hex_49 (fX12_hex_4 n) σ x1 x3 s0 (zgi σ 0 39)) (zMtu (zEM [9] G) ((zgi σ 0 39).toInt + (x3.toInt + 1))) := fun s0 => by
      unfold fX12_hex_49
      refine zok_ck (zin_ok hs9 (by decide)) ?_
      refine zok_bs (hσ.wk (by decide +kernel)) (fun σ1 e1 i1 => ?_)
      have k1 := z_k39 e1 (fun h => absurd h.1 (by decide))
      have hsA : zr 0 39 (zgi σ1 0 39) := ⟨by omega, by omega⟩
      have c1 : (1 : Int32).toInt = 1 := rfl
      have t1 := z_tadd hsA (zr_c (lo := 1) (hi := 1) (x := 1) (by decide)) (by decide)
      refine zok_bs (i1.wi 39 39 (by decide) (zr_add (lo := 1) (hi := 40) hsA (zr_c (lo := 1) (hi := 1) (x := 1) (by decide)) (by decide)) (by decide +kernel)) (fun σ2 e2 i2 => ?_)
      have k2 : (zgi σ2 0 39).toInt = (zgi σ 0 39).toInt + 1 := by
        rw [e2]; unfold zgi; rw [zsi_ej]
        show (zgi σ1 0 39 + 1).toInt = _
        unfold zgi at t1 k1 ⊢
        omega
      have t2 := z_tadd h3 (zr_c (lo := -1) (hi := -1) (x := -1) (by decide)) (by decide)
      have cm : (-1 : Int32).toInt = -1 := rfl
      have b2 := h3.2
      refine zok_bv (fun v3 e3 => ?_)
      subst e3
      exact zok_wmu (ih i2 ⟨by omega, by omega⟩ (by omega) (by omega)) (by omega)
    refine zok_bv (fun v4 _ => zok_if (fun _ => k _) (fun _ => k _))
theorem s_X12_hex {G : Nat → Int} {σ : zSt} (hσ : zEM [9] G σ) {x1 : Int32} {x2 : Int32} (h_x2 : zr (1) (4) x2) {d : Nat} (hd : x2.toInt ≤ (d : Int)) (hs : (zgi σ 0 39).toInt + (d : Int) ≤ 40) : zok (fX12_hex σ x1 x2) (zMtu (zEM [9] G) ((zgi σ 0 39).toInt + (d : Int))) := by
  unfold fX12_hex
  have t := z_tsub h_x2 (zr_c (lo := 1) (hi := 1) (x := 1) (by decide)) (by decide)
  have c1 : (1 : Int32).toInt = 1 := rfl
  have b1 := h_x2.1
  have b2 := h_x2.2
  refine zok_bv (fun v5 e5 => ?_)
  subst e5
  exact zok_wmu (s_hex_h zfuel hσ ⟨by omega, by omega⟩ (by omega) (by unfold zfuel; omega)) (by omega)
theorem s_X12_taken {G : Nat → Int} {σ : zSt} (hσ : zEM [9] G σ) (hs : (zgi σ 0 39).toInt + 0 ≤ 40) : zok (fX12_taken σ ) (zMti (zEM [9] G) ((zgi σ 0 39).toInt + 0) (fun v : Int32 => zr (0) (255) v)) := by
  unfold fX12_taken
  refine zok_pi (s_X12_read hσ.P) (fun v2 h1 => ?_)
  refine zok_bs (hσ.wi 40 40 (by decide) zr_any (by decide +kernel)) (fun σ3 e3 i2 => ?_)
  have m4 := z_k39 e3 (by decide)
  exact zok_smi i2 (by omega) h1
theorem s_X12_takenWord {G : Nat → Int} {σ : zSt} (hσ : zEM [9] G σ) (hs : (zgi σ 0 39).toInt + 0 ≤ 40) : zok (fX12_takenWord σ ) (zMti (zEM [9] G) ((zgi σ 0 39).toInt + 0) (fun v : Int32 => zr (0) (65535) v)) := by
  unfold fX12_takenWord
  refine zok_mi (s_X12_taken hσ (by omega)) (fun σ1 v2 i1 m2 h3 => ?_)
  refine zok_mi (s_X12_taken i1 (by omega)) (fun σ3 v4 i4 m5 h6 => ?_)
  exact zok_smi i4 (by omega) (zr_or (lo := 0) (hi := 65535) 16 h3 (zr_shl (lo := 0) (hi := 65280) 8 (by decide) h6 (by decide)) (by decide))
theorem s_X12_sayHl_31 {G : Nat → Int} {σ : zSt} (hσ : zEM [9] G σ) {s0 : Nat} (h_s0 : s0 ∈ ([90, 91, 92] : List Nat)) (hs : (zgi σ 0 39).toInt + 2 ≤ 40) : zok (fX12_sayHl_31 σ s0) (zMtu (zEM [9] G) ((zgi σ 0 39).toInt + 2)) := by
  unfold fX12_sayHl_31
  refine zok_mu (s_X12_say hσ (z_memsub h_s0 (by decide)) (d := 2) (z_kd h_s0 (by decide +kernel)) (by omega)) (fun σ1 i1 m2 => ?_)
  exact zok_smu i1 (by omega)
theorem s_X12_sayHl {G : Nat → Int} {σ : zSt} (hσ : zEM [9] G σ) (hs : (zgi σ 0 39).toInt + 2 ≤ 40) : zok (fX12_sayHl σ ) (zMtu (zEM [9] G) ((zgi σ 0 39).toInt + 2)) := by
  unfold fX12_sayHl
  refine zok_if (fun q1 => ?_) (fun q1 => ?_)
  · have h2 := zc_eql (0) (0) q1 zr_any (zr_c (lo := 0) (hi := 0) (by decide)) (by decide)
    exact zok_wmu (s_X12_sayHl_31 hσ (by decide) (by omega)) (by omega)
  refine zok_if (fun q3 => ?_) (fun q3 => ?_)
  · have h4 := zc_eql (1) (1) q3 zr_any (zr_c (lo := 1) (hi := 1) (by decide)) (by decide)
    exact zok_wmu (s_X12_sayHl_31 hσ (by decide) (by omega)) (by omega)
  exact zok_wmu (s_X12_sayHl_31 hσ (by decide) (by omega)) (by omega)
theorem s_X12_sayPlace_76 {G : Nat → Int} {σ : zSt} (hσ : zEM [9] G σ) {s0 : Int32} (hs : (zgi σ 0 39).toInt + 3 ≤ 40) : zok (fX12_sayPlace_76 σ s0) (zMtu (zEM [9] G) ((zgi σ 0 39).toInt + 3)) := by
  unfold fX12_sayPlace_76
  refine zok_mu (s_X12_hex hσ (zr_w (zr_c (lo := 2) (hi := 2) (by decide)) (by decide)) (d := 2) (by decide) (by omega)) (fun σ1 i1 m2 => ?_)
  refine zok_mu (s_X12_say i1 (by decide) (d := 1) (by decide +kernel) (by omega)) (fun σ2 i4 m5 => ?_)
  exact zok_smu i4 (by omega)
theorem s_X12_sayPlace_53 {G : Nat → Int} {σ : zSt} (hσ : zEM [9] G σ) {s0 : Nat} (h_s0 : s0 ∈ ([87, 88] : List Nat)) (hs : (zgi σ 0 39).toInt + 4 ≤ 40) : zok (fX12_sayPlace_53 σ s0) (zMtu (zEM [9] G) ((zgi σ 0 39).toInt + 4)) := by
  unfold fX12_sayPlace_53
  refine zok_mu (s_X12_say hσ (z_memsub h_s0 (by decide)) (d := 1) (z_kd h_s0 (by decide +kernel)) (by omega)) (fun σ3 i1 m2 => ?_)
  refine zok_if (fun q4 => ?_) (fun q4 => ?_)
  · have h5 := zc_ler (0) q4 (zr_c (lo := 0) (hi := 0) (by decide)) zr_any (by decide)
    exact zok_wmu (s_X12_sayPlace_76 i1 (by omega)) (by omega)
  have h6 := zc_ltl (-1) (z_nle q4) zr_any (zr_c (lo := 0) (hi := 0) (by decide)) (by decide)
  exact zok_wmu (s_X12_sayPlace_76 i1 (by omega)) (by omega)
theorem s_X12_sayPlace_33 {G : Nat → Int} {σ : zSt} (hσ : zEM [9] G σ) {s0 : Nat} (h_s0 : s0 ∈ ([85, 86] : List Nat)) (hs : (zgi σ 0 39).toInt + 7 ≤ 40) : zok (fX12_sayPlace_33 σ s0) (zMtu (zEM [9] G) ((zgi σ 0 39).toInt + 7)) := by
  unfold fX12_sayPlace_33
  refine zok_mu (s_X12_say hσ (z_memsub h_s0 (by decide)) (d := 3) (z_kd h_s0 (by decide +kernel)) (by omega)) (fun σ4 i1 m2 => ?_)
  refine zok_if (fun q4 => ?_) (fun q4 => ?_)
  · have h5 := zc_ler (0) q4 (zr_c (lo := 0) (hi := 0) (by decide)) zr_any (by decide)
    exact zok_wmu (s_X12_sayPlace_53 i1 (by decide) (by omega)) (by omega)
  have h6 := zc_ltl (-1) (z_nle q4) zr_any (zr_c (lo := 0) (hi := 0) (by decide)) (by decide)
  exact zok_wmu (s_X12_sayPlace_53 i1 (by decide) (by omega)) (by omega)
theorem s_X12_sayPlace {G : Nat → Int} {σ : zSt} (hσ : zEM [9] G σ) (hs : (zgi σ 0 39).toInt + 7 ≤ 40) : zok (fX12_sayPlace σ ) (zMtu (zEM [9] G) ((zgi σ 0 39).toInt + 7)) := by
  unfold fX12_sayPlace
  refine zok_if (fun q1 => ?_) (fun q1 => ?_)
  · have h2 := zc_eql (0) (0) q1 zr_any (zr_c (lo := 0) (hi := 0) (by decide)) (by decide)
    refine zok_mu (s_X12_say hσ (by decide) (d := 4) (by decide +kernel) (by omega)) (fun σ5 i3 m4 => ?_)
    exact zok_smu i3 (by omega)
  refine zok_if (fun q6 => ?_) (fun q6 => ?_)
  · have h7 := zc_eql (1) (1) q6 zr_any (zr_c (lo := 1) (hi := 1) (by decide)) (by decide)
    exact zok_wmu (s_X12_sayPlace_33 hσ (by decide) (by omega)) (by omega)
  exact zok_wmu (s_X12_sayPlace_33 hσ (by decide) (by omega)) (by omega)
theorem s_X12_sayR_108 {G : Nat → Int} {σ : zSt} (hσ : zEM [9] G σ) {s0 : Nat} (h_s0 : s0 ∈ ([93, 94, 95, 96, 97, 98, 99] : List Nat)) (hs : (zgi σ 0 39).toInt + 1 ≤ 40) : zok (fX12_sayR_108 σ s0) (zMtu (zEM [9] G) ((zgi σ 0 39).toInt + 1)) := by
  unfold fX12_sayR_108
  refine zok_mu (s_X12_say hσ (z_memsub h_s0 (by decide)) (d := 1) (z_kd h_s0 (by decide +kernel)) (by omega)) (fun σ1 i1 m2 => ?_)
  exact zok_smu i1 (by omega)
theorem s_X12_sayR_39 {G : Nat → Int} {σ : zSt} (hσ : zEM [9] G σ) {x1 : Int32} (h_x1 : zr (0) (7) x1) (hs : (zgi σ 0 39).toInt + 1 ≤ 40) : zok (fX12_sayR_39 σ x1) (zMtu (zEM [9] G) ((zgi σ 0 39).toInt + 1)) := by
  unfold fX12_sayR_39
  refine zok_if (fun q1 => ?_) (fun q1 => ?_)
  · have h2 := zc_eql (0) (0) q1 h_x1 (zr_c (lo := 0) (hi := 0) (by decide)) (by decide)
    exact zok_wmu (s_X12_sayR_108 hσ (by decide) (by omega)) (by omega)
  have h3 := zc_nel (1) (7) q1 h_x1 (zr_c (lo := 0) (hi := 0) (by decide)) (by decide)
  refine zok_if (fun q4 => ?_) (fun q4 => ?_)
  · have h5 := zc_eql (1) (1) q4 h3 (zr_c (lo := 1) (hi := 1) (by decide)) (by decide)
    exact zok_wmu (s_X12_sayR_108 hσ (by decide) (by omega)) (by omega)
  have h6 := zc_nel (2) (7) q4 h3 (zr_c (lo := 1) (hi := 1) (by decide)) (by decide)
  refine zok_if (fun q7 => ?_) (fun q7 => ?_)
  · have h8 := zc_eql (2) (2) q7 h6 (zr_c (lo := 2) (hi := 2) (by decide)) (by decide)
    exact zok_wmu (s_X12_sayR_108 hσ (by decide) (by omega)) (by omega)
  have h9 := zc_nel (3) (7) q7 h6 (zr_c (lo := 2) (hi := 2) (by decide)) (by decide)
  refine zok_if (fun q10 => ?_) (fun q10 => ?_)
  · have h11 := zc_eql (3) (3) q10 h9 (zr_c (lo := 3) (hi := 3) (by decide)) (by decide)
    exact zok_wmu (s_X12_sayR_108 hσ (by decide) (by omega)) (by omega)
  have h12 := zc_nel (4) (7) q10 h9 (zr_c (lo := 3) (hi := 3) (by decide)) (by decide)
  refine zok_if (fun q13 => ?_) (fun q13 => ?_)
  · have h14 := zc_eql (4) (4) q13 h12 (zr_c (lo := 4) (hi := 4) (by decide)) (by decide)
    exact zok_wmu (s_X12_sayR_108 hσ (by decide) (by omega)) (by omega)
  have h15 := zc_nel (5) (7) q13 h12 (zr_c (lo := 4) (hi := 4) (by decide)) (by decide)
  refine zok_if (fun q16 => ?_) (fun q16 => ?_)
  · have h17 := zc_eql (5) (5) q16 h15 (zr_c (lo := 5) (hi := 5) (by decide)) (by decide)
    exact zok_wmu (s_X12_sayR_108 hσ (by decide) (by omega)) (by omega)
  have h18 := zc_nel (6) (7) q16 h15 (zr_c (lo := 5) (hi := 5) (by decide)) (by decide)
  exact zok_wmu (s_X12_sayR_108 hσ (by decide) (by omega)) (by omega)
theorem s_X12_sayR_35 {G : Nat → Int} {σ : zSt} (hσ : zEM [9] G σ) {x1 : Int32} (h_x1 : zr (4) (5) x1) (hs : (zgi σ 0 39).toInt + 3 ≤ 40) : zok (fX12_sayR_35 σ x1) (zMtu (zEM [9] G) ((zgi σ 0 39).toInt + 3)) := by
  unfold fX12_sayR_35
  refine zok_mu (s_X12_sayHl hσ (by omega)) (fun σ2 i1 m2 => ?_)
  exact zok_wmu (s_X12_sayR_39 i1 (zr_w h_x1 (by decide)) (by omega)) (by omega)
theorem s_X12_sayR {G : Nat → Int} {σ : zSt} (hσ : zEM [9] G σ) {x1 : Int32} (h_x1 : zr (0) (7) x1) (hs : (zgi σ 0 39).toInt + 7 ≤ 40) : zok (fX12_sayR σ x1) (zMtu (zEM [9] G) ((zgi σ 0 39).toInt + 7)) := by
  unfold fX12_sayR
  refine zok_if (fun q1 => ?_) (fun q1 => ?_)
  · have h2 := zc_eql (6) (6) q1 h_x1 (zr_c (lo := 6) (hi := 6) (by decide)) (by decide)
    refine zok_mu (s_X12_sayPlace hσ (by omega)) (fun σ3 i3 m4 => ?_)
    exact zok_smu i3 (by omega)
  refine zok_if (fun q6 => ?_) (fun q6 => ?_)
  · have h7 := zc_lel (0) q6 zr_any (zr_c (lo := 0) (hi := 0) (by decide)) (by decide)
    exact zok_wmu (s_X12_sayR_39 hσ h_x1 (by omega)) (by omega)
  have h8 := zc_ltr (1) (z_nle q6) (zr_c (lo := 0) (hi := 0) (by decide)) zr_any (by decide)
  refine zok_if (fun q9 => ?_) (fun q9 => ?_)
  · have h10 := zc_eql (0) (0) q9 zr_any (zr_c (lo := 0) (hi := 0) (by decide)) (by decide)
    refine zok_if (fun q11 => ?_) (fun q11 => ?_)
    · have h12 := zc_eql (4) (4) q11 h_x1 (zr_c (lo := 4) (hi := 4) (by decide)) (by decide)
      exact zok_wmu (s_X12_sayR_35 hσ (zr_w h12 (by decide)) (by omega)) (by omega)
    refine zok_if (fun q13 => ?_) (fun q13 => ?_)
    · have h14 := zc_eql (5) (5) q13 h_x1 (zr_c (lo := 5) (hi := 5) (by decide)) (by decide)
      exact zok_wmu (s_X12_sayR_35 hσ (zr_w h14 (by decide)) (by omega)) (by omega)
    exact zok_wmu (s_X12_sayR_39 hσ h_x1 (by omega)) (by omega)
  exact zok_wmu (s_X12_sayR_39 hσ h_x1 (by omega)) (by omega)
theorem s_X12_sayRp_50 {σ : zSt} (hσ : zPM σ) : zok (fX12_sayRp_50 σ ) (zPu σ) := by
  unfold fX12_sayRp_50
  exact zok_spu
theorem s_X12_sayRp_47 {G : Nat → Int} {σ : zSt} (hσ : zEM [9] G σ) {s0 : Nat} (h_s0 : s0 ∈ ([112, 113, 114, 115] : List Nat)) (hs : (zgi σ 0 39).toInt + 2 ≤ 40) : zok (fX12_sayRp_47 σ s0) (zMtu (zEM [9] G) ((zgi σ 0 39).toInt + 2)) := by
  unfold fX12_sayRp_47
  refine zok_mu (s_X12_say hσ (z_memsub h_s0 (by decide)) (d := 2) (z_kd h_s0 (by decide +kernel)) (by omega)) (fun σ1 i1 m2 => ?_)
  exact zok_pmu i1 (by omega) (s_X12_sayRp_50 i1.P)
theorem s_X12_sayRp {G : Nat → Int} {σ : zSt} (hσ : zEM [9] G σ) {x1 : Int32} (h_x1 : zr (0) (3) x1) {x2 : Int32} (h_x2 : zr (0) (1) x2) (hs : (zgi σ 0 39).toInt + 2 ≤ 40) : zok (fX12_sayRp σ x1 x2) (zMtu (zEM [9] G) ((zgi σ 0 39).toInt + 2)) := by
  unfold fX12_sayRp
  refine zok_if (fun q1 => ?_) (fun q1 => ?_)
  · have h2 := zc_eql (2) (2) q1 h_x1 (zr_c (lo := 2) (hi := 2) (by decide)) (by decide)
    refine zok_mu (s_X12_sayHl hσ (by omega)) (fun σ2 i3 m4 => ?_)
    exact zok_pmu i3 (by omega) (s_X12_sayRp_50 i3.P)
  refine zok_if (fun q6 => ?_) (fun q6 => ?_)
  · have h7 := zc_eql (0) (0) q6 h_x1 (zr_c (lo := 0) (hi := 0) (by decide)) (by decide)
    exact zok_wmu (s_X12_sayRp_47 hσ (by decide) (by omega)) (by omega)
  have h8 := zc_nel (1) (3) q6 h_x1 (zr_c (lo := 0) (hi := 0) (by decide)) (by decide)
  refine zok_if (fun q9 => ?_) (fun q9 => ?_)
  · have h10 := zc_eql (1) (1) q9 h8 (zr_c (lo := 1) (hi := 1) (by decide)) (by decide)
    exact zok_wmu (s_X12_sayRp_47 hσ (by decide) (by omega)) (by omega)
  have h11 := zc_nel (2) (3) q9 h8 (zr_c (lo := 1) (hi := 1) (by decide)) (by decide)
  refine zok_if (fun q12 => ?_) (fun q12 => ?_)
  · have h13 := zc_eql (0) (0) q12 h_x2 (zr_c (lo := 0) (hi := 0) (by decide)) (by decide)
    exact zok_wmu (s_X12_sayRp_47 hσ (by decide) (by omega)) (by omega)
  have h14 := zc_nel (1) (1) q12 h_x2 (zr_c (lo := 0) (hi := 0) (by decide)) (by decide)
  exact zok_wmu (s_X12_sayRp_47 hσ (by decide) (by omega)) (by omega)
theorem s_X12_sayCc_81 {G : Nat → Int} {σ : zSt} (hσ : zEM [9] G σ) {s0 : Nat} (h_s0 : s0 ∈ ([94, 103, 104, 105, 106, 107, 108, 109] : List Nat)) (hs : (zgi σ 0 39).toInt + 2 ≤ 40) : zok (fX12_sayCc_81 σ s0) (zMtu (zEM [9] G) ((zgi σ 0 39).toInt + 2)) := by
  unfold fX12_sayCc_81
  refine zok_mu (s_X12_say hσ (z_memsub h_s0 (by decide)) (d := 2) (z_kd h_s0 (by decide +kernel)) (by omega)) (fun σ1 i1 m2 => ?_)
  exact zok_smu i1 (by omega)
theorem s_X12_sayCc {G : Nat → Int} {σ : zSt} (hσ : zEM [9] G σ) {x1 : Int32} (h_x1 : zr (0) (7) x1) (hs : (zgi σ 0 39).toInt + 2 ≤ 40) : zok (fX12_sayCc σ x1) (zMtu (zEM [9] G) ((zgi σ 0 39).toInt + 2)) := by
  unfold fX12_sayCc
  refine zok_if (fun q1 => ?_) (fun q1 => ?_)
  · have h2 := zc_eql (0) (0) q1 h_x1 (zr_c (lo := 0) (hi := 0) (by decide)) (by decide)
    exact zok_wmu (s_X12_sayCc_81 hσ (by decide) (by omega)) (by omega)
  have h3 := zc_nel (1) (7) q1 h_x1 (zr_c (lo := 0) (hi := 0) (by decide)) (by decide)
  refine zok_if (fun q4 => ?_) (fun q4 => ?_)
  · have h5 := zc_eql (1) (1) q4 h3 (zr_c (lo := 1) (hi := 1) (by decide)) (by decide)
    exact zok_wmu (s_X12_sayCc_81 hσ (by decide) (by omega)) (by omega)
  have h6 := zc_nel (2) (7) q4 h3 (zr_c (lo := 1) (hi := 1) (by decide)) (by decide)
  refine zok_if (fun q7 => ?_) (fun q7 => ?_)
  · have h8 := zc_eql (2) (2) q7 h6 (zr_c (lo := 2) (hi := 2) (by decide)) (by decide)
    exact zok_wmu (s_X12_sayCc_81 hσ (by decide) (by omega)) (by omega)
  have h9 := zc_nel (3) (7) q7 h6 (zr_c (lo := 2) (hi := 2) (by decide)) (by decide)
  refine zok_if (fun q10 => ?_) (fun q10 => ?_)
  · have h11 := zc_eql (3) (3) q10 h9 (zr_c (lo := 3) (hi := 3) (by decide)) (by decide)
    exact zok_wmu (s_X12_sayCc_81 hσ (by decide) (by omega)) (by omega)
  have h12 := zc_nel (4) (7) q10 h9 (zr_c (lo := 3) (hi := 3) (by decide)) (by decide)
  refine zok_if (fun q13 => ?_) (fun q13 => ?_)
  · have h14 := zc_eql (4) (4) q13 h12 (zr_c (lo := 4) (hi := 4) (by decide)) (by decide)
    exact zok_wmu (s_X12_sayCc_81 hσ (by decide) (by omega)) (by omega)
  have h15 := zc_nel (5) (7) q13 h12 (zr_c (lo := 4) (hi := 4) (by decide)) (by decide)
  refine zok_if (fun q16 => ?_) (fun q16 => ?_)
  · have h17 := zc_eql (5) (5) q16 h15 (zr_c (lo := 5) (hi := 5) (by decide)) (by decide)
    exact zok_wmu (s_X12_sayCc_81 hσ (by decide) (by omega)) (by omega)
  have h18 := zc_nel (6) (7) q16 h15 (zr_c (lo := 5) (hi := 5) (by decide)) (by decide)
  refine zok_if (fun q19 => ?_) (fun q19 => ?_)
  · have h20 := zc_eql (6) (6) q19 h18 (zr_c (lo := 6) (hi := 6) (by decide)) (by decide)
    exact zok_wmu (s_X12_sayCc_81 hσ (by decide) (by omega)) (by omega)
  have h21 := zc_nel (7) (7) q19 h18 (zr_c (lo := 6) (hi := 6) (by decide)) (by decide)
  exact zok_wmu (s_X12_sayCc_81 hσ (by decide) (by omega)) (by omega)
theorem s_X12_sayPlaced {G : Nat → Int} {σ : zSt} (hσ : zEM [9] G σ) {x1 : Int32} (h_x1 : zr (0) (65535) x1) (hs : (zgi σ 0 39).toInt + 6 ≤ 40) : zok (fX12_sayPlaced σ x1) (zMtu (zEM [9] G) ((zgi σ 0 39).toInt + 6)) := by
  unfold fX12_sayPlaced
  refine zok_mu (s_X12_say hσ (by decide) (d := 1) (by decide +kernel) (by omega)) (fun σ1 i1 m2 => ?_)
  refine zok_mu (s_X12_hex i1 (zr_w (zr_c (lo := 4) (hi := 4) (by decide)) (by decide)) (d := 4) (by decide) (by omega)) (fun σ2 i4 m5 => ?_)
  refine zok_mu (s_X12_say i4 (by decide) (d := 1) (by decide +kernel) (by omega)) (fun σ3 i7 m8 => ?_)
  exact zok_smu i7 (by omega)
theorem s_X12_sayJump {G : Nat → Int} {σ : zSt} (hσ : zEM [9] G σ) (hs : (zgi σ 0 39).toInt + 4 ≤ 40) : zok (fX12_sayJump σ ) (zMtu (zEM [9] G) ((zgi σ 0 39).toInt + 4)) := by
  unfold fX12_sayJump
  refine zok_mi (s_X12_taken hσ (by omega)) (fun σ1 v2 i1 m2 h3 => ?_)
  refine zok_pi (s_X12_signed i1.P h3) (fun v4 h4 => ?_)
  refine zok_mu (s_X12_hex i1 (zr_w (zr_c (lo := 4) (hi := 4) (by decide)) (by decide)) (d := 4) (by decide) (by omega)) (fun σ5 i5 m6 => ?_)
  exact zok_smu i5 (by omega)
theorem s_X12_sayDo_81 {G : Nat → Int} {σ : zSt} (hσ : zEM [9] G σ) {s0 : Nat} (h_s0 : s0 ∈ ([110, 130, 131, 132, 133, 134, 135, 136] : List Nat)) (hs : (zgi σ 0 39).toInt + 4 ≤ 40) : zok (fX12_sayDo_81 σ s0) (zMtu (zEM [9] G) ((zgi σ 0 39).toInt + 4)) := by
  unfold fX12_sayDo_81
  refine zok_mu (s_X12_say hσ (z_memsub h_s0 (by decide)) (d := 4) (z_kd h_s0 (by decide +kernel)) (by omega)) (fun σ1 i1 m2 => ?_)
  exact zok_smu i1 (by omega)
end ZJN0
section ZJN1
theorem s_X12_sayDo {G : Nat → Int} {σ : zSt} (hσ : zEM [9] G σ) {x1 : Int32} (h_x1 : zr (0) (7) x1) (hs : (zgi σ 0 39).toInt + 4 ≤ 40) : zok (fX12_sayDo σ x1) (zMtu (zEM [9] G) ((zgi σ 0 39).toInt + 4)) := by
  unfold fX12_sayDo
  refine zok_if (fun q1 => ?_) (fun q1 => ?_)
  · have h2 := zc_eql (0) (0) q1 h_x1 (zr_c (lo := 0) (hi := 0) (by decide)) (by decide)
    exact zok_wmu (s_X12_sayDo_81 hσ (by decide) (by omega)) (by omega)
  have h3 := zc_nel (1) (7) q1 h_x1 (zr_c (lo := 0) (hi := 0) (by decide)) (by decide)
  refine zok_if (fun q4 => ?_) (fun q4 => ?_)
  · have h5 := zc_eql (1) (1) q4 h3 (zr_c (lo := 1) (hi := 1) (by decide)) (by decide)
    exact zok_wmu (s_X12_sayDo_81 hσ (by decide) (by omega)) (by omega)
  have h6 := zc_nel (2) (7) q4 h3 (zr_c (lo := 1) (hi := 1) (by decide)) (by decide)
  refine zok_if (fun q7 => ?_) (fun q7 => ?_)
  · have h8 := zc_eql (2) (2) q7 h6 (zr_c (lo := 2) (hi := 2) (by decide)) (by decide)
    exact zok_wmu (s_X12_sayDo_81 hσ (by decide) (by omega)) (by omega)
  have h9 := zc_nel (3) (7) q7 h6 (zr_c (lo := 2) (hi := 2) (by decide)) (by decide)
  refine zok_if (fun q10 => ?_) (fun q10 => ?_)
  · have h11 := zc_eql (3) (3) q10 h9 (zr_c (lo := 3) (hi := 3) (by decide)) (by decide)
    exact zok_wmu (s_X12_sayDo_81 hσ (by decide) (by omega)) (by omega)
  have h12 := zc_nel (4) (7) q10 h9 (zr_c (lo := 3) (hi := 3) (by decide)) (by decide)
  refine zok_if (fun q13 => ?_) (fun q13 => ?_)
  · have h14 := zc_eql (4) (4) q13 h12 (zr_c (lo := 4) (hi := 4) (by decide)) (by decide)
    exact zok_wmu (s_X12_sayDo_81 hσ (by decide) (by omega)) (by omega)
  have h15 := zc_nel (5) (7) q13 h12 (zr_c (lo := 4) (hi := 4) (by decide)) (by decide)
  refine zok_if (fun q16 => ?_) (fun q16 => ?_)
  · have h17 := zc_eql (5) (5) q16 h15 (zr_c (lo := 5) (hi := 5) (by decide)) (by decide)
    exact zok_wmu (s_X12_sayDo_81 hσ (by decide) (by omega)) (by omega)
  have h18 := zc_nel (6) (7) q16 h15 (zr_c (lo := 5) (hi := 5) (by decide)) (by decide)
  refine zok_if (fun q19 => ?_) (fun q19 => ?_)
  · have h20 := zc_eql (6) (6) q19 h18 (zr_c (lo := 6) (hi := 6) (by decide)) (by decide)
    exact zok_wmu (s_X12_sayDo_81 hσ (by decide) (by omega)) (by omega)
  have h21 := zc_nel (7) (7) q19 h18 (zr_c (lo := 6) (hi := 6) (by decide)) (by decide)
  exact zok_wmu (s_X12_sayDo_81 hσ (by decide) (by omega)) (by omega)
theorem s_X12_sayTurn_146 {G : Nat → Int} {σ : zSt} (hσ : zEM [9] G σ) {x1 : Int32} (h_x1 : zr (0) (255) x1) (hs : (zgi σ 0 39).toInt + 7 ≤ 40) : zok (fX12_sayTurn_146 σ x1) (zMtu (zEM [9] G) ((zgi σ 0 39).toInt + 7)) := by
  unfold fX12_sayTurn_146
  refine zok_mu (s_X12_sayR hσ (zr_andr (lo := 0) (hi := 7) (zr_c (lo := 7) (hi := 7) (by decide)) (by decide)) (by omega)) (fun σ1 i1 m2 => ?_)
  exact zok_smu i1 (by omega)
theorem s_X12_sayTurn_94 {G : Nat → Int} {σ : zSt} (hσ : zEM [9] G σ) {x1 : Int32} (h_x1 : zr (0) (63) x1) {s0 : Nat} (h_s0 : s0 ∈ ([72, 73, 74, 75, 76, 77, 78, 79] : List Nat)) (hs : (zgi σ 0 39).toInt + 11 ≤ 40) : zok (fX12_sayTurn_94 σ x1 s0) (zMtu (zEM [9] G) ((zgi σ 0 39).toInt + 11)) := by
  unfold fX12_sayTurn_94
  refine zok_mu (s_X12_say hσ (z_memsub h_s0 (by decide)) (d := 4) (z_kd h_s0 (by decide +kernel)) (by omega)) (fun σ2 i1 m2 => ?_)
  exact zok_wmu (s_X12_sayTurn_146 i1 (zr_w h_x1 (by decide)) (by omega)) (by omega)
theorem s_X12_sayTurn_130 {G : Nat → Int} {σ : zSt} (hσ : zEM [9] G σ) {x1 : Int32} (h_x1 : zr (64) (255) x1) {x2 : Int32} (h_x2 : zr (0) (7) x2) {s0 : Nat} (h_s0 : s0 ∈ ([80, 81, 82] : List Nat)) (hs : (zgi σ 0 39).toInt + 13 ≤ 40) : zok (fX12_sayTurn_130 σ x1 x2 s0) (zMtu (zEM [9] G) ((zgi σ 0 39).toInt + 13)) := by
  unfold fX12_sayTurn_130
  refine zok_mu (s_X12_say hσ (z_memsub h_s0 (by decide)) (d := 4) (z_kd h_s0 (by decide +kernel)) (by omega)) (fun σ3 i1 m2 => ?_)
  refine zok_mu (s_X12_hex i1 (zr_w (zr_c (lo := 1) (hi := 1) (by decide)) (by decide)) (d := 1) (by decide) (by omega)) (fun σ4 i4 m5 => ?_)
  refine zok_mu (s_X12_say i4 (by decide) (d := 1) (by decide +kernel) (by omega)) (fun σ5 i7 m8 => ?_)
  exact zok_wmu (s_X12_sayTurn_146 i7 (zr_w h_x1 (by decide)) (by omega)) (by omega)
theorem s_X12_sayTurn {G : Nat → Int} {σ : zSt} (hσ : zEM [9] G σ) {x1 : Int32} (h_x1 : zr (0) (255) x1) (hs : (zgi σ 0 39).toInt + 13 ≤ 40) : zok (fX12_sayTurn σ x1) (zMtu (zEM [9] G) ((zgi σ 0 39).toInt + 13)) := by
  unfold fX12_sayTurn
  refine zok_br (zr_andr (lo := 0) (hi := 7) (zr_c (lo := 7) (hi := 7) (by decide)) (by decide)) (fun v6 e2 h1 => ?_)
  refine zok_if (fun q3 => ?_) (fun q3 => ?_)
  · have h4 := zc_ler (64) q3 (zr_c (lo := 64) (hi := 64) (by decide)) h_x1 (by decide)
    refine zok_if (fun q5 => ?_) (fun q5 => ?_)
    · have h6 := zc_ler (128) q5 (zr_c (lo := 128) (hi := 128) (by decide)) h4 (by decide)
      refine zok_if (fun q7 => ?_) (fun q7 => ?_)
      · have h8 := zc_ler (192) q7 (zr_c (lo := 192) (hi := 192) (by decide)) h6 (by decide)
        exact zok_wmu (s_X12_sayTurn_130 hσ (zr_w h8 (by decide)) h1 (by decide) (by omega)) (by omega)
      have h9 := zc_ltl (191) (z_nle q7) h6 (zr_c (lo := 192) (hi := 192) (by decide)) (by decide)
      exact zok_wmu (s_X12_sayTurn_130 hσ (zr_w h9 (by decide)) h1 (by decide) (by omega)) (by omega)
    have h10 := zc_ltl (127) (z_nle q5) h4 (zr_c (lo := 128) (hi := 128) (by decide)) (by decide)
    exact zok_wmu (s_X12_sayTurn_130 hσ (zr_w h10 (by decide)) h1 (by decide) (by omega)) (by omega)
  have h11 := zc_ltl (63) (z_nle q3) h_x1 (zr_c (lo := 64) (hi := 64) (by decide)) (by decide)
  refine zok_if (fun q12 => ?_) (fun q12 => ?_)
  · have h13 := zc_eql (0) (0) q12 h1 (zr_c (lo := 0) (hi := 0) (by decide)) (by decide)
    exact zok_wmu (s_X12_sayTurn_94 hσ h11 (by decide) (by omega)) (by omega)
  have h14 := zc_nel (1) (7) q12 h1 (zr_c (lo := 0) (hi := 0) (by decide)) (by decide)
  refine zok_if (fun q15 => ?_) (fun q15 => ?_)
  · have h16 := zc_eql (1) (1) q15 h14 (zr_c (lo := 1) (hi := 1) (by decide)) (by decide)
    exact zok_wmu (s_X12_sayTurn_94 hσ h11 (by decide) (by omega)) (by omega)
  have h17 := zc_nel (2) (7) q15 h14 (zr_c (lo := 1) (hi := 1) (by decide)) (by decide)
  refine zok_if (fun q18 => ?_) (fun q18 => ?_)
  · have h19 := zc_eql (2) (2) q18 h17 (zr_c (lo := 2) (hi := 2) (by decide)) (by decide)
    exact zok_wmu (s_X12_sayTurn_94 hσ h11 (by decide) (by omega)) (by omega)
  have h20 := zc_nel (3) (7) q18 h17 (zr_c (lo := 2) (hi := 2) (by decide)) (by decide)
  refine zok_if (fun q21 => ?_) (fun q21 => ?_)
  · have h22 := zc_eql (3) (3) q21 h20 (zr_c (lo := 3) (hi := 3) (by decide)) (by decide)
    exact zok_wmu (s_X12_sayTurn_94 hσ h11 (by decide) (by omega)) (by omega)
  have h23 := zc_nel (4) (7) q21 h20 (zr_c (lo := 3) (hi := 3) (by decide)) (by decide)
  refine zok_if (fun q24 => ?_) (fun q24 => ?_)
  · have h25 := zc_eql (4) (4) q24 h23 (zr_c (lo := 4) (hi := 4) (by decide)) (by decide)
    exact zok_wmu (s_X12_sayTurn_94 hσ h11 (by decide) (by omega)) (by omega)
  have h26 := zc_nel (5) (7) q24 h23 (zr_c (lo := 4) (hi := 4) (by decide)) (by decide)
  refine zok_if (fun q27 => ?_) (fun q27 => ?_)
  · have h28 := zc_eql (5) (5) q27 h26 (zr_c (lo := 5) (hi := 5) (by decide)) (by decide)
    exact zok_wmu (s_X12_sayTurn_94 hσ h11 (by decide) (by omega)) (by omega)
  have h29 := zc_nel (6) (7) q27 h26 (zr_c (lo := 5) (hi := 5) (by decide)) (by decide)
  refine zok_if (fun q30 => ?_) (fun q30 => ?_)
  · have h31 := zc_eql (6) (6) q30 h29 (zr_c (lo := 6) (hi := 6) (by decide)) (by decide)
    exact zok_wmu (s_X12_sayTurn_94 hσ h11 (by decide) (by omega)) (by omega)
  have h32 := zc_nel (7) (7) q30 h29 (zr_c (lo := 6) (hi := 6) (by decide)) (by decide)
  exact zok_wmu (s_X12_sayTurn_94 hσ h11 (by decide) (by omega)) (by omega)
theorem s_X12_sayZero_301 {σ : zSt} (hσ : zPM σ) : zok (fX12_sayZero_301 σ ) (zPu σ) := by
  unfold fX12_sayZero_301
  exact zok_spu
theorem s_X12_sayZero_80 {G : Nat → Int} {σ : zSt} (hσ : zEM [9] G σ) {x1 : Int32} (h_x1 : zr (0) (7) x1) (hs : (zgi σ 0 39).toInt + 4 ≤ 40) : zok (fX12_sayZero_80 σ x1) (zMtu (zEM [9] G) ((zgi σ 0 39).toInt + 4)) := by
  unfold fX12_sayZero_80
  refine zok_if (fun q1 => ?_) (fun q1 => ?_)
  · have h2 := zc_lel (1) q1 h_x1 (zr_c (lo := 1) (hi := 1) (by decide)) (by decide)
    exact zok_pmu hσ (by omega) (s_X12_sayZero_301 hσ.P)
  have h3 := zc_ltr (2) (z_nle q1) (zr_c (lo := 1) (hi := 1) (by decide)) h_x1 (by decide)
  refine zok_mu (s_X12_sayJump hσ (by omega)) (fun σ1 i4 m5 => ?_)
  exact zok_pmu i4 (by omega) (s_X12_sayZero_301 i4.P)
theorem s_X12_sayZero_58 {G : Nat → Int} {σ : zSt} (hσ : zEM [9] G σ) {x1 : Int32} (h_x1 : zr (0) (7) x1) {s0 : Nat} (h_s0 : s0 ∈ ([71, 100, 101, 102] : List Nat)) (hs : (zgi σ 0 39).toInt + 16 ≤ 40) : zok (fX12_sayZero_58 σ x1 s0) (zMtu (zEM [9] G) ((zgi σ 0 39).toInt + 16)) := by
  unfold fX12_sayZero_58
  refine zok_mu (s_X12_say hσ (z_memsub h_s0 (by decide)) (d := 9) (z_kd h_s0 (by decide +kernel)) (by omega)) (fun σ2 i1 m2 => ?_)
  refine zok_if (fun q4 => ?_) (fun q4 => ?_)
  · have h5 := zc_lel (3) q4 h_x1 (zr_c (lo := 3) (hi := 3) (by decide)) (by decide)
    exact zok_wmu (s_X12_sayZero_80 i1 (zr_w h5 (by decide)) (by omega)) (by omega)
  have h6 := zc_ltr (4) (z_nle q4) (zr_c (lo := 3) (hi := 3) (by decide)) h_x1 (by decide)
  refine zok_mu (s_X12_sayCc i1 (zr_w (zr_sub (lo := 0) (hi := 3) h6 (zr_c (lo := 4) (hi := 4) (by decide)) (by decide)) (by decide)) (by omega)) (fun σ3 i7 m8 => ?_)
  refine zok_mu (s_X12_say i7 (by decide) (d := 1) (by decide +kernel) (by omega)) (fun σ4 i10 m11 => ?_)
  exact zok_wmu (s_X12_sayZero_80 i10 (zr_w h6 (by decide)) (by omega)) (by omega)
theorem s_X12_sayZero_133 {G : Nat → Int} {σ : zSt} (hσ : zEM [9] G σ) {x3 : Int32} (h_x3 : zr (0) (3) x3) {x4 : Int32} (h_x4 : zr (0) (1) x4) (hs : (zgi σ 0 39).toInt + 5 ≤ 40) : zok (fX12_sayZero_133 σ x3 x4) (zMtu (zEM [9] G) ((zgi σ 0 39).toInt + 5)) := by
  unfold fX12_sayZero_133
  refine zok_mu (s_X12_say hσ (by decide) (d := 1) (by decide +kernel) (by omega)) (fun σ5 i1 m2 => ?_)
  refine zok_if (fun q4 => ?_) (fun q4 => ?_)
  · have h5 := zc_eql (0) (0) q4 h_x4 (zr_c (lo := 0) (hi := 0) (by decide)) (by decide)
    refine zok_mi (s_X12_takenWord i1 (by omega)) (fun σ6 v7 i6 m7 h8 => ?_)
    refine zok_mu (s_X12_hex i6 (zr_w (zr_c (lo := 4) (hi := 4) (by decide)) (by decide)) (d := 4) (by decide) (by omega)) (fun σ8 i9 m10 => ?_)
    exact zok_pmu i9 (by omega) (s_X12_sayZero_301 i9.P)
  have h12 := zc_nel (1) (1) q4 h_x4 (zr_c (lo := 0) (hi := 0) (by decide)) (by decide)
  refine zok_mu (s_X12_sayRp i1 h_x3 (zr_w (zr_c (lo := 0) (hi := 0) (by decide)) (by decide)) (by omega)) (fun σ9 i13 m14 => ?_)
  exact zok_pmu i13 (by omega) (s_X12_sayZero_301 i13.P)
theorem s_X12_sayZero_112 {G : Nat → Int} {σ : zSt} (hσ : zEM [9] G σ) {x3 : Int32} (h_x3 : zr (0) (3) x3) {x4 : Int32} (h_x4 : zr (0) (1) x4) {s0 : Nat} (h_s0 : s0 ∈ ([110, 111] : List Nat)) (hs : (zgi σ 0 39).toInt + 11 ≤ 40) : zok (fX12_sayZero_112 σ x3 x4 s0) (zMtu (zEM [9] G) ((zgi σ 0 39).toInt + 11)) := by
  unfold fX12_sayZero_112
  refine zok_mu (s_X12_say hσ (z_memsub h_s0 (by decide)) (d := 4) (z_kd h_s0 (by decide +kernel)) (by omega)) (fun σ10 i1 m2 => ?_)
  refine zok_if (fun q4 => ?_) (fun q4 => ?_)
  · have h5 := zc_eql (0) (0) q4 h_x4 (zr_c (lo := 0) (hi := 0) (by decide)) (by decide)
    refine zok_mu (s_X12_sayRp i1 h_x3 (zr_w (zr_c (lo := 0) (hi := 0) (by decide)) (by decide)) (by omega)) (fun σ11 i6 m7 => ?_)
    exact zok_wmu (s_X12_sayZero_133 i6 h_x3 (zr_w h5 (by decide)) (by omega)) (by omega)
  have h9 := zc_nel (1) (1) q4 h_x4 (zr_c (lo := 0) (hi := 0) (by decide)) (by decide)
  refine zok_mu (s_X12_sayHl i1 (by omega)) (fun σ12 i10 m11 => ?_)
  exact zok_wmu (s_X12_sayZero_133 i10 h_x3 (zr_w h9 (by decide)) (by omega)) (by omega)
theorem s_X12_sayZero_186 {G : Nat → Int} {σ : zSt} (hσ : zEM [9] G σ) {x3 : Int32} (h_x3 : zr (0) (3) x3) {s0 : Nat} (h_s0 : s0 ∈ ([116, 117] : List Nat)) (hs : (zgi σ 0 39).toInt + 6 ≤ 40) : zok (fX12_sayZero_186 σ x3 s0) (zMtu (zEM [9] G) ((zgi σ 0 39).toInt + 6)) := by
  unfold fX12_sayZero_186
  refine zok_mu (s_X12_say hσ (z_memsub h_s0 (by decide)) (d := 4) (z_kd h_s0 (by decide +kernel)) (by omega)) (fun σ13 i1 m2 => ?_)
  refine zok_mu (s_X12_sayRp i1 h_x3 (zr_w (zr_c (lo := 0) (hi := 0) (by decide)) (by decide)) (by omega)) (fun σ14 i4 m5 => ?_)
  exact zok_pmu i4 (by omega) (s_X12_sayZero_301 i4.P)
theorem s_X12_sayZero_269 {G : Nat → Int} {σ : zSt} (hσ : zEM [9] G σ) {x3 : Int32} (h_x3 : zr (0) (3) x3) {x4 : Int32} (h_x4 : zr (0) (1) x4) (hs : (zgi σ 0 39).toInt + 3 ≤ 40) : zok (fX12_sayZero_269 σ x3 x4) (zMtu (zEM [9] G) ((zgi σ 0 39).toInt + 3)) := by
  unfold fX12_sayZero_269
  refine zok_if (fun q1 => ?_) (fun q1 => ?_)
  · have h2 := zc_eql (0) (0) q1 h_x4 (zr_c (lo := 0) (hi := 0) (by decide)) (by decide)
    refine zok_mu (s_X12_say hσ (by decide) (d := 1) (by decide +kernel) (by omega)) (fun σ15 i3 m4 => ?_)
    refine zok_if (fun q6 => ?_) (fun q6 => ?_)
    · have h7 := zc_eql (2) (2) q6 h_x3 (zr_c (lo := 2) (hi := 2) (by decide)) (by decide)
      refine zok_mu (s_X12_sayHl i3 (by omega)) (fun σ17 i8 m9 => ?_)
      exact zok_pmu i8 (by omega) (s_X12_sayZero_301 i8.P)
    refine zok_mu (s_X12_say i3 (by decide) (d := 1) (by decide +kernel) (by omega)) (fun σ16 i11 m12 => ?_)
    exact zok_pmu i11 (by omega) (s_X12_sayZero_301 i11.P)
  have h14 := zc_nel (1) (1) q1 h_x4 (zr_c (lo := 0) (hi := 0) (by decide)) (by decide)
  exact zok_smu hσ (by omega)
theorem s_X12_sayZero_255 {G : Nat → Int} {σ : zSt} (hσ : zEM [9] G σ) {x3 : Int32} (h_x3 : zr (0) (1) x3) {x4 : Int32} (h_x4 : zr (0) (1) x4) {s0 : Nat} (h_s0 : s0 ∈ ([118, 119] : List Nat)) (hs : (zgi σ 0 39).toInt + 7 ≤ 40) : zok (fX12_sayZero_255 σ x3 x4 s0) (zMtu (zEM [9] G) ((zgi σ 0 39).toInt + 7)) := by
  unfold fX12_sayZero_255
  refine zok_mu (s_X12_say hσ (z_memsub h_s0 (by decide)) (d := 4) (z_kd h_s0 (by decide +kernel)) (by omega)) (fun σ18 i1 m2 => ?_)
  exact zok_wmu (s_X12_sayZero_269 i1 (zr_w h_x3 (by decide)) h_x4 (by omega)) (by omega)
theorem s_X12_sayZero_236 {G : Nat → Int} {σ : zSt} (hσ : zEM [9] G σ) {x3 : Int32} (h_x3 : zr (0) (3) x3) {x4 : Int32} (h_x4 : zr (0) (1) x4) (hs : (zgi σ 0 39).toInt + 9 ≤ 40) : zok (fX12_sayZero_236 σ x3 x4) (zMtu (zEM [9] G) ((zgi σ 0 39).toInt + 9)) := by
  unfold fX12_sayZero_236
  refine zok_if (fun q1 => ?_) (fun q1 => ?_)
  · have h2 := zc_ler (2) q1 (zr_c (lo := 2) (hi := 2) (by decide)) h_x3 (by decide)
    refine zok_mi (s_X12_takenWord hσ (by omega)) (fun σ19 v20 i3 m4 h5 => ?_)
    refine zok_mu (s_X12_sayPlaced i3 h5 (by omega)) (fun σ21 i6 m7 => ?_)
    exact zok_wmu (s_X12_sayZero_269 i6 (zr_w h2 (by decide)) h_x4 (by omega)) (by omega)
  have h9 := zc_ltl (1) (z_nle q1) h_x3 (zr_c (lo := 2) (hi := 2) (by decide)) (by decide)
  refine zok_if (fun q10 => ?_) (fun q10 => ?_)
  · have h11 := zc_eql (0) (0) q10 h9 (zr_c (lo := 0) (hi := 0) (by decide)) (by decide)
    exact zok_wmu (s_X12_sayZero_255 hσ (zr_w h11 (by decide)) h_x4 (by decide) (by omega)) (by omega)
  have h12 := zc_nel (1) (1) q10 h9 (zr_c (lo := 0) (hi := 0) (by decide)) (by decide)
  exact zok_wmu (s_X12_sayZero_255 hσ (zr_w h12 (by decide)) h_x4 (by decide) (by omega)) (by omega)
theorem s_X12_sayZero_229 {G : Nat → Int} {σ : zSt} (hσ : zEM [9] G σ) {x3 : Int32} (h_x3 : zr (0) (3) x3) {x4 : Int32} (h_x4 : zr (1) (1) x4) (hs : (zgi σ 0 39).toInt + 10 ≤ 40) : zok (fX12_sayZero_229 σ x3 x4) (zMtu (zEM [9] G) ((zgi σ 0 39).toInt + 10)) := by
  unfold fX12_sayZero_229
  refine zok_mu (s_X12_say hσ (by decide) (d := 1) (by decide +kernel) (by omega)) (fun σ22 i1 m2 => ?_)
  exact zok_wmu (s_X12_sayZero_236 i1 h_x3 (zr_w h_x4 (by decide)) (by omega)) (by omega)
theorem s_X12_sayZero_16 {G : Nat → Int} {σ : zSt} (hσ : zEM [9] G σ) {x1 : Int32} (h_x1 : zr (0) (7) x1) {x2 : Int32} (h_x2 : zr (0) (3) x2) {x3 : Int32} (h_x3 : zr (0) (3) x3) {s0 : Int32} (h_s0 : zr (0) (1) s0) (hs : (zgi σ 0 39).toInt + 16 ≤ 40) : zok (fX12_sayZero_16 σ x1 x2 x3 s0) (zMtu (zEM [9] G) ((zgi σ 0 39).toInt + 16)) := by
  unfold fX12_sayZero_16
  refine zok_if (fun q1 => ?_) (fun q1 => ?_)
  · have h2 := zc_eql (0) (0) q1 h_x2 (zr_c (lo := 0) (hi := 0) (by decide)) (by decide)
    refine zok_if (fun q3 => ?_) (fun q3 => ?_)
    · have h4 := zc_eql (0) (0) q3 h_x1 (zr_c (lo := 0) (hi := 0) (by decide)) (by decide)
      exact zok_wmu (s_X12_sayZero_58 hσ (zr_w h4 (by decide)) (by decide) (by omega)) (by omega)
    have h5 := zc_nel (1) (7) q3 h_x1 (zr_c (lo := 0) (hi := 0) (by decide)) (by decide)
    refine zok_if (fun q6 => ?_) (fun q6 => ?_)
    · have h7 := zc_eql (1) (1) q6 h5 (zr_c (lo := 1) (hi := 1) (by decide)) (by decide)
      exact zok_wmu (s_X12_sayZero_58 hσ (zr_w h7 (by decide)) (by decide) (by omega)) (by omega)
    have h8 := zc_nel (2) (7) q6 h5 (zr_c (lo := 1) (hi := 1) (by decide)) (by decide)
    refine zok_if (fun q9 => ?_) (fun q9 => ?_)
    · have h10 := zc_eql (2) (2) q9 h8 (zr_c (lo := 2) (hi := 2) (by decide)) (by decide)
      exact zok_wmu (s_X12_sayZero_58 hσ (zr_w h10 (by decide)) (by decide) (by omega)) (by omega)
    have h11 := zc_nel (3) (7) q9 h8 (zr_c (lo := 2) (hi := 2) (by decide)) (by decide)
    exact zok_wmu (s_X12_sayZero_58 hσ (zr_w h11 (by decide)) (by decide) (by omega)) (by omega)
  have h12 := zc_nel (1) (3) q1 h_x2 (zr_c (lo := 0) (hi := 0) (by decide)) (by decide)
  refine zok_if (fun q13 => ?_) (fun q13 => ?_)
  · have h14 := zc_eql (1) (1) q13 h12 (zr_c (lo := 1) (hi := 1) (by decide)) (by decide)
    refine zok_if (fun q15 => ?_) (fun q15 => ?_)
    · have h16 := zc_eql (0) (0) q15 h_s0 (zr_c (lo := 0) (hi := 0) (by decide)) (by decide)
      exact zok_wmu (s_X12_sayZero_112 hσ h_x3 (zr_w h16 (by decide)) (by decide) (by omega)) (by omega)
    have h17 := zc_nel (1) (1) q15 h_s0 (zr_c (lo := 0) (hi := 0) (by decide)) (by decide)
    exact zok_wmu (s_X12_sayZero_112 hσ h_x3 (zr_w h17 (by decide)) (by decide) (by omega)) (by omega)
  have h18 := zc_nel (2) (3) q13 h12 (zr_c (lo := 1) (hi := 1) (by decide)) (by decide)
  refine zok_if (fun q19 => ?_) (fun q19 => ?_)
  · have h20 := zc_eql (3) (3) q19 h18 (zr_c (lo := 3) (hi := 3) (by decide)) (by decide)
    refine zok_if (fun q21 => ?_) (fun q21 => ?_)
    · have h22 := zc_eql (0) (0) q21 h_s0 (zr_c (lo := 0) (hi := 0) (by decide)) (by decide)
      exact zok_wmu (s_X12_sayZero_186 hσ h_x3 (by decide) (by omega)) (by omega)
    have h23 := zc_nel (1) (1) q21 h_s0 (zr_c (lo := 0) (hi := 0) (by decide)) (by decide)
    exact zok_wmu (s_X12_sayZero_186 hσ h_x3 (by decide) (by omega)) (by omega)
  have h24 := zc_nel (2) (2) q19 h18 (zr_c (lo := 3) (hi := 3) (by decide)) (by decide)
  refine zok_mu (s_X12_say hσ (by decide) (d := 3) (by decide +kernel) (by omega)) (fun σ23 i25 m26 => ?_)
  refine zok_if (fun q28 => ?_) (fun q28 => ?_)
  · have h29 := zc_eql (0) (0) q28 h_s0 (zr_c (lo := 0) (hi := 0) (by decide)) (by decide)
    exact zok_wmu (s_X12_sayZero_236 i25 h_x3 (zr_w h29 (by decide)) (by omega)) (by omega)
  have h30 := zc_nel (1) (1) q28 h_s0 (zr_c (lo := 0) (hi := 0) (by decide)) (by decide)
  refine zok_if (fun q31 => ?_) (fun q31 => ?_)
  · have h32 := zc_eql (2) (2) q31 h_x3 (zr_c (lo := 2) (hi := 2) (by decide)) (by decide)
    refine zok_mu (s_X12_sayHl i25 (by omega)) (fun σ25 i33 m34 => ?_)
    exact zok_wmu (s_X12_sayZero_229 i33 (zr_w h32 (by decide)) h30 (by omega)) (by omega)
  refine zok_mu (s_X12_say i25 (by decide) (d := 1) (by decide +kernel) (by omega)) (fun σ24 i36 m37 => ?_)
  exact zok_wmu (s_X12_sayZero_229 i36 h_x3 h30 (by omega)) (by omega)
theorem s_X12_sayZero {G : Nat → Int} {σ : zSt} (hσ : zEM [9] G σ) {x1 : Int32} (h_x1 : zr (0) (7) x1) {x2 : Int32} (h_x2 : zr (0) (3) x2) (hs : (zgi σ 0 39).toInt + 16 ≤ 40) : zok (fX12_sayZero σ x1 x2) (zMtu (zEM [9] G) ((zgi σ 0 39).toInt + 16)) := by
  unfold fX12_sayZero
  refine zok_br (zr_shr (lo := 0) (hi := 3) 1 (by decide) h_x1 (by decide)) (fun v26 e2 h1 => ?_)
  refine zok_ck (by decide) ?_
  refine zok_if (fun q3 => ?_) (fun q3 => ?_)
  · have h4 := zc_eql (1) (1) q3 (zr_rem (lo := 0) (hi := 1) 2 (by decide) h_x1 (by decide)) (zr_c (lo := 1) (hi := 1) (by decide)) (by decide)
    have h5 := z_odd64 h_x1 h4 (by decide)
    exact zok_wmu (s_X12_sayZero_16 hσ h_x1 h_x2 h1 (zr_w (zr_c (lo := 1) (hi := 1) (by decide)) (by decide)) (by omega)) (by omega)
  have h6 := zc_nel (0) (0) q3 (zr_rem (lo := 0) (hi := 1) 2 (by decide) h_x1 (by decide)) (zr_c (lo := 1) (hi := 1) (by decide)) (by decide)
  exact zok_wmu (s_X12_sayZero_16 hσ h_x1 h_x2 h1 (zr_w (zr_c (lo := 0) (hi := 0) (by decide)) (by decide)) (by omega)) (by omega)
theorem s_X12_saySingle_87 {G : Nat → Int} {σ : zSt} (hσ : zEM [9] G σ) {s0 : Nat} (h_s0 : s0 ∈ ([121, 122, 123, 124, 125, 126, 127, 128] : List Nat)) (hs : (zgi σ 0 39).toInt + 4 ≤ 40) : zok (fX12_saySingle_87 σ s0) (zMtu (zEM [9] G) ((zgi σ 0 39).toInt + 4)) := by
  unfold fX12_saySingle_87
  refine zok_mu (s_X12_say hσ (z_memsub h_s0 (by decide)) (d := 4) (z_kd h_s0 (by decide +kernel)) (by omega)) (fun σ1 i1 m2 => ?_)
  exact zok_smu i1 (by omega)
theorem s_X12_saySingle_117 {G : Nat → Int} {σ : zSt} (hσ : zEM [9] G σ) {x1 : Int32} (h_x1 : zr (0) (7) x1) {x2 : Int32} (h_x2 : zr (0) (6) x2) {s0 : Nat} (h_s0 : s0 ∈ ([111, 116, 117] : List Nat)) (hs : (zgi σ 0 39).toInt + 14 ≤ 40) : zok (fX12_saySingle_117 σ x1 x2 s0) (zMtu (zEM [9] G) ((zgi σ 0 39).toInt + 14)) := by
  unfold fX12_saySingle_117
  refine zok_mu (s_X12_say hσ (z_memsub h_s0 (by decide)) (d := 4) (z_kd h_s0 (by decide +kernel)) (by omega)) (fun σ2 i1 m2 => ?_)
  refine zok_mu (s_X12_sayR i1 h_x1 (by omega)) (fun σ3 i4 m5 => ?_)
  refine zok_if (fun q7 => ?_) (fun q7 => ?_)
  · have h8 := zc_ler (6) q7 (zr_c (lo := 6) (hi := 6) (by decide)) h_x2 (by decide)
    refine zok_mu (s_X12_say i4 (by decide) (d := 1) (by decide +kernel) (by omega)) (fun σ4 i9 m10 => ?_)
    refine zok_mi (s_X12_taken i9 (by omega)) (fun σ5 v6 i12 m13 h14 => ?_)
    refine zok_mu (s_X12_hex i12 (zr_w (zr_c (lo := 2) (hi := 2) (by decide)) (by decide)) (d := 2) (by decide) (by omega)) (fun σ7 i15 m16 => ?_)
    exact zok_smu i15 (by omega)
  have h18 := zc_ltl (5) (z_nle q7) h_x2 (zr_c (lo := 6) (hi := 6) (by decide)) (by decide)
  exact zok_smu i4 (by omega)
theorem s_X12_saySingle {G : Nat → Int} {σ : zSt} (hσ : zEM [9] G σ) {x1 : Int32} (h_x1 : zr (0) (7) x1) {x2 : Int32} (h_x2 : zr (0) (7) x2) (hs : (zgi σ 0 39).toInt + 14 ≤ 40) : zok (fX12_saySingle σ x1 x2) (zMtu (zEM [9] G) ((zgi σ 0 39).toInt + 14)) := by
  unfold fX12_saySingle
  refine zok_if (fun q1 => ?_) (fun q1 => ?_)
  · have h2 := zc_eql (7) (7) q1 h_x2 (zr_c (lo := 7) (hi := 7) (by decide)) (by decide)
    refine zok_if (fun q3 => ?_) (fun q3 => ?_)
    · have h4 := zc_eql (0) (0) q3 h_x1 (zr_c (lo := 0) (hi := 0) (by decide)) (by decide)
      exact zok_wmu (s_X12_saySingle_87 hσ (by decide) (by omega)) (by omega)
    have h5 := zc_nel (1) (7) q3 h_x1 (zr_c (lo := 0) (hi := 0) (by decide)) (by decide)
    refine zok_if (fun q6 => ?_) (fun q6 => ?_)
    · have h7 := zc_eql (1) (1) q6 h5 (zr_c (lo := 1) (hi := 1) (by decide)) (by decide)
      exact zok_wmu (s_X12_saySingle_87 hσ (by decide) (by omega)) (by omega)
    have h8 := zc_nel (2) (7) q6 h5 (zr_c (lo := 1) (hi := 1) (by decide)) (by decide)
    refine zok_if (fun q9 => ?_) (fun q9 => ?_)
    · have h10 := zc_eql (2) (2) q9 h8 (zr_c (lo := 2) (hi := 2) (by decide)) (by decide)
      exact zok_wmu (s_X12_saySingle_87 hσ (by decide) (by omega)) (by omega)
    have h11 := zc_nel (3) (7) q9 h8 (zr_c (lo := 2) (hi := 2) (by decide)) (by decide)
    refine zok_if (fun q12 => ?_) (fun q12 => ?_)
    · have h13 := zc_eql (3) (3) q12 h11 (zr_c (lo := 3) (hi := 3) (by decide)) (by decide)
      exact zok_wmu (s_X12_saySingle_87 hσ (by decide) (by omega)) (by omega)
    have h14 := zc_nel (4) (7) q12 h11 (zr_c (lo := 3) (hi := 3) (by decide)) (by decide)
    refine zok_if (fun q15 => ?_) (fun q15 => ?_)
    · have h16 := zc_eql (4) (4) q15 h14 (zr_c (lo := 4) (hi := 4) (by decide)) (by decide)
      exact zok_wmu (s_X12_saySingle_87 hσ (by decide) (by omega)) (by omega)
    have h17 := zc_nel (5) (7) q15 h14 (zr_c (lo := 4) (hi := 4) (by decide)) (by decide)
    refine zok_if (fun q18 => ?_) (fun q18 => ?_)
    · have h19 := zc_eql (5) (5) q18 h17 (zr_c (lo := 5) (hi := 5) (by decide)) (by decide)
      exact zok_wmu (s_X12_saySingle_87 hσ (by decide) (by omega)) (by omega)
    have h20 := zc_nel (6) (7) q18 h17 (zr_c (lo := 5) (hi := 5) (by decide)) (by decide)
    refine zok_if (fun q21 => ?_) (fun q21 => ?_)
    · have h22 := zc_eql (6) (6) q21 h20 (zr_c (lo := 6) (hi := 6) (by decide)) (by decide)
      exact zok_wmu (s_X12_saySingle_87 hσ (by decide) (by omega)) (by omega)
    have h23 := zc_nel (7) (7) q21 h20 (zr_c (lo := 6) (hi := 6) (by decide)) (by decide)
    exact zok_wmu (s_X12_saySingle_87 hσ (by decide) (by omega)) (by omega)
  have h24 := zc_nel (0) (6) q1 h_x2 (zr_c (lo := 7) (hi := 7) (by decide)) (by decide)
  refine zok_if (fun q25 => ?_) (fun q25 => ?_)
  · have h26 := zc_eql (4) (4) q25 h24 (zr_c (lo := 4) (hi := 4) (by decide)) (by decide)
    exact zok_wmu (s_X12_saySingle_117 hσ h_x1 (zr_w h26 (by decide)) (by decide) (by omega)) (by omega)
  refine zok_if (fun q27 => ?_) (fun q27 => ?_)
  · have h28 := zc_eql (5) (5) q27 h24 (zr_c (lo := 5) (hi := 5) (by decide)) (by decide)
    exact zok_wmu (s_X12_saySingle_117 hσ h_x1 (zr_w h28 (by decide)) (by decide) (by omega)) (by omega)
  exact zok_wmu (s_X12_saySingle_117 hσ h_x1 h24 (by decide) (by omega)) (by omega)
theorem s_X12_sayThree_266 {σ : zSt} (hσ : zPM σ) : zok (fX12_sayThree_266 σ ) (zPu σ) := by
  unfold fX12_sayThree_266
  exact zok_spu
theorem s_X12_sayThree_103 {G : Nat → Int} {σ : zSt} (hσ : zEM [9] G σ) {x3 : Int32} (h_x3 : zr (0) (3) x3) (hs : (zgi σ 0 39).toInt + 1 ≤ 40) : zok (fX12_sayThree_103 σ x3) (zMtu (zEM [9] G) ((zgi σ 0 39).toInt + 1)) := by
  unfold fX12_sayThree_103
  refine zok_if (fun q1 => ?_) (fun q1 => ?_)
  · have h2 := zc_eql (2) (2) q1 h_x3 (zr_c (lo := 2) (hi := 2) (by decide)) (by decide)
    refine zok_mu (s_X12_say hσ (by decide) (d := 1) (by decide +kernel) (by omega)) (fun σ1 i3 m4 => ?_)
    exact zok_pmu i3 (by omega) (s_X12_sayThree_266 i3.P)
  exact zok_pmu hσ (by omega) (s_X12_sayThree_266 hσ.P)
theorem s_X12_sayThree_91 {G : Nat → Int} {σ : zSt} (hσ : zEM [9] G σ) {x3 : Int32} (h_x3 : zr (0) (3) x3) {s0 : Nat} (h_s0 : s0 ∈ ([139, 140, 141, 142] : List Nat)) (hs : (zgi σ 0 39).toInt + 9 ≤ 40) : zok (fX12_sayThree_91 σ x3 s0) (zMtu (zEM [9] G) ((zgi σ 0 39).toInt + 9)) := by
  unfold fX12_sayThree_91
  refine zok_mu (s_X12_say hσ (z_memsub h_s0 (by decide)) (d := 6) (z_kd h_s0 (by decide +kernel)) (by omega)) (fun σ2 i1 m2 => ?_)
  refine zok_if (fun q4 => ?_) (fun q4 => ?_)
  · have h5 := zc_lel (1) q4 h_x3 (zr_c (lo := 1) (hi := 1) (by decide)) (by decide)
    exact zok_wmu (s_X12_sayThree_103 i1 (zr_w h5 (by decide)) (by omega)) (by omega)
  have h6 := zc_ltr (2) (z_nle q4) (zr_c (lo := 1) (hi := 1) (by decide)) h_x3 (by decide)
  refine zok_mu (s_X12_sayHl i1 (by omega)) (fun σ3 i7 m8 => ?_)
  exact zok_wmu (s_X12_sayThree_103 i7 (zr_w h6 (by decide)) (by omega)) (by omega)
theorem s_X12_sayThree_151 {G : Nat → Int} {σ : zSt} (hσ : zEM [9] G σ) (hs : (zgi σ 0 39).toInt + 4 ≤ 40) : zok (fX12_sayThree_151 σ ) (zMtu (zEM [9] G) ((zgi σ 0 39).toInt + 4)) := by
  unfold fX12_sayThree_151
  refine zok_mi (s_X12_takenWord hσ (by omega)) (fun σ4 v5 i1 m2 h3 => ?_)
  refine zok_mu (s_X12_hex i1 (zr_w (zr_c (lo := 4) (hi := 4) (by decide)) (by decide)) (d := 4) (by decide) (by omega)) (fun σ6 i4 m5 => ?_)
  exact zok_pmu i4 (by omega) (s_X12_sayThree_266 i4.P)
theorem s_X12_sayThree_127 {G : Nat → Int} {σ : zSt} (hσ : zEM [9] G σ) {x1 : Int32} (h_x1 : zr (0) (7) x1) {x2 : Int32} (h_x2 : zr (2) (3) x2) (hs : (zgi σ 0 39).toInt + 10 ≤ 40) : zok (fX12_sayThree_127 σ x1 x2) (zMtu (zEM [9] G) ((zgi σ 0 39).toInt + 10)) := by
  unfold fX12_sayThree_127
  refine zok_mu (s_X12_say hσ (by decide) (d := 3) (by decide +kernel) (by omega)) (fun σ7 i1 m2 => ?_)
  refine zok_if (fun q4 => ?_) (fun q4 => ?_)
  · have h5 := zc_eql (2) (2) q4 h_x2 (zr_c (lo := 2) (hi := 2) (by decide)) (by decide)
    refine zok_mu (s_X12_sayCc i1 h_x1 (by omega)) (fun σ8 i6 m7 => ?_)
    refine zok_mu (s_X12_say i6 (by decide) (d := 1) (by decide +kernel) (by omega)) (fun σ9 i9 m10 => ?_)
    exact zok_wmu (s_X12_sayThree_151 i9 (by omega)) (by omega)
  have h12 := zc_nel (3) (3) q4 h_x2 (zr_c (lo := 2) (hi := 2) (by decide)) (by decide)
  exact zok_wmu (s_X12_sayThree_151 i1 (by omega)) (by omega)
theorem s_X12_sayThree_210 {G : Nat → Int} {σ : zSt} (hσ : zEM [9] G σ) {s0 : Nat} (h_s0 : s0 ∈ ([89, 146] : List Nat)) (hs : (zgi σ 0 39).toInt + 3 ≤ 40) : zok (fX12_sayThree_210 σ s0) (zMtu (zEM [9] G) ((zgi σ 0 39).toInt + 3)) := by
  unfold fX12_sayThree_210
  refine zok_mu (s_X12_say hσ (z_memsub h_s0 (by decide)) (d := 3) (z_kd h_s0 (by decide +kernel)) (by omega)) (fun σ10 i1 m2 => ?_)
  exact zok_pmu i1 (by omega) (s_X12_sayThree_266 i1.P)
theorem s_X12_sayThree_183 {G : Nat → Int} {σ : zSt} (hσ : zEM [9] G σ) {x1 : Int32} (h_x1 : zr (1) (3) x1) {s0 : Nat} (h_s0 : s0 ∈ ([144, 145] : List Nat)) (hs : (zgi σ 0 39).toInt + 11 ≤ 40) : zok (fX12_sayThree_183 σ x1 s0) (zMtu (zEM [9] G) ((zgi σ 0 39).toInt + 11)) := by
  unfold fX12_sayThree_183
  refine zok_mu (s_X12_say hσ (z_memsub h_s0 (by decide)) (d := 6) (z_kd h_s0 (by decide +kernel)) (by omega)) (fun σ11 i1 m2 => ?_)
  refine zok_mi (s_X12_taken i1 (by omega)) (fun σ12 v13 i4 m5 h6 => ?_)
  refine zok_mu (s_X12_hex i4 (zr_w (zr_c (lo := 2) (hi := 2) (by decide)) (by decide)) (d := 2) (by decide) (by omega)) (fun σ14 i7 m8 => ?_)
  refine zok_if (fun q10 => ?_) (fun q10 => ?_)
  · have h11 := zc_eql (2) (2) q10 h_x1 (zr_c (lo := 2) (hi := 2) (by decide)) (by decide)
    exact zok_wmu (s_X12_sayThree_210 i7 (by decide) (by omega)) (by omega)
  exact zok_wmu (s_X12_sayThree_210 i7 (by decide) (by omega)) (by omega)
theorem s_X12_sayThree_254 {G : Nat → Int} {σ : zSt} (hσ : zEM [9] G σ) {x1 : Int32} (h_x1 : zr (4) (7) x1) {s0 : Nat} (h_s0 : s0 ∈ ([147, 148, 149, 150] : List Nat)) (hs : (zgi σ 0 39).toInt + 10 ≤ 40) : zok (fX12_sayThree_254 σ x1 s0) (zMtu (zEM [9] G) ((zgi σ 0 39).toInt + 10)) := by
  unfold fX12_sayThree_254
  refine zok_mu (s_X12_say hσ (z_memsub h_s0 (by decide)) (d := 8) (z_kd h_s0 (by decide +kernel)) (by omega)) (fun σ15 i1 m2 => ?_)
  refine zok_if (fun q4 => ?_) (fun q4 => ?_)
  · have h5 := zc_eql (4) (4) q4 h_x1 (zr_c (lo := 4) (hi := 4) (by decide)) (by decide)
    refine zok_mu (s_X12_sayHl i1 (by omega)) (fun σ16 i6 m7 => ?_)
    exact zok_pmu i6 (by omega) (s_X12_sayThree_266 i6.P)
  have h9 := zc_nel (5) (7) q4 h_x1 (zr_c (lo := 4) (hi := 4) (by decide)) (by decide)
  exact zok_pmu i1 (by omega) (s_X12_sayThree_266 i1.P)
theorem s_X12_sayThree_50 {G : Nat → Int} {σ : zSt} (hσ : zEM [9] G σ) {x1 : Int32} (h_x1 : zr (0) (7) x1) {x2 : Int32} (h_x2 : zr (1) (3) x2) {x3 : Int32} (h_x3 : zr (0) (3) x3) (hs : (zgi σ 0 39).toInt + 11 ≤ 40) : zok (fX12_sayThree_50 σ x1 x2 x3) (zMtu (zEM [9] G) ((zgi σ 0 39).toInt + 11)) := by
  unfold fX12_sayThree_50
  refine zok_if (fun q1 => ?_) (fun q1 => ?_)
  · have h2 := zc_eql (1) (1) q1 h_x2 (zr_c (lo := 1) (hi := 1) (by decide)) (by decide)
    refine zok_if (fun q3 => ?_) (fun q3 => ?_)
    · have h4 := zc_eql (0) (0) q3 h_x3 (zr_c (lo := 0) (hi := 0) (by decide)) (by decide)
      exact zok_wmu (s_X12_sayThree_91 hσ (zr_w h4 (by decide)) (by decide) (by omega)) (by omega)
    have h5 := zc_nel (1) (3) q3 h_x3 (zr_c (lo := 0) (hi := 0) (by decide)) (by decide)
    refine zok_if (fun q6 => ?_) (fun q6 => ?_)
    · have h7 := zc_eql (1) (1) q6 h5 (zr_c (lo := 1) (hi := 1) (by decide)) (by decide)
      exact zok_wmu (s_X12_sayThree_91 hσ (zr_w h7 (by decide)) (by decide) (by omega)) (by omega)
    have h8 := zc_nel (2) (3) q6 h5 (zr_c (lo := 1) (hi := 1) (by decide)) (by decide)
    refine zok_if (fun q9 => ?_) (fun q9 => ?_)
    · have h10 := zc_eql (2) (2) q9 h8 (zr_c (lo := 2) (hi := 2) (by decide)) (by decide)
      exact zok_wmu (s_X12_sayThree_91 hσ (zr_w h10 (by decide)) (by decide) (by omega)) (by omega)
    have h11 := zc_nel (3) (3) q9 h8 (zr_c (lo := 2) (hi := 2) (by decide)) (by decide)
    exact zok_wmu (s_X12_sayThree_91 hσ (zr_w h11 (by decide)) (by decide) (by omega)) (by omega)
  have h12 := zc_nel (2) (3) q1 h_x2 (zr_c (lo := 1) (hi := 1) (by decide)) (by decide)
  refine zok_if (fun q13 => ?_) (fun q13 => ?_)
  · have h14 := zc_eql (2) (2) q13 h12 (zr_c (lo := 2) (hi := 2) (by decide)) (by decide)
    exact zok_wmu (s_X12_sayThree_127 hσ h_x1 (zr_w h14 (by decide)) (by omega)) (by omega)
  have h15 := zc_nel (3) (3) q13 h12 (zr_c (lo := 2) (hi := 2) (by decide)) (by decide)
  refine zok_if (fun q16 => ?_) (fun q16 => ?_)
  · have h17 := zc_eql (0) (0) q16 h_x1 (zr_c (lo := 0) (hi := 0) (by decide)) (by decide)
    exact zok_wmu (s_X12_sayThree_127 hσ (zr_w h17 (by decide)) (zr_w h15 (by decide)) (by omega)) (by omega)
  have h18 := zc_nel (1) (7) q16 h_x1 (zr_c (lo := 0) (hi := 0) (by decide)) (by decide)
  refine zok_if (fun q19 => ?_) (fun q19 => ?_)
  · have h20 := zc_ler (4) q19 (zr_c (lo := 4) (hi := 4) (by decide)) h18 (by decide)
    refine zok_if (fun q21 => ?_) (fun q21 => ?_)
    · have h22 := zc_eql (4) (4) q21 h20 (zr_c (lo := 4) (hi := 4) (by decide)) (by decide)
      exact zok_wmu (s_X12_sayThree_254 hσ (zr_w h22 (by decide)) (by decide) (by omega)) (by omega)
    have h23 := zc_nel (5) (7) q21 h20 (zr_c (lo := 4) (hi := 4) (by decide)) (by decide)
    refine zok_if (fun q24 => ?_) (fun q24 => ?_)
    · have h25 := zc_eql (5) (5) q24 h23 (zr_c (lo := 5) (hi := 5) (by decide)) (by decide)
      exact zok_wmu (s_X12_sayThree_254 hσ (zr_w h25 (by decide)) (by decide) (by omega)) (by omega)
    have h26 := zc_nel (6) (7) q24 h23 (zr_c (lo := 5) (hi := 5) (by decide)) (by decide)
    refine zok_if (fun q27 => ?_) (fun q27 => ?_)
    · have h28 := zc_eql (6) (6) q27 h26 (zr_c (lo := 6) (hi := 6) (by decide)) (by decide)
      exact zok_wmu (s_X12_sayThree_254 hσ (zr_w h28 (by decide)) (by decide) (by omega)) (by omega)
    have h29 := zc_nel (7) (7) q27 h26 (zr_c (lo := 6) (hi := 6) (by decide)) (by decide)
    exact zok_wmu (s_X12_sayThree_254 hσ (zr_w h29 (by decide)) (by decide) (by omega)) (by omega)
  have h30 := zc_ltl (3) (z_nle q19) h18 (zr_c (lo := 4) (hi := 4) (by decide)) (by decide)
  refine zok_if (fun q31 => ?_) (fun q31 => ?_)
  · have h32 := zc_eql (2) (2) q31 h30 (zr_c (lo := 2) (hi := 2) (by decide)) (by decide)
    exact zok_wmu (s_X12_sayThree_183 hσ (zr_w h32 (by decide)) (by decide) (by omega)) (by omega)
  exact zok_wmu (s_X12_sayThree_183 hσ h30 (by decide) (by omega)) (by omega)
theorem s_X12_sayThree {G : Nat → Int} {σ : zSt} (hσ : zEM [9] G σ) {x1 : Int32} (h_x1 : zr (0) (7) x1) {x2 : Int32} (h_x2 : zr (0) (3) x2) (hs : (zgi σ 0 39).toInt + 11 ≤ 40) : zok (fX12_sayThree σ x1 x2) (zMtu (zEM [9] G) ((zgi σ 0 39).toInt + 11)) := by
  unfold fX12_sayThree
  refine zok_br (zr_shr (lo := 0) (hi := 3) 1 (by decide) h_x1 (by decide)) (fun v17 e2 h1 => ?_)
  refine zok_if (fun q3 => ?_) (fun q3 => ?_)
  · have h4 := zc_eql (0) (0) q3 h_x2 (zr_c (lo := 0) (hi := 0) (by decide)) (by decide)
    refine zok_mu (s_X12_say hσ (by decide) (d := 4) (by decide +kernel) (by omega)) (fun σ20 i5 m6 => ?_)
    refine zok_mu (s_X12_sayCc i5 h_x1 (by omega)) (fun σ21 i8 m9 => ?_)
    exact zok_pmu i8 (by omega) (s_X12_sayThree_266 i8.P)
  have h11 := zc_nel (1) (3) q3 h_x2 (zr_c (lo := 0) (hi := 0) (by decide)) (by decide)
  refine zok_if (fun q12 => ?_) (fun q12 => ?_)
  · have h13 := zc_eql (1) (1) q12 h11 (zr_c (lo := 1) (hi := 1) (by decide)) (by decide)
    refine zok_ck (by decide) ?_
    refine zok_if (fun q14 => ?_) (fun q14 => ?_)
    · have h15 := zc_eql (0) (0) q14 (zr_rem (lo := 0) (hi := 1) 2 (by decide) h_x1 (by decide)) (zr_c (lo := 0) (hi := 0) (by decide)) (by decide)
      refine zok_mu (s_X12_say hσ (by decide) (d := 4) (by decide +kernel) (by omega)) (fun σ18 i16 m17 => ?_)
      refine zok_mu (s_X12_sayRp i16 h1 (zr_w (zr_c (lo := 1) (hi := 1) (by decide)) (by decide)) (by omega)) (fun σ19 i19 m20 => ?_)
      exact zok_pmu i19 (by omega) (s_X12_sayThree_266 i19.P)
    have h22 := zc_nel (1) (1) q14 (zr_rem (lo := 0) (hi := 1) 2 (by decide) h_x1 (by decide)) (zr_c (lo := 0) (hi := 0) (by decide)) (by decide)
    have h23 := z_odd64 h_x1 h22 (by decide)
    exact zok_wmu (s_X12_sayThree_50 hσ h_x1 (zr_w h13 (by decide)) h1 (by omega)) (by omega)
  have h24 := zc_nel (2) (3) q12 h11 (zr_c (lo := 1) (hi := 1) (by decide)) (by decide)
  exact zok_wmu (s_X12_sayThree_50 hσ h_x1 (zr_w h24 (by decide)) h1 (by omega)) (by omega)
theorem s_X12_sayLast_115 {σ : zSt} (hσ : zPM σ) : zok (fX12_sayLast_115 σ ) (zPu σ) := by
  unfold fX12_sayLast_115
  exact zok_spu
theorem s_X12_sayLast_43 {G : Nat → Int} {σ : zSt} (hσ : zEM [9] G σ) (hs : (zgi σ 0 39).toInt + 4 ≤ 40) : zok (fX12_sayLast_43 σ ) (zMtu (zEM [9] G) ((zgi σ 0 39).toInt + 4)) := by
  unfold fX12_sayLast_43
  refine zok_mi (s_X12_takenWord hσ (by omega)) (fun σ1 v2 i1 m2 h3 => ?_)
  refine zok_mu (s_X12_hex i1 (zr_w (zr_c (lo := 4) (hi := 4) (by decide)) (by decide)) (d := 4) (by decide) (by omega)) (fun σ3 i4 m5 => ?_)
  exact zok_pmu i4 (by omega) (s_X12_sayLast_115 i4.P)
theorem s_X12_sayLast_19 {G : Nat → Int} {σ : zSt} (hσ : zEM [9] G σ) {x1 : Int32} (h_x1 : zr (0) (7) x1) {x2 : Int32} (h_x2 : zr (4) (5) x2) (hs : (zgi σ 0 39).toInt + 12 ≤ 40) : zok (fX12_sayLast_19 σ x1 x2) (zMtu (zEM [9] G) ((zgi σ 0 39).toInt + 12)) := by
  unfold fX12_sayLast_19
  refine zok_mu (s_X12_say hσ (by decide) (d := 5) (by decide +kernel) (by omega)) (fun σ4 i1 m2 => ?_)
  refine zok_if (fun q4 => ?_) (fun q4 => ?_)
  · have h5 := zc_eql (4) (4) q4 h_x2 (zr_c (lo := 4) (hi := 4) (by decide)) (by decide)
    refine zok_mu (s_X12_sayCc i1 h_x1 (by omega)) (fun σ5 i6 m7 => ?_)
    refine zok_mu (s_X12_say i6 (by decide) (d := 1) (by decide +kernel) (by omega)) (fun σ6 i9 m10 => ?_)
    exact zok_wmu (s_X12_sayLast_43 i9 (by omega)) (by omega)
  have h12 := zc_nel (5) (5) q4 h_x2 (zr_c (lo := 4) (hi := 4) (by decide)) (by decide)
  exact zok_wmu (s_X12_sayLast_43 i1 (by omega)) (by omega)
theorem s_X12_sayLast_55 {G : Nat → Int} {σ : zSt} (hσ : zEM [9] G σ) {x1 : Int32} (h_x1 : zr (0) (7) x1) {x2 : Int32} (h_x2 : zr (5) (7) x2) {x3 : Int32} (h_x3 : zr (0) (3) x3) (hs : (zgi σ 0 39).toInt + 7 ≤ 40) : zok (fX12_sayLast_55 σ x1 x2 x3) (zMtu (zEM [9] G) ((zgi σ 0 39).toInt + 7)) := by
  unfold fX12_sayLast_55
  refine zok_if (fun q1 => ?_) (fun q1 => ?_)
  · have h2 := zc_eql (5) (5) q1 h_x2 (zr_c (lo := 5) (hi := 5) (by decide)) (by decide)
    refine zok_mu (s_X12_say hσ (by decide) (d := 5) (by decide +kernel) (by omega)) (fun σ13 i3 m4 => ?_)
    refine zok_mu (s_X12_sayRp i3 h_x3 (zr_w (zr_c (lo := 1) (hi := 1) (by decide)) (by decide)) (by omega)) (fun σ14 i6 m7 => ?_)
    exact zok_pmu i6 (by omega) (s_X12_sayLast_115 i6.P)
  have h9 := zc_nel (6) (7) q1 h_x2 (zr_c (lo := 5) (hi := 5) (by decide)) (by decide)
  refine zok_if (fun q10 => ?_) (fun q10 => ?_)
  · have h11 := zc_eql (6) (6) q10 h9 (zr_c (lo := 6) (hi := 6) (by decide)) (by decide)
    refine zok_mu (s_X12_sayDo hσ h_x1 (by omega)) (fun σ9 i12 m13 => ?_)
    refine zok_mi (s_X12_taken i12 (by omega)) (fun σ10 v11 i15 m16 h17 => ?_)
    refine zok_mu (s_X12_hex i15 (zr_w (zr_c (lo := 2) (hi := 2) (by decide)) (by decide)) (d := 2) (by decide) (by omega)) (fun σ12 i18 m19 => ?_)
    exact zok_pmu i18 (by omega) (s_X12_sayLast_115 i18.P)
  have h21 := zc_nel (7) (7) q10 h9 (zr_c (lo := 6) (hi := 6) (by decide)) (by decide)
  refine zok_mu (s_X12_say hσ (by decide) (d := 4) (by decide +kernel) (by omega)) (fun σ7 i22 m23 => ?_)
  refine zok_mu (s_X12_hex i22 (zr_w (zr_c (lo := 2) (hi := 2) (by decide)) (by decide)) (d := 2) (by decide) (by omega)) (fun σ8 i25 m26 => ?_)
  exact zok_pmu i25 (by omega) (s_X12_sayLast_115 i25.P)
theorem s_X12_sayLast {G : Nat → Int} {σ : zSt} (hσ : zEM [9] G σ) {x1 : Int32} (h_x1 : zr (0) (7) x1) {x2 : Int32} (h_x2 : zr (4) (7) x2) (hs : (zgi σ 0 39).toInt + 12 ≤ 40) : zok (fX12_sayLast σ x1 x2) (zMtu (zEM [9] G) ((zgi σ 0 39).toInt + 12)) := by
  unfold fX12_sayLast
  refine zok_br (zr_shr (lo := 0) (hi := 3) 1 (by decide) h_x1 (by decide)) (fun v15 e2 h1 => ?_)
  refine zok_if (fun q3 => ?_) (fun q3 => ?_)
  · have h4 := zc_eql (4) (4) q3 h_x2 (zr_c (lo := 4) (hi := 4) (by decide)) (by decide)
    exact zok_wmu (s_X12_sayLast_19 hσ h_x1 (zr_w h4 (by decide)) (by omega)) (by omega)
  have h5 := zc_nel (5) (7) q3 h_x2 (zr_c (lo := 4) (hi := 4) (by decide)) (by decide)
  refine zok_if (fun q6 => ?_) (fun q6 => ?_)
  · have h7 := zc_eql (5) (5) q6 h5 (zr_c (lo := 5) (hi := 5) (by decide)) (by decide)
    refine zok_if (fun q8 => ?_) (fun q8 => ?_)
    · have h9 := zc_eql (1) (1) q8 h_x1 (zr_c (lo := 1) (hi := 1) (by decide)) (by decide)
      exact zok_wmu (s_X12_sayLast_19 hσ (zr_w h9 (by decide)) (zr_w h7 (by decide)) (by omega)) (by omega)
    exact zok_wmu (s_X12_sayLast_55 hσ h_x1 (zr_w h7 (by decide)) h1 (by omega)) (by omega)
  have h10 := zc_nel (6) (7) q6 h5 (zr_c (lo := 5) (hi := 5) (by decide)) (by decide)
  exact zok_wmu (s_X12_sayLast_55 hσ h_x1 (zr_w h10 (by decide)) h1 (by omega)) (by omega)
theorem s_X12_sayPlain_137 {σ : zSt} (hσ : zPM σ) : zok (fX12_sayPlain_137 σ ) (zPu σ) := by
  unfold fX12_sayPlain_137
  exact zok_spu
theorem s_X12_sayPlain_32 {G : Nat → Int} {σ : zSt} (hσ : zEM [9] G σ) {x1 : Int32} (h_x1 : zr (0) (255) x1) {x2 : Int32} (h_x2 : zr (0) (7) x2) {x3 : Int32} (h_x3 : zr (0) (7) x3) (hs : (zgi σ 0 39).toInt + 18 ≤ 40) : zok (fX12_sayPlain_32 σ x1 x2 x3) (zMtu (zEM [9] G) ((zgi σ 0 39).toInt + 18)) := by
  unfold fX12_sayPlain_32
  refine zok_if (fun q1 => ?_) (fun q1 => ?_)
  · have h2 := zc_ler (64) q1 (zr_c (lo := 64) (hi := 64) (by decide)) h_x1 (by decide)
    refine zok_if (fun q3 => ?_) (fun q3 => ?_)
    · have h4 := zc_eql (118) (118) q3 h2 (zr_c (lo := 118) (hi := 118) (by decide)) (by decide)
      refine zok_mu (s_X12_say hσ (by decide) (d := 4) (by decide +kernel) (by omega)) (fun σ9 i5 m6 => ?_)
      exact zok_pmu i5 (by omega) (s_X12_sayPlain_137 i5.P)
    refine zok_if (fun q8 => ?_) (fun q8 => ?_)
    · have h9 := zc_ler (128) q8 (zr_c (lo := 128) (hi := 128) (by decide)) h2 (by decide)
      refine zok_if (fun q10 => ?_) (fun q10 => ?_)
      · have h11 := zc_ler (192) q10 (zr_c (lo := 192) (hi := 192) (by decide)) h9 (by decide)
        refine zok_if (fun q12 => ?_) (fun q12 => ?_)
        · have h13 := zc_ler (4) q12 (zr_c (lo := 4) (hi := 4) (by decide)) h_x3 (by decide)
          refine zok_mu (s_X12_sayLast hσ h_x2 h13 (by omega)) (fun σ1 i14 m15 => ?_)
          exact zok_pmu i14 (by omega) (s_X12_sayPlain_137 i14.P)
        have h17 := zc_ltl (3) (z_nle q12) h_x3 (zr_c (lo := 4) (hi := 4) (by decide)) (by decide)
        refine zok_mu (s_X12_sayThree hσ h_x2 h17 (by omega)) (fun σ2 i18 m19 => ?_)
        exact zok_pmu i18 (by omega) (s_X12_sayPlain_137 i18.P)
      have h21 := zc_ltl (191) (z_nle q10) h9 (zr_c (lo := 192) (hi := 192) (by decide)) (by decide)
      refine zok_mu (s_X12_sayDo hσ h_x2 (by omega)) (fun σ3 i22 m23 => ?_)
      refine zok_mu (s_X12_sayR i22 h_x3 (by omega)) (fun σ4 i25 m26 => ?_)
      exact zok_pmu i25 (by omega) (s_X12_sayPlain_137 i25.P)
    have h28 := zc_ltl (127) (z_nle q8) h2 (zr_c (lo := 128) (hi := 128) (by decide)) (by decide)
    refine zok_mu (s_X12_say hσ (by decide) (d := 3) (by decide +kernel) (by omega)) (fun σ5 i29 m30 => ?_)
    refine zok_mu (s_X12_sayR i29 h_x2 (by omega)) (fun σ6 i32 m33 => ?_)
    refine zok_mu (s_X12_say i32 (by decide) (d := 1) (by decide +kernel) (by omega)) (fun σ7 i35 m36 => ?_)
    refine zok_mu (s_X12_sayR i35 h_x3 (by omega)) (fun σ8 i38 m39 => ?_)
    exact zok_pmu i38 (by omega) (s_X12_sayPlain_137 i38.P)
  have h41 := zc_ltl (63) (z_nle q1) h_x1 (zr_c (lo := 64) (hi := 64) (by decide)) (by decide)
  refine zok_mu (s_X12_saySingle hσ h_x2 h_x3 (by omega)) (fun σ10 i42 m43 => ?_)
  exact zok_pmu i42 (by omega) (s_X12_sayPlain_137 i42.P)
theorem s_X12_sayPlain {G : Nat → Int} {σ : zSt} (hσ : zEM [9] G σ) {x1 : Int32} (h_x1 : zr (0) (255) x1) (hs : (zgi σ 0 39).toInt + 18 ≤ 40) : zok (fX12_sayPlain σ x1) (zMtu (zEM [9] G) ((zgi σ 0 39).toInt + 18)) := by
  unfold fX12_sayPlain
  refine zok_br (zr_andr (lo := 0) (hi := 7) (zr_c (lo := 7) (hi := 7) (by decide)) (by decide)) (fun v11 e2 h1 => ?_)
  refine zok_br (zr_andr (lo := 0) (hi := 7) (zr_c (lo := 7) (hi := 7) (by decide)) (by decide)) (fun v12 e4 h3 => ?_)
  refine zok_if (fun q5 => ?_) (fun q5 => ?_)
  · have h6 := zc_ler (64) q5 (zr_c (lo := 64) (hi := 64) (by decide)) h_x1 (by decide)
    exact zok_wmu (s_X12_sayPlain_32 hσ (zr_w h6 (by decide)) h1 h3 (by omega)) (by omega)
  have h7 := zc_ltl (63) (z_nle q5) h_x1 (zr_c (lo := 64) (hi := 64) (by decide)) (by decide)
  refine zok_if (fun q8 => ?_) (fun q8 => ?_)
  · have h9 := zc_ler (4) q8 (zr_c (lo := 4) (hi := 4) (by decide)) h3 (by decide)
    exact zok_wmu (s_X12_sayPlain_32 hσ (zr_w h7 (by decide)) h1 (zr_w h9 (by decide)) (by omega)) (by omega)
  have h10 := zc_ltl (3) (z_nle q8) h3 (zr_c (lo := 4) (hi := 4) (by decide)) (by decide)
  refine zok_mu (s_X12_sayZero hσ h1 h10 (by omega)) (fun σ13 i11 m12 => ?_)
  exact zok_pmu i11 (by omega) (s_X12_sayPlain_137 i11.P)
theorem s_X12_sayPrefixed_30 {G : Nat → Int} {σ : zSt} (hσ : zEM [9] G σ) (hs : (zgi σ 0 39).toInt + 3 ≤ 40) : zok (fX12_sayPrefixed_30 σ ) (zMtu (zEM [9] G) ((zgi σ 0 39).toInt + 3)) := by
  unfold fX12_sayPrefixed_30
  refine zok_mu (s_X12_say hσ (by decide) (d := 3) (by decide +kernel) (by omega)) (fun σ1 i1 m2 => ?_)
  exact zok_smu i1 (by omega)
theorem s_X12_sayPrefixed_133 {σ : zSt} (hσ : zPM σ) : zok (fX12_sayPrefixed_133 σ ) (zPu σ) := by
  unfold fX12_sayPrefixed_133
  exact zok_spu
theorem s_X12_sayPrefixed_240 {G : Nat → Int} {σ : zSt} (hσ : zEM [9] G σ) {x2 : Int32} (h_x2 : zr (0) (255) x2) (hs : (zgi σ 0 39).toInt + 18 ≤ 40) : zok (fX12_sayPrefixed_240 σ x2) (zMtu (zEM [9] G) ((zgi σ 0 39).toInt + 18)) := by
  unfold fX12_sayPrefixed_240
  refine zok_mu (s_X12_sayPlain hσ h_x2 (by omega)) (fun σ2 i1 m2 => ?_)
  exact zok_smu i1 (by omega)
theorem s_X12_sayPrefixed_219 {G : Nat → Int} {σ : zSt} (hσ : zEM [9] G σ) {x2 : Int32} (h_x2 : zr (0) (255) x2) {s0 : Int32} (h_s0 : zr (0) (1) s0) (hs : (zgi σ 0 39).toInt + 18 ≤ 40) : zok (fX12_sayPrefixed_219 σ x2 s0) (zMtu (zEM [9] G) ((zgi σ 0 39).toInt + 18)) := by
  unfold fX12_sayPrefixed_219
  refine zok_ck (zbo_ok h_s0 (by decide)) ?_
  refine zok_bs (hσ.wi 42 42 (by decide) h_s0 (by decide +kernel)) (fun σ3 e2 i1 => ?_)
  have m3 := z_k39 e2 (by decide)
  refine zok_if (fun q4 => ?_) (fun q4 => ?_)
  · have h5 := zc_eql (0) (0) q4 (z_own e2 h_s0) (zr_c (lo := 0) (hi := 0) (by decide)) (by decide)
    exact zok_wmu (s_X12_sayPrefixed_240 i1 h_x2 (by omega)) (by omega)
  have h6 := zc_nel (1) (1) q4 (z_own e2 h_s0) (zr_c (lo := 0) (hi := 0) (by decide)) (by decide)
  refine zok_mi (s_X12_taken i1 (by omega)) (fun σ4 v5 i7 m8 h9 => ?_)
  refine zok_pi (s_X12_signed i7.P h9) (fun v7 h10 => ?_)
  refine zok_bs (i7.wi 43 43 (by decide) h10 (by decide +kernel)) (fun σ8 e12 i11 => ?_)
  have m13 := z_k39 e12 (by decide)
  exact zok_wmu (s_X12_sayPrefixed_240 i11 h_x2 (by omega)) (by omega)
theorem s_X12_sayPrefixed_218 {G : Nat → Int} {σ : zSt} (hσ : zEM [9] G σ) {x2 : Int32} (h_x2 : zr (0) (255) x2) (hs : (zgi σ 0 39).toInt + 18 ≤ 40) : zok (fX12_sayPrefixed_218 σ x2) (zMtu (zEM [9] G) ((zgi σ 0 39).toInt + 18)) := by
  unfold fX12_sayPrefixed_218
  exact zok_wmu (s_X12_sayPrefixed_219 hσ h_x2 (zr_w (zr_c (lo := 0) (hi := 0) (by decide)) (by decide)) (by omega)) (by omega)
theorem s_X12_sayPrefixed_214 {G : Nat → Int} {σ : zSt} (hσ : zEM [9] G σ) {x2 : Int32} (h_x2 : zr (0) (255) x2) (hs : (zgi σ 0 39).toInt + 18 ≤ 40) : zok (fX12_sayPrefixed_214 σ x2) (zMtu (zEM [9] G) ((zgi σ 0 39).toInt + 18)) := by
  unfold fX12_sayPrefixed_214
  exact zok_wmu (s_X12_sayPrefixed_219 hσ h_x2 (zr_w (zr_c (lo := 1) (hi := 1) (by decide)) (by decide)) (by omega)) (by omega)
theorem s_X12_sayPrefixed_201 {G : Nat → Int} {σ : zSt} (hσ : zEM [9] G σ) {x2 : Int32} (h_x2 : zr (0) (255) x2) {x4 : Int32} (h_x4 : zr (0) (7) x4) {x5 : Int32} (h_x5 : zr (0) (3) x5) (hs : (zgi σ 0 39).toInt + 18 ≤ 40) : zok (fX12_sayPrefixed_201 σ x2 x4 x5) (zMtu (zEM [9] G) ((zgi σ 0 39).toInt + 18)) := by
  unfold fX12_sayPrefixed_201
  refine zok_if (fun q1 => ?_) (fun q1 => ?_)
  · have h2 := zc_eql (2) (2) q1 h_x5 (zr_c (lo := 2) (hi := 2) (by decide)) (by decide)
    refine zok_if (fun q3 => ?_) (fun q3 => ?_)
    · have h4 := zc_eql (6) (6) q3 h_x4 (zr_c (lo := 6) (hi := 6) (by decide)) (by decide)
      exact zok_wmu (s_X12_sayPrefixed_214 hσ h_x2 (by omega)) (by omega)
    exact zok_wmu (s_X12_sayPrefixed_218 hσ h_x2 (by omega)) (by omega)
  exact zok_wmu (s_X12_sayPrefixed_218 hσ h_x2 (by omega)) (by omega)
theorem s_X12_sayPrefixed_195 {G : Nat → Int} {σ : zSt} (hσ : zEM [9] G σ) {x2 : Int32} (h_x2 : zr (0) (255) x2) {x4 : Int32} (h_x4 : zr (0) (7) x4) {x5 : Int32} (h_x5 : zr (1) (1) x5) (hs : (zgi σ 0 39).toInt + 18 ≤ 40) : zok (fX12_sayPrefixed_195 σ x2 x4 x5) (zMtu (zEM [9] G) ((zgi σ 0 39).toInt + 18)) := by
  unfold fX12_sayPrefixed_195
  refine zok_if (fun q1 => ?_) (fun q1 => ?_)
  · have h2 := zc_eql (118) (118) q1 h_x2 (zr_c (lo := 118) (hi := 118) (by decide)) (by decide)
    exact zok_wmu (s_X12_sayPrefixed_201 hσ (zr_w h2 (by decide)) h_x4 (zr_w h_x5 (by decide)) (by omega)) (by omega)
  exact zok_wmu (s_X12_sayPrefixed_214 hσ h_x2 (by omega)) (by omega)
theorem s_X12_sayPrefixed_176 {G : Nat → Int} {σ : zSt} (hσ : zEM [9] G σ) {x2 : Int32} (h_x2 : zr (0) (255) x2) {x3 : Int32} (h_x3 : zr (0) (7) x3) {x4 : Int32} (h_x4 : zr (0) (7) x4) {x5 : Int32} (h_x5 : zr (0) (3) x5) (hs : (zgi σ 0 39).toInt + 18 ≤ 40) : zok (fX12_sayPrefixed_176 σ x2 x3 x4 x5) (zMtu (zEM [9] G) ((zgi σ 0 39).toInt + 18)) := by
  unfold fX12_sayPrefixed_176
  refine zok_if (fun q1 => ?_) (fun q1 => ?_)
  · have h2 := zc_eql (1) (1) q1 h_x5 (zr_c (lo := 1) (hi := 1) (by decide)) (by decide)
    refine zok_if (fun q3 => ?_) (fun q3 => ?_)
    · have h4 := zc_eql (6) (6) q3 h_x3 (zr_c (lo := 6) (hi := 6) (by decide)) (by decide)
      exact zok_wmu (s_X12_sayPrefixed_195 hσ h_x2 h_x4 h2 (by omega)) (by omega)
    refine zok_if (fun q5 => ?_) (fun q5 => ?_)
    · have h6 := zc_eql (6) (6) q5 h_x4 (zr_c (lo := 6) (hi := 6) (by decide)) (by decide)
      exact zok_wmu (s_X12_sayPrefixed_195 hσ h_x2 (zr_w h6 (by decide)) h2 (by omega)) (by omega)
    exact zok_wmu (s_X12_sayPrefixed_201 hσ h_x2 h_x4 (zr_w h2 (by decide)) (by omega)) (by omega)
  exact zok_wmu (s_X12_sayPrefixed_201 hσ h_x2 h_x4 h_x5 (by omega)) (by omega)
theorem s_X12_sayPrefixed {G : Nat → Int} {σ : zSt} (hσ : zEM [9] G σ) {x1 : Int32} (h_x1 : zr (1) (2) x1) (hs : (zgi σ 0 39).toInt + 21 ≤ 40) : zok (fX12_sayPrefixed σ x1) (zMtu (zEM [9] G) ((zgi σ 0 39).toInt + 21)) := by
  unfold fX12_sayPrefixed
  refine zok_pi (s_X12_read hσ.P) (fun v10 h1 => ?_)
  refine zok_if (fun q2 => ?_) (fun q2 => ?_)
  · have h3 := zc_eql (221) (221) q2 h1 (zr_c (lo := 221) (hi := 221) (by decide)) (by decide)
    exact zok_wmu (s_X12_sayPrefixed_30 hσ (by omega)) (by omega)
  refine zok_if (fun q4 => ?_) (fun q4 => ?_)
  · have h5 := zc_eql (237) (237) q4 h1 (zr_c (lo := 237) (hi := 237) (by decide)) (by decide)
    exact zok_wmu (s_X12_sayPrefixed_30 hσ (by omega)) (by omega)
  refine zok_if (fun q6 => ?_) (fun q6 => ?_)
  · have h7 := zc_eql (253) (253) q6 h1 (zr_c (lo := 253) (hi := 253) (by decide)) (by decide)
    exact zok_wmu (s_X12_sayPrefixed_30 hσ (by omega)) (by omega)
  refine zok_bs (hσ.wi 40 40 (by decide) zr_any (by decide +kernel)) (fun σ11 e9 i8 => ?_)
  have m10 := z_k39 e9 (by decide)
  refine zok_bs (i8.wi 41 41 (by decide) h_x1 (by decide +kernel)) (fun σ12 e12 i11 => ?_)
  have m13 := z_k39 e12 (by decide)
  refine zok_br (zr_andr (lo := 0) (hi := 7) (zr_c (lo := 7) (hi := 7) (by decide)) (by decide)) (fun v13 e15 h14 => ?_)
  refine zok_br (zr_andr (lo := 0) (hi := 7) (zr_c (lo := 7) (hi := 7) (by decide)) (by decide)) (fun v14 e17 h16 => ?_)
  refine zok_br (zr_shr (lo := 0) (hi := 3) 6 (by decide) h1 (by decide)) (fun v15 e19 h18 => ?_)
  refine zok_if (fun q20 => ?_) (fun q20 => ?_)
  · have h21 := zc_eql (203) (203) q20 h1 (zr_c (lo := 203) (hi := 203) (by decide)) (by decide)
    refine zok_mi (s_X12_taken i11 (by omega)) (fun σ16 v17 i22 m23 h24 => ?_)
    refine zok_pi (s_X12_signed i22.P h24) (fun v19 h25 => ?_)
    refine zok_bs (i22.wi 43 43 (by decide) h25 (by decide +kernel)) (fun σ20 e27 i26 => ?_)
    have m28 := z_k39 e27 (by decide)
    refine zok_ck rfl ?_
    refine zok_bs (i26.wi 42 42 (by decide) (zr_c (lo := 1) (hi := 1) (by decide)) (by decide +kernel)) (fun σ21 e30 i29 => ?_)
    have m31 := z_k39 e30 (by decide)
    refine zok_mi (s_X12_taken i29 (by omega)) (fun σ22 v23 i32 m33 h34 => ?_)
    refine zok_mu (s_X12_sayTurn i32 (zr_or (lo := 0) (hi := 255) 8 (zr_andr (lo := 0) (hi := 248) (zr_c (lo := 248) (hi := 248) (by decide)) (by decide)) (zr_c (lo := 6) (hi := 6) (by decide)) (by decide)) (by omega)) (fun σ24 i35 m36 => ?_)
    refine zok_if (fun q38 => ?_) (fun q38 => ?_)
    · have h39 := zc_eql (1) (1) q38 (zr_shr (lo := 0) (hi := 3) 6 (by decide) h34 (by decide)) (zr_c (lo := 1) (hi := 1) (by decide)) (by decide)
      exact zok_pmu i35 (by omega) (s_X12_sayPrefixed_133 i35.P)
    refine zok_ck (by decide) ?_
    refine zok_if (fun q40 => ?_) (fun q40 => ?_)
    · have h41 := zc_eql (6) (6) q40 (zr_rem (lo := 0) (hi := 7) 8 (by decide) h34 (by decide)) (zr_c (lo := 6) (hi := 6) (by decide)) (by decide)
      exact zok_pmu i35 (by omega) (s_X12_sayPrefixed_133 i35.P)
    refine zok_mu (s_X12_say i35 (by decide) (d := 1) (by decide +kernel) (by omega)) (fun σ25 i42 m43 => ?_)
    refine zok_ck (by decide) ?_
    refine zok_mu (s_X12_sayR i42 (zr_rem (lo := 0) (hi := 7) 8 (by decide) h34 (by decide)) (by omega)) (fun σ26 i45 m46 => ?_)
    exact zok_smu i45 (by omega)
  refine zok_if (fun q48 => ?_) (fun q48 => ?_)
  · have h49 := zc_eql (0) (0) q48 h18 (zr_c (lo := 0) (hi := 0) (by decide)) (by decide)
    refine zok_if (fun q50 => ?_) (fun q50 => ?_)
    · have h51 := zc_lel (3) q50 h16 (zr_c (lo := 3) (hi := 3) (by decide)) (by decide)
      exact zok_wmu (s_X12_sayPrefixed_176 i11 h1 h14 (zr_w h51 (by decide)) (zr_w h49 (by decide)) (by omega)) (by omega)
    have h52 := zc_ltr (4) (z_nle q50) (zr_c (lo := 3) (hi := 3) (by decide)) h16 (by decide)
    refine zok_if (fun q53 => ?_) (fun q53 => ?_)
    · have h54 := zc_ler (7) q53 (zr_c (lo := 7) (hi := 7) (by decide)) h52 (by decide)
      exact zok_wmu (s_X12_sayPrefixed_176 i11 h1 h14 (zr_w h54 (by decide)) (zr_w h49 (by decide)) (by omega)) (by omega)
    have h55 := zc_ltl (6) (z_nle q53) h52 (zr_c (lo := 7) (hi := 7) (by decide)) (by decide)
    refine zok_if (fun q56 => ?_) (fun q56 => ?_)
    · have h57 := zc_eql (6) (6) q56 h14 (zr_c (lo := 6) (hi := 6) (by decide)) (by decide)
      exact zok_wmu (s_X12_sayPrefixed_214 i11 h1 (by omega)) (by omega)
    exact zok_wmu (s_X12_sayPrefixed_176 i11 h1 h14 (zr_w h55 (by decide)) (zr_w h49 (by decide)) (by omega)) (by omega)
  have h58 := zc_nel (1) (3) q48 h18 (zr_c (lo := 0) (hi := 0) (by decide)) (by decide)
  exact zok_wmu (s_X12_sayPrefixed_176 i11 h1 h14 h16 (zr_w h58 (by decide)) (by omega)) (by omega)
theorem s_X12_sayOdd_155 {σ : zSt} (hσ : zPM σ) : zok (fX12_sayOdd_155 σ ) (zPu σ) := by
  unfold fX12_sayOdd_155
  exact zok_spu
theorem s_X12_sayOdd_35 {G : Nat → Int} {σ : zSt} (hσ : zEM [9] G σ) {s0 : Nat} (h_s0 : s0 ∈ ([168, 169] : List Nat)) (hs : (zgi σ 0 39).toInt + 4 ≤ 40) : zok (fX12_sayOdd_35 σ s0) (zMtu (zEM [9] G) ((zgi σ 0 39).toInt + 4)) := by
  unfold fX12_sayOdd_35
  refine zok_mu (s_X12_say hσ (z_memsub h_s0 (by decide)) (d := 4) (z_kd h_s0 (by decide +kernel)) (by omega)) (fun σ1 i1 m2 => ?_)
  exact zok_pmu i1 (by omega) (s_X12_sayOdd_155 i1.P)
theorem s_X12_sayOdd_77 {G : Nat → Int} {σ : zSt} (hσ : zEM [9] G σ) {s0 : Nat} (h_s0 : s0 ∈ ([170, 171, 172] : List Nat)) (hs : (zgi σ 0 39).toInt + 4 ≤ 40) : zok (fX12_sayOdd_77 σ s0) (zMtu (zEM [9] G) ((zgi σ 0 39).toInt + 4)) := by
  unfold fX12_sayOdd_77
  refine zok_mu (s_X12_say hσ (z_memsub h_s0 (by decide)) (d := 4) (z_kd h_s0 (by decide +kernel)) (by omega)) (fun σ2 i1 m2 => ?_)
  exact zok_pmu i1 (by omega) (s_X12_sayOdd_155 i1.P)
theorem s_X12_sayOdd_152 {G : Nat → Int} {σ : zSt} (hσ : zEM [9] G σ) {s0 : Nat} (h_s0 : s0 ∈ ([71, 173, 174, 175, 176, 177, 178] : List Nat)) (hs : (zgi σ 0 39).toInt + 6 ≤ 40) : zok (fX12_sayOdd_152 σ s0) (zMtu (zEM [9] G) ((zgi σ 0 39).toInt + 6)) := by
  unfold fX12_sayOdd_152
  refine zok_mu (s_X12_say hσ (z_memsub h_s0 (by decide)) (d := 6) (z_kd h_s0 (by decide +kernel)) (by omega)) (fun σ3 i1 m2 => ?_)
  exact zok_pmu i1 (by omega) (s_X12_sayOdd_155 i1.P)
theorem s_X12_sayOdd {G : Nat → Int} {σ : zSt} (hσ : zEM [9] G σ) {x1 : Int32} (h_x1 : zr (0) (7) x1) {x2 : Int32} (h_x2 : zr (4) (7) x2) (hs : (zgi σ 0 39).toInt + 6 ≤ 40) : zok (fX12_sayOdd σ x1 x2) (zMtu (zEM [9] G) ((zgi σ 0 39).toInt + 6)) := by
  unfold fX12_sayOdd
  refine zok_if (fun q1 => ?_) (fun q1 => ?_)
  · have h2 := zc_eql (4) (4) q1 h_x2 (zr_c (lo := 4) (hi := 4) (by decide)) (by decide)
    refine zok_mu (s_X12_say hσ (by decide) (d := 3) (by decide +kernel) (by omega)) (fun σ4 i3 m4 => ?_)
    exact zok_pmu i3 (by omega) (s_X12_sayOdd_155 i3.P)
  have h6 := zc_nel (5) (7) q1 h_x2 (zr_c (lo := 4) (hi := 4) (by decide)) (by decide)
  refine zok_if (fun q7 => ?_) (fun q7 => ?_)
  · have h8 := zc_eql (5) (5) q7 h6 (zr_c (lo := 5) (hi := 5) (by decide)) (by decide)
    refine zok_if (fun q9 => ?_) (fun q9 => ?_)
    · have h10 := zc_eql (1) (1) q9 h_x1 (zr_c (lo := 1) (hi := 1) (by decide)) (by decide)
      exact zok_wmu (s_X12_sayOdd_35 hσ (by decide) (by omega)) (by omega)
    exact zok_wmu (s_X12_sayOdd_35 hσ (by decide) (by omega)) (by omega)
  have h11 := zc_nel (6) (7) q7 h6 (zr_c (lo := 5) (hi := 5) (by decide)) (by decide)
  refine zok_if (fun q12 => ?_) (fun q12 => ?_)
  · have h13 := zc_eql (6) (6) q12 h11 (zr_c (lo := 6) (hi := 6) (by decide)) (by decide)
    refine zok_ck (by decide) ?_
    refine zok_if (fun q14 => ?_) (fun q14 => ?_)
    · have h15 := zc_ler (2) q14 (zr_c (lo := 2) (hi := 2) (by decide)) (zr_rem (lo := 0) (hi := 3) 4 (by decide) h_x1 (by decide)) (by decide)
      refine zok_ck (by decide) ?_
      refine zok_if (fun q16 => ?_) (fun q16 => ?_)
      · have h17 := zc_eql (2) (2) q16 h15 (zr_c (lo := 2) (hi := 2) (by decide)) (by decide)
        exact zok_wmu (s_X12_sayOdd_77 hσ (by decide) (by omega)) (by omega)
      have h18 := zc_nel (3) (3) q16 h15 (zr_c (lo := 2) (hi := 2) (by decide)) (by decide)
      exact zok_wmu (s_X12_sayOdd_77 hσ (by decide) (by omega)) (by omega)
    have h19 := zc_ltl (1) (z_nle q14) (zr_rem (lo := 0) (hi := 3) 4 (by decide) h_x1 (by decide)) (zr_c (lo := 2) (hi := 2) (by decide)) (by decide)
    exact zok_wmu (s_X12_sayOdd_77 hσ (by decide) (by omega)) (by omega)
  have h20 := zc_nel (7) (7) q12 h11 (zr_c (lo := 6) (hi := 6) (by decide)) (by decide)
  refine zok_if (fun q21 => ?_) (fun q21 => ?_)
  · have h22 := zc_eql (0) (0) q21 h_x1 (zr_c (lo := 0) (hi := 0) (by decide)) (by decide)
    exact zok_wmu (s_X12_sayOdd_152 hσ (by decide) (by omega)) (by omega)
  have h23 := zc_nel (1) (7) q21 h_x1 (zr_c (lo := 0) (hi := 0) (by decide)) (by decide)
  refine zok_if (fun q24 => ?_) (fun q24 => ?_)
  · have h25 := zc_eql (1) (1) q24 h23 (zr_c (lo := 1) (hi := 1) (by decide)) (by decide)
    exact zok_wmu (s_X12_sayOdd_152 hσ (by decide) (by omega)) (by omega)
  have h26 := zc_nel (2) (7) q24 h23 (zr_c (lo := 1) (hi := 1) (by decide)) (by decide)
  refine zok_if (fun q27 => ?_) (fun q27 => ?_)
  · have h28 := zc_eql (2) (2) q27 h26 (zr_c (lo := 2) (hi := 2) (by decide)) (by decide)
    exact zok_wmu (s_X12_sayOdd_152 hσ (by decide) (by omega)) (by omega)
  have h29 := zc_nel (3) (7) q27 h26 (zr_c (lo := 2) (hi := 2) (by decide)) (by decide)
  refine zok_if (fun q30 => ?_) (fun q30 => ?_)
  · have h31 := zc_eql (3) (3) q30 h29 (zr_c (lo := 3) (hi := 3) (by decide)) (by decide)
    exact zok_wmu (s_X12_sayOdd_152 hσ (by decide) (by omega)) (by omega)
  have h32 := zc_nel (4) (7) q30 h29 (zr_c (lo := 3) (hi := 3) (by decide)) (by decide)
  refine zok_if (fun q33 => ?_) (fun q33 => ?_)
  · have h34 := zc_eql (4) (4) q33 h32 (zr_c (lo := 4) (hi := 4) (by decide)) (by decide)
    exact zok_wmu (s_X12_sayOdd_152 hσ (by decide) (by omega)) (by omega)
  have h35 := zc_nel (5) (7) q33 h32 (zr_c (lo := 4) (hi := 4) (by decide)) (by decide)
  refine zok_if (fun q36 => ?_) (fun q36 => ?_)
  · have h37 := zc_eql (5) (5) q36 h35 (zr_c (lo := 5) (hi := 5) (by decide)) (by decide)
    exact zok_wmu (s_X12_sayOdd_152 hσ (by decide) (by omega)) (by omega)
  have h38 := zc_nel (6) (7) q36 h35 (zr_c (lo := 5) (hi := 5) (by decide)) (by decide)
  exact zok_wmu (s_X12_sayOdd_152 hσ (by decide) (by omega)) (by omega)
theorem s_X12_sayMore_325 {σ : zSt} (hσ : zPM σ) : zok (fX12_sayMore_325 σ ) (zPu σ) := by
  unfold fX12_sayMore_325
  exact zok_spu
theorem s_X12_sayMore_164 {G : Nat → Int} {σ : zSt} (hσ : zEM [9] G σ) (hs : (zgi σ 0 39).toInt + 3 ≤ 40) : zok (fX12_sayMore_164 σ ) (zMtu (zEM [9] G) ((zgi σ 0 39).toInt + 3)) := by
  unfold fX12_sayMore_164
  refine zok_mu (s_X12_say hσ (by decide) (d := 3) (by decide +kernel) (by omega)) (fun σ1 i1 m2 => ?_)
  exact zok_pmu i1 (by omega) (s_X12_sayMore_325 i1.P)
theorem s_X12_sayMore_231 {G : Nat → Int} {σ : zSt} (hσ : zEM [9] G σ) {x2 : Int32} (h_x2 : zr (0) (7) x2) {s0 : Nat} (h_s0 : s0 ∈ ([165, 166] : List Nat)) (hs : (zgi σ 0 39).toInt + 9 ≤ 40) : zok (fX12_sayMore_231 σ x2 s0) (zMtu (zEM [9] G) ((zgi σ 0 39).toInt + 9)) := by
  unfold fX12_sayMore_231
  refine zok_mu (s_X12_say hσ (z_memsub h_s0 (by decide)) (d := 7) (z_kd h_s0 (by decide +kernel)) (by omega)) (fun σ2 i1 m2 => ?_)
  refine zok_mu (s_X12_sayRp i1 (zr_shr (lo := 0) (hi := 3) 1 (by decide) h_x2 (by decide)) (zr_w (zr_c (lo := 0) (hi := 0) (by decide)) (by decide)) (by omega)) (fun σ3 i4 m5 => ?_)
  exact zok_pmu i4 (by omega) (s_X12_sayMore_325 i4.P)
theorem s_X12_sayMore_316 {σ : zSt} (hσ : zPM σ) : zok (fX12_sayMore_316 σ ) (zPu σ) := by
  unfold fX12_sayMore_316
  exact (s_X12_sayMore_325 hσ)
theorem s_X12_sayMore_286 {G : Nat → Int} {σ : zSt} (hσ : zEM [9] G σ) {x2 : Int32} (h_x2 : zr (0) (7) x2) {x5 : Int32} (h_x5 : zr (0) (65535) x5) (hs : (zgi σ 0 39).toInt + 7 ≤ 40) : zok (fX12_sayMore_286 σ x2 x5) (zMtu (zEM [9] G) ((zgi σ 0 39).toInt + 7)) := by
  unfold fX12_sayMore_286
  refine zok_mu (s_X12_say hσ (by decide) (d := 1) (by decide +kernel) (by omega)) (fun σ4 i1 m2 => ?_)
  refine zok_ck (by decide) ?_
  refine zok_if (fun q4 => ?_) (fun q4 => ?_)
  · have h5 := zc_eql (0) (0) q4 (zr_rem (lo := 0) (hi := 1) 2 (by decide) h_x2 (by decide)) (zr_c (lo := 0) (hi := 0) (by decide)) (by decide)
    refine zok_mu (s_X12_sayRp i1 (zr_shr (lo := 0) (hi := 3) 1 (by decide) h_x2 (by decide)) (zr_w (zr_c (lo := 0) (hi := 0) (by decide)) (by decide)) (by omega)) (fun σ6 i6 m7 => ?_)
    exact zok_pmu i6 (by omega) (s_X12_sayMore_316 i6.P)
  have h9 := zc_nel (1) (1) q4 (zr_rem (lo := 0) (hi := 1) 2 (by decide) h_x2 (by decide)) (zr_c (lo := 0) (hi := 0) (by decide)) (by decide)
  have h10 := z_odd64 h_x2 h9 (by decide)
  refine zok_mu (s_X12_sayPlaced i1 h_x5 (by omega)) (fun σ5 i11 m12 => ?_)
  exact zok_pmu i11 (by omega) (s_X12_sayMore_316 i11.P)
theorem s_X12_sayMore_119 {G : Nat → Int} {σ : zSt} (hσ : zEM [9] G σ) {x2 : Int32} (h_x2 : zr (0) (7) x2) {x3 : Int32} (h_x3 : zr (0) (7) x3) {x4 : Int32} (h_x4 : zr (0) (3) x4) (hs : (zgi σ 0 39).toInt + 16 ≤ 40) : zok (fX12_sayMore_119 σ x2 x3 x4) (zMtu (zEM [9] G) ((zgi σ 0 39).toInt + 16)) := by
  unfold fX12_sayMore_119
  refine zok_if (fun q1 => ?_) (fun q1 => ?_)
  · have h2 := zc_eql (1) (1) q1 h_x4 (zr_c (lo := 1) (hi := 1) (by decide)) (by decide)
    refine zok_if (fun q3 => ?_) (fun q3 => ?_)
    · have h4 := zc_eql (0) (0) q3 h_x3 (zr_c (lo := 0) (hi := 0) (by decide)) (by decide)
      refine zok_mu (s_X12_say hσ (by decide) (d := 3) (by decide +kernel) (by omega)) (fun σ16 i5 m6 => ?_)
      refine zok_if (fun q8 => ?_) (fun q8 => ?_)
      · have h9 := zc_eql (6) (6) q8 h_x2 (zr_c (lo := 6) (hi := 6) (by decide)) (by decide)
        exact zok_wmu (s_X12_sayMore_164 i5 (by omega)) (by omega)
      refine zok_mu (s_X12_sayR i5 h_x2 (by omega)) (fun σ17 i10 m11 => ?_)
      refine zok_mu (s_X12_say i10 (by decide) (d := 1) (by decide +kernel) (by omega)) (fun σ18 i13 m14 => ?_)
      exact zok_wmu (s_X12_sayMore_164 i13 (by omega)) (by omega)
    have h16 := zc_nel (1) (7) q3 h_x3 (zr_c (lo := 0) (hi := 0) (by decide)) (by decide)
    refine zok_if (fun q17 => ?_) (fun q17 => ?_)
    · have h18 := zc_eql (1) (1) q17 h16 (zr_c (lo := 1) (hi := 1) (by decide)) (by decide)
      refine zok_mu (s_X12_say hσ (by decide) (d := 8) (by decide +kernel) (by omega)) (fun σ13 i19 m20 => ?_)
      refine zok_if (fun q22 => ?_) (fun q22 => ?_)
      · have h23 := zc_eql (6) (6) q22 h_x2 (zr_c (lo := 6) (hi := 6) (by decide)) (by decide)
        refine zok_mu (s_X12_say i19 (by decide) (d := 1) (by decide +kernel) (by omega)) (fun σ15 i24 m25 => ?_)
        exact zok_pmu i24 (by omega) (s_X12_sayMore_325 i24.P)
      refine zok_mu (s_X12_sayR i19 h_x2 (by omega)) (fun σ14 i27 m28 => ?_)
      exact zok_pmu i27 (by omega) (s_X12_sayMore_325 i27.P)
    have h30 := zc_nel (2) (7) q17 h16 (zr_c (lo := 1) (hi := 1) (by decide)) (by decide)
    refine zok_if (fun q31 => ?_) (fun q31 => ?_)
    · have h32 := zc_eql (2) (2) q31 h30 (zr_c (lo := 2) (hi := 2) (by decide)) (by decide)
      refine zok_ck (by decide) ?_
      refine zok_if (fun q33 => ?_) (fun q33 => ?_)
      · have h34 := zc_eql (0) (0) q33 (zr_rem (lo := 0) (hi := 1) 2 (by decide) h_x2 (by decide)) (zr_c (lo := 0) (hi := 0) (by decide)) (by decide)
        exact zok_wmu (s_X12_sayMore_231 hσ h_x2 (by decide) (by omega)) (by omega)
      have h35 := zc_nel (1) (1) q33 (zr_rem (lo := 0) (hi := 1) 2 (by decide) h_x2 (by decide)) (zr_c (lo := 0) (hi := 0) (by decide)) (by decide)
      have h36 := z_odd64 h_x2 h35 (by decide)
      exact zok_wmu (s_X12_sayMore_231 hσ h_x2 (by decide) (by omega)) (by omega)
    have h37 := zc_nel (3) (7) q31 h30 (zr_c (lo := 2) (hi := 2) (by decide)) (by decide)
    refine zok_if (fun q38 => ?_) (fun q38 => ?_)
    · have h39 := zc_eql (3) (3) q38 h37 (zr_c (lo := 3) (hi := 3) (by decide)) (by decide)
      refine zok_mu (s_X12_say hσ (by decide) (d := 3) (by decide +kernel) (by omega)) (fun σ8 i40 m41 => ?_)
      refine zok_mi (s_X12_takenWord i40 (by omega)) (fun σ9 v10 i43 m44 h45 => ?_)
      refine zok_ck (by decide) ?_
      refine zok_if (fun q46 => ?_) (fun q46 => ?_)
      · have h47 := zc_eql (0) (0) q46 (zr_rem (lo := 0) (hi := 1) 2 (by decide) h_x2 (by decide)) (zr_c (lo := 0) (hi := 0) (by decide)) (by decide)
        refine zok_mu (s_X12_sayPlaced i43 h45 (by omega)) (fun σ12 i48 m49 => ?_)
        exact zok_wmu (s_X12_sayMore_286 i48 h_x2 h45 (by omega)) (by omega)
      have h51 := zc_nel (1) (1) q46 (zr_rem (lo := 0) (hi := 1) 2 (by decide) h_x2 (by decide)) (zr_c (lo := 0) (hi := 0) (by decide)) (by decide)
      have h52 := z_odd64 h_x2 h51 (by decide)
      refine zok_mu (s_X12_sayRp i43 (zr_shr (lo := 0) (hi := 3) 1 (by decide) h_x2 (by decide)) (zr_w (zr_c (lo := 0) (hi := 0) (by decide)) (by decide)) (by omega)) (fun σ11 i53 m54 => ?_)
      exact zok_wmu (s_X12_sayMore_286 i53 h_x2 h45 (by omega)) (by omega)
    have h56 := zc_nel (4) (7) q38 h37 (zr_c (lo := 3) (hi := 3) (by decide)) (by decide)
    refine zok_mu (s_X12_sayOdd hσ h_x2 h56 (by omega)) (fun σ7 i57 m58 => ?_)
    exact zok_pmu i57 (by omega) (s_X12_sayMore_325 i57.P)
  refine zok_mu (s_X12_say hσ (by decide) (d := 3) (by decide +kernel) (by omega)) (fun σ19 i60 m61 => ?_)
  exact zok_pmu i60 (by omega) (s_X12_sayMore_325 i60.P)
theorem s_X12_sayMore_101 {G : Nat → Int} {σ : zSt} (hσ : zEM [9] G σ) {x2 : Int32} (h_x2 : zr (4) (7) x2) {s0 : Nat} (h_s0 : s0 ∈ ([95, 159] : List Nat)) (hs : (zgi σ 0 39).toInt + 2 ≤ 40) : zok (fX12_sayMore_101 σ x2 s0) (zMtu (zEM [9] G) ((zgi σ 0 39).toInt + 2)) := by
  unfold fX12_sayMore_101
  refine zok_mu (s_X12_say hσ (z_memsub h_s0 (by decide)) (d := 1) (z_kd h_s0 (by decide +kernel)) (by omega)) (fun σ20 i1 m2 => ?_)
  refine zok_if (fun q4 => ?_) (fun q4 => ?_)
  · have h5 := zc_lel (5) q4 h_x2 (zr_c (lo := 5) (hi := 5) (by decide)) (by decide)
    exact zok_pmu i1 (by omega) (s_X12_sayMore_325 i1.P)
  have h6 := zc_ltr (6) (z_nle q4) (zr_c (lo := 5) (hi := 5) (by decide)) h_x2 (by decide)
  refine zok_mu (s_X12_say i1 (by decide) (d := 1) (by decide +kernel) (by omega)) (fun σ21 i7 m8 => ?_)
  exact zok_pmu i7 (by omega) (s_X12_sayMore_325 i7.P)
theorem s_X12_sayMore_82 {G : Nat → Int} {σ : zSt} (hσ : zEM [9] G σ) {x2 : Int32} (h_x2 : zr (4) (7) x2) {s0 : Nat} (h_s0 : s0 ∈ ([154, 155, 156, 157, 158] : List Nat)) (hs : (zgi σ 0 39).toInt + 5 ≤ 40) : zok (fX12_sayMore_82 σ x2 s0) (zMtu (zEM [9] G) ((zgi σ 0 39).toInt + 5)) := by
  unfold fX12_sayMore_82
  refine zok_mu (s_X12_say hσ (z_memsub h_s0 (by decide)) (d := 3) (z_kd h_s0 (by decide +kernel)) (by omega)) (fun σ22 i1 m2 => ?_)
  refine zok_ck (by decide) ?_
  refine zok_if (fun q4 => ?_) (fun q4 => ?_)
  · have h5 := zc_eql (0) (0) q4 (zr_rem (lo := 0) (hi := 1) 2 (by decide) h_x2 (by decide)) (zr_c (lo := 0) (hi := 0) (by decide)) (by decide)
    exact zok_wmu (s_X12_sayMore_101 i1 h_x2 (by decide) (by omega)) (by omega)
  have h6 := zc_nel (1) (1) q4 (zr_rem (lo := 0) (hi := 1) 2 (by decide) h_x2 (by decide)) (zr_c (lo := 0) (hi := 0) (by decide)) (by decide)
  have h7 := z_odd64 h_x2 h6 (by decide)
  exact zok_wmu (s_X12_sayMore_101 i1 h_x2 (by decide) (by omega)) (by omega)
theorem s_X12_sayMore {G : Nat → Int} {σ : zSt} (hσ : zEM [9] G σ) {x1 : Int32} (h_x1 : zr (0) (255) x1) (hs : (zgi σ 0 39).toInt + 16 ≤ 40) : zok (fX12_sayMore σ x1) (zMtu (zEM [9] G) ((zgi σ 0 39).toInt + 16)) := by
  unfold fX12_sayMore
  refine zok_br (zr_andr (lo := 0) (hi := 7) (zr_c (lo := 7) (hi := 7) (by decide)) (by decide)) (fun v23 e2 h1 => ?_)
  refine zok_br (zr_andr (lo := 0) (hi := 7) (zr_c (lo := 7) (hi := 7) (by decide)) (by decide)) (fun v24 e4 h3 => ?_)
  refine zok_br (zr_shr (lo := 0) (hi := 3) 6 (by decide) h_x1 (by decide)) (fun v25 e6 h5 => ?_)
  refine zok_if (fun q7 => ?_) (fun q7 => ?_)
  · have h8 := zc_eql (2) (2) q7 h5 (zr_c (lo := 2) (hi := 2) (by decide)) (by decide)
    refine zok_if (fun q9 => ?_) (fun q9 => ?_)
    · have h10 := zc_lel (3) q9 h1 (zr_c (lo := 3) (hi := 3) (by decide)) (by decide)
      exact zok_wmu (s_X12_sayMore_119 hσ (zr_w h10 (by decide)) h3 (zr_w h8 (by decide)) (by omega)) (by omega)
    have h11 := zc_ltr (4) (z_nle q9) (zr_c (lo := 3) (hi := 3) (by decide)) h1 (by decide)
    refine zok_if (fun q12 => ?_) (fun q12 => ?_)
    · have h13 := zc_ler (4) q12 (zr_c (lo := 4) (hi := 4) (by decide)) h3 (by decide)
      exact zok_wmu (s_X12_sayMore_119 hσ (zr_w h11 (by decide)) (zr_w h13 (by decide)) (zr_w h8 (by decide)) (by omega)) (by omega)
    have h14 := zc_ltl (3) (z_nle q12) h3 (zr_c (lo := 4) (hi := 4) (by decide)) (by decide)
    refine zok_if (fun q15 => ?_) (fun q15 => ?_)
    · have h16 := zc_eql (0) (0) q15 h14 (zr_c (lo := 0) (hi := 0) (by decide)) (by decide)
      exact zok_wmu (s_X12_sayMore_82 hσ h11 (by decide) (by omega)) (by omega)
    have h17 := zc_nel (1) (3) q15 h14 (zr_c (lo := 0) (hi := 0) (by decide)) (by decide)
    refine zok_if (fun q18 => ?_) (fun q18 => ?_)
    · have h19 := zc_eql (1) (1) q18 h17 (zr_c (lo := 1) (hi := 1) (by decide)) (by decide)
      exact zok_wmu (s_X12_sayMore_82 hσ h11 (by decide) (by omega)) (by omega)
    have h20 := zc_nel (2) (3) q18 h17 (zr_c (lo := 1) (hi := 1) (by decide)) (by decide)
    refine zok_if (fun q21 => ?_) (fun q21 => ?_)
    · have h22 := zc_eql (2) (2) q21 h20 (zr_c (lo := 2) (hi := 2) (by decide)) (by decide)
      exact zok_wmu (s_X12_sayMore_82 hσ h11 (by decide) (by omega)) (by omega)
    have h23 := zc_nel (3) (3) q21 h20 (zr_c (lo := 2) (hi := 2) (by decide)) (by decide)
    refine zok_if (fun q24 => ?_) (fun q24 => ?_)
    · have h25 := zc_ler (6) q24 (zr_c (lo := 6) (hi := 6) (by decide)) h11 (by decide)
      exact zok_wmu (s_X12_sayMore_82 hσ (zr_w h25 (by decide)) (by decide) (by omega)) (by omega)
    have h26 := zc_ltl (5) (z_nle q24) h11 (zr_c (lo := 6) (hi := 6) (by decide)) (by decide)
    exact zok_wmu (s_X12_sayMore_82 hσ (zr_w h26 (by decide)) (by decide) (by omega)) (by omega)
  exact zok_wmu (s_X12_sayMore_119 hσ h1 h3 h5 (by omega)) (by omega)
theorem s_X12_tell_112 {σ : zSt} (hσ : zPM σ) {x2 : Int32} (h_x2 : zr (0) (65535) x2) : zok (fX12_tell_112 σ x2) (zPi σ (fun v : Int32 => True)) := by
  unfold fX12_tell_112
  exact zok_spi trivial
theorem s_X12_tell_65 {G : Nat → Int} {σ : zSt} (hσ : zEM [9] G σ) {x2 : Int32} (h_x2 : zr (0) (65535) x2) {s0 : Int32} (h_s0 : zr (1) (2) s0) (hs : (zgi σ 0 39).toInt ≤ 0) : zok (fX12_tell_65 σ x2 s0) (zAi (zEM [9] G) (fun v : Int32 => True)) := by
  unfold fX12_tell_65
  refine zok_mu (s_X12_sayPrefixed hσ h_s0 (by omega)) (fun σ1 i1 m2 => ?_)
  exact zok_pai i1 (s_X12_tell_112 i1.P h_x2)
theorem s_X12_tell_52 {G : Nat → Int} {σ : zSt} (hσ : zEM [9] G σ) {x2 : Int32} (h_x2 : zr (0) (65535) x2) {x3 : Int32} (h_x3 : zr (221) (253) x3) (hs : (zgi σ 0 39).toInt ≤ 0) : zok (fX12_tell_52 σ x2 x3) (zAi (zEM [9] G) (fun v : Int32 => True)) := by
  unfold fX12_tell_52
  refine zok_if (fun q1 => ?_) (fun q1 => ?_)
  · have h2 := zc_eql (221) (221) q1 h_x3 (zr_c (lo := 221) (hi := 221) (by decide)) (by decide)
    exact (s_X12_tell_65 hσ h_x2 (zr_w (zr_c (lo := 1) (hi := 1) (by decide)) (by decide)) hs)
  have h3 := zc_nel (222) (253) q1 h_x3 (zr_c (lo := 221) (hi := 221) (by decide)) (by decide)
  exact (s_X12_tell_65 hσ h_x2 (zr_w (zr_c (lo := 2) (hi := 2) (by decide)) (by decide)) hs)
theorem s_X12_tell {G : Nat → Int} {σ : zSt} (hσ : zEM [9] G σ) {x1 : Int32} : zok (fX12_tell σ x1) (zAi (zEM [9] G) (fun v : Int32 => True)) := by
  unfold fX12_tell
  refine zok_bs (hσ.wi 0 0 (by decide) (zr_c (lo := 0) (hi := 0) (by decide)) (by decide +kernel)) (fun σ2 e2 i1 => ?_)
  refine zok_bs (i1.wi 39 39 (by decide) (zr_c (lo := 0) (hi := 0) (by decide)) (by decide +kernel)) (fun σ3 e4 i3 => ?_)
  refine zok_bs (i3.wi 40 40 (by decide) (zr_andr (lo := 0) (hi := 65535) (zr_c (lo := 65535) (hi := 65535) (by decide)) (by decide)) (by decide +kernel)) (fun σ4 e6 i5 => ?_)
  refine zok_bs (i5.wi 41 41 (by decide) (zr_c (lo := 0) (hi := 0) (by decide)) (by decide +kernel)) (fun σ5 e8 i7 => ?_)
  refine zok_ck rfl ?_
  refine zok_bs (i7.wi 42 42 (by decide) (zr_c (lo := 0) (hi := 0) (by decide)) (by decide +kernel)) (fun σ6 e10 i9 => ?_)
  refine zok_br (z_trj e10 (by decide) (z_trj e8 (by decide) (z_own e6 (zr_andr (lo := 0) (hi := 65535) (zr_c (lo := 65535) (hi := 65535) (by decide)) (by decide))))) (fun v7 e12 h11 => ?_)
  have s9 := (z_trj (j1 := 39) e10 (by decide) (z_trj (j1 := 39) e8 (by decide) (z_trj (j1 := 39) e6 (by decide) (z_own e4 (zr_c (lo := 0) (hi := 0) (x := 0) (by decide)))))).2
  refine zok_mi (s_X12_taken i9 (by omega)) (fun σ8 v9 i13 m14 h15 => ?_)
  refine zok_if (fun q16 => ?_) (fun q16 => ?_)
  · have h17 := zc_eql (221) (221) q16 h15 (zr_c (lo := 221) (hi := 221) (by decide)) (by decide)
    exact (s_X12_tell_52 i13 h11 (zr_w h17 (by decide)) (by omega))
  refine zok_if (fun q18 => ?_) (fun q18 => ?_)
  · have h19 := zc_eql (253) (253) q18 h15 (zr_c (lo := 253) (hi := 253) (by decide)) (by decide)
    exact (s_X12_tell_52 i13 h11 (zr_w h19 (by decide)) (by omega))
  refine zok_if (fun q20 => ?_) (fun q20 => ?_)
  · have h21 := zc_eql (203) (203) q20 h15 (zr_c (lo := 203) (hi := 203) (by decide)) (by decide)
    refine zok_mi (s_X12_taken i13 (by omega)) (fun σ14 v15 i22 m23 h24 => ?_)
    refine zok_mu (s_X12_sayTurn i22 h24 (by omega)) (fun σ16 i25 m26 => ?_)
    exact zok_pai i25 (s_X12_tell_112 i25.P h11)
  refine zok_if (fun q28 => ?_) (fun q28 => ?_)
  · have h29 := zc_eql (237) (237) q28 h15 (zr_c (lo := 237) (hi := 237) (by decide)) (by decide)
    refine zok_mi (s_X12_taken i13 (by omega)) (fun σ11 v12 i30 m31 h32 => ?_)
    refine zok_mu (s_X12_sayMore i30 h32 (by omega)) (fun σ13 i33 m34 => ?_)
    exact zok_pai i33 (s_X12_tell_112 i33.P h11)
  refine zok_mu (s_X12_sayPlain i13 h15 (by omega)) (fun σ10 i36 m37 => ?_)
  exact zok_pai i36 (s_X12_tell_112 i36.P h11)
theorem s_X12_text_70 {σ : zSt} {k37 : zSt → Int32 → Int64 → Int32 → Option (zSt × Int64)} {Mk37 : Int} (hk37 : ∀ (x1 : Int32) (x2 : Int64) (x4 : Int32), zr (0) (39) x1 → zr (-1) (7) x4 → x4.toInt - (-1) < Mk37 → zok (k37 σ x1 x2 x4) (zPl σ (fun v : Int64 => True))) (hσ : zPM σ) {x1 : Int32} (h_x1 : zr (0) (39) x1) {x4 : Int32} (h_x4 : zr (0) (7) x4) {s0 : Int32} {s1 : Int64} (hMk37 : x4.toInt - (-1) ≤ Mk37) : zok (fX12_text_70 k37 σ x1 x4 s0 s1) (zPl σ (fun v : Int64 => True)) := by
  unfold fX12_text_70
  refine zok_bv (fun v1 e2 => ?_)
  refine zok_br (zr_add (lo := -1) (hi := 6) h_x4 (zr_c (lo := -1) (hi := -1) (by decide)) (by decide)) (fun v2 e4 h3 => ?_)
  exact hk37 _ _ _  h_x1 (zr_w h3 (by decide)) (by rw [e4]; have := z_tadd (y := (-1 : Int32)) h_x4 (zr_c (lo := -1) (hi := -1) (by decide)) (by decide); have e9 : (-1 : Int32).toInt = -1 := rfl; omega) 
theorem s_X12_text_37_body {σ : zSt} {k37 : zSt → Int32 → Int64 → Int32 → Option (zSt × Int64)} {Mk37 : Int} (hk37 : ∀ (x1 : Int32) (x2 : Int64) (x4 : Int32), zr (0) (39) x1 → zr (-1) (7) x4 → x4.toInt - (-1) < Mk37 → zok (k37 σ x1 x2 x4) (zPl σ (fun v : Int64 => True))) (hσ : zPM σ) {x1 : Int32} (h_x1 : zr (0) (39) x1) {x2 : Int64} {x4 : Int32} (h_x4 : zr (-1) (7) x4) (hMk37 : x4.toInt - (-1) ≤ Mk37) : zok (fX12_text_37_body k37 σ x1 x2 x4) (zPl σ (fun v : Int64 => True)) := by
  unfold fX12_text_37_body
  refine zok_if (fun q1 => ?_) (fun q1 => ?_)
  · have h2 := zc_ltl (-1) q1 h_x4 (zr_c (lo := 0) (hi := 0) (by decide)) (by decide)
    exact zok_spl trivial
  have h3 := zc_ler (0) (z_nlt q1) (zr_c (lo := 0) (hi := 0) (by decide)) h_x4 (by decide)
  refine zok_if (fun q4 => ?_) (fun q4 => ?_)
  · exact (s_X12_text_70 hk37 hσ h_x1 h3 hMk37)
  have h5 := zc_ltl (39) (z_nle q4) (zr_add (lo := 0) (hi := 46) h_x1 h3 (by decide)) (rM_8 hσ.sg _ (by decide)) (by decide)
  have h6 := zc_ltr (1) (z_nle q4) (zr_add (lo := 0) (hi := 46) h_x1 h3 (by decide)) (rM_8 hσ.sg _ (by decide)) (by decide)
  refine zok_ck (zin_ok h5 (by decide)) ?_
  exact (s_X12_text_70 hk37 hσ h_x1 h3 hMk37)
theorem s_X12_text_37 {σ : zSt} (hσ : zPM σ) : ∀ (n : Nat) {x1 : Int32} (h_x1 : zr (0) (39) x1) {x2 : Int64} {x4 : Int32} (h_x4 : zr (-1) (7) x4) (hm : x4.toInt - (-1) < n), zok (fX12_text_37 n σ x1 x2 x4) (zPl σ (fun v : Int64 => True)) := by
  intro n
  induction n with
  | zero => intro x1 h_x1 x2 x4 h_x4 hm ; have h9 := h_x4.1; have h8 := h_x4.2; exfalso; omega
  | succ n ih => intro x1 h_x1 x2 x4 h_x4 hm ; exact s_X12_text_37_body (fun x1 x2 x4 h_x1 h_x4 hm1 => ih h_x1 h_x4 (by omega)) hσ h_x1 h_x4 (Int.le_refl _)
theorem s_X12_text {G : Nat → Int} {σ : zSt} (hσ : zIM G σ) {x1 : Int32} : zok (fX12_text σ x1) (zAL (zIM G) (fun v : Int64 => True)) := by
  unfold fX12_text
  refine zok_within (fun w1 w2 => ?_) (fun w3 => ?_)
  · have h4 := z_wir w1 w2 (zrl_c (lo := 0) (hi := 0) (by decide)) (zrl_i (zr_sub (lo := -1) (hi := 39) (rM_8 hσ.sg _ (by decide)) (zr_c (lo := 1) (hi := 1) (by decide)) (by decide)))
    refine zok_if (fun q5 => ?_) (fun q5 => ?_)
    · exact zr_no (zc_eql (1) (0) q5 (zr_c (lo := 1) (hi := 1) (by decide)) (zr_c (lo := 0) (hi := 0) (by decide)) (by decide)) (by decide)
    unfold fX12_text_22
    refine zok_fails0 (hσ.wi 0 0 (by decide) zr_any (by decide +kernel)) (fun σ3 e6 i7 => ?_)
    refine zok_if (fun q8 => ?_) (fun q8 => ?_)
    · exact zok_pal i7 (s_X12_text_37 i7.P zfuel h4 (zr_w (zr_c (lo := 7) (hi := 7) (by decide)) (by decide)) (by decide))
    exact zr_no (zc_nel (1) (0) q8 (zr_c (lo := 0) (hi := 0) (by decide)) (zr_c (lo := 0) (hi := 0) (by decide)) (by decide)) (by decide)
  refine zok_if (fun q9 => ?_) (fun q9 => ?_)
  · unfold fX12_text_22
    refine zok_fails1 (hσ.wi 0 0 (by decide) zr_any (by decide +kernel)) (fun σ3 e10 i11 => ?_)
    refine zok_if (fun q12 => ?_) (fun q12 => ?_)
    · exact zr_no (zc_eql (1) (0) q12 (zr_c (lo := 1) (hi := 1) (by decide)) (zr_c (lo := 0) (hi := 0) (by decide)) (by decide)) (by decide)
    exact zok_sal i11 trivial
  exact zr_no (zc_nel (1) (0) q9 (zr_c (lo := 0) (hi := 0) (by decide)) (zr_c (lo := 0) (hi := 0) (by decide)) (by decide)) (by decide)
end ZJN1
section ZJN2
/-! FRESH, the reference: zS0 has the invariant; anew leaves line and beat 0 -/
theorem zM0_sg : ∀ s ∈ sM, s.2.2.2.1 ≤ 0 ∧ 0 ≤ s.2.2.2.2 := by decide +kernel
theorem zM0 : zIM (fun _ => 0) zS0 := by
  refine ⟨⟨fun s hs j _ _ => ?_, fun i z _ => rfl, fun i z _ => rfl, Or.inl rfl⟩, Or.inl rfl, ⟨fun i _ => ?_, fun i _ => ?_⟩, fun i _ => ?_, fun i _ => ?_⟩
  · exact zM0_sg s hs
  · exact zr_c (x := 0) (by decide)
  · exact zr_c (x := 0) (by decide)
  · exact zr_c (x := 0) (by decide)
  · exact zr_c (x := 0) (by decide)
theorem s_anew_24x : ∀ (n : Nat) {G : Nat → Int} {σ : zSt} (hσ : zIM G σ) {x1 : Int32} (h1 : zr 47 87 x1) (h3 : 66 < x1.toInt → G 3 = 0) (h4 : 67 < x1.toInt → G 4 = 0) (hm : 87 - x1.toInt < n), zok (fX12_anew_24 n σ x1) (zIM (zset (zset G 3 0) 4 0)) := by
  intro n
  induction n with
  | zero => intro G σ hσ x1 h1 h3 h4 hm; have := h1.2; exfalso; omega
  | succ n ih =>
    intro G σ hσ x1 h1 h3 h4 hm
    show zok (fX12_anew_24_body (fX12_anew_24 n) σ x1) _
    unfold fX12_anew_24_body
    have c87 : (87 : Int32).toInt = 87 := rfl
    refine zok_if (fun q => ?_) (fun q => ?_)
    · have q1 := Int32.le_iff_toInt_le.mp q
      have e : zset (zset G 3 0) 4 0 = G := by
        have t : zset (zset G 3 (G 3)) 4 (G 4) = G := by rw [zset_id, zset_id]
        rw [h3 (by omega), h4 (by omega)] at t
        exact t
      rw [e]
      refine zok_ck rfl ?_
      refine zok_bs (I := zIM G) (hσ.wi 18 18 (by decide) (zr_c (lo := 57328) (hi := 57328) (by decide)) (by decide +kernel)) (fun σ19 e4 i3 => ?_)
      refine zok_ck rfl ?_
      refine zok_bs (I := zIM G) (i3.wi 30 30 (by decide) (zr_c (lo := 1) (hi := 1) (by decide)) (by decide +kernel)) (fun σ20 e6 i5 => ?_)
      exact zok_if (fun _ => s_X12_anew_79 i5 (zr_w (zr_c (lo := 0) (hi := 0) (by decide)) (by decide)) (zr_c (lo := 31) (hi := 31) (by decide))) (fun _ => s_X12_anew_79 i5 (zr_w (zr_c (lo := 2) (hi := 2) (by decide)) (by decide)) (zr_c (lo := 31) (hi := 31) (by decide)))
    · have q1 := Int32.lt_iff_toInt_lt.mp (z_nle q)
      have h5 : zr 47 86 x1 := ⟨h1.1, by omega⟩
      have b1 := h1.1
      have c1 : (1 : Int32).toInt = 1 := rfl
      have t : (x1 + 1).toInt = x1.toInt + (1 : Int32).toInt := z_tadd h5 (zr_c (lo := 1) (hi := 1) (x := 1) (by decide)) (by decide)
      have nx : ∀ (G1 : Nat → Int) (σ1 : zSt), zIM G1 σ1 → (66 ≤ x1.toInt → G1 3 = 0) → (67 ≤ x1.toInt → G1 4 = 0) → zset (zset G1 3 0) 4 0 = zset (zset G 3 0) 4 0 → zok (zbv (x1 + 1) (fun v22 => fX12_anew_24 n σ1 v22)) (zIM (zset (zset G 3 0) 4 0)) := fun G1 σ1 i a b e => by
        refine zok_bv (fun v e9 => ?_)
        subst e9
        rw [← e]
        exact ih i ⟨by omega, by omega⟩ (fun h => a (by omega)) (fun h => b (by omega)) (by omega)
      refine zok_ck (zin_ok h5 (by decide)) ?_
      by_cases c6 : x1.toInt = 66
      · have ex : x1 = 66 := Int32.toInt_inj.mp (by rw [c6]; rfl)
        subst ex
        exact zok_bs (I := zIM (zset G 3 0)) (zIM.wg (v := 0) 3 hσ (by decide) (by decide) (zr_c (lo := 0) (hi := 0) (by decide)) (by decide +kernel)) (fun σ1 e i => nx _ _ i (fun _ => zset_eq) (fun h => absurd h (by decide)) (by rw [zset_set]))
      · by_cases c7 : x1.toInt = 67
        · have ex : x1 = 67 := Int32.toInt_inj.mp (by rw [c7]; rfl)
          subst ex
          exact zok_bs (I := zIM (zset G 4 0)) (zIM.wg (v := 0) 4 hσ (by decide) (by decide) (zr_c (lo := 0) (hi := 0) (by decide)) (by decide +kernel)) (fun σ1 e i => nx _ _ i (fun _ => by rw [zset_ne (by decide)]; exact h3 (by decide)) (fun _ => zset_eq) (by rw [zset_com (i := 4) (k := 3) (by decide), zset_set]))
        · by_cases c8 : x1.toInt < 66
          · have h6 : zr 47 65 x1 := ⟨b1, by omega⟩
            exact zok_bs (I := zIM G) (hσ.wi 47 65 (z_ix h6 (by decide)) (zr_c (lo := 0) (hi := 0) (by decide)) (by decide +kernel)) (fun σ1 e i => nx _ _ i (fun h => absurd h (by omega)) (fun h => absurd h (by omega)) rfl)
          · have h6 : zr 68 86 x1 := ⟨by omega, by omega⟩
            exact zok_bs (I := zIM G) (hσ.wi 68 86 (z_ix h6 (by decide)) (zr_c (lo := 0) (hi := 0) (by decide)) (by decide +kernel)) (fun σ1 e i => nx _ _ i (fun _ => h3 (by omega)) (fun _ => h4 (by omega)) rfl)
theorem s_anew_2x : ∀ (n : Nat) {G : Nat → Int} {σ : zSt} (hσ : zIM G σ) {x1 : Int32} (h1 : zr 0 42 x1) (hm : 42 - x1.toInt < n), zok (fX12_anew_2 n σ x1) (zIM (zset (zset G 3 0) 4 0)) := by
  intro n
  induction n with
  | zero => intro G σ hσ x1 h1 hm; have := h1.2; exfalso; omega
  | succ n ih =>
    intro G σ hσ x1 h1 hm
    show zok (fX12_anew_2_body (fX12_anew_2 n) σ x1) _
    unfold fX12_anew_2_body
    have c42 : (42 : Int32).toInt = 42 := rfl
    refine zok_if (fun q => ?_) (fun q => ?_)
    · exact s_anew_24x zfuel hσ (zr_c (by decide)) (fun h => absurd h (by decide)) (fun h => absurd h (by decide)) (by decide)
    · have q1 := Int32.lt_iff_toInt_lt.mp (z_nle q)
      have h5 : zr 0 41 x1 := ⟨h1.1, by omega⟩
      have b1 := h1.1
      have c1 : (1 : Int32).toInt = 1 := rfl
      have t : (x1 + 1).toInt = x1.toInt + (1 : Int32).toInt := z_tadd h5 (zr_c (lo := 1) (hi := 1) (x := 1) (by decide)) (by decide)
      refine zok_ck (zin_ok h5 (by decide)) ?_
      refine zok_bs (I := zIM G) (hσ.wi 0 41 (z_ix h5 (by decide)) (zr_c (lo := 0) (hi := 0) (by decide)) (by decide +kernel)) (fun σ1 e i => ?_)
      refine zok_bv (fun v e9 => ?_)
      subst e9
      exact ih i ⟨by omega, by omega⟩ (by omega)
/-- anew, exactly -/
theorem s_anewx {G : Nat → Int} {σ : zSt} (hσ : zIM G σ) : zok (fX12_anew σ) (zIM (zset (zset G 3 0) 4 0)) := by
  unfold fX12_anew
  exact s_anew_2x zfuel hσ (zr_c (by decide)) (by decide)
def zG0 (k : Int32) : Nat → Int := zset (zset (zset (fun _ => 0) 1 k.toInt) 3 0) 4 0
/-- the reference's fresh state -/
theorem s_freshM {k : Int32} (hk : zr 0 2 k) : zok (fX12_anew (zsi (zsi (zsi (zsi (zsi zS0 0 8 (-1)) 0 3 k) 3 44 0) 3 45 1) 3 46 1)) (zIM (zG0 k)) := by
  have h1 : zIM (fun _ => 0) (zsi zS0 0 8 (-1)) := zM0.wi 8 8 (by decide) (zr_c (lo := -1) (hi := -1) (by decide)) (by decide +kernel)
  have h2 : zIM (zset (fun _ => 0) 1 k.toInt) (zsi (zsi zS0 0 8 (-1)) 0 3 k) := h1.wg 1 (by decide) (by decide) hk (by decide +kernel)
  have h3 := h2.wi (k := 3) (j := 44) (v := 0) 44 44 (by decide) (zr_c (lo := 0) (hi := 0) (by decide)) (by decide +kernel)
  have h4 := h3.wi (k := 3) (j := 45) (v := 1) 45 45 (by decide) (zr_c (lo := 1) (hi := 1) (by decide)) (by decide +kernel)
  have h5 := h4.wi (k := 3) (j := 46) (v := 1) 46 46 (by decide) (zr_c (lo := 1) (hi := 1) (by decide)) (by decide +kernel)
  exact s_anewx h5
theorem zG0_J {k : Int32} (hk : zr 0 2 k) : zK 0 (zG0 k) := by
  have v : ∀ i, ¬ i = 1 → zG0 k i = 0 := fun i h1 => by
    unfold zG0 zset
    split
    · rfl
    · split
      · rfl
      · first | rfl | rw [if_neg h1]
  have lb := zln_b (zG0 k)
  unfold zK zGJ zJ
  rw [v 100 (by decide), v 103 (by decide), v 104 (by decide), v 101 (by decide), v 3 (by decide), v 4 (by decide), v 5 (by decide)]
  omega
end ZJN2
section ZJN3
def sZ : List zSeg := [(1, 2, 2, 0, 262656), (1, 3, 3, 0, 512), (1, 4, 4, 0, 262144), (1, 5, 5, 0, 16), (1, 7, 7, -1, 32752), (7, 5, 5, 0, 65535), (40, 8, 8, 0, 8), (41, 8, 8, 0, 8), (10, 2, 2, 0, 32), (5, 3, 3, 0, 8), (13, 0, 262655, 0, 255), (14, 0, 262655, 0, 255), (15, 0, 8191, 0, 255), (16, 0, 8191, 0, 255), (17, 0, 32767, 0, 255), (18, 0, 32767, 0, 255), (19, 0, 3, 0, 255), (20, 0, 3, 0, 255), (21, 0, 16383, 0, 255), (22, 0, 16383, 0, 255), (36, 0, 15, 0, 255), (36, 16, 20, 0, 65535), (36, 21, 22, 0, 255), (36, 23, 24, 0, 1), (36, 25, 25, 0, 2), (36, 26, 28, 0, 1), (36, 0, 20, 0, 65535), (37, 0, 15, 0, 255), (37, 16, 20, 0, 65535), (37, 21, 22, 0, 255), (37, 23, 24, 0, 1), (37, 25, 25, 0, 2), (37, 26, 28, 0, 1), (37, 0, 20, 0, 65535), (23, 0, 10, 0, 255), (23, 11, 11, 0, 16383), (23, 12, 12, 0, 3), (23, 13, 13, 0, 255), (23, 14, 14, 0, 1), (23, 15, 15, 0, 255), (23, 19, 19, 0, 255), (23, 21, 21, 0, 227), (23, 26, 26, 0, 255), (23, 32, 95, 0, 255), (24, 0, 10, 0, 255), (24, 11, 11, 0, 16383), (24, 12, 12, 0, 3), (24, 13, 13, 0, 255), (24, 14, 14, 0, 1), (24, 15, 15, 0, 255), (24, 19, 19, 0, 255), (24, 21, 21, 0, 227), (24, 26, 26, 0, 255), (24, 32, 95, 0, 255), (34, 0, 6, 0, 255), (34, 10, 11, 0, 1), (35, 0, 6, 0, 255), (35, 10, 11, 0, 1), (30, 17, 17, 0, 7), (31, 17, 17, 0, 7), (32, 64, 64, 0, 3), (33, 64, 64, 0, 3)]
def zZZ : List (Nat × Nat) := []
def zLZ : List (Nat × Nat) := []
def zQZ : Nat × Nat × Int := (7, 999, 0)
def zIZ (G : Nat → Int) (σ : zSt) : Prop := zIV sZ zZZ zLZ zQZ G σ
def zPZ (σ : zSt) : Prop := zSg sZ σ ∧ zSp zQZ σ
def zEZ (l : List Nat) (G : Nat → Int) (σ : zSt) : Prop := ∃ G1, zIZ G1 σ ∧ ∀ i, ¬ i ∈ l → G1 i = G i
section ZSZ
variable {G : Nat → Int} {σ : zSt} {l : List Nat}
theorem zIZ.sg (h : zIZ G σ) : zSg sZ σ := h.1
theorem zIZ.sp (h : zIZ G σ) : zSp zQZ σ := h.2.2.2
theorem zIZ.fz (h : zIZ G σ) : zFz zZZ G σ := h.2.1
theorem zIZ.fl (h : zIZ G σ) : zFl zLZ G σ := h.2.2.1
theorem zIZ.P (h : zIZ G σ) : zPZ σ := ⟨h.sg, h.sp⟩
theorem zPZ.sg (h : zPZ σ) : zSg sZ σ := h.1
theorem zPZ.sp (h : zPZ σ) : zSp zQZ σ := h.2
theorem zIZ.E (h : zIZ G σ) : zEZ l G σ := ⟨G, h, fun _ _ => rfl⟩
theorem zEZ.sg (h : zEZ l G σ) : zSg sZ σ := by obtain ⟨G1, h1, _⟩ := h; exact h1.sg
theorem zEZ.sp (h : zEZ l G σ) : zSp zQZ σ := by obtain ⟨G1, h1, _⟩ := h; exact h1.sp
theorem zEZ.P (h : zEZ l G σ) : zPZ σ := by obtain ⟨G1, h1, _⟩ := h; exact h1.P
theorem zIZ.wi {k j : Nat} {v : Int32} {lo hi : Int} (h : zIZ G σ) (a b : Nat) (hj : a ≤ j ∧ j ≤ b) (hv : zr lo hi v) (c : zWi sZ zZZ zQZ k a b lo hi = true) : zIZ G (zsi σ k j v) := zIV_i a b h hj hv c
theorem zIZ.wk {k j : Nat} {v : Int32} (h : zIZ G σ) (c : zWk sZ zZZ zQZ k = true) : zIZ G (zsi σ k j v) := zIV_k h c
theorem zIZ.wl {k j : Nat} {v : Int64} (h : zIZ G σ) (a b : Nat) (hj : a ≤ j ∧ j ≤ b) (c : zLZ.all (fun z => !Nat.beq z.1 k || (Nat.blt b z.2 || Nat.blt z.2 a)) = true) : zIZ G (zsl σ k j v) := zIV_l a b h hj c
theorem zIZ.wc {k0 k1 sp dp n : Nat} (h : zIZ G σ) (c : zWc sZ zZZ zQZ k0 k1 = true) (e0 : sp = 0) (e1 : dp = 0) : zIZ G (zcpi σ k0 k1 sp dp n) := zIV_c h c e0 e1
theorem zIZ.wcl {k0 k1 sp dp n : Nat} (h : zIZ G σ) (c : zLZ.all (fun z => !Nat.beq z.1 k1) = true) : zIZ G (zcpl σ k0 k1 sp dp n) := zIV_cl h c
theorem zIZ.sp0 {v : Int32} {lo hi : Int} (h : zIZ G σ) (hv : zr lo hi v) (c : (decide (lo = 0 ∧ hi = 0) && zWs sZ zZZ zQZ lo hi) = true) : zIZ G (zsi σ 7 999 v) := by
  rw [Bool.and_eq_true] at c
  have e := of_decide_eq_true c.1
  have h1 := hv.1
  have h2 := hv.2
  exact zIV_s h hv c.2 (Or.inl (by show v.toInt = 0; omega))
theorem zIZ.sp1 {v : Int32} {lo hi : Int} (h : zIZ G σ) (hv : zr lo hi v) (c : (decide (16 ≤ lo) && zWs sZ zZZ zQZ lo hi) = true) : zIZ G (zsi σ 7 999 v) := by
  rw [Bool.and_eq_true] at c
  have e := of_decide_eq_true c.1
  have h1 := hv.1
  exact zIV_s h hv c.2 (Or.inr (by omega))
theorem zIZ.we {k j : Nat} {v : Int32} {lo hi : Int} (h : zIZ G σ) (a b : Nat) (hj : a ≤ j ∧ j ≤ b) (hv : zr lo hi v) (c : zWe sZ zZZ zQZ l k a b lo hi = true) : zEZ l G (zsi σ k j v) := zIV_e a b h hj hv c
theorem zEZ.lift {σ1 : zSt} (h : zEZ l G σ) (k : ∀ G1, zIZ G1 σ → zIZ G1 σ1) : zEZ l G σ1 := by obtain ⟨G1, h1, g1⟩ := h; exact ⟨G1, k G1 h1, g1⟩
theorem zEZ.wi {k j : Nat} {v : Int32} {lo hi : Int} (h : zEZ l G σ) (a b : Nat) (hj : a ≤ j ∧ j ≤ b) (hv : zr lo hi v) (c : zWe sZ zZZ zQZ l k a b lo hi = true) : zEZ l G (zsi σ k j v) := by
  obtain ⟨G1, h1, g1⟩ := h
  obtain ⟨G2, h2, g2⟩ := h1.we a b hj hv c
  exact ⟨G2, h2, fun i hi => (g2 i hi).trans (g1 i hi)⟩
theorem zEZ.wk {k j : Nat} {v : Int32} (h : zEZ l G σ) (c : zWk sZ zZZ zQZ k = true) : zEZ l G (zsi σ k j v) := h.lift (fun _ h1 => h1.wk c)
theorem zEZ.wl {k j : Nat} {v : Int64} (h : zEZ l G σ) (a b : Nat) (hj : a ≤ j ∧ j ≤ b) (c : zLZ.all (fun z => !Nat.beq z.1 k || (Nat.blt b z.2 || Nat.blt z.2 a)) = true) : zEZ l G (zsl σ k j v) := h.lift (fun _ h1 => h1.wl a b hj c)
theorem zEZ.sub {l1 : List Nat} (h : zEZ l1 G σ) (c : l1.all (fun i => l.contains i) = true) : zEZ l G σ := by
  obtain ⟨G1, h1, g1⟩ := h
  rw [List.all_eq_true] at c
  exact ⟨G1, h1, fun i hi => g1 i (fun r => hi (List.contains_iff_mem.mp (c i r)))⟩
theorem zEZ.upi {o : Option (zSt × Int32)} {Q : Int32 → Prop} (h : zEZ l G σ) (k : ∀ G1, zIZ G1 σ → zok o (zAi (zIZ G1) Q)) : zok o (zAi (zEZ l G) Q) := by
  obtain ⟨G1, h1, g1⟩ := h
  exact zok_mono (k G1 h1) (fun r q => ⟨⟨G1, q.1, g1⟩, q.2⟩)
theorem zEZ.uEi {o : Option (zSt × Int32)} {Q : Int32 → Prop} {l1 : List Nat} (h : zEZ l G σ) (c : l1.all (fun i => l.contains i) = true) (k : ∀ G1, zEZ l1 G1 σ → zok o (zAi (zEZ l1 G1) Q)) : zok o (zAi (zEZ l G) Q) := by
  obtain ⟨G1, h1, g1⟩ := h
  rw [List.all_eq_true] at c
  have k1 : ∀ x, zEZ l1 G1 x → zEZ l G x := fun x hx => by
    obtain ⟨G2, h2, g2⟩ := hx
    exact ⟨G2, h2, fun i hi => (g2 i (fun r => hi (List.contains_iff_mem.mp (c i r)))).trans (g1 i hi)⟩
  exact zok_mono (k G1 h1.E) (fun r q => ⟨k1 _ q.1, q.2⟩)
theorem zEZ.upl {o : Option (zSt × Int64)} {Q : Int64 → Prop} (h : zEZ l G σ) (k : ∀ G1, zIZ G1 σ → zok o (zAL (zIZ G1) Q)) : zok o (zAL (zEZ l G) Q) := by
  obtain ⟨G1, h1, g1⟩ := h
  exact zok_mono (k G1 h1) (fun r q => ⟨⟨G1, q.1, g1⟩, q.2⟩)
theorem zEZ.uEl {o : Option (zSt × Int64)} {Q : Int64 → Prop} {l1 : List Nat} (h : zEZ l G σ) (c : l1.all (fun i => l.contains i) = true) (k : ∀ G1, zEZ l1 G1 σ → zok o (zAL (zEZ l1 G1) Q)) : zok o (zAL (zEZ l G) Q) := by
  obtain ⟨G1, h1, g1⟩ := h
  rw [List.all_eq_true] at c
  have k1 : ∀ x, zEZ l1 G1 x → zEZ l G x := fun x hx => by
    obtain ⟨G2, h2, g2⟩ := hx
    exact ⟨G2, h2, fun i hi => (g2 i (fun r => hi (List.contains_iff_mem.mp (c i r)))).trans (g1 i hi)⟩
  exact zok_mono (k G1 h1.E) (fun r q => ⟨k1 _ q.1, q.2⟩)
theorem zEZ.upu {o : Option zSt} (h : zEZ l G σ) (k : ∀ G1, zIZ G1 σ → zok o (zIZ G1)) : zok o (zEZ l G) := by
  obtain ⟨G1, h1, g1⟩ := h
  exact zok_mono (k G1 h1) (fun r q => ⟨G1, q, g1⟩)
theorem zEZ.uEu {o : Option zSt} {l1 : List Nat} (h : zEZ l G σ) (c : l1.all (fun i => l.contains i) = true) (k : ∀ G1, zEZ l1 G1 σ → zok o (zEZ l1 G1)) : zok o (zEZ l G) := by
  obtain ⟨G1, h1, g1⟩ := h
  rw [List.all_eq_true] at c
  have k1 : ∀ x, zEZ l1 G1 x → zEZ l G x := fun x hx => by
    obtain ⟨G2, h2, g2⟩ := hx
    exact ⟨G2, h2, fun i hi => (g2 i (fun r => hi (List.contains_iff_mem.mp (c i r)))).trans (g1 i hi)⟩
  exact zok_mono (k G1 h1.E) (fun r q => k1 _ q)
theorem zEZ.upR {α : Type} {g : α → zSt} {o : Option α} (h : zEZ l G σ) (k : ∀ G1, zIZ G1 σ → zok o (fun r => zIZ G1 (g r))) : zok o (fun r => zEZ l G (g r)) := by
  obtain ⟨G1, h1, g1⟩ := h
  exact zok_mono (k G1 h1) (fun r q => ⟨G1, q, g1⟩)
theorem zEZ.upTi {o : Option zRi} {ks : List Nat} (h : zEZ l G σ) (k : ∀ G1, zIZ G1 σ → zok o (zTi (zIZ G1) ks)) : zok o (zTi (zEZ l G) ks) := by
  obtain ⟨G1, h1, g1⟩ := h
  exact zok_mono (k G1 h1) (fun r q => ⟨⟨G1, q.1, g1⟩, q.2⟩)
theorem zEZ.upTl {o : Option zRl} {ks : List Nat} (h : zEZ l G σ) (k : ∀ G1, zIZ G1 σ → zok o (zTl (zIZ G1) ks)) : zok o (zTl (zEZ l G) ks) := by
  obtain ⟨G1, h1, g1⟩ := h
  exact zok_mono (k G1 h1) (fun r q => ⟨⟨G1, q.1, g1⟩, q.2⟩)
theorem zEZ.upTu {o : Option zRu} {ks : List Nat} (h : zEZ l G σ) (k : ∀ G1, zIZ G1 σ → zok o (zTu (zIZ G1) ks)) : zok o (zTu (zEZ l G) ks) := by
  obtain ⟨G1, h1, g1⟩ := h
  exact zok_mono (k G1 h1) (fun r q => ⟨⟨G1, q.1, g1⟩, q.2⟩)
theorem rZ_0 (h : zSg sZ σ) (j : Nat) (hj : 2 ≤ j ∧ j ≤ 2) : zr (0) (262656) (zgi σ 1 j) := h _ (List.mem_of_getElem? (i := 0) rfl) j hj.1 hj.2
theorem rZ_1 (h : zSg sZ σ) (j : Nat) (hj : 3 ≤ j ∧ j ≤ 3) : zr (0) (512) (zgi σ 1 j) := h _ (List.mem_of_getElem? (i := 1) rfl) j hj.1 hj.2
theorem rZ_2 (h : zSg sZ σ) (j : Nat) (hj : 4 ≤ j ∧ j ≤ 4) : zr (0) (262144) (zgi σ 1 j) := h _ (List.mem_of_getElem? (i := 2) rfl) j hj.1 hj.2
theorem rZ_3 (h : zSg sZ σ) (j : Nat) (hj : 5 ≤ j ∧ j ≤ 5) : zr (0) (16) (zgi σ 1 j) := h _ (List.mem_of_getElem? (i := 3) rfl) j hj.1 hj.2
theorem rZ_4 (h : zSg sZ σ) (j : Nat) (hj : 7 ≤ j ∧ j ≤ 7) : zr (-1) (32752) (zgi σ 1 j) := h _ (List.mem_of_getElem? (i := 4) rfl) j hj.1 hj.2
theorem rZ_5 (h : zSg sZ σ) (j : Nat) (hj : 5 ≤ j ∧ j ≤ 5) : zr (0) (65535) (zgi σ 7 j) := h _ (List.mem_of_getElem? (i := 5) rfl) j hj.1 hj.2
theorem rZ_6 (h : zSg sZ σ) (j : Nat) (hj : 8 ≤ j ∧ j ≤ 8) : zr (0) (8) (zgi σ 40 j) := h _ (List.mem_of_getElem? (i := 6) rfl) j hj.1 hj.2
theorem rZ_7 (h : zSg sZ σ) (j : Nat) (hj : 8 ≤ j ∧ j ≤ 8) : zr (0) (8) (zgi σ 41 j) := h _ (List.mem_of_getElem? (i := 7) rfl) j hj.1 hj.2
theorem rZ_8 (h : zSg sZ σ) (j : Nat) (hj : 2 ≤ j ∧ j ≤ 2) : zr (0) (32) (zgi σ 10 j) := h _ (List.mem_of_getElem? (i := 8) rfl) j hj.1 hj.2
theorem rZ_9 (h : zSg sZ σ) (j : Nat) (hj : 3 ≤ j ∧ j ≤ 3) : zr (0) (8) (zgi σ 5 j) := h _ (List.mem_of_getElem? (i := 9) rfl) j hj.1 hj.2
theorem rZ_10 (h : zSg sZ σ) (j : Nat) (hj : 0 ≤ j ∧ j ≤ 262655) : zr (0) (255) (zgi σ 13 j) := h _ (List.mem_of_getElem? (i := 10) rfl) j hj.1 hj.2
theorem rZ_11 (h : zSg sZ σ) (j : Nat) (hj : 0 ≤ j ∧ j ≤ 262655) : zr (0) (255) (zgi σ 14 j) := h _ (List.mem_of_getElem? (i := 11) rfl) j hj.1 hj.2
theorem rZ_12 (h : zSg sZ σ) (j : Nat) (hj : 0 ≤ j ∧ j ≤ 8191) : zr (0) (255) (zgi σ 15 j) := h _ (List.mem_of_getElem? (i := 12) rfl) j hj.1 hj.2
theorem rZ_13 (h : zSg sZ σ) (j : Nat) (hj : 0 ≤ j ∧ j ≤ 8191) : zr (0) (255) (zgi σ 16 j) := h _ (List.mem_of_getElem? (i := 13) rfl) j hj.1 hj.2
theorem rZ_14 (h : zSg sZ σ) (j : Nat) (hj : 0 ≤ j ∧ j ≤ 32767) : zr (0) (255) (zgi σ 17 j) := h _ (List.mem_of_getElem? (i := 14) rfl) j hj.1 hj.2
theorem rZ_15 (h : zSg sZ σ) (j : Nat) (hj : 0 ≤ j ∧ j ≤ 32767) : zr (0) (255) (zgi σ 18 j) := h _ (List.mem_of_getElem? (i := 15) rfl) j hj.1 hj.2
theorem rZ_16 (h : zSg sZ σ) (j : Nat) (hj : 0 ≤ j ∧ j ≤ 3) : zr (0) (255) (zgi σ 19 j) := h _ (List.mem_of_getElem? (i := 16) rfl) j hj.1 hj.2
theorem rZ_17 (h : zSg sZ σ) (j : Nat) (hj : 0 ≤ j ∧ j ≤ 3) : zr (0) (255) (zgi σ 20 j) := h _ (List.mem_of_getElem? (i := 17) rfl) j hj.1 hj.2
theorem rZ_18 (h : zSg sZ σ) (j : Nat) (hj : 0 ≤ j ∧ j ≤ 16383) : zr (0) (255) (zgi σ 21 j) := h _ (List.mem_of_getElem? (i := 18) rfl) j hj.1 hj.2
theorem rZ_19 (h : zSg sZ σ) (j : Nat) (hj : 0 ≤ j ∧ j ≤ 16383) : zr (0) (255) (zgi σ 22 j) := h _ (List.mem_of_getElem? (i := 19) rfl) j hj.1 hj.2
theorem rZ_20 (h : zSg sZ σ) (j : Nat) (hj : 0 ≤ j ∧ j ≤ 15) : zr (0) (255) (zgi σ 36 j) := h _ (List.mem_of_getElem? (i := 20) rfl) j hj.1 hj.2
theorem rZ_21 (h : zSg sZ σ) (j : Nat) (hj : 16 ≤ j ∧ j ≤ 20) : zr (0) (65535) (zgi σ 36 j) := h _ (List.mem_of_getElem? (i := 21) rfl) j hj.1 hj.2
theorem rZ_22 (h : zSg sZ σ) (j : Nat) (hj : 21 ≤ j ∧ j ≤ 22) : zr (0) (255) (zgi σ 36 j) := h _ (List.mem_of_getElem? (i := 22) rfl) j hj.1 hj.2
theorem rZ_23 (h : zSg sZ σ) (j : Nat) (hj : 23 ≤ j ∧ j ≤ 24) : zr (0) (1) (zgi σ 36 j) := h _ (List.mem_of_getElem? (i := 23) rfl) j hj.1 hj.2
theorem rZ_24 (h : zSg sZ σ) (j : Nat) (hj : 25 ≤ j ∧ j ≤ 25) : zr (0) (2) (zgi σ 36 j) := h _ (List.mem_of_getElem? (i := 24) rfl) j hj.1 hj.2
theorem rZ_25 (h : zSg sZ σ) (j : Nat) (hj : 26 ≤ j ∧ j ≤ 28) : zr (0) (1) (zgi σ 36 j) := h _ (List.mem_of_getElem? (i := 25) rfl) j hj.1 hj.2
theorem rZ_26 (h : zSg sZ σ) (j : Nat) (hj : 0 ≤ j ∧ j ≤ 20) : zr (0) (65535) (zgi σ 36 j) := h _ (List.mem_of_getElem? (i := 26) rfl) j hj.1 hj.2
theorem rZ_27 (h : zSg sZ σ) (j : Nat) (hj : 0 ≤ j ∧ j ≤ 15) : zr (0) (255) (zgi σ 37 j) := h _ (List.mem_of_getElem? (i := 27) rfl) j hj.1 hj.2
theorem rZ_28 (h : zSg sZ σ) (j : Nat) (hj : 16 ≤ j ∧ j ≤ 20) : zr (0) (65535) (zgi σ 37 j) := h _ (List.mem_of_getElem? (i := 28) rfl) j hj.1 hj.2
theorem rZ_29 (h : zSg sZ σ) (j : Nat) (hj : 21 ≤ j ∧ j ≤ 22) : zr (0) (255) (zgi σ 37 j) := h _ (List.mem_of_getElem? (i := 29) rfl) j hj.1 hj.2
theorem rZ_30 (h : zSg sZ σ) (j : Nat) (hj : 23 ≤ j ∧ j ≤ 24) : zr (0) (1) (zgi σ 37 j) := h _ (List.mem_of_getElem? (i := 30) rfl) j hj.1 hj.2
theorem rZ_31 (h : zSg sZ σ) (j : Nat) (hj : 25 ≤ j ∧ j ≤ 25) : zr (0) (2) (zgi σ 37 j) := h _ (List.mem_of_getElem? (i := 31) rfl) j hj.1 hj.2
theorem rZ_32 (h : zSg sZ σ) (j : Nat) (hj : 26 ≤ j ∧ j ≤ 28) : zr (0) (1) (zgi σ 37 j) := h _ (List.mem_of_getElem? (i := 32) rfl) j hj.1 hj.2
theorem rZ_33 (h : zSg sZ σ) (j : Nat) (hj : 0 ≤ j ∧ j ≤ 20) : zr (0) (65535) (zgi σ 37 j) := h _ (List.mem_of_getElem? (i := 33) rfl) j hj.1 hj.2
theorem rZ_34 (h : zSg sZ σ) (j : Nat) (hj : 0 ≤ j ∧ j ≤ 10) : zr (0) (255) (zgi σ 23 j) := h _ (List.mem_of_getElem? (i := 34) rfl) j hj.1 hj.2
theorem rZ_35 (h : zSg sZ σ) (j : Nat) (hj : 11 ≤ j ∧ j ≤ 11) : zr (0) (16383) (zgi σ 23 j) := h _ (List.mem_of_getElem? (i := 35) rfl) j hj.1 hj.2
theorem rZ_36 (h : zSg sZ σ) (j : Nat) (hj : 12 ≤ j ∧ j ≤ 12) : zr (0) (3) (zgi σ 23 j) := h _ (List.mem_of_getElem? (i := 36) rfl) j hj.1 hj.2
theorem rZ_37 (h : zSg sZ σ) (j : Nat) (hj : 13 ≤ j ∧ j ≤ 13) : zr (0) (255) (zgi σ 23 j) := h _ (List.mem_of_getElem? (i := 37) rfl) j hj.1 hj.2
theorem rZ_38 (h : zSg sZ σ) (j : Nat) (hj : 14 ≤ j ∧ j ≤ 14) : zr (0) (1) (zgi σ 23 j) := h _ (List.mem_of_getElem? (i := 38) rfl) j hj.1 hj.2
theorem rZ_39 (h : zSg sZ σ) (j : Nat) (hj : 15 ≤ j ∧ j ≤ 15) : zr (0) (255) (zgi σ 23 j) := h _ (List.mem_of_getElem? (i := 39) rfl) j hj.1 hj.2
theorem rZ_40 (h : zSg sZ σ) (j : Nat) (hj : 19 ≤ j ∧ j ≤ 19) : zr (0) (255) (zgi σ 23 j) := h _ (List.mem_of_getElem? (i := 40) rfl) j hj.1 hj.2
theorem rZ_41 (h : zSg sZ σ) (j : Nat) (hj : 21 ≤ j ∧ j ≤ 21) : zr (0) (227) (zgi σ 23 j) := h _ (List.mem_of_getElem? (i := 41) rfl) j hj.1 hj.2
theorem rZ_42 (h : zSg sZ σ) (j : Nat) (hj : 26 ≤ j ∧ j ≤ 26) : zr (0) (255) (zgi σ 23 j) := h _ (List.mem_of_getElem? (i := 42) rfl) j hj.1 hj.2
theorem rZ_43 (h : zSg sZ σ) (j : Nat) (hj : 32 ≤ j ∧ j ≤ 95) : zr (0) (255) (zgi σ 23 j) := h _ (List.mem_of_getElem? (i := 43) rfl) j hj.1 hj.2
theorem rZ_44 (h : zSg sZ σ) (j : Nat) (hj : 0 ≤ j ∧ j ≤ 10) : zr (0) (255) (zgi σ 24 j) := h _ (List.mem_of_getElem? (i := 44) rfl) j hj.1 hj.2
theorem rZ_45 (h : zSg sZ σ) (j : Nat) (hj : 11 ≤ j ∧ j ≤ 11) : zr (0) (16383) (zgi σ 24 j) := h _ (List.mem_of_getElem? (i := 45) rfl) j hj.1 hj.2
theorem rZ_46 (h : zSg sZ σ) (j : Nat) (hj : 12 ≤ j ∧ j ≤ 12) : zr (0) (3) (zgi σ 24 j) := h _ (List.mem_of_getElem? (i := 46) rfl) j hj.1 hj.2
theorem rZ_47 (h : zSg sZ σ) (j : Nat) (hj : 13 ≤ j ∧ j ≤ 13) : zr (0) (255) (zgi σ 24 j) := h _ (List.mem_of_getElem? (i := 47) rfl) j hj.1 hj.2
theorem rZ_48 (h : zSg sZ σ) (j : Nat) (hj : 14 ≤ j ∧ j ≤ 14) : zr (0) (1) (zgi σ 24 j) := h _ (List.mem_of_getElem? (i := 48) rfl) j hj.1 hj.2
theorem rZ_49 (h : zSg sZ σ) (j : Nat) (hj : 15 ≤ j ∧ j ≤ 15) : zr (0) (255) (zgi σ 24 j) := h _ (List.mem_of_getElem? (i := 49) rfl) j hj.1 hj.2
theorem rZ_50 (h : zSg sZ σ) (j : Nat) (hj : 19 ≤ j ∧ j ≤ 19) : zr (0) (255) (zgi σ 24 j) := h _ (List.mem_of_getElem? (i := 50) rfl) j hj.1 hj.2
theorem rZ_51 (h : zSg sZ σ) (j : Nat) (hj : 21 ≤ j ∧ j ≤ 21) : zr (0) (227) (zgi σ 24 j) := h _ (List.mem_of_getElem? (i := 51) rfl) j hj.1 hj.2
theorem rZ_52 (h : zSg sZ σ) (j : Nat) (hj : 26 ≤ j ∧ j ≤ 26) : zr (0) (255) (zgi σ 24 j) := h _ (List.mem_of_getElem? (i := 52) rfl) j hj.1 hj.2
theorem rZ_53 (h : zSg sZ σ) (j : Nat) (hj : 32 ≤ j ∧ j ≤ 95) : zr (0) (255) (zgi σ 24 j) := h _ (List.mem_of_getElem? (i := 53) rfl) j hj.1 hj.2
theorem rZ_54 (h : zSg sZ σ) (j : Nat) (hj : 0 ≤ j ∧ j ≤ 6) : zr (0) (255) (zgi σ 34 j) := h _ (List.mem_of_getElem? (i := 54) rfl) j hj.1 hj.2
theorem rZ_55 (h : zSg sZ σ) (j : Nat) (hj : 10 ≤ j ∧ j ≤ 11) : zr (0) (1) (zgi σ 34 j) := h _ (List.mem_of_getElem? (i := 55) rfl) j hj.1 hj.2
theorem rZ_56 (h : zSg sZ σ) (j : Nat) (hj : 0 ≤ j ∧ j ≤ 6) : zr (0) (255) (zgi σ 35 j) := h _ (List.mem_of_getElem? (i := 56) rfl) j hj.1 hj.2
theorem rZ_57 (h : zSg sZ σ) (j : Nat) (hj : 10 ≤ j ∧ j ≤ 11) : zr (0) (1) (zgi σ 35 j) := h _ (List.mem_of_getElem? (i := 57) rfl) j hj.1 hj.2
theorem rZ_58 (h : zSg sZ σ) (j : Nat) (hj : 17 ≤ j ∧ j ≤ 17) : zr (0) (7) (zgi σ 30 j) := h _ (List.mem_of_getElem? (i := 58) rfl) j hj.1 hj.2
theorem rZ_59 (h : zSg sZ σ) (j : Nat) (hj : 17 ≤ j ∧ j ≤ 17) : zr (0) (7) (zgi σ 31 j) := h _ (List.mem_of_getElem? (i := 59) rfl) j hj.1 hj.2
theorem rZ_60 (h : zSg sZ σ) (j : Nat) (hj : 64 ≤ j ∧ j ≤ 64) : zr (0) (3) (zgi σ 32 j) := h _ (List.mem_of_getElem? (i := 60) rfl) j hj.1 hj.2
theorem rZ_61 (h : zSg sZ σ) (j : Nat) (hj : 64 ≤ j ∧ j ≤ 64) : zr (0) (3) (zgi σ 33 j) := h _ (List.mem_of_getElem? (i := 61) rfl) j hj.1 hj.2
theorem xZ_sp {lo hi : Int} (h : zSp zQZ σ) (hr : zr lo hi (zgi σ 7 999)) (c : 0 < lo ∧ hi ≤ 17) : zr 16 17 (zgi σ 7 999) := by
  obtain ⟨r1, r2⟩ := hr
  unfold zgi at r1 r2 ⊢
  rcases h with h | h
  · have h : (σ.1 7 999).toInt = 0 := h
    exfalso; omega
  · have h : 16 ≤ (σ.1 7 999).toInt := h
    exact ⟨h, by omega⟩
end ZSZ
theorem s0_X4_clear {G : Nat → Int} {σ : zSt} (hσ : zIZ G σ) : zok (fX4_clear σ ) (zIZ G) := by
  unfold fX4_clear
  refine zok_ck rfl ?_
  refine zok_bs (hσ.wi 0 0 (by decide) (zr_c (lo := 255) (hi := 255) (by decide)) (by decide +kernel)) (fun σ1 e2 i1 => ?_)
  refine zok_ck rfl ?_
  refine zok_bs (i1.wi 1 1 (by decide) (zr_c (lo := 127) (hi := 127) (by decide)) (by decide +kernel)) (fun σ2 e4 i3 => ?_)
  refine zok_ck rfl ?_
  refine zok_bs (i3.wi 2 2 (by decide) (zr_c (lo := 255) (hi := 255) (by decide)) (by decide +kernel)) (fun σ3 e6 i5 => ?_)
  refine zok_ck rfl ?_
  refine zok_bs (i5.wi 3 3 (by decide) (zr_c (lo := 0) (hi := 0) (by decide)) (by decide +kernel)) (fun σ4 e8 i7 => ?_)
  refine zok_ck rfl ?_
  refine zok_bs (i7.wi 4 4 (by decide) (zr_c (lo := 255) (hi := 255) (by decide)) (by decide +kernel)) (fun σ5 e10 i9 => ?_)
  refine zok_ck rfl ?_
  refine zok_bs (i9.wi 5 5 (by decide) (zr_c (lo := 0) (hi := 0) (by decide)) (by decide +kernel)) (fun σ6 e12 i11 => ?_)
  refine zok_ck rfl ?_
  refine zok_bs (i11.wi 6 6 (by decide) (zr_c (lo := 0) (hi := 0) (by decide)) (by decide +kernel)) (fun σ7 e14 i13 => ?_)
  exact zok_some i13
theorem s0_J7_fill_53178_k30_5_body {G : Nat → Int} {σ : zSt} {k5 : zSt → Int32 → Int32 → Int32 → Option (zSt)} {Mk5 : Int} (hk5 : ∀ (σ : zSt) (x1 : Int32) (x2 : Int32) (x3 : Int32), zIZ G σ → zr (0) (0) x1 → zr (0) (19) x2 → zr (19) (19) x3 → (19) - x2.toInt < Mk5 → zok (k5 σ x1 x2 x3) (zIZ G)) (hσ : zIZ G σ) {x1 : Int32} (h_x1 : zr (0) (0) x1) {x2 : Int32} (h_x2 : zr (0) (19) x2) {x3 : Int32} (h_x3 : zr (19) (19) x3) (hMk5 : (19) - x2.toInt ≤ Mk5) : zok (fJ7_fill_53178_k30_5_body k5 σ x1 x2 x3) (zIZ G) := by
  unfold fJ7_fill_53178_k30_5_body
  refine zok_if (fun q1 => ?_) (fun q1 => ?_)
  · have h2 := zc_ler (19) q1 h_x3 h_x2 (by decide)
    exact zok_some hσ
  have h3 := zc_ltl (18) (z_nle q1) h_x2 h_x3 (by decide)
  refine zok_ck (zin_ok h3 (by decide)) ?_
  refine zok_bs (hσ.wi 0 18 (z_ix h3 (by decide)) h_x1 (by decide +kernel)) (fun σ1 e5 i4 => ?_)
  refine zok_br (zr_add (lo := 1) (hi := 19) h3 (zr_c (lo := 1) (hi := 1) (by decide)) (by decide)) (fun v2 e7 h6 => ?_)
  exact hk5 _ _ _ _ i4 h_x1 (zr_w h6 (by decide)) h_x3 (by rw [e7]; have := z_tadd (y := (1 : Int32)) h3 (zr_c (lo := 1) (hi := 1) (by decide)) (by decide); have e9 : (1 : Int32).toInt = 1 := rfl; omega) 
theorem s0_J7_fill_53178_k30_5 {G : Nat → Int} : ∀ (n : Nat) {σ : zSt} (hσ : zIZ G σ) {x1 : Int32} (h_x1 : zr (0) (0) x1) {x2 : Int32} (h_x2 : zr (0) (19) x2) {x3 : Int32} (h_x3 : zr (19) (19) x3) (hm : (19) - x2.toInt < n), zok (fJ7_fill_53178_k30_5 n σ x1 x2 x3) (zIZ G) := by
  intro n
  induction n with
  | zero => intro σ hσ x1 h_x1 x2 h_x2 x3 h_x3 hm ; have h9 := h_x2.1; have h8 := h_x2.2; exfalso; omega
  | succ n ih => intro σ hσ x1 h_x1 x2 h_x2 x3 h_x3 hm ; exact s0_J7_fill_53178_k30_5_body (fun σ x1 x2 x3 hσ h_x1 h_x2 h_x3 hm1 => ih hσ h_x1 h_x2 h_x3 (by omega)) hσ h_x1 h_x2 h_x3 (Int.le_refl _)
theorem s0_J7_fill_53178_k30 {G : Nat → Int} {σ : zSt} (hσ : zIZ G σ) {x1 : Int32} (h_x1 : zr (0) (0) x1) : zok (fJ7_fill_53178_k30 σ x1) (zIZ G) := by
  unfold fJ7_fill_53178_k30
  exact (s0_J7_fill_53178_k30_5 zfuel hσ h_x1 (zr_w (zr_c (lo := 0) (hi := 0) (by decide)) (by decide)) (zr_c (lo := 19) (hi := 19) (by decide)) (by decide))
theorem s0_J7_fill_fda19_k30_10_body {G : Nat → Int} {σ : zSt} {k10 : zSt → Int32 → Int32 → Int32 → Option (zSt)} {Mk10 : Int} (hk10 : ∀ (σ : zSt) (x2 : Int32) (x3 : Int32) (x4 : Int32), zIZ G σ → zr (13) (13) x2 → zr (15) (15) x3 → zr (9) (13) x4 → (13) - x4.toInt < Mk10 → zok (k10 σ x2 x3 x4) (zIZ G)) (hσ : zIZ G σ) {x2 : Int32} (h_x2 : zr (13) (13) x2) {x3 : Int32} (h_x3 : zr (15) (15) x3) {x4 : Int32} (h_x4 : zr (9) (13) x4) (hMk10 : (13) - x4.toInt ≤ Mk10) : zok (fJ7_fill_fda19_k30_10_body k10 σ x2 x3 x4) (zIZ G) := by
  unfold fJ7_fill_fda19_k30_10_body
  refine zok_if (fun q1 => ?_) (fun q1 => ?_)
  · have h2 := zc_ler (13) q1 h_x2 h_x4 (by decide)
    exact zok_some hσ
  have h3 := zc_ltl (12) (z_nle q1) h_x4 h_x2 (by decide)
  refine zok_ck (zin_ok h3 (by decide)) ?_
  refine zok_bs (hσ.wi 9 12 (z_ix h3 (by decide)) h_x3 (by decide +kernel)) (fun σ1 e5 i4 => ?_)
  refine zok_br (zr_add (lo := 10) (hi := 13) h3 (zr_c (lo := 1) (hi := 1) (by decide)) (by decide)) (fun v2 e7 h6 => ?_)
  exact hk10 _ _ _ _ i4 h_x2 h_x3 (zr_w h6 (by decide)) (by rw [e7]; have := z_tadd (y := (1 : Int32)) h3 (zr_c (lo := 1) (hi := 1) (by decide)) (by decide); have e9 : (1 : Int32).toInt = 1 := rfl; omega) 
theorem s0_J7_fill_fda19_k30_10 {G : Nat → Int} : ∀ (n : Nat) {σ : zSt} (hσ : zIZ G σ) {x2 : Int32} (h_x2 : zr (13) (13) x2) {x3 : Int32} (h_x3 : zr (15) (15) x3) {x4 : Int32} (h_x4 : zr (9) (13) x4) (hm : (13) - x4.toInt < n), zok (fJ7_fill_fda19_k30_10 n σ x2 x3 x4) (zIZ G) := by
  intro n
  induction n with
  | zero => intro σ hσ x2 h_x2 x3 h_x3 x4 h_x4 hm ; have h9 := h_x4.1; have h8 := h_x4.2; exfalso; omega
  | succ n ih => intro σ hσ x2 h_x2 x3 h_x3 x4 h_x4 hm ; exact s0_J7_fill_fda19_k30_10_body (fun σ x2 x3 x4 hσ h_x2 h_x3 h_x4 hm1 => ih hσ h_x2 h_x3 h_x4 (by omega)) hσ h_x2 h_x3 h_x4 (Int.le_refl _)
theorem s0_J7_fill_fda19_k30 {G : Nat → Int} {σ : zSt} (hσ : zIZ G σ) {x1 : Int32} (h_x1 : zr (9) (9) x1) {x2 : Int32} (h_x2 : zr (13) (13) x2) {x3 : Int32} (h_x3 : zr (15) (15) x3) : zok (fJ7_fill_fda19_k30 σ x1 x2 x3) (zIZ G) := by
  unfold fJ7_fill_fda19_k30
  refine zok_pu (s_rangeCheck (zr_c (lo := 19) (hi := 19) (by decide)) h_x1 h_x2 (by decide)) ?_
  exact (s0_J7_fill_fda19_k30_10 zfuel hσ h_x2 h_x3 (zr_w h_x1 (by decide)) (z_su h_x1 (by decide)))
theorem s0_X7_clear {G : Nat → Int} {σ : zSt} (hσ : zIZ G σ) : zok (fX7_clear σ ) (zIZ G) := by
  unfold fX7_clear
  refine zok_bu (s0_J7_fill_53178_k30 hσ (zr_c (lo := 0) (hi := 0) (by decide))) (fun σ1 i1 => ?_)
  refine zok_bu (s0_J7_fill_fda19_k30 i1 (zr_c (lo := 9) (hi := 9) (by decide)) (zr_c (lo := 13) (hi := 13) (by decide)) (zr_c (lo := 15) (hi := 15) (by decide))) (fun σ2 i2 => ?_)
  refine zok_ck rfl ?_
  refine zok_bs (i2.wi 16 16 (by decide) (zr_c (lo := 32768) (hi := 32768) (by decide)) (by decide +kernel)) (fun σ3 e4 i3 => ?_)
  refine zok_ck rfl ?_
  refine zok_bs (i3.wi 18 18 (by decide) (zr_c (lo := 255) (hi := 255) (by decide)) (by decide +kernel)) (fun σ4 e6 i5 => ?_)
  exact zok_some i5
theorem s0_J7_fill_53178_k32_5_body {G : Nat → Int} {σ : zSt} {k5 : zSt → Int32 → Int32 → Int32 → Option (zSt)} {Mk5 : Int} (hk5 : ∀ (σ : zSt) (x1 : Int32) (x2 : Int32) (x3 : Int32), zIZ G σ → zr (0) (0) x1 → zr (0) (272) x2 → zr (272) (272) x3 → (272) - x2.toInt < Mk5 → zok (k5 σ x1 x2 x3) (zIZ G)) (hσ : zIZ G σ) {x1 : Int32} (h_x1 : zr (0) (0) x1) {x2 : Int32} (h_x2 : zr (0) (272) x2) {x3 : Int32} (h_x3 : zr (272) (272) x3) (hMk5 : (272) - x2.toInt ≤ Mk5) : zok (fJ7_fill_53178_k32_5_body k5 σ x1 x2 x3) (zIZ G) := by
  unfold fJ7_fill_53178_k32_5_body
  refine zok_if (fun q1 => ?_) (fun q1 => ?_)
  · have h2 := zc_ler (272) q1 h_x3 h_x2 (by decide)
    exact zok_some hσ
  have h3 := zc_ltl (271) (z_nle q1) h_x2 h_x3 (by decide)
  refine zok_ck (zin_ok h3 (by decide)) ?_
  refine zok_bs (hσ.wi 0 271 (z_ix h3 (by decide)) h_x1 (by decide +kernel)) (fun σ1 e5 i4 => ?_)
  refine zok_br (zr_add (lo := 1) (hi := 272) h3 (zr_c (lo := 1) (hi := 1) (by decide)) (by decide)) (fun v2 e7 h6 => ?_)
  exact hk5 _ _ _ _ i4 h_x1 (zr_w h6 (by decide)) h_x3 (by rw [e7]; have := z_tadd (y := (1 : Int32)) h3 (zr_c (lo := 1) (hi := 1) (by decide)) (by decide); have e9 : (1 : Int32).toInt = 1 := rfl; omega) 
theorem s0_J7_fill_53178_k32_5 {G : Nat → Int} : ∀ (n : Nat) {σ : zSt} (hσ : zIZ G σ) {x1 : Int32} (h_x1 : zr (0) (0) x1) {x2 : Int32} (h_x2 : zr (0) (272) x2) {x3 : Int32} (h_x3 : zr (272) (272) x3) (hm : (272) - x2.toInt < n), zok (fJ7_fill_53178_k32_5 n σ x1 x2 x3) (zIZ G) := by
  intro n
  induction n with
  | zero => intro σ hσ x1 h_x1 x2 h_x2 x3 h_x3 hm ; have h9 := h_x2.1; have h8 := h_x2.2; exfalso; omega
  | succ n ih => intro σ hσ x1 h_x1 x2 h_x2 x3 h_x3 hm ; exact s0_J7_fill_53178_k32_5_body (fun σ x1 x2 x3 hσ h_x1 h_x2 h_x3 hm1 => ih hσ h_x1 h_x2 h_x3 (by omega)) hσ h_x1 h_x2 h_x3 (Int.le_refl _)
theorem s0_J7_fill_53178_k32 {G : Nat → Int} {σ : zSt} (hσ : zIZ G σ) {x1 : Int32} (h_x1 : zr (0) (0) x1) : zok (fJ7_fill_53178_k32 σ x1) (zIZ G) := by
  unfold fJ7_fill_53178_k32
  exact (s0_J7_fill_53178_k32_5 zfuel hσ h_x1 (zr_w (zr_c (lo := 0) (hi := 0) (by decide)) (by decide)) (zr_c (lo := 272) (hi := 272) (by decide)) (by decide))
theorem s0_X10_clear_h {G : Nat → Int} : ∀ (n : Nat) {σ : zSt} (hσ : zIZ G σ) {x2 : Int32} (h_x2 : zr 128 272 x2) (h8 : x2.toInt % 8 = 0) (hm : 272 - x2.toInt < n), zok (fX10_clear_36 n σ x2) (zIZ G) := by
  intro n
  induction n with
  | zero => intro σ hσ x2 h_x2 h8 hm; have := h_x2.2; exfalso; omega
  | succ n ih =>
    intro σ hσ x2 h_x2 h8 hm
    show zok (fX10_clear_36_body (fX10_clear_36 n) σ x2) (zIZ G)
    unfold fX10_clear_36_body
    refine zok_if (fun q => zok_some hσ) (fun q => ?_)
    have c272 : (272 : Int32).toInt = 272 := rfl
    have q1 := Int32.lt_iff_toInt_lt.mp (z_nle q)
    have hx : zr 128 264 x2 := ⟨h_x2.1, by omega⟩
    have h0 := zr_add (lo := 128) (hi := 264) hx (zr_c (lo := 0) (hi := 0) (x := 0) (by decide)) (by decide)
    have h1 := zr_add (lo := 129) (hi := 265) hx (zr_c (lo := 1) (hi := 1) (x := 1) (by decide)) (by decide)
    have e8 := z_tadd hx (zr_c (lo := 8) (hi := 8) (x := 8) (by decide)) (by decide)
    have c8 : (8 : Int32).toInt = 8 := rfl
    refine zok_ck (zin_ok h0 (by decide)) ?_
    refine zok_bs (hσ.wi 128 264 (z_ix h0 (by decide)) (zr_any) (by decide +kernel)) (fun σ1 e1 i1 => ?_)
    refine zok_ck (zin_ok h1 (by decide)) ?_
    refine zok_bs (i1.wi 129 265 (z_ix h1 (by decide)) (zr_any) (by decide +kernel)) (fun σ2 e2 i2 => ?_)
    refine zok_bv (fun v3 e3 => ih i2 ?_ ?_ ?_)
    · subst e3; have := hx.1; have := hx.2; exact ⟨by omega, by omega⟩
    · subst e3; omega
    · subst e3; omega
theorem s0_X10_clear_36 {G : Nat → Int} (n : Nat) {σ : zSt} (hσ : zIZ G σ) {x2 : Int32} (h_x2 : zr (128) (128) x2) (hm : (128) - x2.toInt < n) (hn : zfuel ≤ n := by decide) : zok (fX10_clear_36 n σ x2) (zIZ G) :=
  s0_X10_clear_h n hσ (zr_w h_x2 (by decide)) (by have := h_x2.1; have := h_x2.2; omega) (by have := h_x2.1; unfold zfuel at hn; omega)
theorem s0_X10_clear {G : Nat → Int} {σ : zSt} (hσ : zIZ G σ) : zok (fX10_clear σ ) (zIZ G) := by
  unfold fX10_clear
  refine zok_ck rfl ?_
  refine zok_bv (fun v4 e2 => ?_)
  refine zok_bu (s0_J7_fill_53178_k32 hσ (zr_c (lo := 0) (hi := 0) (by decide))) (fun σ5 i3 => ?_)
  refine zok_ck rfl ?_
  refine zok_bs (i3.wi 66 66 (by decide) zr_any (by decide +kernel)) (fun σ6 e5 i4 => ?_)
  refine zok_ck rfl ?_
  refine zok_bs (i4.wi 65 65 (by decide) (zr_c (lo := 1) (hi := 1) (by decide)) (by decide +kernel)) (fun σ7 e7 i6 => ?_)
  exact (s0_X10_clear_36 zfuel i6 (zr_c (lo := 128) (hi := 128) (by decide)) (by decide))
theorem z0_sg : ∀ s ∈ sZ, s.2.2.2.1 ≤ 0 ∧ 0 ≤ s.2.2.2.2 := by decide +kernel
theorem zZ0 : zIZ (fun _ => 0) zS0 := ⟨fun s hs j _ _ => z0_sg s hs, fun i z _ => rfl, fun i z _ => rfl, Or.inl rfl⟩
theorem z_bif {α : Type} {P : α → Prop} {b : Bool} {x y : α} (h1 : P x) (h2 : P y) : P (bif b then x else y) := by cases b; exact h2; exact h1
set_option maxRecDepth 20000 in
theorem zC0p_all {P : zSt → Prop} {s0 s1 s2 s3 s4 s5 s6 s7 s8 s9 s10 : zSt} (h0 : P s0) (h1 : P s1) (h2 : P s2) (h3 : P s3) (h4 : P s4) (h5 : P s5) (h6 : P s6) (h7 : P s7) (h8 : P s8) (h9 : P s9) (h10 : P s10) (hZ : P zS0) (a : Nat) : P (zC0p s0 s1 s2 s3 s4 s5 s6 s7 s8 s9 s10 a) := by
  unfold zC0p
  repeat (first | assumption | refine z_bif (by assumption) ?_)
theorem zC_mem : ∀ s ∈ sC, s ∈ sZ ∨ s = (7, 4, 4, 6, 17) := by decide +kernel
theorem zC0_sg {s0 s1 s2 s3 s4 s5 s6 s7 s8 s9 s10 : zSt} (h0 : zSg sZ s0) (h1 : zSg sZ s1) (h2 : zSg sZ s2) (h3 : zSg sZ s3) (h4 : zSg sZ s4) (h5 : zSg sZ s5) (h6 : zSg sZ s6) (h7 : zSg sZ s7) (h8 : zSg sZ s8) (h9 : zSg sZ s9) (h10 : zSg sZ s10) (h : zr 6 17 (s7.1 7 4)) : zSg sC (zC0 s0 s1 s2 s3 s4 s5 s6 s7 s8 s9 s10) := by
  intro s hs j l1 l2
  rcases zC_mem s hs with m | m
  · exact zC0p_all (P := fun σ => zSg sZ σ) h0 h1 h2 h3 h4 h5 h6 h7 h8 h9 h10 zZ0.sg s.1 s m j l1 l2
  · subst m
    have ej : j = 4 := by have a : 4 ≤ j := l1; have b : j ≤ 4 := l2; omega
    subst ej
    exact h
theorem zI44 : ∀ (n : Nat) {σ : zSt} (hσ : zIZ (fun _ => 0) σ) {x1 x2 : Int32} (h2 : zr 0 32 x2) (hm : 32 - x2.toInt < n), zok (fJ7_fill_53178_k44_5 n σ x1 x2 32) (zIZ (fun _ => 0)) := by
  intro n
  induction n with
  | zero => intro σ hσ x1 x2 h2 hm; have := h2.2; exfalso; omega
  | succ n ih =>
    intro σ hσ x1 x2 h2 hm
    show zok (fJ7_fill_53178_k44_5_body (fJ7_fill_53178_k44_5 n) σ x1 x2 32) _
    unfold fJ7_fill_53178_k44_5_body
    have c32 : (32 : Int32).toInt = 32 := rfl
    refine zok_if (fun q => zok_some hσ) (fun q => ?_)
    have q1 := Int32.lt_iff_toInt_lt.mp (z_nle q)
    have h5 : zr 0 31 x2 := ⟨h2.1, by omega⟩
    have b1 := h2.1
    have c1 : (1 : Int32).toInt = 1 := rfl
    have t : (x2 + 1).toInt = x2.toInt + (1 : Int32).toInt := z_tadd h5 (zr_c (lo := 1) (hi := 1) (x := 1) (by decide)) (by decide)
    refine zok_ck (zin_ok h5 (by decide)) ?_
    refine zok_bs (I := zIZ (fun _ => 0)) (hσ.wk (by decide)) (fun σ1 e1 i1 => ?_)
    refine zok_bv (fun v e9 => ?_)
    subst e9
    exact ih i1 ⟨by omega, by omega⟩ (by omega)
def zH0 (k : Int32) (i : Nat) : Int := if i = 2 then (if k = 2 then 1 else 0) else 0
/-- the class's fresh state -/
theorem s_freshC {k : Int32} {σN4 σN5 : zSt} {σN6 : Int32 → zSt} {σN9 : zSt} (n4 : zIZ (fun _ => 0) σN4) (n5 : zIZ (fun _ => 0) σN5) (n6 : ∀ v, zIZ (fun _ => 0) (σN6 v)) (n9 : zIZ (fun _ => 0) σN9) : zIC (zH0 k) (zC1 k σN4 σN5 σN6 σN9) := by
  have w0_0 := zZ0.wi (k := 0) (j := 0) (v := (if k = 2 then 1 else 0)) 0 0 (by decide) (show zr (0) (1) (if k = 2 then 1 else 0) by split <;> exact zr_c (by decide)) (by decide +kernel)
  have w1_0 := zZ0.wi (k := 1) (j := 1) (v := 1) 1 1 (by decide) (zr_c (lo := 1) (hi := 1) (by decide)) (by decide +kernel)
  have w1_1 := w1_0.wi (k := 1) (j := 7) (v := (-1)) 7 7 (by decide) (zr_c (lo := -1) (hi := -1) (by decide)) (by decide +kernel)
  have w1_2 := w1_1.wi (k := 19) (j := 0) (v := 0) 0 0 (by decide) (zr_c (lo := 0) (hi := 0) (by decide)) (by decide +kernel)
  have w1_3 := w1_2.wi (k := 19) (j := 1) (v := 1) 1 1 (by decide) (zr_c (lo := 1) (hi := 1) (by decide)) (by decide +kernel)
  have w1_4 := w1_3.wi (k := 19) (j := 2) (v := 2) 2 2 (by decide) (zr_c (lo := 2) (hi := 2) (by decide)) (by decide +kernel)
  have w1_5 := w1_4.wi (k := 19) (j := 3) (v := 0) 3 3 (by decide) (zr_c (lo := 0) (hi := 0) (by decide)) (by decide +kernel)
  have w2_0 := zZ0.wi (k := 2) (j := 0) (v := (if k = 2 then 1 else 0)) 0 0 (by decide) (show zr (0) (1) (if k = 2 then 1 else 0) by split <;> exact zr_c (by decide)) (by decide +kernel)
  have w2_1 := w2_0.wi (k := 2) (j := 1) (v := (if k = 1 then 313 else 262)) 1 1 (by decide) (show zr (262) (313) (if k = 1 then 313 else 262) by split <;> exact zr_c (by decide)) (by decide +kernel)
  have w3_0 := zZ0.wi (k := 3) (j := 1) (v := (if k = 2 then 1 else 0)) 1 1 (by decide) (show zr (0) (1) (if k = 2 then 1 else 0) by split <;> exact zr_c (by decide)) (by decide +kernel)
  have w7_0 := zZ0.wi (k := 7) (j := 4) (v := 6) 4 4 (by decide) (zr_c (lo := 6) (hi := 6) (by decide)) (by decide +kernel)
  have w7_1 := w7_0.wi (k := 36) (j := 18) (v := 57328) 18 18 (by decide) (zr_c (lo := 57328) (hi := 57328) (by decide)) (by decide +kernel)
  refine ⟨zC0_sg w0_0.sg w1_5.sg w2_1.sg w3_0.sg n4.sg n5.sg (n6 _).sg w7_1.sg zZ0.sg n9.sg zZ0.sg (zr_c (x := 6) (by decide)), fun i z hz => ?_, fun i z hz => by simp [zLC] at hz, Or.inl rfl⟩
  match i, hz with
  | 0, hz => cases hz; rfl
  | 1, hz => cases hz; rfl
  | 2, hz => cases hz; show (if k = 2 then (1 : Int32) else 0).toInt = if (2 : Nat) = 2 then (if k = 2 then (1 : Int) else 0) else 0; rw [if_pos rfl]; split <;> rfl
  | i + 3, hz => simp [zZC] at hz
theorem z_c4 : ∃ σ, fX7_clear zS0 = some σ ∧ zIZ (fun _ => 0) σ := s0_X7_clear zZ0
theorem z_c5 : ∃ σ, fX10_clear zS0 = some σ ∧ zIZ (fun _ => 0) σ := s0_X10_clear zZ0
theorem z_c6 (v : Int32) : ∃ σ, fX4_clear (zsi (zsi (zsi zS0 6 0 v) 34 10 1) 34 11 1) = some σ ∧ zIZ (fun _ => 0) σ := s0_X4_clear (((zZ0.wi (k := 6) (j := 0) (v := v) 0 0 (by decide) zr_any (by decide +kernel)).wi (k := 34) (j := 10) (v := 1) 10 10 (by decide) (zr_c (lo := 1) (hi := 1) (by decide)) (by decide +kernel)).wi (k := 34) (j := 11) (v := 1) 11 11 (by decide) (zr_c (lo := 1) (hi := 1) (by decide)) (by decide +kernel))
theorem z_c9 : ∃ σ, fJ7_fill_53178_k44 zS0 (-1) = some σ ∧ zIZ (fun _ => 0) σ := zI44 zfuel zZ0 (zr_c (by decide)) (by decide)
end ZJN3
section ZJN4
/-! what is owed, from states with the invariants -/
def zKd (x : Int32) : Int32 := if x = 1 then x else if x = 2 then x else 0
theorem zKd_r (x : Int32) : zr 0 2 (zKd x) := by
  unfold zKd
  by_cases h : x = 1
  · rw [if_pos h, h]; exact zr_c (by decide)
  · rw [if_neg h]
    by_cases h2 : x = 2
    · rw [if_pos h2, h2]; exact zr_c (by decide)
    · rw [if_neg h2]; exact zr_c (by decide)
theorem zOwed_of {L : Nat} {xs : Nat → Int32} (h : ∀ (μ σ : zSt), zIM (zG0 (zKd (zCell L xs))) μ → zIC (zH0 (zCell L xs)) σ → ∃ n : Nat, n ≤ 1000 ∧ fLaw xs L n μ (fun _ => 0) σ 1 = some 1) : zOwed L xs := by
  obtain ⟨σ4, e4, i4⟩ := z_c4
  obtain ⟨σ5, e5, i5⟩ := z_c5
  obtain ⟨σ9, e9, i9⟩ := z_c9
  obtain ⟨σ1, e1, i1⟩ := s_freshM (zKd_r (zCell L xs))
  obtain ⟨n, hn, hf⟩ := h σ1 (zC1 (zCell L xs) σ4 σ5 (fun v => Classical.choose (z_c6 v)) σ9) i1 (s_freshC i4 i5 (fun v => (Classical.choose_spec (z_c6 v)).2) i9)
  exact ⟨σ4, e4, σ5, e5, _, fun v => (Classical.choose_spec (z_c6 v)).1, σ9, e9, σ1, e1, n, hn, hf⟩
theorem z_short8 : ∀ L : Fin 9, Int32.ofNat L.val - 8 < 1 := by decide
/-- a script with no room for a call: the law answers 1 at once -/
theorem z_short {L : Nat} (hL : L < 9) (xs : Nat → Int32) (μ : zSt) (o : Nat → Int64) (σ : zSt) : fLaw xs L 1 μ o σ 1 = some 1 := by
  show fLaw_body xs L (fLaw xs L 0) μ o σ 1 = some 1
  unfold fLaw_body
  rw [if_pos (z_short8 ⟨L, hL⟩)]
end ZJN4
section ZJN5
/-! press: both sides, and the law's case -/
theorem zok_zbr {α β : Type} {o : Option α} {f : α → Option β} {Q : α → Prop} {P : β → Prop} (h : zok o Q) (k : ∀ r, Q r → zok (f r) P) : zok (zbr o f) P := by
  obtain ⟨a, e, q⟩ := h
  subst e
  exact k a q
def zOkP (a b : Int32) : Prop := (0 ≤ a.toInt ∧ a.toInt ≤ 1) ∧ (0 ≤ b.toInt ∧ b.toInt ≤ 63)
theorem q_canPress {σ : zSt} {a b : Int32} : zok (fX4_canPress σ a b) (zPi σ (fun v : Int32 => (zOkP a b ∧ v = 1) ∨ (¬ zOkP a b ∧ v = 0))) := by
  unfold fX4_canPress
  have c0 : (0 : Int32).toInt = 0 := rfl
  have c1 : (1 : Int32).toInt = 1 := rfl
  have c3 : (63 : Int32).toInt = 63 := rfl
  have no : ¬ zOkP a b → zok (fX4_canPress_23 σ) (zPi σ (fun v : Int32 => (zOkP a b ∧ v = 1) ∨ (¬ zOkP a b ∧ v = 0))) := fun h => by
    unfold fX4_canPress_23 fX4_canPress_24
    exact zok_ck rfl (zok_spi (Or.inr ⟨h, rfl⟩))
  refine zok_if (fun q => no (fun h => ?_)) (fun q => zok_if (fun q1 => no (fun h => ?_)) (fun q1 => zok_if (fun q2 => no (fun h => ?_)) (fun q2 => zok_if (fun q3 => no (fun h => ?_)) (fun q3 => ?_))))
  · have r := Int32.lt_iff_toInt_lt.mp q; have := h.1; omega
  · have r := Int32.lt_iff_toInt_lt.mp q1; have := h.1; omega
  · have r := Int32.lt_iff_toInt_lt.mp q2; have := h.2; omega
  · have r := Int32.lt_iff_toInt_lt.mp q3; have := h.2; omega
  · have r := Int32.le_iff_toInt_le.mp (z_nlt q)
    have r1 := Int32.le_iff_toInt_le.mp (z_nlt q1)
    have r2 := Int32.le_iff_toInt_le.mp (z_nlt q2)
    have r3 := Int32.le_iff_toInt_le.mp (z_nlt q3)
    unfold fX4_canPress_24
    exact zok_ck rfl (zok_spi (Or.inl ⟨⟨⟨by omega, by omega⟩, ⟨by omega, by omega⟩⟩, rfl⟩))
theorem q_pressC {H : Nat → Int} {σ : zSt} (hσ : zIC H σ) {a b : Int32} : zok (fL_press σ a b) (fun r => zIC H r.1 ∧ ((zOkP a b ∧ r.2 = 0) ∨ (¬ zOkP a b ∧ r.2 = 1))) := by
  unfold fL_press
  refine zok_zbr (Q := fun r : zRu => (zOkP a b ∧ ∃ s, r = Sum.inl s ∧ zIC H s) ∨ (¬ zOkP a b ∧ ∃ s, r = Sum.inr (s, 1) ∧ zIC H s)) ?_ (fun r hr => ?_)
  · unfold fX11_press
    refine zok_pi q_canPress (fun v hv => ?_)
    refine zok_if (fun q => ?_) (fun q => ?_)
    · rcases hv with ⟨_, h⟩ | ⟨h, _⟩
      · rw [h] at q; exact absurd q (by decide)
      · exact zok_some (Or.inr ⟨h, σ, rfl, hσ⟩)
    · rcases hv with ⟨h, _⟩ | ⟨_, h⟩
      · refine zok_bu (s_X4_holdButtons hσ) (fun σ3 i3 => ?_)
        exact zok_some (Or.inl ⟨h, σ3, rfl, i3⟩)
      · exact absurd h q
  · rcases hr with ⟨h, s, e, i⟩ | ⟨h, s, e, i⟩
    · subst e
      show zok (some (s, (0 : Int32))) _
      exact zok_some ⟨i, Or.inl ⟨h, rfl⟩⟩
    · subst e
      show zok (some (s, (1 : Int32))) _
      exact zok_some ⟨i, Or.inr ⟨h, rfl⟩⟩
theorem q_pressM {G : Nat → Int} {μ : zSt} (hμ : zIM G μ) {a b : Int32} : zok (fX12_press μ a b) (fun r => zIM G r ∧ ((zOkP a b ∧ zgi r 0 0 = 0) ∨ (¬ zOkP a b ∧ zgi r 0 0 = 1))) := by
  have no : ¬ zOkP a b → zok (fX12_press_23 μ a b) (fun r => zIM G r ∧ ((zOkP a b ∧ zgi r 0 0 = 0) ∨ (¬ zOkP a b ∧ zgi r 0 0 = 1))) := fun h => by
    unfold fX12_press_23 fX12_press_28
    refine zok_fails1 (I := zIM G) (hμ.wi 0 0 (by decide) zr_any (by decide +kernel)) (fun σ1 e1 i1 => ?_)
    refine zok_if (fun q => absurd q (by decide)) (fun _ => zok_some ⟨i1, Or.inr ⟨h, ?_⟩⟩)
    rw [e1]; show (zsi _ _ _ _).1 _ _ = _; rw [zsi_ej]
  unfold fX12_press
  refine zok_within (fun w1 w2 => ?_) (fun w3 => ?_)
  · have h1 := z_wir w1 w2 (zrl_c (lo := 0) (hi := 0) (by decide)) (zrl_c (lo := 1) (hi := 1) (by decide))
    refine zok_if (fun q => absurd q (by decide)) (fun _ => ?_)
    refine zok_within (fun v1 v2 => ?_) (fun v3 => ?_)
    · have h2 := z_wir v1 v2 (zrl_c (lo := 0) (hi := 0) (by decide)) (zrl_c (lo := 63) (hi := 63) (by decide))
      refine zok_if (fun q => absurd q (by decide)) (fun _ => ?_)
      unfold fX12_press_28
      refine zok_fails0 (I := zIM G) (hμ.wi 0 0 (by decide) zr_any (by decide +kernel)) (fun σ1 e1 i1 => ?_)
      refine zok_if (fun _ => ?_) (fun q => absurd rfl q)
      have hI := zr_add (lo := 42) (hi := 43) (zr_c (lo := 42) (hi := 42) (x := 42) (by decide)) h1 (by decide)
      refine zok_ck (zin_ok hI (by decide)) ?_
      refine zok_bs (I := zIM G) (i1.wi 42 43 (z_ix hI (by decide)) zr_any (by decide +kernel)) (fun σ3 e3 i3 => ?_)
      refine zok_some ⟨i3, Or.inl ⟨⟨h1, h2⟩, ?_⟩⟩
      rw [e3]
      show (zsi σ1 3 _ _).1 0 0 = 0
      rw [zsi_off (fun h => absurd h.1 (by decide)), e1]
      exact zsi_ej
    · refine zok_if (fun _ => no (fun h => ?_)) (fun q => absurd rfl q)
      rw [Int32.toInt_toInt64, show (0 : Int64).toInt = 0 from rfl, show (63 : Int64).toInt = 63 from rfl] at v3
      have := h.2
      omega
  · refine zok_if (fun _ => no (fun h => ?_)) (fun q => absurd rfl q)
    rw [Int32.toInt_toInt64, show (0 : Int64).toInt = 0 from rfl, show (1 : Int64).toInt = 1 from rfl] at w3
    have := h.1
    omega
end ZJN5
section ZJN6
/-! pause: the kind alone -/
def zHd (H G : Nat → Int) : Prop := (H 2 = 0 ∧ ¬ G 1 = 2) ∨ (¬ H 2 = 0 ∧ G 1 = 2)
theorem zHd_fresh (x : Int32) : zHd (zH0 x) (zG0 (zKd x)) := by
  have g : zG0 (zKd x) 1 = (zKd x).toInt := by
    unfold zG0
    rw [zset_ne (by decide), zset_ne (by decide), zset_eq]
  unfold zHd
  rw [g]
  by_cases h2 : x = 2
  · subst h2
    exact Or.inr ⟨by decide, by decide⟩
  · refine Or.inl ⟨?_, ?_⟩
    · show (if (2 : Nat) = 2 then (if x = 2 then (1 : Int) else 0) else 0) = 0
      rw [if_pos rfl, if_neg h2]
    · unfold zKd
      by_cases h1 : x = 1
      · rw [if_pos h1, h1]; decide
      · rw [if_neg h1, if_neg h2]; decide
theorem q_pauseC {H : Nat → Int} {σ : zSt} (hσ : zIC H σ) : zok (fX11_pause σ ) (fun r => zIC H r.1 ∧ ((H 2 = 0 ∧ r.2 = 1) ∨ (¬ H 2 = 0 ∧ r.2 = 0))) := by
  have e : ∀ σ1, zIC H σ1 → (zgi σ1 0 0).toInt = H 2 := fun σ1 h => h.2.1 2 (0, 0) rfl
  have z14 : ∀ σ1, zIC H σ1 → zok (fX11_pause_14 σ1 ) (fun r => zIC H r.1 ∧ ((H 2 = 0 ∧ r.2 = 1) ∨ (¬ H 2 = 0 ∧ r.2 = 0))) := fun σ1 h => by
    unfold fX11_pause_14 fX11_pause_26
    refine zok_if (fun q => ?_) (fun q => ?_)
    · exact zok_ck rfl (zok_some ⟨h, Or.inl ⟨by rw [← e σ1 h, q]; rfl, rfl⟩⟩)
    · exact zok_ck rfl (zok_some ⟨h, Or.inr ⟨fun r => q (Int32.toInt_inj.mp (by rw [e σ1 h, r]; rfl)), rfl⟩⟩)
  unfold fX11_pause
  exact zok_if (fun _ => zok_bu (s_X5_askForPause hσ) (fun σ1 i => z14 σ1 i)) (fun _ => z14 σ hσ)
theorem q_pauseM {G : Nat → Int} {μ : zSt} (hμ : zIM G μ) : zok (fX12_pause μ ) (fun r => zIM G r.1 ∧ ((¬ G 1 = 2 ∧ r.2 = 1) ∨ (G 1 = 2 ∧ r.2 = 0))) := by
  unfold fX12_pause
  refine zok_bs (I := zIM G) (hμ.wi 0 0 (by decide) zr_any (by decide +kernel)) (fun σ1 e1 i1 => ?_)
  have e : (zgi σ1 0 3).toInt = G 1 := i1.at 1 (by decide)
  refine zok_if (fun q => zok_ck rfl (zok_some ⟨i1, Or.inr ⟨by rw [← e, q]; rfl, rfl⟩⟩)) (fun q => zok_ck rfl ?_)
  refine zok_bs (I := zIM G) (i1.wi 28 28 (by decide) (zr_c (lo := 1) (hi := 1) (by decide)) (by decide +kernel)) (fun σ2 e2 i2 => ?_)
  exact zok_ck rfl (zok_some ⟨i2, Or.inl ⟨fun r => q (Int32.toInt_inj.mp (by rw [e, r]; rfl)), rfl⟩⟩)
end ZJN6
