section ZJN0
theorem s_X12_sample_369 {G : Nat → Int} {σ : zSt} {k275 : zSt → Int64 → Int64 → Int32 → Option (zSt)} {Mk275 : Int} (hk275 : ∀ (σ : zSt) (x1 : Int64) (x3 : Int64) (x5 : Int32), zIM G σ → zr (0) (4) x5 → (4) - x5.toInt < Mk275 → zok (k275 σ x1 x3 x5) (zIM (zset G 5 (G 5 + 1)))) (hσ : zIM G σ) {x1 : Int64} {x3 : Int64} {x5 : Int32} (h_x5 : zr (0) (3) x5) {x6 : Int32} (h_x6 : zr (0) (1) x6) (g5 : 0 ≤ G 5 ∧ G 5 ≤ 536870912) (hMk275 : (4) - x5.toInt ≤ Mk275) : zok (fX12_sample_369 k275 σ x1 x3 x5 x6) (zIM (zset G 5 (G 5 + 1))) := by
  unfold fX12_sample_369
  refine zok_if (fun q1 => ?_) (fun q1 => ?_)
  · have h2 := zc_eql (0) (0) q1 h_x6 (zr_c (lo := 0) (hi := 0) (by decide)) (by decide)
    exact (s_X12_sample_407 hk275 hσ h_x5 g5 hMk275)
  have h3 := zc_nel (1) (1) q1 h_x6 (zr_c (lo := 0) (hi := 0) (by decide)) (by decide)
  refine zok_ck rfl ?_
  refine zok_if (fun q4 => ?_) (fun q4 => ?_)
  · have h5 := zc_eql (1) (1) q4 (zr_andr (lo := 0) (hi := 1) (zr_c (lo := 1) (hi := 1) (by decide)) (by decide)) (zr_c (lo := 1) (hi := 1) (by decide)) (by decide)
    refine zok_ck (zin_ok (zr_add (lo := 78) (hi := 81) (zr_c (lo := 78) (hi := 78) (by decide)) h_x5 (by decide)) (by decide)) ?_
    refine zok_pi (s_X12_loudness hσ.P (rM_33 hσ.sg _ (z_ix (zr_add (lo := 78) (hi := 81) (zr_c (lo := 78) (hi := 78) (by decide)) h_x5 (by decide)) (by decide)))) (fun v6 h6 => ?_)
    refine zok_bv (fun v7 e8 => ?_)
    exact (s_X12_sample_407 hk275 hσ h_x5 g5 hMk275)
  have h9 := zc_nel (0) (0) q4 (zr_andr (lo := 0) (hi := 1) (zr_c (lo := 1) (hi := 1) (by decide)) (by decide)) (zr_c (lo := 1) (hi := 1) (by decide)) (by decide)
  exact (s_X12_sample_407 hk275 hσ h_x5 g5 hMk275)
theorem s_X12_sample_327 {G : Nat → Int} {σ : zSt} {k275 : zSt → Int64 → Int64 → Int32 → Option (zSt)} {Mk275 : Int} (hk275 : ∀ (σ : zSt) (x1 : Int64) (x3 : Int64) (x5 : Int32), zIM G σ → zr (0) (4) x5 → (4) - x5.toInt < Mk275 → zok (k275 σ x1 x3 x5) (zIM (zset G 5 (G 5 + 1)))) (hσ : zIM G σ) {x1 : Int64} {x3 : Int64} {x5 : Int32} (h_x5 : zr (0) (3) x5) {s0 : Int32} (h_s0 : zr (0) (1) s0) (g5 : 0 ≤ G 5 ∧ G 5 ≤ 536870912) (hMk275 : (4) - x5.toInt ≤ Mk275) : zok (fX12_sample_327 k275 σ x1 x3 x5 s0) (zIM (zset G 5 (G 5 + 1))) := by
  unfold fX12_sample_327
  refine zok_if (fun q1 => ?_) (fun q1 => ?_)
  · have h2 := zc_eql (0) (0) q1 h_s0 (zr_c (lo := 0) (hi := 0) (by decide)) (by decide)
    exact (s_X12_sample_369 hk275 hσ h_x5 (zr_w h2 (by decide)) g5 hMk275)
  have h3 := zc_nel (1) (1) q1 h_s0 (zr_c (lo := 0) (hi := 0) (by decide)) (by decide)
  refine zok_ck rfl ?_
  refine zok_if (fun q4 => ?_) (fun q4 => ?_)
  · have h5 := zc_eql (1) (1) q4 (zr_andr (lo := 0) (hi := 1) (zr_c (lo := 1) (hi := 1) (by decide)) (by decide)) (zr_c (lo := 1) (hi := 1) (by decide)) (by decide)
    refine zok_ck (zin_ok (zr_add (lo := 78) (hi := 81) (zr_c (lo := 78) (hi := 78) (by decide)) h_x5 (by decide)) (by decide)) ?_
    refine zok_pi (s_X12_loudness hσ.P (rM_33 hσ.sg _ (z_ix (zr_add (lo := 78) (hi := 81) (zr_c (lo := 78) (hi := 78) (by decide)) h_x5 (by decide)) (by decide)))) (fun v9 h6 => ?_)
    refine zok_bv (fun v10 e8 => ?_)
    exact (s_X12_sample_369 hk275 hσ h_x5 (zr_w h3 (by decide)) g5 hMk275)
  have h9 := zc_nel (0) (0) q4 (zr_andr (lo := 0) (hi := 1) (zr_c (lo := 1) (hi := 1) (by decide)) (by decide)) (zr_c (lo := 1) (hi := 1) (by decide)) (by decide)
  exact (s_X12_sample_369 hk275 hσ h_x5 (zr_w h3 (by decide)) g5 hMk275)
theorem s_X12_sample_508 {G : Nat → Int} {σ : zSt} (hσ : zIM G σ) {x1 : Int64} {x3 : Int64} (c_3_87 : zr (1) (4096) (zgi σ 3 87)) : zok (fX12_sample_508 σ x1 x3) (zIM G) := by
  unfold fX12_sample_508
  refine zok_ck rfl ?_
  refine zok_ck rfl ?_
  refine zok_ck (by decide) ?_
  refine zok_ck (zin_ok (zr_rem (lo := 0) (hi := 4095) 4096 (by decide) (zr_sub (lo := 0) (hi := 8190) (zr_add (lo := 1) (hi := 8191) (rM_38 hσ.sg _ (by decide)) c_3_87 (by decide)) (zr_c (lo := 1) (hi := 1) (by decide)) (by decide)) (by decide)) (by decide)) ?_
  refine zok_bs (hσ.wl 0 4095 (z_ix (zr_rem (lo := 0) (hi := 4095) 4096 (by decide) (zr_sub (lo := 0) (hi := 8190) (zr_add (lo := 1) (hi := 8191) (rM_38 hσ.sg _ (by decide)) c_3_87 (by decide)) (zr_c (lo := 1) (hi := 1) (by decide)) (by decide)) (by decide)) (by decide)) (by decide)) (fun σ11 e2 i1 => ?_)
  exact zok_some i1
theorem s_X12_sample_275_body {G : Nat → Int} {σ : zSt} {k275 : zSt → Int64 → Int64 → Int32 → Option (zSt)} {Mk275 : Int} (hk275 : ∀ (σ : zSt) (x1 : Int64) (x3 : Int64) (x5 : Int32), zIM G σ → zr (0) (4) x5 → (4) - x5.toInt < Mk275 → zok (k275 σ x1 x3 x5) (zIM (zset G 5 (G 5 + 1)))) (hσ : zIM G σ) {x1 : Int64} {x3 : Int64} {x5 : Int32} (h_x5 : zr (0) (4) x5) (g5 : 0 ≤ G 5 ∧ G 5 ≤ 536870912) (hMk275 : (4) - x5.toInt ≤ Mk275) : zok (fX12_sample_275_body k275 σ x1 x3 x5) (zIM (zset G 5 (G 5 + 1))) := by
  unfold fX12_sample_275_body
  refine zok_if (fun q1 => ?_) (fun q1 => ?_)
  · have h2 := zc_ler (4) q1 (zr_c (lo := 4) (hi := 4) (by decide)) h_x5 (by decide)
    refine zok_ck rfl ?_
    refine zok_ck rfl ?_
    refine zok_bs (hσ.wl 3 3 (by decide) (by decide)) (fun σ12 e4 i3 => ?_)
    refine zok_ck rfl ?_
    refine zok_ck rfl ?_
    refine zok_bs (i3.wi 166 166 (by decide) zr_any (by decide +kernel)) (fun σ13 e6 i5 => ?_)
    refine zok_ck rfl ?_
    refine zok_ck rfl ?_
    refine zok_bs (i5.wi 167 167 (by decide) zr_any (by decide +kernel)) (fun σ14 e8 i7 => ?_)
    refine zok_ck rfl ?_
    refine zok_ck rfl ?_
    refine zok_bs (I := zIM (zset G 5 (G 5 + 1))) (z_s168 i7 g5) (fun σ15 e10 i9 => ?_)
    refine zok_ck rfl ?_
    refine zok_if (fun q11 => ?_) (fun q11 => ?_)
    · have h12 := zc_eql (4096) (4096) q11 (rM_37 i9.sg _ (by decide)) (zr_c (lo := 4096) (hi := 4096) (by decide)) (by decide)
      refine zok_ck rfl ?_
      refine zok_ck (by decide) ?_
      refine zok_ck rfl ?_
      refine zok_bs (i9.wi 88 88 (by decide) (zr_rem (lo := 0) (hi := 4095) 4096 (by decide) (zr_add (lo := 1) (hi := 4096) (rM_38 i9.sg _ (by decide)) (zr_c (lo := 1) (hi := 1) (by decide)) (by decide)) (by decide)) (by decide +kernel)) (fun σ17 e14 i13 => ?_)
      exact (s_X12_sample_508 i13 (zr_w (z_trj e14 (by decide) h12) (by decide)))
    have h15 := zc_nel (0) (4095) q11 (rM_37 i9.sg _ (by decide)) (zr_c (lo := 4096) (hi := 4096) (by decide)) (by decide)
    refine zok_ck rfl ?_
    refine zok_ck rfl ?_
    refine zok_bs (i9.wi 87 87 (by decide) (zr_add (lo := 1) (hi := 4096) h15 (zr_c (lo := 1) (hi := 1) (by decide)) (by decide)) (by decide +kernel)) (fun σ16 e17 i16 => ?_)
    exact (s_X12_sample_508 i16 (z_own e17 (zr_add (lo := 1) (hi := 4096) h15 (zr_c (lo := 1) (hi := 1) (by decide)) (by decide))))
  have h18 := zc_ltl (3) (z_nle q1) h_x5 (zr_c (lo := 4) (hi := 4) (by decide)) (by decide)
  refine zok_if (fun q19 => ?_) (fun q19 => ?_)
  · have h20 := zc_ler (3) q19 (zr_c (lo := 3) (hi := 3) (by decide)) h18 (by decide)
    refine zok_ck rfl ?_
    refine zok_if (fun q21 => ?_) (fun q21 => ?_)
    · have h22 := zc_eql (1) (1) q21 (zr_andr (lo := 0) (hi := 1) (zr_c (lo := 1) (hi := 1) (by decide)) (by decide)) (zr_c (lo := 1) (hi := 1) (by decide)) (by decide)
      exact (s_X12_sample_327 hk275 hσ (zr_w h20 (by decide)) (zr_w (zr_c (lo := 1) (hi := 1) (by decide)) (by decide)) g5 hMk275)
    have h23 := zc_nel (0) (0) q21 (zr_andr (lo := 0) (hi := 1) (zr_c (lo := 1) (hi := 1) (by decide)) (by decide)) (zr_c (lo := 1) (hi := 1) (by decide)) (by decide)
    exact (s_X12_sample_327 hk275 hσ (zr_w h20 (by decide)) (zr_w (zr_c (lo := 0) (hi := 0) (by decide)) (by decide)) g5 hMk275)
  have h24 := zc_ltl (2) (z_nle q19) h18 (zr_c (lo := 3) (hi := 3) (by decide)) (by decide)
  refine zok_ck (zin_ok (zr_add (lo := 75) (hi := 77) (zr_c (lo := 75) (hi := 75) (by decide)) h24 (by decide)) (by decide)) ?_
  refine zok_if (fun q25 => ?_) (fun q25 => ?_)
  · have h26 := zc_eql (1) (1) q25 zr_any (zr_c (lo := 1) (hi := 1) (by decide)) (by decide)
    exact (s_X12_sample_327 hk275 hσ (zr_w h24 (by decide)) (zr_w (zr_c (lo := 1) (hi := 1) (by decide)) (by decide)) g5 hMk275)
  exact (s_X12_sample_327 hk275 hσ (zr_w h24 (by decide)) (zr_w (zr_c (lo := 0) (hi := 0) (by decide)) (by decide)) g5 hMk275)
theorem s_X12_sample_275 {G : Nat → Int} (g5 : 0 ≤ G 5 ∧ G 5 ≤ 536870912) : ∀ (n : Nat) {σ : zSt} (hσ : zIM G σ) {x1 : Int64} {x3 : Int64} {x5 : Int32} (h_x5 : zr (0) (4) x5) (hm : (4) - x5.toInt < n), zok (fX12_sample_275 n σ x1 x3 x5) (zIM (zset G 5 (G 5 + 1))) := by
  intro n
  induction n with
  | zero => intro σ hσ x1 x3 x5 h_x5 hm ; have h9 := h_x5.1; have h8 := h_x5.2; exfalso; omega
  | succ n ih => intro σ hσ x1 x3 x5 h_x5 hm ; exact s_X12_sample_275_body (fun σ x1 x3 x5 hσ h_x5 hm1 => ih hσ h_x5 (by omega)) hσ h_x5 g5 (Int.le_refl _)
theorem s_X12_sample_268 {G : Nat → Int} {σ : zSt} (hσ : zIM G σ) (g5 : 0 ≤ G 5 ∧ G 5 ≤ 536870912) : zok (fX12_sample_268 σ ) (zIM (zset G 5 (G 5 + 1))) := by
  unfold fX12_sample_268
  exact (s_X12_sample_275 g5 zfuel hσ (zr_w (zr_c (lo := 0) (hi := 0) (by decide)) (by decide)) (by decide))
theorem s_X12_sample_246 {G : Nat → Int} {σ : zSt} (hσ : zIM G σ) {s0 : Int32} (h_s0 : zr (0) (1) s0) (g5 : 0 ≤ G 5 ∧ G 5 ≤ 536870912) : zok (fX12_sample_246 σ s0) (zIM (zset G 5 (G 5 + 1))) := by
  unfold fX12_sample_246
  refine zok_ck rfl ?_
  refine zok_ck rfl ?_
  refine zok_bs (hσ.wi 85 85 (by decide) (zr_or (lo := 0) (hi := 65535) 16 (zr_shr (lo := 0) (hi := 32767) 1 (by decide) (rM_35 hσ.sg _ (by decide)) (by decide)) (zr_shl (lo := 0) (hi := 32768) 15 (by decide) h_s0 (by decide)) (by decide)) (by decide +kernel)) (fun σ18 e2 i1 => ?_)
  exact (s_X12_sample_268 i1 g5)
theorem s_X12_sample_174 {G : Nat → Int} {σ : zSt} (hσ : zIM G σ) {s0 : Int32} (h_s0 : zr (0) (1023) s0) {s1 : Int32} (h_s1 : zr (83) (83) s1) (g5 : 0 ≤ G 5 ∧ G 5 ≤ 536870912) : zok (fX12_sample_174 σ s0 s1) (zIM (zset G 5 (G 5 + 1))) := by
  unfold fX12_sample_174
  refine zok_ck (zin_ok h_s1 (by decide)) ?_
  refine zok_bs (hσ.wi 83 83 (z_ix h_s1 (by decide)) h_s0 (by decide +kernel)) (fun σ19 e2 i1 => ?_)
  refine zok_ck rfl ?_
  refine zok_ck rfl ?_
  refine zok_bs (i1.wi 84 84 (by decide) zr_any (by decide +kernel)) (fun σ20 e4 i3 => ?_)
  refine zok_ck rfl ?_
  refine zok_if (fun q5 => ?_) (fun q5 => ?_)
  · have h6 := zc_eql (1) (1) q5 zr_any (zr_c (lo := 1) (hi := 1) (by decide)) (by decide)
    refine zok_ck rfl ?_
    refine zok_if (fun q7 => ?_) (fun q7 => ?_)
    · have h8 := zc_ler (4) q7 (zr_c (lo := 4) (hi := 4) (by decide)) (rM_34 i3.sg _ (by decide)) (by decide)
      refine zok_ck rfl ?_
      refine zok_ck rfl ?_
      exact (s_X12_sample_246 i3 (zr_xor (lo := 0) (hi := 1) 1 (zr_andr (lo := 0) (hi := 1) (zr_c (lo := 1) (hi := 1) (by decide)) (by decide)) (zr_andr (lo := 0) (hi := 1) (zr_c (lo := 1) (hi := 1) (by decide)) (by decide)) (by decide)) g5)
    have h9 := zc_ltl (3) (z_nle q7) (rM_34 i3.sg _ (by decide)) (zr_c (lo := 4) (hi := 4) (by decide)) (by decide)
    refine zok_ck rfl ?_
    exact (s_X12_sample_246 i3 (zr_andr (lo := 0) (hi := 1) (zr_c (lo := 1) (hi := 1) (by decide)) (by decide)) g5)
  exact (s_X12_sample_268 i3 g5)
theorem s_X12_sample_129 {G : Nat → Int} {σ : zSt} (hσ : zIM G σ) (g5 : 0 ≤ G 5 ∧ G 5 ≤ 536870912) : zok (fX12_sample_129 σ ) (zIM (zset G 5 (G 5 + 1))) := by
  unfold fX12_sample_129
  refine zok_ck rfl ?_
  refine zok_if (fun q1 => ?_) (fun q1 => ?_)
  · have h2 := zc_eql (0) (0) q1 zr_any (zr_c (lo := 0) (hi := 0) (by decide)) (by decide)
    refine zok_ck rfl ?_
    refine zok_ck (by decide) ?_
    refine zok_br (zr_rem (lo := 0) (hi := 3) 4 (by decide) (rM_34 hσ.sg _ (by decide)) (by decide)) (fun v21 e4 h3 => ?_)
    refine zok_if (fun q5 => ?_) (fun q5 => ?_)
    · have h6 := zc_eql (3) (3) q5 h3 (zr_c (lo := 3) (hi := 3) (by decide)) (by decide)
      refine zok_ck rfl ?_
      exact (s_X12_sample_174 hσ (rM_32 hσ.sg _ (by decide)) (zr_c (lo := 83) (hi := 83) (by decide)) g5)
    have h7 := zc_nel (0) (2) q5 h3 (zr_c (lo := 3) (hi := 3) (by decide)) (by decide)
    exact (s_X12_sample_174 hσ (zr_w (zr_shld (lo := 0) (hi := 64) (zr_c (lo := 16) (hi := 16) (by decide)) h7 (by decide)) (by decide)) (zr_c (lo := 83) (hi := 83) (by decide)) g5)
  exact (s_X12_sample_268 hσ g5)
theorem s_X12_sample_2_body {G : Nat → Int} {σ : zSt} {k2 : zSt → Int32 → Option (zSt)} {Mk2 : Int} (hk2 : ∀ (σ : zSt) (x1 : Int32), zIM G σ → zr (0) (3) x1 → (3) - x1.toInt < Mk2 → zok (k2 σ x1) (zIM (zset G 5 (G 5 + 1)))) (hσ : zIM G σ) {x1 : Int32} (h_x1 : zr (0) (3) x1) (g5 : 0 ≤ G 5 ∧ G 5 ≤ 536870912) (hMk2 : (3) - x1.toInt ≤ Mk2) : zok (fX12_sample_2_body k2 σ x1) (zIM (zset G 5 (G 5 + 1))) := by
  unfold fX12_sample_2_body
  refine zok_if (fun q1 => ?_) (fun q1 => ?_)
  · have h2 := zc_ler (3) q1 (zr_c (lo := 3) (hi := 3) (by decide)) h_x1 (by decide)
    refine zok_ck rfl ?_
    refine zok_if (fun q3 => ?_) (fun q3 => ?_)
    · have h4 := zc_lel (0) q3 zr_any (zr_c (lo := 0) (hi := 0) (by decide)) (by decide)
      exact (s_X12_sample_129 hσ g5)
    have h5 := zc_ltr (1) (z_nle q3) (zr_c (lo := 0) (hi := 0) (by decide)) zr_any (by decide)
    refine zok_ck rfl ?_
    refine zok_ck rfl ?_
    refine zok_bs (hσ.wi 83 83 (by decide) (zr_sub (lo := 0) (hi := 2147483646) h5 (zr_c (lo := 1) (hi := 1) (by decide)) (by decide)) (by decide +kernel)) (fun σ22 e7 i6 => ?_)
    exact (s_X12_sample_129 i6 g5)
  have h8 := zc_ltl (2) (z_nle q1) h_x1 (zr_c (lo := 3) (hi := 3) (by decide)) (by decide)
  refine zok_ck (zin_ok (zr_add (lo := 72) (hi := 74) (zr_c (lo := 72) (hi := 72) (by decide)) h8 (by decide)) (by decide)) ?_
  refine zok_if (fun q9 => ?_) (fun q9 => ?_)
  · have h10 := zc_lel (0) q9 zr_any (zr_c (lo := 0) (hi := 0) (by decide)) (by decide)
    exact (s_X12_sample_32 hk2 hσ h8 g5 hMk2)
  have h11 := zc_ltr (1) (z_nle q9) (zr_c (lo := 0) (hi := 0) (by decide)) zr_any (by decide)
  refine zok_br (zr_add (lo := 72) (hi := 74) (zr_c (lo := 72) (hi := 72) (by decide)) h8 (by decide)) (fun v23 e13 h12 => ?_)
  refine zok_ck (zin_ok h12 (by decide)) ?_
  refine zok_ck (zin_ok h12 (by decide)) ?_
  refine zok_bs (hσ.wi 72 74 (z_ix h12 (by decide)) zr_any (by decide +kernel)) (fun σ24 e15 i14 => ?_)
  exact (s_X12_sample_32 hk2 i14 h8 g5 hMk2)
theorem s_X12_sample_2 {G : Nat → Int} (g5 : 0 ≤ G 5 ∧ G 5 ≤ 536870912) : ∀ (n : Nat) {σ : zSt} (hσ : zIM G σ) {x1 : Int32} (h_x1 : zr (0) (3) x1) (hm : (3) - x1.toInt < n), zok (fX12_sample_2 n σ x1) (zIM (zset G 5 (G 5 + 1))) := by
  intro n
  induction n with
  | zero => intro σ hσ x1 h_x1 hm ; have h9 := h_x1.1; have h8 := h_x1.2; exfalso; omega
  | succ n ih => intro σ hσ x1 h_x1 hm ; exact s_X12_sample_2_body (fun σ x1 hσ h_x1 hm1 => ih hσ h_x1 (by omega)) hσ h_x1 g5 (Int.le_refl _)
theorem s_X12_sample {G : Nat → Int} {σ : zSt} (hσ : zIM G σ) (g5 : 0 ≤ G 5 ∧ G 5 ≤ 536870912) : zok (fX12_sample σ ) (zIM (zset G 5 (G 5 + 1))) := by
  unfold fX12_sample
  exact (s_X12_sample_2 g5 zfuel hσ (zr_w (zr_c (lo := 0) (hi := 0) (by decide)) (by decide)) (by decide))
theorem s_X12_wreg {σ : zSt} (hσ : zPM σ) {x1 : Int32} (h_x1 : zr (0) (63) x1) : zok (fX12_wreg σ x1) (zPi σ (fun v : Int32 => zr (0) (255) v)) := by
  unfold fX12_wreg
  refine zok_ck (zin_ok (zr_add (lo := 98) (hi := 161) (zr_c (lo := 98) (hi := 98) (by decide)) h_x1 (by decide)) (by decide)) ?_
  exact zok_spi (rM_40 hσ.sg _ (z_ix (zr_add (lo := 98) (hi := 161) (zr_c (lo := 98) (hi := 98) (by decide)) h_x1 (by decide)) (by decide)))
theorem s_X12_isRhythm_22 {σ : zSt} (hσ : zPM σ) {s0 : Int32} (h_s0 : zr (0) (1) s0) : zok (fX12_isRhythm_22 σ s0) (zPi σ (fun v : Int32 => zr (0) (1) v)) := by
  unfold fX12_isRhythm_22
  refine zok_ck (zbo_ok h_s0 (by decide)) ?_
  exact zok_spi h_s0
theorem s_X12_isRhythm_21 {σ : zSt} (hσ : zPM σ) : zok (fX12_isRhythm_21 σ ) (zPi σ (fun v : Int32 => zr (0) (1) v)) := by
  unfold fX12_isRhythm_21
  exact (s_X12_isRhythm_22 hσ (zr_w (zr_c (lo := 0) (hi := 0) (by decide)) (by decide)))
theorem s_X12_isRhythm {σ : zSt} (hσ : zPM σ) {x1 : Int32} (h_x1 : zr (0) (8) x1) : zok (fX12_isRhythm σ x1) (zPi σ (fun v : Int32 => zr (0) (1) v)) := by
  unfold fX12_isRhythm
  refine zok_if (fun q1 => ?_) (fun q1 => ?_)
  · have h2 := zc_lel (5) q1 h_x1 (zr_c (lo := 5) (hi := 5) (by decide)) (by decide)
    exact (s_X12_isRhythm_21 hσ)
  have h3 := zc_ltr (6) (z_nle q1) (zr_c (lo := 5) (hi := 5) (by decide)) h_x1 (by decide)
  refine zok_pi (s_X12_wreg hσ (zr_w (zr_c (lo := 14) (hi := 14) (by decide)) (by decide))) (fun v2 h4 => ?_)
  refine zok_if (fun q5 => ?_) (fun q5 => ?_)
  · have h6 := zc_eql (0) (0) q5 (zr_andr (lo := 0) (hi := 32) (zr_c (lo := 32) (hi := 32) (by decide)) (by decide)) (zr_c (lo := 0) (hi := 0) (by decide)) (by decide)
    exact (s_X12_isRhythm_21 hσ)
  have h7 := zc_nel (1) (32) q5 (zr_andr (lo := 0) (hi := 32) (zr_c (lo := 32) (hi := 32) (by decide)) (by decide)) (zr_c (lo := 0) (hi := 0) (by decide)) (by decide)
  exact (s_X12_isRhythm_22 hσ (zr_w (zr_c (lo := 1) (hi := 1) (by decide)) (by decide)))
theorem s_X12_isOn_60 {σ : zSt} (hσ : zPM σ) {x3 : Int32} (h_x3 : zr (0) (1) x3) {s0 : Int32} (h_s0 : zr (0) (4) s0) : zok (fX12_isOn_60 σ x3 s0) (zPi σ (fun v : Int32 => zr (0) (1) v)) := by
  unfold fX12_isOn_60
  refine zok_pi (s_X12_wreg hσ (zr_w (zr_c (lo := 14) (hi := 14) (by decide)) (by decide))) (fun v2 h1 => ?_)
  exact zok_spi (zr_or (lo := 0) (hi := 1) 1 h_x3 (zr_andr (lo := 0) (hi := 1) (zr_c (lo := 1) (hi := 1) (by decide)) (by decide)) (by decide))
theorem s_X12_isOn {σ : zSt} (hσ : zPM σ) {x1 : Int32} (h_x1 : zr (0) (8) x1) {x2 : Int32} (h_x2 : zr (0) (1) x2) : zok (fX12_isOn σ x1 x2) (zPi σ (fun v : Int32 => zr (0) (1) v)) := by
  unfold fX12_isOn
  refine zok_pi (s_X12_wreg hσ (zr_w (zr_add (lo := 32) (hi := 40) (zr_c (lo := 32) (hi := 32) (by decide)) h_x1 (by decide)) (by decide))) (fun v4 h1 => ?_)
  refine zok_br (zr_andr (lo := 0) (hi := 1) (zr_c (lo := 1) (hi := 1) (by decide)) (by decide)) (fun v5 e3 h2 => ?_)
  refine zok_pi (s_X12_isRhythm hσ h_x1) (fun v7 h4 => ?_)
  refine zok_if (fun q5 => ?_) (fun q5 => ?_)
  · have h6 := zc_eql (0) (0) q5 h4 (zr_c (lo := 0) (hi := 0) (by decide)) (by decide)
    exact zok_spi h2
  have h7 := zc_nel (1) (1) q5 h4 (zr_c (lo := 0) (hi := 0) (by decide)) (by decide)
  refine zok_if (fun q8 => ?_) (fun q8 => ?_)
  · have h9 := zc_eql (6) (6) q8 h_x1 (zr_c (lo := 6) (hi := 6) (by decide)) (by decide)
    exact (s_X12_isOn_60 hσ h2 (zr_w (zr_c (lo := 4) (hi := 4) (by decide)) (by decide)))
  refine zok_if (fun q10 => ?_) (fun q10 => ?_)
  · have h11 := zc_eql (7) (7) q10 h_x1 (zr_c (lo := 7) (hi := 7) (by decide)) (by decide)
    refine zok_if (fun q12 => ?_) (fun q12 => ?_)
    · have h13 := zc_eql (0) (0) q12 h_x2 (zr_c (lo := 0) (hi := 0) (by decide)) (by decide)
      exact (s_X12_isOn_60 hσ h2 (zr_w (zr_c (lo := 0) (hi := 0) (by decide)) (by decide)))
    have h14 := zc_nel (1) (1) q12 h_x2 (zr_c (lo := 0) (hi := 0) (by decide)) (by decide)
    exact (s_X12_isOn_60 hσ h2 (zr_w (zr_c (lo := 3) (hi := 3) (by decide)) (by decide)))
  refine zok_if (fun q15 => ?_) (fun q15 => ?_)
  · have h16 := zc_eql (0) (0) q15 h_x2 (zr_c (lo := 0) (hi := 0) (by decide)) (by decide)
    exact (s_X12_isOn_60 hσ h2 (zr_w (zr_c (lo := 2) (hi := 2) (by decide)) (by decide)))
  have h17 := zc_nel (1) (1) q15 h_x2 (zr_c (lo := 0) (hi := 0) (by decide)) (by decide)
  exact (s_X12_isOn_60 hσ h2 (zr_w (zr_c (lo := 1) (hi := 1) (by decide)) (by decide)))
theorem s_X12_digit_20 {σ : zSt} (hσ : zPM σ) {s0 : Int32} (h_s0 : zr (0) (48) s0) : zok (fX12_digit_20 σ s0) (zPi σ (fun v : Int32 => zr (0) (48) v)) := by
  unfold fX12_digit_20
  exact zok_spi h_s0
theorem s_X12_digit {σ : zSt} (hσ : zPM σ) {x0 : Int32} (h_x0 : zr (48) (102) x0) : zok (fX12_digit σ x0) (zPi σ (fun v : Int32 => zr (0) (48) v)) := by
  unfold fX12_digit
  refine zok_if (fun q1 => ?_) (fun q1 => ?_)
  · have h2 := zc_ler (97) q1 (zr_c (lo := 97) (hi := 97) (by decide)) h_x0 (by decide)
    exact (s_X12_digit_20 hσ (zr_w (zr_add (lo := 10) (hi := 15) (zr_sub (lo := 0) (hi := 5) h2 (zr_c (lo := 97) (hi := 97) (by decide)) (by decide)) (zr_c (lo := 10) (hi := 10) (by decide)) (by decide)) (by decide)))
  have h3 := zc_ltl (96) (z_nle q1) h_x0 (zr_c (lo := 97) (hi := 97) (by decide)) (by decide)
  exact (s_X12_digit_20 hσ (zr_sub (lo := 0) (hi := 48) h3 (zr_c (lo := 48) (hi := 48) (by decide)) (by decide)))
theorem s_X12_patchByte_25 {σ : zSt} (hσ : zPM σ) {x2 : Int32} (h_x2 : zr (0) (7) x2) {s0 : Int32} (h_s0 : zr (0) (18) s0) : zok (fX12_patchByte_25 σ x2 s0) (zPi σ (fun v : Int32 => zr (0) (816) v)) := by
  unfold fX12_patchByte_25
  refine zok_if (fun q1 => ?_) (fun q1 => ?_)
  · have h2 := zc_eql (0) (0) q1 h_s0 (zr_c (lo := 0) (hi := 0) (by decide)) (by decide)
    refine zok_pi (s_X12_wreg hσ (zr_w h_x2 (by decide))) (fun v7 h3 => ?_)
    exact zok_spi (zr_w h3 (by decide))
  have h4 := zc_nel (1) (18) q1 h_s0 (zr_c (lo := 0) (hi := 0) (by decide)) (by decide)
  refine zok_br (zr_add (lo := 0) (hi := 286) (zr_mul (lo := 0) (hi := 272) (zr_c (lo := 16) (hi := 16) (by decide)) (zr_sub (lo := 0) (hi := 17) h4 (zr_c (lo := 1) (hi := 1) (by decide)) (by decide)) (by decide)) (zr_mul (lo := 0) (hi := 14) (zr_c (lo := 2) (hi := 2) (by decide)) h_x2 (by decide)) (by decide)) (fun v1 e6 h5 => ?_)
  refine zok_ck (by decide) ?_
  refine zok_ck (zin_ok h5 (by decide +kernel)) ?_
  refine zok_pi (s_X12_digit hσ (zkC70_r _ (z_ixlt h5 (by decide)))) (fun v3 h7 => ?_)
  refine zok_ck (by decide) ?_
  refine zok_ck (zin_ok (zr_add (lo := 1) (hi := 287) h5 (zr_c (lo := 1) (hi := 1) (by decide)) (by decide)) (by decide +kernel)) ?_
  refine zok_pi (s_X12_digit hσ (zkC70_r _ (z_ixlt (zr_add (lo := 1) (hi := 287) h5 (zr_c (lo := 1) (hi := 1) (by decide)) (by decide)) (by decide)))) (fun v5 h8 => ?_)
  exact zok_spi (zr_add (lo := 0) (hi := 816) (zr_mul (lo := 0) (hi := 768) (zr_c (lo := 16) (hi := 16) (by decide)) h7 (by decide)) h8 (by decide))
theorem s_X12_patchByte {σ : zSt} (hσ : zPM σ) {x1 : Int32} (h_x1 : zr (0) (8) x1) {x2 : Int32} (h_x2 : zr (0) (7) x2) : zok (fX12_patchByte σ x1 x2) (zPi σ (fun v : Int32 => zr (0) (816) v)) := by
  unfold fX12_patchByte
  refine zok_pi (s_X12_isRhythm hσ h_x1) (fun v9 h1 => ?_)
  refine zok_if (fun q2 => ?_) (fun q2 => ?_)
  · have h3 := zc_eql (0) (0) q2 h1 (zr_c (lo := 0) (hi := 0) (by decide)) (by decide)
    refine zok_pi (s_X12_wreg hσ (zr_w (zr_add (lo := 48) (hi := 56) (zr_c (lo := 48) (hi := 48) (by decide)) h_x1 (by decide)) (by decide))) (fun v11 h4 => ?_)
    exact (s_X12_patchByte_25 hσ h_x2 (zr_w (zr_shr (lo := 0) (hi := 15) 4 (by decide) h4 (by decide)) (by decide)))
  have h5 := zc_nel (1) (1) q2 h1 (zr_c (lo := 0) (hi := 0) (by decide)) (by decide)
  exact (s_X12_patchByte_25 hσ h_x2 (zr_w (zr_add (lo := 10) (hi := 18) h_x1 (zr_c (lo := 10) (hi := 10) (by decide)) (by decide)) (by decide)))
theorem s_X12_rate_140 {σ : zSt} (hσ : zPM σ) {s0 : Int32} (h_s0 : zr (0) (15) s0) : zok (fX12_rate_140 σ s0) (zPi σ (fun v : Int32 => zr (0) (51) v)) := by
  unfold fX12_rate_140
  exact zok_spi (zr_w h_s0 (by decide))
theorem s_X12_rate_99 {σ : zSt} (hσ : zPM σ) {s0 : Int32} (h_s0 : zr (0) (15) s0) : zok (fX12_rate_99 σ s0) (zPi σ (fun v : Int32 => zr (0) (51) v)) := by
  unfold fX12_rate_99
  exact zok_spi (zr_w h_s0 (by decide))
theorem s_X12_rate_17 {σ : zSt} (hσ : zPM σ) {x1 : Int32} {x2 : Int32} (h_x2 : zr (0) (8) x2) {x3 : Int32} (h_x3 : zr (0) (1) x3) {s0 : Int32} (h_s0 : zr (0) (1) s0) : zok (fX12_rate_17 σ x1 x2 x3 s0) (zPi σ (fun v : Int32 => zr (0) (51) v)) := by
  unfold fX12_rate_17
  refine zok_if (fun q1 => ?_) (fun q1 => ?_)
  · have h2 := zc_eql (0) (0) q1 zr_any (zr_c (lo := 0) (hi := 0) (by decide)) (by decide)
    exact zok_spi (zr_w (zr_c (lo := 12) (hi := 12) (by decide)) (by decide))
  refine zok_if (fun q3 => ?_) (fun q3 => ?_)
  · have h4 := zc_eql (1) (1) q3 zr_any (zr_c (lo := 1) (hi := 1) (by decide)) (by decide)
    refine zok_pi (s_X12_patchByte hσ h_x2 (zr_w (zr_add (lo := 4) (hi := 5) (zr_c (lo := 4) (hi := 4) (by decide)) h_x3 (by decide)) (by decide))) (fun v2 h5 => ?_)
    exact zok_spi (zr_shr (lo := 0) (hi := 51) 4 (by decide) h5 (by decide))
  refine zok_if (fun q6 => ?_) (fun q6 => ?_)
  · have h7 := zc_eql (2) (2) q6 zr_any (zr_c (lo := 2) (hi := 2) (by decide)) (by decide)
    refine zok_pi (s_X12_patchByte hσ h_x2 (zr_w (zr_add (lo := 4) (hi := 5) (zr_c (lo := 4) (hi := 4) (by decide)) h_x3 (by decide)) (by decide))) (fun v4 h8 => ?_)
    exact zok_spi (zr_w (zr_andr (lo := 0) (hi := 15) (zr_c (lo := 15) (hi := 15) (by decide)) (by decide)) (by decide))
  refine zok_if (fun q9 => ?_) (fun q9 => ?_)
  · have h10 := zc_eql (3) (3) q9 zr_any (zr_c (lo := 3) (hi := 3) (by decide)) (by decide)
    refine zok_if (fun q11 => ?_) (fun q11 => ?_)
    · have h12 := zc_eql (0) (0) q11 h_s0 (zr_c (lo := 0) (hi := 0) (by decide)) (by decide)
      refine zok_pi (s_X12_patchByte hσ h_x2 (zr_w (zr_add (lo := 6) (hi := 7) (zr_c (lo := 6) (hi := 6) (by decide)) h_x3 (by decide)) (by decide))) (fun v6 h13 => ?_)
      exact (s_X12_rate_99 hσ (zr_andr (lo := 0) (hi := 15) (zr_c (lo := 15) (hi := 15) (by decide)) (by decide)))
    have h14 := zc_nel (1) (1) q11 h_s0 (zr_c (lo := 0) (hi := 0) (by decide)) (by decide)
    exact (s_X12_rate_99 hσ (zr_w (zr_c (lo := 0) (hi := 0) (by decide)) (by decide)))
  refine zok_pi (s_X12_wreg hσ (zr_w (zr_add (lo := 32) (hi := 40) (zr_c (lo := 32) (hi := 32) (by decide)) h_x2 (by decide)) (by decide))) (fun v8 h15 => ?_)
  refine zok_if (fun q16 => ?_) (fun q16 => ?_)
  · have h17 := zc_eql (0) (0) q16 (zr_andr (lo := 0) (hi := 32) (zr_c (lo := 32) (hi := 32) (by decide)) (by decide)) (zr_c (lo := 0) (hi := 0) (by decide)) (by decide)
    refine zok_if (fun q18 => ?_) (fun q18 => ?_)
    · have h19 := zc_eql (0) (0) q18 h_s0 (zr_c (lo := 0) (hi := 0) (by decide)) (by decide)
      exact (s_X12_rate_140 hσ (zr_w (zr_c (lo := 7) (hi := 7) (by decide)) (by decide)))
    have h20 := zc_nel (1) (1) q18 h_s0 (zr_c (lo := 0) (hi := 0) (by decide)) (by decide)
    refine zok_pi (s_X12_patchByte hσ h_x2 (zr_w (zr_add (lo := 6) (hi := 7) (zr_c (lo := 6) (hi := 6) (by decide)) h_x3 (by decide)) (by decide))) (fun v10 h21 => ?_)
    exact (s_X12_rate_140 hσ (zr_andr (lo := 0) (hi := 15) (zr_c (lo := 15) (hi := 15) (by decide)) (by decide)))
  have h22 := zc_nel (1) (32) q16 (zr_andr (lo := 0) (hi := 32) (zr_c (lo := 32) (hi := 32) (by decide)) (by decide)) (zr_c (lo := 0) (hi := 0) (by decide)) (by decide)
  exact (s_X12_rate_140 hσ (zr_w (zr_c (lo := 5) (hi := 5) (by decide)) (by decide)))
theorem s_X12_rate {σ : zSt} (hσ : zPM σ) {x1 : Int32} {x2 : Int32} (h_x2 : zr (0) (8) x2) {x3 : Int32} (h_x3 : zr (0) (1) x3) : zok (fX12_rate σ x1 x2 x3) (zPi σ (fun v : Int32 => zr (0) (51) v)) := by
  unfold fX12_rate
  refine zok_pi (s_X12_patchByte hσ h_x2 (zr_w h_x3 (by decide))) (fun v12 h1 => ?_)
  refine zok_if (fun q2 => ?_) (fun q2 => ?_)
  · have h3 := zc_eql (0) (0) q2 (zr_andr (lo := 0) (hi := 32) (zr_c (lo := 32) (hi := 32) (by decide)) (by decide)) (zr_c (lo := 0) (hi := 0) (by decide)) (by decide)
    exact (s_X12_rate_17 hσ h_x2 h_x3 (zr_w (zr_c (lo := 0) (hi := 0) (by decide)) (by decide)))
  have h4 := zc_nel (1) (32) q2 (zr_andr (lo := 0) (hi := 32) (zr_c (lo := 32) (hi := 32) (by decide)) (by decide)) (zr_c (lo := 0) (hi := 0) (by decide)) (by decide)
  exact (s_X12_rate_17 hσ h_x2 h_x3 (zr_w (zr_c (lo := 1) (hi := 1) (by decide)) (by decide)))
theorem s_X12_block {σ : zSt} (hσ : zPM σ) {x1 : Int32} (h_x1 : zr (0) (8) x1) : zok (fX12_block σ x1) (zPi σ (fun v : Int32 => zr (0) (7) v)) := by
  unfold fX12_block
  refine zok_pi (s_X12_wreg hσ (zr_w (zr_add (lo := 32) (hi := 40) (zr_c (lo := 32) (hi := 32) (by decide)) h_x1 (by decide)) (by decide))) (fun v2 h1 => ?_)
  exact zok_spi (zr_andr (lo := 0) (hi := 7) (zr_c (lo := 7) (hi := 7) (by decide)) (by decide))
theorem s_X12_f {σ : zSt} (hσ : zPM σ) {x1 : Int32} (h_x1 : zr (0) (8) x1) : zok (fX12_f σ x1) (zPi σ (fun v : Int32 => zr (0) (511) v)) := by
  unfold fX12_f
  refine zok_pi (s_X12_wreg hσ (zr_w (zr_add (lo := 16) (hi := 24) (zr_c (lo := 16) (hi := 16) (by decide)) h_x1 (by decide)) (by decide))) (fun v2 h1 => ?_)
  refine zok_pi (s_X12_wreg hσ (zr_w (zr_add (lo := 32) (hi := 40) (zr_c (lo := 32) (hi := 32) (by decide)) h_x1 (by decide)) (by decide))) (fun v4 h2 => ?_)
  exact zok_spi (zr_or (lo := 0) (hi := 511) 9 h1 (zr_shl (lo := 0) (hi := 256) 8 (by decide) (zr_andr (lo := 0) (hi := 1) (zr_c (lo := 1) (hi := 1) (by decide)) (by decide)) (by decide)) (by decide))
theorem s_X12_t_40 {σ : zSt} (hσ : zPM σ) {s0 : Int32} (h_s0 : zr (0) (1) s0) : zok (fX12_t_40 σ s0) (zPi σ (fun v : Int32 => zr (0) (1) v)) := by
  unfold fX12_t_40
  exact zok_spi h_s0
theorem s_X12_t_35 {σ : zSt} (hσ : zPM σ) : zok (fX12_t_35 σ ) (zPi σ (fun v : Int32 => zr (0) (1) v)) := by
  unfold fX12_t_35
  exact (s_X12_t_40 hσ (zr_w (zr_c (lo := 1) (hi := 1) (by decide)) (by decide)))
theorem s_X12_t_39 {σ : zSt} (hσ : zPM σ) : zok (fX12_t_39 σ ) (zPi σ (fun v : Int32 => zr (0) (1) v)) := by
  unfold fX12_t_39
  exact (s_X12_t_40 hσ (zr_w (zr_c (lo := 0) (hi := 0) (by decide)) (by decide)))
theorem s_X12_t_19 {σ : zSt} (hσ : zPM σ) {x0 : Int32} {x1 : Int32} (h_x1 : zr (0) (3) x1) : zok (fX12_t_19 σ x0 x1) (zPi σ (fun v : Int32 => zr (0) (1) v)) := by
  unfold fX12_t_19
  refine zok_if (fun q1 => ?_) (fun q1 => ?_)
  · have h2 := zc_lel (1) q1 h_x1 (zr_c (lo := 1) (hi := 1) (by decide)) (by decide)
    exact (s_X12_t_39 hσ)
  have h3 := zc_ltr (2) (z_nle q1) (zr_c (lo := 1) (hi := 1) (by decide)) h_x1 (by decide)
  refine zok_if (fun q4 => ?_) (fun q4 => ?_)
  · have h5 := zc_eql (2) (2) q4 zr_any (zr_c (lo := 2) (hi := 2) (by decide)) (by decide)
    exact (s_X12_t_35 hσ)
  refine zok_if (fun q6 => ?_) (fun q6 => ?_)
  · have h7 := zc_eql (6) (6) q6 zr_any (zr_c (lo := 6) (hi := 6) (by decide)) (by decide)
    exact (s_X12_t_35 hσ)
  exact (s_X12_t_39 hσ)
theorem s_X12_t {σ : zSt} (hσ : zPM σ) {x0 : Int32} {x1 : Int32} (h_x1 : zr (0) (3) x1) : zok (fX12_t σ x0 x1) (zPi σ (fun v : Int32 => zr (0) (1) v)) := by
  unfold fX12_t
  refine zok_ck (by decide) ?_
  refine zok_if (fun q1 => ?_) (fun q1 => ?_)
  · have h2 := zc_eql (1) (1) q1 zr_any (zr_c (lo := 1) (hi := 1) (by decide)) (by decide)
    exact (s_X12_t_35 hσ)
  refine zok_ck (by decide) ?_
  refine zok_if (fun q4 => ?_) (fun q4 => ?_)
  · have h5 := zc_eql (1) (1) q4 (zr_rem (lo := 0) (hi := 1) 2 (by decide) h_x1 (by decide)) (zr_c (lo := 1) (hi := 1) (by decide)) (by decide)
    have h6 := z_odd64 h_x1 h5 (by decide)
    refine zok_if (fun q7 => ?_) (fun q7 => ?_)
    · have h8 := zc_eql (4) (4) q7 zr_any (zr_c (lo := 4) (hi := 4) (by decide)) (by decide)
      exact (s_X12_t_35 hσ)
    exact (s_X12_t_19 hσ h_x1)
  have h9 := zc_nel (0) (0) q4 (zr_rem (lo := 0) (hi := 1) 2 (by decide) h_x1 (by decide)) (zr_c (lo := 1) (hi := 1) (by decide)) (by decide)
  exact (s_X12_t_19 hσ h_x1)
theorem s_X12_envelope_275 {G : Nat → Int} {σ : zSt} (hσ : zIM G σ) {s0 : Int32} (h_s0 : zr (0) (127) s0) {s1 : Int32} (h_s1 : zr (172) (274) s1) (t_s1 : zat 0 s1) : zok (fX12_envelope_275 σ s0 s1) (zIM G) := by
  unfold fX12_envelope_275
  refine zok_ck (zin_ok h_s1 (by decide)) ?_
  refine zok_bs (hσ.lv t_s1 h_s0 (by decide)) (fun σ1 e2 i1 => ?_)
  exact zok_some i1
theorem s_X12_envelope_259 {G : Nat → Int} {σ : zSt} (hσ : zIM G σ) {x1 : Int32} (h_x1 : zr (172) (274) x1) {x15 : Int32} (h_x15 : zr (-128) (127) x15) (t_x1 : zat 0 x1) : zok (fX12_envelope_259 σ x1 x15) (zIM G) := by
  unfold fX12_envelope_259
  refine zok_if (fun q1 => ?_) (fun q1 => ?_)
  · have h2 := zc_ler (0) q1 (zr_c (lo := 0) (hi := 0) (by decide)) h_x15 (by decide)
    exact (s_X12_envelope_275 hσ h2 h_x1 t_x1)
  have h3 := zc_ltl (-1) (z_nle q1) h_x15 (zr_c (lo := 0) (hi := 0) (by decide)) (by decide)
  exact (s_X12_envelope_275 hσ (zr_w (zr_c (lo := 0) (hi := 0) (by decide)) (by decide)) h_x1 t_x1)
theorem s_X12_envelope_220 {G : Nat → Int} {σ : zSt} (hσ : zIM G σ) {x1 : Int32} (h_x1 : zr (172) (274) x1) {s0 : Int32} (h_s0 : zr (-8) (127) s0) (t_x1 : zat 0 x1) : zok (fX12_envelope_220 σ x1 s0) (zIM G) := by
  unfold fX12_envelope_220
  exact (s_X12_envelope_259 hσ h_x1 (zr_w h_s0 (by decide)) t_x1)
theorem s_X12_envelope_257 {G : Nat → Int} {σ : zSt} (hσ : zIM G σ) {x1 : Int32} (h_x1 : zr (172) (274) x1) {s0 : Int32} (h_s0 : zr (-128) (126) s0) (t_x1 : zat 0 x1) : zok (fX12_envelope_257 σ x1 s0) (zIM G) := by
  unfold fX12_envelope_257
  exact (s_X12_envelope_259 hσ h_x1 (zr_w h_s0 (by decide)) t_x1)
theorem s_X12_envelope_358 {G : Nat → Int} {σ : zSt} (hσ : zIM G σ) {s0 : Int32} (h_s0 : zr (0) (127) s0) {s1 : Int32} (h_s1 : zr (172) (274) s1) (t_s1 : zat 0 s1) : zok (fX12_envelope_358 σ s0 s1) (zIM G) := by
  unfold fX12_envelope_358
  refine zok_ck (zin_ok h_s1 (by decide)) ?_
  refine zok_bs (hσ.lv t_s1 h_s0 (by decide)) (fun σ2 e2 i1 => ?_)
  exact zok_some i1
theorem s_X12_envelope_336 {G : Nat → Int} {σ : zSt} (hσ : zIM G σ) {x1 : Int32} (h_x1 : zr (172) (274) x1) {s0 : Int32} (h_s0 : zr (0) (2) s0) {s1 : Int32} (h_s1 : zr (0) (127) s1) (t_x1 : zat 0 x1) : zok (fX12_envelope_336 σ x1 s0 s1) (zIM G) := by
  unfold fX12_envelope_336
  refine zok_br (zr_add (lo := 0) (hi := 129) h_s1 h_s0 (by decide)) (fun v3 e2 h1 => ?_)
  refine zok_if (fun q3 => ?_) (fun q3 => ?_)
  · have h4 := zc_lel (127) q3 h1 (zr_c (lo := 127) (hi := 127) (by decide)) (by decide)
    exact (s_X12_envelope_358 hσ h4 h_x1 t_x1)
  have h5 := zc_ltr (128) (z_nle q3) (zr_c (lo := 127) (hi := 127) (by decide)) h1 (by decide)
  exact (s_X12_envelope_358 hσ (zr_w (zr_c (lo := 127) (hi := 127) (by decide)) (by decide)) h_x1 t_x1)
theorem s_X12_envelope_159 {G : Nat → Int} {σ : zSt} (hσ : zIM G σ) {x1 : Int32} (h_x1 : zr (172) (274) x1) {x4 : Int32} {x7 : Int32} (h_x7 : zr (1) (15) x7) {x8 : Int32} (h_x8 : zr (0) (3) x8) {x9 : Int64} {s0 : Int32} (h_s0 : zr (0) (1) s0) (t_x1 : zat 0 x1) : zok (fX12_envelope_159 σ x1 x4 x7 x8 x9 s0) (zIM G) := by
  unfold fX12_envelope_159
  refine zok_ck (by decide) ?_
  refine zok_ck (by decide) ?_
  refine zok_bv (fun v4 e2 => ?_)
  refine zok_ck (zin_ok h_x1 (by decide)) ?_
  refine zok_br (rM_lv hσ.Y t_x1) (fun v5 e4 h3 => ?_)
  refine zok_if (fun q5 => ?_) (fun q5 => ?_)
  · have h6 := zc_eql (1) (1) q5 zr_any (zr_c (lo := 1) (hi := 1) (by decide)) (by decide)
    refine zok_if (fun q7 => ?_) (fun q7 => ?_)
    · have h8 := zc_ler (12) q7 (zr_c (lo := 12) (hi := 12) (by decide)) h_x7 (by decide)
      refine zok_if (fun q9 => ?_) (fun q9 => ?_)
      · have h10 := zc_eql (15) (15) q9 h8 (zr_c (lo := 15) (hi := 15) (by decide)) (by decide)
        exact (s_X12_envelope_257 hσ h_x1 (zr_w (zr_c (lo := 0) (hi := 0) (by decide)) (by decide)) t_x1)
      have h11 := zc_nel (12) (14) q9 h8 (zr_c (lo := 15) (hi := 15) (by decide)) (by decide)
      refine zok_pi (s_X12_t hσ.P h_x8) (fun v11 h12 => ?_)
      exact (s_X12_envelope_257 hσ h_x1 (zr_sub (lo := -128) (hi := 126) (zr_sub (lo := -127) (hi := 127) h3 (zr_shra (lo := 0) (hi := 127) h3 (by decide)) (by decide)) (zr_c (lo := 1) (hi := 1) (by decide)) (by decide)) t_x1)
    have h13 := zc_ltl (11) (z_nle q7) h_x7 (zr_c (lo := 12) (hi := 12) (by decide)) (by decide)
    refine zok_if (fun q14 => ?_) (fun q14 => ?_)
    · have h15 := zc_eql (1) (1) q14 h_s0 (zr_c (lo := 1) (hi := 1) (by decide)) (by decide)
      refine zok_ck (by decide) ?_
      exact (s_X12_envelope_220 hσ h_x1 (zr_w (zr_sub (lo := -8) (hi := 126) (zr_sub (lo := -7) (hi := 127) h3 (zr_div (lo := 0) (hi := 7) 16 (by decide) h3 (by decide)) (by decide)) (zr_c (lo := 1) (hi := 1) (by decide)) (by decide)) (by decide)) t_x1)
    have h16 := zc_nel (0) (0) q14 h_s0 (zr_c (lo := 1) (hi := 1) (by decide)) (by decide)
    exact (s_X12_envelope_220 hσ h_x1 (zr_w h3 (by decide)) t_x1)
  refine zok_if (fun q17 => ?_) (fun q17 => ?_)
  · have h18 := zc_ler (13) q17 (zr_c (lo := 13) (hi := 13) (by decide)) h_x7 (by decide)
    refine zok_if (fun q19 => ?_) (fun q19 => ?_)
    · have h20 := zc_eql (13) (13) q19 h18 (zr_c (lo := 13) (hi := 13) (by decide)) (by decide)
      refine zok_ck (by decide) ?_
      refine zok_pi (s_X12_t hσ.P h_x8) (fun v9 h21 => ?_)
      exact (s_X12_envelope_336 hσ h_x1 (zr_w h21 (by decide)) h3 t_x1)
    have h22 := zc_nel (14) (15) q19 h18 (zr_c (lo := 13) (hi := 13) (by decide)) (by decide)
    refine zok_if (fun q23 => ?_) (fun q23 => ?_)
    · have h24 := zc_eql (14) (14) q23 h22 (zr_c (lo := 14) (hi := 14) (by decide)) (by decide)
      refine zok_pi (s_X12_t hσ.P h_x8) (fun v7 h25 => ?_)
      exact (s_X12_envelope_336 hσ h_x1 (zr_w (zr_add (lo := 1) (hi := 2) h25 (zr_c (lo := 1) (hi := 1) (by decide)) (by decide)) (by decide)) h3 t_x1)
    have h26 := zc_nel (15) (15) q23 h22 (zr_c (lo := 14) (hi := 14) (by decide)) (by decide)
    exact (s_X12_envelope_336 hσ h_x1 (zr_w (zr_c (lo := 2) (hi := 2) (by decide)) (by decide)) h3 t_x1)
  have h27 := zc_ltl (12) (z_nle q17) h_x7 (zr_c (lo := 13) (hi := 13) (by decide)) (by decide)
  exact (s_X12_envelope_336 hσ h_x1 (zr_w h_s0 (by decide)) h3 t_x1)
theorem s_X12_envelope_158 {G : Nat → Int} {σ : zSt} (hσ : zIM G σ) {x1 : Int32} (h_x1 : zr (172) (274) x1) {x4 : Int32} {x7 : Int32} (h_x7 : zr (1) (15) x7) {x8 : Int32} (h_x8 : zr (0) (3) x8) {x9 : Int64} (t_x1 : zat 0 x1) : zok (fX12_envelope_158 σ x1 x4 x7 x8 x9) (zIM G) := by
  unfold fX12_envelope_158
  exact (s_X12_envelope_159 hσ h_x1 h_x7 h_x8 (zr_w (zr_c (lo := 0) (hi := 0) (by decide)) (by decide)) t_x1)
theorem s_X12_envelope_121 {G : Nat → Int} {σ : zSt} (hσ : zIM G σ) {x1 : Int32} (h_x1 : zr (172) (274) x1) {x4 : Int32} {x7 : Int32} (h_x7 : zr (1) (15) x7) {x8 : Int32} (h_x8 : zr (0) (3) x8) {x9 : Int64} {s0 : Int64} (h_s0 : zrl (1) (8192) s0) (t_x1 : zat 0 x1) : zok (fX12_envelope_121 σ x1 x4 x7 x8 x9 s0) (zIM G) := by
  unfold fX12_envelope_121
  refine zok_if (fun q1 => ?_) (fun q1 => ?_)
  · have h2 := zc_ler (13) q1 (zr_c (lo := 13) (hi := 13) (by decide)) h_x7 (by decide)
    exact (s_X12_envelope_158 hσ h_x1 (zr_w h2 (by decide)) h_x8 t_x1)
  have h3 := zc_ltl (12) (z_nle q1) h_x7 (zr_c (lo := 13) (hi := 13) (by decide)) (by decide)
  refine zok_ck (zdvl_ok h_s0 (by decide)) ?_
  refine zok_if (fun q4 => ?_) (fun q4 => ?_)
  · refine zok_ck (zdvl_ok h_s0 (by decide)) ?_
    refine zok_ck (by decide) ?_
    refine zok_pi (s_X12_t hσ.P h_x8) (fun v13 h5 => ?_)
    exact (s_X12_envelope_159 hσ h_x1 (zr_w h3 (by decide)) h_x8 h5 t_x1)
  exact (s_X12_envelope_158 hσ h_x1 (zr_w h3 (by decide)) h_x8 t_x1)
theorem s_X12_envelope_87 {G : Nat → Int} {σ : zSt} (hσ : zIM G σ) {x1 : Int32} (h_x1 : zr (172) (274) x1) {x4 : Int32} {x6 : Int32} (h_x6 : zr (0) (15) x6) {s0 : Int32} (h_s0 : zr (1) (15) s0) (t_x1 : zat 0 x1) : zok (fX12_envelope_87 σ x1 x4 x6 s0) (zIM G) := by
  unfold fX12_envelope_87
  refine zok_ck (by decide) ?_
  refine zok_br (zr_rem (lo := 0) (hi := 3) 4 (by decide) h_x6 (by decide)) (fun v14 e2 h1 => ?_)
  refine zok_ck rfl ?_
  refine zok_bv (fun v15 e4 => ?_)
  refine zok_if (fun q5 => ?_) (fun q5 => ?_)
  · have h6 := zc_ler (13) q5 (zr_c (lo := 13) (hi := 13) (by decide)) h_s0 (by decide)
    exact (s_X12_envelope_121 hσ h_x1 (zr_w h6 (by decide)) h1 (zrl_w (zrl_c (lo := 1) (hi := 1) (by decide)) (by decide)) t_x1)
  have h7 := zc_ltl (12) (z_nle q5) h_s0 (zr_c (lo := 13) (hi := 13) (by decide)) (by decide)
  exact (s_X12_envelope_121 hσ h_x1 (zr_w h7 (by decide)) h1 (zrl_shl (lo := 1) (hi := 8192) (zr_sub (lo := 1) (hi := 12) (zr_c (lo := 13) (hi := 13) (by decide)) h7 (by decide)) (by decide)) t_x1)
theorem s_X12_envelope_63 {G : Nat → Int} {σ : zSt} (hσ : zIM G σ) {x1 : Int32} (h_x1 : zr (172) (274) x1) {x4 : Int32} {x5 : Int32} (h_x5 : zr (1) (51) x5) {x6 : Int32} (h_x6 : zr (0) (15) x6) (t_x1 : zat 0 x1) : zok (fX12_envelope_63 σ x1 x4 x5 x6) (zIM G) := by
  unfold fX12_envelope_63
  refine zok_ck (by decide) ?_
  refine zok_if (fun q1 => ?_) (fun q1 => ?_)
  · have h2 := zc_lel (15) q1 (zr_add (lo := 1) (hi := 54) h_x5 (zr_div (lo := 0) (hi := 3) 4 (by decide) h_x6 (by decide)) (by decide)) (zr_c (lo := 15) (hi := 15) (by decide)) (by decide)
    refine zok_ck (by decide) ?_
    exact (s_X12_envelope_87 hσ h_x1 h_x6 h2 t_x1)
  have h3 := zc_ltr (16) (z_nle q1) (zr_c (lo := 15) (hi := 15) (by decide)) (zr_add (lo := 1) (hi := 54) h_x5 (zr_div (lo := 0) (hi := 3) 4 (by decide) h_x6 (by decide)) (by decide)) (by decide)
  exact (s_X12_envelope_87 hσ h_x1 h_x6 (zr_w (zr_c (lo := 15) (hi := 15) (by decide)) (by decide)) t_x1)
theorem s_X12_envelope {G : Nat → Int} {σ : zSt} (hσ : zIM G σ) {x1 : Int32} (h_x1 : zr (172) (274) x1) {x2 : Int32} (h_x2 : zr (0) (8) x2) {x3 : Int32} (h_x3 : zr (0) (1) x3) (t_x1 : zat 0 x1) : zok (fX12_envelope σ x1 x2 x3) (zIM G) := by
  unfold fX12_envelope
  refine zok_ck (zin_ok (zr_add (lo := 173) (hi := 275) h_x1 (zr_c (lo := 1) (hi := 1) (by decide)) (by decide)) (by decide)) ?_
  refine zok_bv (fun v16 e2 => ?_)
  refine zok_pi (s_X12_rate hσ.P h_x2 h_x3) (fun v18 h3 => ?_)
  refine zok_if (fun q4 => ?_) (fun q4 => ?_)
  · have h5 := zc_eql (0) (0) q4 h3 (zr_c (lo := 0) (hi := 0) (by decide)) (by decide)
    exact zok_some hσ
  have h6 := zc_nel (1) (51) q4 h3 (zr_c (lo := 0) (hi := 0) (by decide)) (by decide)
  refine zok_pi (s_X12_block hσ.P h_x2) (fun v20 h7 => ?_)
  refine zok_pi (s_X12_f hσ.P h_x2) (fun v22 h8 => ?_)
  refine zok_ck (by decide) ?_
  refine zok_br (zr_add (lo := 0) (hi := 15) (zr_mul (lo := 0) (hi := 14) (zr_c (lo := 2) (hi := 2) (by decide)) h7 (by decide)) (zr_div (lo := 0) (hi := 1) 256 (by decide) h8 (by decide)) (by decide)) (fun v23 e10 h9 => ?_)
  refine zok_pi (s_X12_patchByte hσ.P h_x2 (zr_w h_x3 (by decide))) (fun v25 h11 => ?_)
  refine zok_if (fun q12 => ?_) (fun q12 => ?_)
  · have h13 := zc_eql (0) (0) q12 (zr_andr (lo := 0) (hi := 16) (zr_c (lo := 16) (hi := 16) (by decide)) (by decide)) (zr_c (lo := 0) (hi := 0) (by decide)) (by decide)
    refine zok_ck (by decide) ?_
    refine zok_br (zr_div (lo := 0) (hi := 3) 4 (by decide) h9 (by decide)) (fun v26 e15 h14 => ?_)
    exact (s_X12_envelope_63 hσ h_x1 h6 (zr_w h14 (by decide)) t_x1)
  have h16 := zc_nel (1) (16) q12 (zr_andr (lo := 0) (hi := 16) (zr_c (lo := 16) (hi := 16) (by decide)) (by decide)) (zr_c (lo := 0) (hi := 0) (by decide)) (by decide)
  exact (s_X12_envelope_63 hσ h_x1 h6 h9 t_x1)
theorem s_X12_phase_150 {G : Nat → Int} {σ : zSt} (hσ : zIM G σ) {x1 : Int32} (h_x1 : zr (172) (274) x1) {x2 : Int32} (h_x2 : zr (0) (8) x2) {x5 : Int32} (h_x5 : zr (1) (30) x5) {x6 : Int32} (h_x6 : zr (-7) (7) x6) (t_x1 : zat 0 x1) : zok (fX12_phase_150 σ x1 x2 x5 x6) (zIM G) := by
  unfold fX12_phase_150
  refine zok_ck (zin_ok (zr_add (lo := 174) (hi := 276) h_x1 (zr_c (lo := 2) (hi := 2) (by decide)) (by decide)) (by decide)) ?_
  refine zok_pi (s_X12_f hσ.P h_x2) (fun v2 h1 => ?_)
  refine zok_pi (s_X12_block hσ.P h_x2) (fun v4 h2 => ?_)
  refine zok_ck (by decide) ?_
  refine zok_ck (zin_ok (zr_add (lo := 174) (hi := 276) h_x1 (zr_c (lo := 2) (hi := 2) (by decide)) (by decide)) (by decide)) ?_
  refine zok_bs (hσ.op (zat_add t_x1 (c1 := 2) 2 (by decide) (by decide)) (by decide)) (fun σ5 e4 i3 => ?_)
  exact zok_some i3
theorem s_X12_phase_148 {G : Nat → Int} {σ : zSt} (hσ : zIM G σ) {x1 : Int32} (h_x1 : zr (172) (274) x1) {x2 : Int32} (h_x2 : zr (0) (8) x2) {x5 : Int32} (h_x5 : zr (1) (30) x5) {s0 : Int32} (h_s0 : zr (-7) (7) s0) (t_x1 : zat 0 x1) : zok (fX12_phase_148 σ x1 x2 x5 s0) (zIM G) := by
  unfold fX12_phase_148
  exact (s_X12_phase_150 hσ h_x1 h_x2 h_x5 h_s0 t_x1)
theorem s_X12_phase_132 {G : Nat → Int} {σ : zSt} (hσ : zIM G σ) {x1 : Int32} (h_x1 : zr (172) (274) x1) {x2 : Int32} (h_x2 : zr (0) (8) x2) {x5 : Int32} (h_x5 : zr (1) (30) x5) {x7 : Int32} {s0 : Int32} (h_s0 : zr (0) (7) s0) (t_x1 : zat 0 x1) : zok (fX12_phase_132 σ x1 x2 x5 x7 s0) (zIM G) := by
  unfold fX12_phase_132
  refine zok_if (fun q1 => ?_) (fun q1 => ?_)
  · have h2 := zc_ler (4) q1 (zr_c (lo := 4) (hi := 4) (by decide)) zr_any (by decide)
    exact (s_X12_phase_148 hσ h_x1 h_x2 h_x5 (zr_w (zr_neg (lo := -7) (hi := 0) h_s0 (by decide)) (by decide)) t_x1)
  have h3 := zc_ltl (3) (z_nle q1) zr_any (zr_c (lo := 4) (hi := 4) (by decide)) (by decide)
  exact (s_X12_phase_148 hσ h_x1 h_x2 h_x5 (zr_w h_s0 (by decide)) t_x1)
theorem s_X12_phase_60 {G : Nat → Int} {σ : zSt} (hσ : zIM G σ) {x1 : Int32} (h_x1 : zr (172) (274) x1) {x2 : Int32} (h_x2 : zr (0) (8) x2) {x3 : Int32} (h_x3 : zr (0) (1) x3) {s0 : Int32} (h_s0 : zr (1) (30) s0) (t_x1 : zat 0 x1) : zok (fX12_phase_60 σ x1 x2 x3 s0) (zIM G) := by
  unfold fX12_phase_60
  refine zok_pi (s_X12_patchByte hσ.P h_x2 (zr_w h_x3 (by decide))) (fun v7 h1 => ?_)
  refine zok_if (fun q2 => ?_) (fun q2 => ?_)
  · have h3 := zc_eql (0) (0) q2 (zr_andr (lo := 0) (hi := 64) (zr_c (lo := 64) (hi := 64) (by decide)) (by decide)) (zr_c (lo := 0) (hi := 0) (by decide)) (by decide)
    exact (s_X12_phase_150 hσ h_x1 h_x2 h_s0 (zr_w (zr_c (lo := 0) (hi := 0) (by decide)) (by decide)) t_x1)
  have h4 := zc_nel (1) (64) q2 (zr_andr (lo := 0) (hi := 64) (zr_c (lo := 64) (hi := 64) (by decide)) (by decide)) (zr_c (lo := 0) (hi := 0) (by decide)) (by decide)
  refine zok_ck rfl ?_
  refine zok_ck (by decide) ?_
  refine zok_ck (by decide) ?_
  refine zok_bv (fun v8 e6 => ?_)
  refine zok_pi (s_X12_f hσ.P h_x2) (fun v10 h7 => ?_)
  refine zok_ck (by decide) ?_
  refine zok_br (zr_div (lo := 0) (hi := 7) 64 (by decide) h7 (by decide)) (fun v11 e9 h8 => ?_)
  refine zok_ck (by decide) ?_
  refine zok_if (fun q10 => ?_) (fun q10 => ?_)
  · have h11 := zc_eql (0) (0) q10 zr_any (zr_c (lo := 0) (hi := 0) (by decide)) (by decide)
    exact (s_X12_phase_132 hσ h_x1 h_x2 h_s0 (zr_w (zr_c (lo := 0) (hi := 0) (by decide)) (by decide)) t_x1)
  refine zok_ck (by decide) ?_
  refine zok_if (fun q12 => ?_) (fun q12 => ?_)
  · have h13 := zc_eql (2) (2) q12 zr_any (zr_c (lo := 2) (hi := 2) (by decide)) (by decide)
    exact (s_X12_phase_132 hσ h_x1 h_x2 h_s0 h8 t_x1)
  refine zok_ck (by decide) ?_
  exact (s_X12_phase_132 hσ h_x1 h_x2 h_s0 (zr_w (zr_div (lo := 0) (hi := 3) 2 (by decide) h8 (by decide)) (by decide)) t_x1)
theorem s_X12_phase {G : Nat → Int} {σ : zSt} (hσ : zIM G σ) {x1 : Int32} (h_x1 : zr (172) (274) x1) {x2 : Int32} (h_x2 : zr (0) (8) x2) {x3 : Int32} (h_x3 : zr (0) (1) x3) (t_x1 : zat 0 x1) : zok (fX12_phase σ x1 x2 x3) (zIM G) := by
  unfold fX12_phase
  refine zok_pi (s_X12_patchByte hσ.P h_x2 (zr_w h_x3 (by decide))) (fun v13 h1 => ?_)
  refine zok_br (zr_andr (lo := 0) (hi := 15) (zr_c (lo := 15) (hi := 15) (by decide)) (by decide)) (fun v14 e3 h2 => ?_)
  refine zok_if (fun q4 => ?_) (fun q4 => ?_)
  · have h5 := zc_eql (0) (0) q4 h2 (zr_c (lo := 0) (hi := 0) (by decide)) (by decide)
    exact (s_X12_phase_60 hσ h_x1 h_x2 h_x3 (zr_w (zr_c (lo := 1) (hi := 1) (by decide)) (by decide)) t_x1)
  have h6 := zc_nel (1) (15) q4 h2 (zr_c (lo := 0) (hi := 0) (by decide)) (by decide)
  refine zok_if (fun q7 => ?_) (fun q7 => ?_)
  · have h8 := zc_ler (11) q7 (zr_c (lo := 11) (hi := 11) (by decide)) h6 (by decide)
    refine zok_if (fun q9 => ?_) (fun q9 => ?_)
    · have h10 := zc_eql (11) (11) q9 h8 (zr_c (lo := 11) (hi := 11) (by decide)) (by decide)
      exact (s_X12_phase_60 hσ h_x1 h_x2 h_x3 (zr_w (zr_c (lo := 20) (hi := 20) (by decide)) (by decide)) t_x1)
    have h11 := zc_nel (12) (15) q9 h8 (zr_c (lo := 11) (hi := 11) (by decide)) (by decide)
    refine zok_if (fun q12 => ?_) (fun q12 => ?_)
    · have h13 := zc_ler (14) q12 (zr_c (lo := 14) (hi := 14) (by decide)) h11 (by decide)
      exact (s_X12_phase_60 hσ h_x1 h_x2 h_x3 (zr_w (zr_c (lo := 30) (hi := 30) (by decide)) (by decide)) t_x1)
    have h14 := zc_ltl (13) (z_nle q12) h11 (zr_c (lo := 14) (hi := 14) (by decide)) (by decide)
    exact (s_X12_phase_60 hσ h_x1 h_x2 h_x3 (zr_w (zr_c (lo := 24) (hi := 24) (by decide)) (by decide)) t_x1)
  have h15 := zc_ltl (10) (z_nle q7) h6 (zr_c (lo := 11) (hi := 11) (by decide)) (by decide)
  exact (s_X12_phase_60 hσ h_x1 h_x2 h_x3 (zr_w (zr_mul (lo := 2) (hi := 20) (zr_c (lo := 2) (hi := 2) (by decide)) h15 (by decide)) (by decide)) t_x1)
theorem s_X12_drum_191 {σ : zSt} (hσ : zPM σ) {s0 : Int32} (h_s0 : zr (0) (768) s0) : zok (fX12_drum_191 σ s0) (zPi σ (fun v : Int32 => True)) := by
  unfold fX12_drum_191
  exact zok_spi trivial
theorem s_X12_drum_214 {σ : zSt} (hσ : zPM σ) {s0 : Int32} : zok (fX12_drum_214 σ s0) (zPi σ (fun v : Int32 => True)) := by
  unfold fX12_drum_214
  exact zok_spi trivial
theorem s_X12_drum_148 {σ : zSt} (hσ : zPM σ) {x1 : Int32} (h_x1 : zr (7) (8) x1) {x2 : Int32} (h_x2 : zr (0) (1) x2) {x3 : Int32} {x6 : Int32} (h_x6 : zr (0) (1) x6) {x7 : Int32} (h_x7 : zr (0) (1) x7) : zok (fX12_drum_148 σ x1 x2 x3 x6 x7) (zPi σ (fun v : Int32 => True)) := by
  unfold fX12_drum_148
  refine zok_if (fun q1 => ?_) (fun q1 => ?_)
  · have h2 := zc_eql (7) (7) q1 h_x1 (zr_c (lo := 7) (hi := 7) (by decide)) (by decide)
    refine zok_if (fun q3 => ?_) (fun q3 => ?_)
    · have h4 := zc_eql (0) (0) q3 (zr_andr (lo := 0) (hi := 512) (zr_c (lo := 512) (hi := 512) (by decide)) (by decide)) (zr_c (lo := 0) (hi := 0) (by decide)) (by decide)
      refine zok_if (fun q5 => ?_) (fun q5 => ?_)
      · have h6 := zc_eql (0) (0) q5 h_x7 (zr_c (lo := 0) (hi := 0) (by decide)) (by decide)
        exact (s_X12_drum_191 hσ (zr_w (zr_c (lo := 256) (hi := 256) (by decide)) (by decide)))
      have h7 := zc_nel (1) (1) q5 h_x7 (zr_c (lo := 0) (hi := 0) (by decide)) (by decide)
      exact (s_X12_drum_191 hσ (zr_w (zr_c (lo := 0) (hi := 0) (by decide)) (by decide)))
    have h8 := zc_nel (1) (512) q3 (zr_andr (lo := 0) (hi := 512) (zr_c (lo := 512) (hi := 512) (by decide)) (by decide)) (zr_c (lo := 0) (hi := 0) (by decide)) (by decide)
    refine zok_if (fun q9 => ?_) (fun q9 => ?_)
    · have h10 := zc_eql (0) (0) q9 h_x7 (zr_c (lo := 0) (hi := 0) (by decide)) (by decide)
      exact (s_X12_drum_191 hσ (zr_w (zr_c (lo := 512) (hi := 512) (by decide)) (by decide)))
    have h11 := zc_nel (1) (1) q9 h_x7 (zr_c (lo := 0) (hi := 0) (by decide)) (by decide)
    exact (s_X12_drum_191 hσ (zr_w (zr_c (lo := 768) (hi := 768) (by decide)) (by decide)))
  have h12 := zc_nel (8) (8) q1 h_x1 (zr_c (lo := 7) (hi := 7) (by decide)) (by decide)
  refine zok_if (fun q13 => ?_) (fun q13 => ?_)
  · have h14 := zc_eql (0) (0) q13 h_x2 (zr_c (lo := 0) (hi := 0) (by decide)) (by decide)
    exact (s_X12_drum_214 hσ)
  have h15 := zc_nel (1) (1) q13 h_x2 (zr_c (lo := 0) (hi := 0) (by decide)) (by decide)
  refine zok_if (fun q16 => ?_) (fun q16 => ?_)
  · have h17 := zc_eql (0) (0) q16 h_x6 (zr_c (lo := 0) (hi := 0) (by decide)) (by decide)
    exact (s_X12_drum_214 hσ)
  have h18 := zc_nel (1) (1) q16 h_x6 (zr_c (lo := 0) (hi := 0) (by decide)) (by decide)
  exact (s_X12_drum_214 hσ)
theorem s_X12_drum_147 {σ : zSt} (hσ : zPM σ) {s0 : Int32} (h_s0 : zr (52) (720) s0) : zok (fX12_drum_147 σ s0) (zPi σ (fun v : Int32 => True)) := by
  unfold fX12_drum_147
  exact zok_spi trivial
theorem s_X12_drum_100 {σ : zSt} (hσ : zPM σ) {x1 : Int32} (h_x1 : zr (7) (8) x1) {x2 : Int32} (h_x2 : zr (0) (1) x2) {x3 : Int32} {x6 : Int32} (h_x6 : zr (0) (1) x6) {s0 : Int32} (h_s0 : zr (0) (1) s0) : zok (fX12_drum_100 σ x1 x2 x3 x6 s0) (zPi σ (fun v : Int32 => True)) := by
  unfold fX12_drum_100
  refine zok_if (fun q1 => ?_) (fun q1 => ?_)
  · have h2 := zc_eql (7) (7) q1 h_x1 (zr_c (lo := 7) (hi := 7) (by decide)) (by decide)
    refine zok_if (fun q3 => ?_) (fun q3 => ?_)
    · have h4 := zc_eql (0) (0) q3 h_x2 (zr_c (lo := 0) (hi := 0) (by decide)) (by decide)
      refine zok_if (fun q5 => ?_) (fun q5 => ?_)
      · have h6 := zc_eql (0) (0) q5 h_x6 (zr_c (lo := 0) (hi := 0) (by decide)) (by decide)
        refine zok_if (fun q7 => ?_) (fun q7 => ?_)
        · have h8 := zc_eql (0) (0) q7 h_s0 (zr_c (lo := 0) (hi := 0) (by decide)) (by decide)
          exact (s_X12_drum_147 hσ (zr_w (zr_c (lo := 208) (hi := 208) (by decide)) (by decide)))
        have h9 := zc_nel (1) (1) q7 h_s0 (zr_c (lo := 0) (hi := 0) (by decide)) (by decide)
        exact (s_X12_drum_147 hσ (zr_w (zr_c (lo := 52) (hi := 52) (by decide)) (by decide)))
      have h10 := zc_nel (1) (1) q5 h_x6 (zr_c (lo := 0) (hi := 0) (by decide)) (by decide)
      refine zok_if (fun q11 => ?_) (fun q11 => ?_)
      · have h12 := zc_eql (0) (0) q11 h_s0 (zr_c (lo := 0) (hi := 0) (by decide)) (by decide)
        exact (s_X12_drum_147 hσ (zr_w (zr_c (lo := 564) (hi := 564) (by decide)) (by decide)))
      have h13 := zc_nel (1) (1) q11 h_s0 (zr_c (lo := 0) (hi := 0) (by decide)) (by decide)
      exact (s_X12_drum_147 hσ (zr_w (zr_c (lo := 720) (hi := 720) (by decide)) (by decide)))
    have h14 := zc_nel (1) (1) q3 h_x2 (zr_c (lo := 0) (hi := 0) (by decide)) (by decide)
    exact (s_X12_drum_148 hσ (zr_w h2 (by decide)) (zr_w h14 (by decide)) h_x6 h_s0)
  have h15 := zc_nel (8) (8) q1 h_x1 (zr_c (lo := 7) (hi := 7) (by decide)) (by decide)
  exact (s_X12_drum_148 hσ (zr_w h15 (by decide)) h_x2 h_x6 h_s0)
theorem s_X12_drum_79 {σ : zSt} (hσ : zPM σ) {x1 : Int32} (h_x1 : zr (7) (8) x1) {x2 : Int32} (h_x2 : zr (0) (1) x2) {x3 : Int32} {s0 : Int32} (h_s0 : zr (0) (1) s0) : zok (fX12_drum_79 σ x1 x2 x3 s0) (zPi σ (fun v : Int32 => True)) := by
  unfold fX12_drum_79
  refine zok_ck rfl ?_
  refine zok_if (fun q1 => ?_) (fun q1 => ?_)
  · have h2 := zc_eql (1) (1) q1 (zr_andr (lo := 0) (hi := 1) (zr_c (lo := 1) (hi := 1) (by decide)) (by decide)) (zr_c (lo := 1) (hi := 1) (by decide)) (by decide)
    exact (s_X12_drum_100 hσ h_x1 h_x2 h_s0 (zr_w (zr_c (lo := 1) (hi := 1) (by decide)) (by decide)))
  have h3 := zc_nel (0) (0) q1 (zr_andr (lo := 0) (hi := 1) (zr_c (lo := 1) (hi := 1) (by decide)) (by decide)) (zr_c (lo := 1) (hi := 1) (by decide)) (by decide)
  exact (s_X12_drum_100 hσ h_x1 h_x2 h_s0 (zr_w (zr_c (lo := 0) (hi := 0) (by decide)) (by decide)))
theorem s_X12_drum_74 {σ : zSt} (hσ : zPM σ) {x1 : Int32} (h_x1 : zr (7) (8) x1) {x2 : Int32} (h_x2 : zr (0) (1) x2) {x3 : Int32} : zok (fX12_drum_74 σ x1 x2 x3) (zPi σ (fun v : Int32 => True)) := by
  unfold fX12_drum_74
  exact (s_X12_drum_79 hσ h_x1 h_x2 (zr_w (zr_c (lo := 1) (hi := 1) (by decide)) (by decide)))
theorem s_X12_drum {σ : zSt} (hσ : zPM σ) {x1 : Int32} (h_x1 : zr (7) (8) x1) {x2 : Int32} (h_x2 : zr (0) (1) x2) {x3 : Int32} : zok (fX12_drum σ x1 x2 x3) (zPi σ (fun v : Int32 => True)) := by
  unfold fX12_drum
  refine zok_ck rfl ?_
  refine zok_ck (by decide) ?_
  refine zok_bv (fun v1 e2 => ?_)
  refine zok_ck rfl ?_
  refine zok_ck (by decide) ?_
  refine zok_bv (fun v2 e4 => ?_)
  refine zok_if (fun q5 => ?_) (fun q5 => ?_)
  · refine zok_if (fun q6 => ?_) (fun q6 => ?_)
    · refine zok_if (fun q7 => ?_) (fun q7 => ?_)
      · exact (s_X12_drum_79 hσ h_x1 h_x2 (zr_w (zr_c (lo := 0) (hi := 0) (by decide)) (by decide)))
      exact (s_X12_drum_74 hσ h_x1 h_x2)
    exact (s_X12_drum_74 hσ h_x1 h_x2)
  exact (s_X12_drum_74 hσ h_x1 h_x2)
theorem s_X12_kept_97 {σ : zSt} (hσ : zPM σ) {s0 : Int32} (h_s0 : zr (0) (112) s0) : zok (fX12_kept_97 σ s0) (zPi σ (fun v : Int32 => zr (0) (112) v)) := by
  unfold fX12_kept_97
  exact zok_spi h_s0
theorem s_X12_kept {σ : zSt} (hσ : zPM σ) {x0 : Int32} (h_x0 : zr (0) (15) x0) : zok (fX12_kept σ x0) (zPi σ (fun v : Int32 => zr (0) (112) v)) := by
  unfold fX12_kept
  refine zok_if (fun q1 => ?_) (fun q1 => ?_)
  · have h2 := zc_eql (0) (0) q1 h_x0 (zr_c (lo := 0) (hi := 0) (by decide)) (by decide)
    exact (s_X12_kept_97 hσ (zr_w (zr_c (lo := 0) (hi := 0) (by decide)) (by decide)))
  have h3 := zc_nel (1) (15) q1 h_x0 (zr_c (lo := 0) (hi := 0) (by decide)) (by decide)
  refine zok_if (fun q4 => ?_) (fun q4 => ?_)
  · have h5 := zc_eql (1) (1) q4 h3 (zr_c (lo := 1) (hi := 1) (by decide)) (by decide)
    exact (s_X12_kept_97 hσ (zr_w (zr_c (lo := 48) (hi := 48) (by decide)) (by decide)))
  have h6 := zc_nel (2) (15) q4 h3 (zr_c (lo := 1) (hi := 1) (by decide)) (by decide)
  refine zok_if (fun q7 => ?_) (fun q7 => ?_)
  · have h8 := zc_eql (2) (2) q7 h6 (zr_c (lo := 2) (hi := 2) (by decide)) (by decide)
    exact (s_X12_kept_97 hσ (zr_w (zr_c (lo := 64) (hi := 64) (by decide)) (by decide)))
  have h9 := zc_nel (3) (15) q7 h6 (zr_c (lo := 2) (hi := 2) (by decide)) (by decide)
  refine zok_if (fun q10 => ?_) (fun q10 => ?_)
  · have h11 := zc_eql (3) (3) q10 h9 (zr_c (lo := 3) (hi := 3) (by decide)) (by decide)
    exact (s_X12_kept_97 hσ (zr_w (zr_c (lo := 74) (hi := 74) (by decide)) (by decide)))
  have h12 := zc_nel (4) (15) q10 h9 (zr_c (lo := 3) (hi := 3) (by decide)) (by decide)
  refine zok_if (fun q13 => ?_) (fun q13 => ?_)
  · have h14 := zc_eql (4) (4) q13 h12 (zr_c (lo := 4) (hi := 4) (by decide)) (by decide)
    exact (s_X12_kept_97 hσ (zr_w (zr_c (lo := 80) (hi := 80) (by decide)) (by decide)))
  have h15 := zc_nel (5) (15) q13 h12 (zr_c (lo := 4) (hi := 4) (by decide)) (by decide)
  refine zok_if (fun q16 => ?_) (fun q16 => ?_)
  · have h17 := zc_eql (5) (5) q16 h15 (zr_c (lo := 5) (hi := 5) (by decide)) (by decide)
    exact (s_X12_kept_97 hσ (zr_w (zr_c (lo := 86) (hi := 86) (by decide)) (by decide)))
  have h18 := zc_nel (6) (15) q16 h15 (zr_c (lo := 5) (hi := 5) (by decide)) (by decide)
  refine zok_if (fun q19 => ?_) (fun q19 => ?_)
  · have h20 := zc_eql (6) (6) q19 h18 (zr_c (lo := 6) (hi := 6) (by decide)) (by decide)
    exact (s_X12_kept_97 hσ (zr_w (zr_c (lo := 90) (hi := 90) (by decide)) (by decide)))
  have h21 := zc_nel (7) (15) q19 h18 (zr_c (lo := 6) (hi := 6) (by decide)) (by decide)
  refine zok_if (fun q22 => ?_) (fun q22 => ?_)
  · have h23 := zc_eql (7) (7) q22 h21 (zr_c (lo := 7) (hi := 7) (by decide)) (by decide)
    exact (s_X12_kept_97 hσ (zr_w (zr_c (lo := 94) (hi := 94) (by decide)) (by decide)))
  have h24 := zc_nel (8) (15) q22 h21 (zr_c (lo := 7) (hi := 7) (by decide)) (by decide)
  refine zok_if (fun q25 => ?_) (fun q25 => ?_)
  · have h26 := zc_eql (8) (8) q25 h24 (zr_c (lo := 8) (hi := 8) (by decide)) (by decide)
    exact (s_X12_kept_97 hσ (zr_w (zr_c (lo := 96) (hi := 96) (by decide)) (by decide)))
  have h27 := zc_nel (9) (15) q25 h24 (zr_c (lo := 8) (hi := 8) (by decide)) (by decide)
  exact (s_X12_kept_97 hσ (zr_w (zr_add (lo := 100) (hi := 112) (zr_c (lo := 82) (hi := 82) (by decide)) (zr_mul (lo := 18) (hi := 30) (zr_c (lo := 2) (hi := 2) (by decide)) h27 (by decide)) (by decide)) (by decide)))
theorem s_X12_waveAt_376 {σ : zSt} (hσ : zPM σ) {s0 : Int32} : zok (fX12_waveAt_376 σ s0) (zPi σ (fun v : Int32 => True)) := by
  unfold fX12_waveAt_376
  exact zok_spi trivial
theorem s_X12_waveAt_296 {σ : zSt} (hσ : zPM σ) {x2 : Int32} (h_x2 : zr (0) (8) x2) {x3 : Int32} (h_x3 : zr (0) (1) x3) {x4 : Int32} (h_x4 : zr (0) (1023) x4) {x5 : Int32} (h_x5 : zr (0) (255) x5) {s0 : Int32} (h_s0 : zr (0) (127) s0) : zok (fX12_waveAt_296 σ x2 x3 x4 x5 s0) (zPi σ (fun v : Int32 => True)) := by
  unfold fX12_waveAt_296
  refine zok_ck (zin_ok h_x5 (by decide)) ?_
  refine zok_br (zr_add (lo := 0) (hi := 4169) (zt11_r _) (zr_mul (lo := 0) (hi := 2032) (zr_c (lo := 16) (hi := 16) (by decide)) h_s0 (by decide)) (by decide)) (fun v1 e2 h1 => ?_)
  refine zok_ck (by decide) ?_
  refine zok_ck (zin_ok (zr_sub (lo := 0) (hi := 255) (zr_c (lo := 255) (hi := 255) (by decide)) (zr_rem (lo := 0) (hi := 255) 256 (by decide) h1 (by decide)) (by decide)) (by decide)) ?_
  refine zok_ck (by decide) ?_
  refine zok_bv (fun v2 e4 => ?_)
  refine zok_if (fun q5 => ?_) (fun q5 => ?_)
  · have h6 := zc_eql (0) (0) q5 (zr_andr (lo := 0) (hi := 512) (zr_c (lo := 512) (hi := 512) (by decide)) (by decide)) (zr_c (lo := 0) (hi := 0) (by decide)) (by decide)
    exact zok_spi trivial
  have h7 := zc_nel (1) (512) q5 (zr_andr (lo := 0) (hi := 512) (zr_c (lo := 512) (hi := 512) (by decide)) (by decide)) (zr_c (lo := 0) (hi := 0) (by decide)) (by decide)
  refine zok_pi (s_X12_patchByte hσ h_x2 (zr_w (zr_c (lo := 3) (hi := 3) (by decide)) (by decide))) (fun v4 h8 => ?_)
  refine zok_if (fun q9 => ?_) (fun q9 => ?_)
  · have h10 := zc_eql (1) (1) q9 (zr_andr (lo := 0) (hi := 1) (zr_c (lo := 1) (hi := 1) (by decide)) (by decide)) (zr_c (lo := 1) (hi := 1) (by decide)) (by decide)
    exact (s_X12_waveAt_376 hσ)
  have h11 := zc_nel (0) (0) q9 (zr_andr (lo := 0) (hi := 1) (zr_c (lo := 1) (hi := 1) (by decide)) (by decide)) (zr_c (lo := 1) (hi := 1) (by decide)) (by decide)
  exact (s_X12_waveAt_376 hσ)
theorem s_X12_waveAt_263 {σ : zSt} (hσ : zPM σ) {x1 : Int32} (h_x1 : zr (172) (274) x1) {x2 : Int32} (h_x2 : zr (0) (8) x2) {x3 : Int32} (h_x3 : zr (0) (1) x3) {x4 : Int32} (h_x4 : zr (0) (1023) x4) {x5 : Int32} (h_x5 : zr (0) (255) x5) {x8 : Int32} (h_x8 : zr (0) (112) x8) {x11 : Int32} (h_x11 : zr (0) (126) x11) {s0 : Int32} (h_s0 : zr (0) (13) s0) (t_x1 : zat 0 x1) (c_4_4 : zrl (0) (1152921504606846976) (zgl σ 4 4)) : zok (fX12_waveAt_263 σ x1 x2 x3 x4 x5 x8 x11 s0) (zPi σ (fun v : Int32 => True)) := by
  unfold fX12_waveAt_263
  refine zok_ck (zin_ok h_x1 (by decide)) ?_
  refine zok_br (zr_add (lo := 0) (hi := 378) (zr_add (lo := 0) (hi := 365) (zr_add (lo := 0) (hi := 239) (rM_lv hσ.Y t_x1) h_x8 (by decide)) h_x11 (by decide)) h_s0 (by decide)) (fun v5 e2 h1 => ?_)
  refine zok_if (fun q3 => ?_) (fun q3 => ?_)
  · have h4 := zc_lel (127) q3 h1 (zr_c (lo := 127) (hi := 127) (by decide)) (by decide)
    exact (s_X12_waveAt_296 hσ h_x2 h_x3 h_x4 h_x5 h4)
  have h5 := zc_ltr (128) (z_nle q3) (zr_c (lo := 127) (hi := 127) (by decide)) h1 (by decide)
  exact (s_X12_waveAt_296 hσ h_x2 h_x3 h_x4 h_x5 (zr_w (zr_c (lo := 127) (hi := 127) (by decide)) (by decide)))
theorem s_X12_waveAt_260 {σ : zSt} (hσ : zPM σ) {x1 : Int32} (h_x1 : zr (172) (274) x1) {x2 : Int32} (h_x2 : zr (0) (8) x2) {x3 : Int32} (h_x3 : zr (0) (1) x3) {x4 : Int32} (h_x4 : zr (0) (1023) x4) {x5 : Int32} (h_x5 : zr (0) (255) x5) {x8 : Int32} (h_x8 : zr (0) (112) x8) {x11 : Int32} (h_x11 : zr (0) (126) x11) {s0 : Int32} (h_s0 : zr (0) (105) s0) (t_x1 : zat 0 x1) (c_4_4 : zrl (0) (1152921504606846976) (zgl σ 4 4)) : zok (fX12_waveAt_260 σ x1 x2 x3 x4 x5 x8 x11 s0) (zPi σ (fun v : Int32 => True)) := by
  unfold fX12_waveAt_260
  refine zok_ck (by decide) ?_
  exact (s_X12_waveAt_263 hσ h_x1 h_x2 h_x3 h_x4 h_x5 h_x8 h_x11 (zr_div (lo := 0) (hi := 13) 8 (by decide) h_s0 (by decide)) t_x1 c_4_4)
theorem s_X12_waveAt_206 {σ : zSt} (hσ : zPM σ) {x1 : Int32} (h_x1 : zr (172) (274) x1) {x2 : Int32} (h_x2 : zr (0) (8) x2) {x3 : Int32} (h_x3 : zr (0) (1) x3) {x4 : Int32} (h_x4 : zr (0) (1023) x4) {x5 : Int32} (h_x5 : zr (0) (255) x5) {x8 : Int32} (h_x8 : zr (0) (112) x8) {s0 : Int32} (h_s0 : zr (0) (126) s0) (t_x1 : zat 0 x1) (c_4_4 : zrl (0) (1152921504606846976) (zgl σ 4 4)) : zok (fX12_waveAt_206 σ x1 x2 x3 x4 x5 x8 s0) (zPi σ (fun v : Int32 => True)) := by
  unfold fX12_waveAt_206
  refine zok_ck rfl ?_
  refine zok_ck (by decide) ?_
  refine zok_ck (by decide) ?_
  refine zok_br (zr_l (lo := 0) (hi := 209) (zrl_rem (lo := 0) (hi := 209) 210 (by decide) (zrl_div (lo := 0) (hi := 18014398509481984) 64 (by decide) c_4_4 (by decide)) (by decide)) (by decide)) (fun v6 e2 h1 => ?_)
  refine zok_pi (s_X12_patchByte hσ h_x2 (zr_w h_x3 (by decide))) (fun v8 h3 => ?_)
  refine zok_if (fun q4 => ?_) (fun q4 => ?_)
  · have h5 := zc_eql (0) (0) q4 (zr_andr (lo := 0) (hi := 128) (zr_c (lo := 128) (hi := 128) (by decide)) (by decide)) (zr_c (lo := 0) (hi := 0) (by decide)) (by decide)
    exact (s_X12_waveAt_263 hσ h_x1 h_x2 h_x3 h_x4 h_x5 h_x8 h_s0 (zr_w (zr_c (lo := 0) (hi := 0) (by decide)) (by decide)) t_x1 c_4_4)
  have h6 := zc_nel (1) (128) q4 (zr_andr (lo := 0) (hi := 128) (zr_c (lo := 128) (hi := 128) (by decide)) (by decide)) (zr_c (lo := 0) (hi := 0) (by decide)) (by decide)
  refine zok_if (fun q7 => ?_) (fun q7 => ?_)
  · have h8 := zc_ler (105) q7 (zr_c (lo := 105) (hi := 105) (by decide)) h1 (by decide)
    exact (s_X12_waveAt_260 hσ h_x1 h_x2 h_x3 h_x4 h_x5 h_x8 h_s0 (zr_w (zr_sub (lo := 1) (hi := 105) (zr_c (lo := 210) (hi := 210) (by decide)) h8 (by decide)) (by decide)) t_x1 c_4_4)
  have h9 := zc_ltl (104) (z_nle q7) h1 (zr_c (lo := 105) (hi := 105) (by decide)) (by decide)
  exact (s_X12_waveAt_260 hσ h_x1 h_x2 h_x3 h_x4 h_x5 h_x8 h_s0 (zr_w h9 (by decide)) t_x1 c_4_4)
theorem s_X12_waveAt_192 {σ : zSt} (hσ : zPM σ) {x1 : Int32} (h_x1 : zr (172) (274) x1) {x2 : Int32} (h_x2 : zr (0) (8) x2) {x3 : Int32} (h_x3 : zr (0) (0) x3) {x4 : Int32} (h_x4 : zr (0) (1023) x4) {x5 : Int32} (h_x5 : zr (0) (255) x5) {x8 : Int32} (h_x8 : zr (0) (112) x8) {x9 : Int32} (h_x9 : zr (0) (63) x9) (t_x1 : zat 0 x1) (c_4_4 : zrl (0) (1152921504606846976) (zgl σ 4 4)) : zok (fX12_waveAt_192 σ x1 x2 x3 x4 x5 x8 x9) (zPi σ (fun v : Int32 => True)) := by
  unfold fX12_waveAt_192
  refine zok_ck (by decide) ?_
  refine zok_ck (by decide) ?_
  exact (s_X12_waveAt_206 hσ h_x1 h_x2 (zr_w h_x3 (by decide)) h_x4 h_x5 h_x8 (zr_add (lo := 0) (hi := 126) (zr_mul (lo := 0) (hi := 120) (zr_c (lo := 8) (hi := 8) (by decide)) (zr_div (lo := 0) (hi := 15) 4 (by decide) h_x9 (by decide)) (by decide)) (zr_mul (lo := 0) (hi := 6) (zr_c (lo := 2) (hi := 2) (by decide)) (zr_rem (lo := 0) (hi := 3) 4 (by decide) h_x9 (by decide)) (by decide)) (by decide)) t_x1 c_4_4)
theorem s_X12_waveAt_123 {σ : zSt} (hσ : zPM σ) {x1 : Int32} (h_x1 : zr (172) (274) x1) {x2 : Int32} (h_x2 : zr (0) (8) x2) {x3 : Int32} (h_x3 : zr (0) (1) x3) {x4 : Int32} (h_x4 : zr (0) (1023) x4) {x5 : Int32} (h_x5 : zr (0) (255) x5) {s0 : Int32} (h_s0 : zr (0) (112) s0) (t_x1 : zat 0 x1) (c_4_4 : zrl (0) (1152921504606846976) (zgl σ 4 4)) : zok (fX12_waveAt_123 σ x1 x2 x3 x4 x5 s0) (zPi σ (fun v : Int32 => True)) := by
  unfold fX12_waveAt_123
  refine zok_pi (s_X12_patchByte hσ h_x2 (zr_w (zr_c (lo := 2) (hi := 2) (by decide)) (by decide))) (fun v10 h1 => ?_)
  refine zok_br (zr_andr (lo := 0) (hi := 63) (zr_c (lo := 63) (hi := 63) (by decide)) (by decide)) (fun v11 e3 h2 => ?_)
  refine zok_pi (s_X12_wreg hσ (zr_w (zr_add (lo := 48) (hi := 56) (zr_c (lo := 48) (hi := 48) (by decide)) h_x2 (by decide)) (by decide))) (fun v13 h4 => ?_)
  refine zok_br (zr_andr (lo := 0) (hi := 15) (zr_c (lo := 15) (hi := 15) (by decide)) (by decide)) (fun v14 e6 h5 => ?_)
  refine zok_if (fun q7 => ?_) (fun q7 => ?_)
  · have h8 := zc_eql (1) (1) q7 h_x3 (zr_c (lo := 1) (hi := 1) (by decide)) (by decide)
    exact (s_X12_waveAt_206 hσ h_x1 h_x2 (zr_w h8 (by decide)) h_x4 h_x5 h_s0 (zr_w (zr_mul (lo := 0) (hi := 120) (zr_c (lo := 8) (hi := 8) (by decide)) h5 (by decide)) (by decide)) t_x1 c_4_4)
  have h9 := zc_nel (0) (0) q7 h_x3 (zr_c (lo := 1) (hi := 1) (by decide)) (by decide)
  refine zok_pi (s_X12_isRhythm hσ h_x2) (fun v16 h10 => ?_)
  refine zok_if (fun q11 => ?_) (fun q11 => ?_)
  · have h12 := zc_eql (0) (0) q11 h10 (zr_c (lo := 0) (hi := 0) (by decide)) (by decide)
    exact (s_X12_waveAt_192 hσ h_x1 h_x2 h9 h_x4 h_x5 h_s0 h2 t_x1 c_4_4)
  have h13 := zc_nel (1) (1) q11 h10 (zr_c (lo := 0) (hi := 0) (by decide)) (by decide)
  refine zok_if (fun q14 => ?_) (fun q14 => ?_)
  · have h15 := zc_lel (6) q14 h_x2 (zr_c (lo := 6) (hi := 6) (by decide)) (by decide)
    exact (s_X12_waveAt_192 hσ h_x1 (zr_w h15 (by decide)) h9 h_x4 h_x5 h_s0 h2 t_x1 c_4_4)
  have h16 := zc_ltr (7) (z_nle q14) (zr_c (lo := 6) (hi := 6) (by decide)) h_x2 (by decide)
  refine zok_pi (s_X12_wreg hσ (zr_w (zr_add (lo := 55) (hi := 56) (zr_c (lo := 48) (hi := 48) (by decide)) h16 (by decide)) (by decide))) (fun v18 h17 => ?_)
  exact (s_X12_waveAt_206 hσ h_x1 (zr_w h16 (by decide)) (zr_w h9 (by decide)) h_x4 h_x5 h_s0 (zr_w (zr_mul (lo := 0) (hi := 120) (zr_c (lo := 8) (hi := 8) (by decide)) (zr_shr (lo := 0) (hi := 15) 4 (by decide) h17 (by decide)) (by decide)) (by decide)) t_x1 c_4_4)
theorem s_X12_waveAt_91 {σ : zSt} (hσ : zPM σ) {x1 : Int32} (h_x1 : zr (172) (274) x1) {x2 : Int32} (h_x2 : zr (0) (8) x2) {x3 : Int32} (h_x3 : zr (0) (1) x3) {x4 : Int32} (h_x4 : zr (0) (1023) x4) {x5 : Int32} (h_x5 : zr (0) (255) x5) (t_x1 : zat 0 x1) (c_4_4 : zrl (0) (1152921504606846976) (zgl σ 4 4)) : zok (fX12_waveAt_91 σ x1 x2 x3 x4 x5) (zPi σ (fun v : Int32 => True)) := by
  unfold fX12_waveAt_91
  exact (s_X12_waveAt_123 hσ h_x1 h_x2 h_x3 h_x4 h_x5 (zr_w (zr_c (lo := 0) (hi := 0) (by decide)) (by decide)) t_x1 c_4_4)
theorem s_X12_waveAt_41 {σ : zSt} (hσ : zPM σ) {x1 : Int32} (h_x1 : zr (172) (274) x1) {x2 : Int32} (h_x2 : zr (0) (8) x2) {x3 : Int32} (h_x3 : zr (0) (1) x3) {x4 : Int32} (h_x4 : zr (0) (1023) x4) {s0 : Int32} (h_s0 : zr (0) (255) s0) (t_x1 : zat 0 x1) (c_4_4 : zrl (0) (1152921504606846976) (zgl σ 4 4)) : zok (fX12_waveAt_41 σ x1 x2 x3 x4 s0) (zPi σ (fun v : Int32 => True)) := by
  unfold fX12_waveAt_41
  refine zok_pi (s_X12_patchByte hσ h_x2 (zr_w (zr_add (lo := 2) (hi := 3) (zr_c (lo := 2) (hi := 2) (by decide)) h_x3 (by decide)) (by decide))) (fun v20 h1 => ?_)
  refine zok_br (zr_shr (lo := 0) (hi := 12) 6 (by decide) h1 (by decide)) (fun v21 e3 h2 => ?_)
  refine zok_pi (s_X12_f hσ h_x2) (fun v23 h4 => ?_)
  refine zok_ck (by decide) ?_
  refine zok_pi (s_X12_kept hσ (zr_div (lo := 0) (hi := 15) 32 (by decide) h4 (by decide))) (fun v25 h5 => ?_)
  refine zok_pi (s_X12_block hσ h_x2) (fun v27 h6 => ?_)
  refine zok_br (zr_sub (lo := -112) (hi := 112) h5 (zr_mul (lo := 0) (hi := 112) (zr_c (lo := 16) (hi := 16) (by decide)) (zr_sub (lo := 0) (hi := 7) (zr_c (lo := 7) (hi := 7) (by decide)) h6 (by decide)) (by decide)) (by decide)) (fun v28 e8 h7 => ?_)
  refine zok_if (fun q9 => ?_) (fun q9 => ?_)
  · have h10 := zc_ltl (-1) q9 h7 (zr_c (lo := 0) (hi := 0) (by decide)) (by decide)
    exact (s_X12_waveAt_91 hσ h_x1 h_x2 h_x3 h_x4 h_s0 t_x1 c_4_4)
  have h11 := zc_ler (0) (z_nlt q9) (zr_c (lo := 0) (hi := 0) (by decide)) h7 (by decide)
  refine zok_if (fun q12 => ?_) (fun q12 => ?_)
  · have h13 := zc_eql (0) (0) q12 h2 (zr_c (lo := 0) (hi := 0) (by decide)) (by decide)
    exact (s_X12_waveAt_91 hσ h_x1 h_x2 h_x3 h_x4 h_s0 t_x1 c_4_4)
  have h14 := zc_nel (1) (12) q12 h2 (zr_c (lo := 0) (hi := 0) (by decide)) (by decide)
  refine zok_if (fun q15 => ?_) (fun q15 => ?_)
  · have h16 := zc_eql (1) (1) q15 h14 (zr_c (lo := 1) (hi := 1) (by decide)) (by decide)
    refine zok_ck (by decide) ?_
    exact (s_X12_waveAt_123 hσ h_x1 h_x2 h_x3 h_x4 h_s0 (zr_w (zr_div (lo := 0) (hi := 28) 4 (by decide) h11 (by decide)) (by decide)) t_x1 c_4_4)
  have h17 := zc_nel (2) (12) q15 h14 (zr_c (lo := 1) (hi := 1) (by decide)) (by decide)
  refine zok_if (fun q18 => ?_) (fun q18 => ?_)
  · have h19 := zc_eql (2) (2) q18 h17 (zr_c (lo := 2) (hi := 2) (by decide)) (by decide)
    refine zok_ck (by decide) ?_
    exact (s_X12_waveAt_123 hσ h_x1 h_x2 h_x3 h_x4 h_s0 (zr_w (zr_div (lo := 0) (hi := 56) 2 (by decide) h11 (by decide)) (by decide)) t_x1 c_4_4)
  have h20 := zc_nel (3) (12) q18 h17 (zr_c (lo := 2) (hi := 2) (by decide)) (by decide)
  exact (s_X12_waveAt_123 hσ h_x1 h_x2 h_x3 h_x4 h_s0 h11 t_x1 c_4_4)
theorem s_X12_waveAt {σ : zSt} (hσ : zPM σ) {x1 : Int32} (h_x1 : zr (172) (274) x1) {x2 : Int32} (h_x2 : zr (0) (8) x2) {x3 : Int32} (h_x3 : zr (0) (1) x3) {x4 : Int32} (h_x4 : zr (0) (1023) x4) (t_x1 : zat 0 x1) (c_4_4 : zrl (0) (1152921504606846976) (zgl σ 4 4)) : zok (fX12_waveAt σ x1 x2 x3 x4) (zPi σ (fun v : Int32 => True)) := by
  unfold fX12_waveAt
  refine zok_ck (zin_ok h_x1 (by decide)) ?_
  refine zok_if (fun q1 => ?_) (fun q1 => ?_)
  · have h2 := zc_ltl (123) q1 (rM_lv hσ.Y t_x1) (zr_c (lo := 124) (hi := 124) (by decide)) (by decide)
    refine zok_if (fun q3 => ?_) (fun q3 => ?_)
    · have h4 := zc_eql (0) (0) q3 (zr_andr (lo := 0) (hi := 256) (zr_c (lo := 256) (hi := 256) (by decide)) (by decide)) (zr_c (lo := 0) (hi := 0) (by decide)) (by decide)
      refine zok_ck (by decide) ?_
      exact (s_X12_waveAt_41 hσ h_x1 h_x2 h_x3 h_x4 (zr_rem (lo := 0) (hi := 255) 256 (by decide) h_x4 (by decide)) t_x1 c_4_4)
    have h5 := zc_nel (1) (256) q3 (zr_andr (lo := 0) (hi := 256) (zr_c (lo := 256) (hi := 256) (by decide)) (by decide)) (zr_c (lo := 0) (hi := 0) (by decide)) (by decide)
    refine zok_ck (by decide) ?_
    exact (s_X12_waveAt_41 hσ h_x1 h_x2 h_x3 h_x4 (zr_sub (lo := 0) (hi := 255) (zr_c (lo := 255) (hi := 255) (by decide)) (zr_rem (lo := 0) (hi := 255) 256 (by decide) h_x4 (by decide)) (by decide)) t_x1 c_4_4)
  have h6 := zc_ler (124) (z_nlt q1) (zr_c (lo := 124) (hi := 124) (by decide)) (rM_lv hσ.Y t_x1) (by decide)
  exact zok_spi trivial
theorem s_X12_operator_319 {G : Nat → Int} {σ : zSt} (hσ : zIM G σ) {x1 : Int32} (h_x1 : zr (0) (8) x1) {x2 : Int32} (h_x2 : zr (0) (1) x2) {x3 : Int32} (h_x3 : zr (172) (274) x3) {x5 : Int32} {x8 : Int32} (t_x3 : zat 0 x3) (g4 : 0 ≤ G 104 ∧ G 104 ≤ 1152921504606846976) : zok (fX12_operator_319 σ x1 x2 x3 x5 x8) (zIM G) := by
  unfold fX12_operator_319
  refine zok_ck (zin_ok (zr_add (lo := 176) (hi := 278) h_x3 (zr_c (lo := 4) (hi := 4) (by decide)) (by decide)) (by decide)) ?_
  refine zok_bs (hσ.op (zat_add t_x3 (c1 := 4) 4 (by decide) (by decide)) (by decide)) (fun σ1 e2 i1 => ?_)
  refine zok_pi (s_X12_waveAt i1.P h_x3 h_x1 h_x2 (zr_andr (lo := 0) (hi := 1023) (zr_c (lo := 1023) (hi := 1023) (by decide)) (by decide)) t_x3 (rM_g4 i1 g4)) (fun v3 h3 => ?_)
  refine zok_ck (zin_ok (zr_add (lo := 175) (hi := 277) h_x3 (zr_c (lo := 3) (hi := 3) (by decide)) (by decide)) (by decide)) ?_
  refine zok_bs (i1.op (zat_add t_x3 (c1 := 3) 3 (by decide) (by decide)) (by decide)) (fun σ4 e5 i4 => ?_)
  exact zok_some i4
theorem s_X12_operator_266 {G : Nat → Int} {σ : zSt} (hσ : zIM G σ) {x1 : Int32} (h_x1 : zr (0) (8) x1) {x2 : Int32} (h_x2 : zr (0) (1) x2) {x3 : Int32} (h_x3 : zr (172) (274) x3) {x5 : Int32} {s0 : Int32} (t_x3 : zat 0 x3) (g4 : 0 ≤ G 104 ∧ G 104 ≤ 1152921504606846976) : zok (fX12_operator_266 σ x1 x2 x3 x5 s0) (zIM G) := by
  unfold fX12_operator_266
  refine zok_ck (zin_ok (zr_add (lo := 174) (hi := 276) h_x3 (zr_c (lo := 2) (hi := 2) (by decide)) (by decide)) (by decide)) ?_
  refine zok_ck (by decide) ?_
  refine zok_bv (fun v5 e2 => ?_)
  refine zok_pi (s_X12_isRhythm hσ.P h_x1) (fun v7 h3 => ?_)
  refine zok_if (fun q4 => ?_) (fun q4 => ?_)
  · have h5 := zc_eql (0) (0) q4 h3 (zr_c (lo := 0) (hi := 0) (by decide)) (by decide)
    exact (s_X12_operator_319 hσ h_x1 h_x2 h_x3 t_x3 g4)
  have h6 := zc_nel (1) (1) q4 h3 (zr_c (lo := 0) (hi := 0) (by decide)) (by decide)
  refine zok_if (fun q7 => ?_) (fun q7 => ?_)
  · have h8 := zc_lel (6) q7 h_x1 (zr_c (lo := 6) (hi := 6) (by decide)) (by decide)
    exact (s_X12_operator_319 hσ (zr_w h8 (by decide)) h_x2 h_x3 t_x3 g4)
  have h9 := zc_ltr (7) (z_nle q7) (zr_c (lo := 6) (hi := 6) (by decide)) h_x1 (by decide)
  refine zok_ck (zin_ok (zr_add (lo := 174) (hi := 276) h_x3 (zr_c (lo := 2) (hi := 2) (by decide)) (by decide)) (by decide)) ?_
  refine zok_ck (by decide) ?_
  refine zok_pi (s_X12_drum hσ.P h9 h_x2) (fun v9 h10 => ?_)
  exact (s_X12_operator_319 hσ (zr_w h9 (by decide)) h_x2 h_x3 t_x3 g4)
theorem s_X12_operator_190 {G : Nat → Int} {σ : zSt} (hσ : zIM G σ) {x1 : Int32} (h_x1 : zr (0) (8) x1) {x2 : Int32} (h_x2 : zr (0) (1) x2) {x3 : Int32} (h_x3 : zr (172) (274) x3) (t_x3 : zat 0 x3) (g4 : 0 ≤ G 104 ∧ G 104 ≤ 1152921504606846976) : zok (fX12_operator_190 σ x1 x2 x3) (zIM G) := by
  unfold fX12_operator_190
  refine zok_bu (s_X12_phase hσ h_x3 h_x1 h_x2 t_x3) (fun σ10 i1 => ?_)
  refine zok_ck (zin_ok (zr_add (lo := 175) (hi := 277) h_x3 (zr_c (lo := 3) (hi := 3) (by decide)) (by decide)) (by decide)) ?_
  refine zok_bv (fun v11 e3 => ?_)
  refine zok_pi (s_X12_patchByte i1.P h_x1 (zr_w (zr_c (lo := 3) (hi := 3) (by decide)) (by decide))) (fun v13 h4 => ?_)
  refine zok_br (zr_andr (lo := 0) (hi := 7) (zr_c (lo := 7) (hi := 7) (by decide)) (by decide)) (fun v14 e6 h5 => ?_)
  refine zok_if (fun q7 => ?_) (fun q7 => ?_)
  · have h8 := zc_eql (1) (1) q7 h_x2 (zr_c (lo := 1) (hi := 1) (by decide)) (by decide)
    refine zok_ck (zin_ok (zr_sub (lo := 169) (hi := 271) h_x3 (zr_c (lo := 3) (hi := 3) (by decide)) (by decide)) (by decide)) ?_
    exact (s_X12_operator_266 i1 h_x1 (zr_w h8 (by decide)) h_x3 t_x3 g4)
  have h9 := zc_nel (0) (0) q7 h_x2 (zr_c (lo := 1) (hi := 1) (by decide)) (by decide)
  refine zok_if (fun q10 => ?_) (fun q10 => ?_)
  · have h11 := zc_eql (0) (0) q10 h5 (zr_c (lo := 0) (hi := 0) (by decide)) (by decide)
    exact (s_X12_operator_266 i1 h_x1 (zr_w h9 (by decide)) h_x3 t_x3 g4)
  have h12 := zc_nel (1) (7) q10 h5 (zr_c (lo := 0) (hi := 0) (by decide)) (by decide)
  refine zok_ck (zin_ok (zr_add (lo := 175) (hi := 277) h_x3 (zr_c (lo := 3) (hi := 3) (by decide)) (by decide)) (by decide)) ?_
  refine zok_ck (zin_ok (zr_add (lo := 176) (hi := 278) h_x3 (zr_c (lo := 4) (hi := 4) (by decide)) (by decide)) (by decide)) ?_
  exact (s_X12_operator_266 i1 h_x1 (zr_w h9 (by decide)) h_x3 t_x3 g4)
theorem s_X12_operator_146 {G : Nat → Int} {σ : zSt} (hσ : zIM G σ) {x1 : Int32} (h_x1 : zr (0) (8) x1) {x2 : Int32} (h_x2 : zr (0) (1) x2) {x3 : Int32} (h_x3 : zr (172) (274) x3) (t_x3 : zat 0 x3) (g4 : 0 ≤ G 104 ∧ G 104 ≤ 1152921504606846976) : zok (fX12_operator_146 σ x1 x2 x3) (zIM G) := by
  unfold fX12_operator_146
  refine zok_ck (zin_ok (zr_add (lo := 173) (hi := 275) h_x3 (zr_c (lo := 1) (hi := 1) (by decide)) (by decide)) (by decide)) ?_
  refine zok_if (fun q1 => ?_) (fun q1 => ?_)
  · have h2 := zc_eql (2) (2) q1 zr_any (zr_c (lo := 2) (hi := 2) (by decide)) (by decide)
    refine zok_ck (zin_ok h_x3 (by decide)) ?_
    refine zok_ck (by decide) ?_
    refine zok_pi (s_X12_patchByte hσ.P h_x1 (zr_w (zr_add (lo := 6) (hi := 7) (zr_c (lo := 6) (hi := 6) (by decide)) h_x2 (by decide)) (by decide))) (fun v16 h3 => ?_)
    refine zok_if (fun q4 => ?_) (fun q4 => ?_)
    · have h5 := zc_ltr (1) q4 (zr_div (lo := 0) (hi := 15) 8 (by decide) (rM_lv hσ.Y t_x3) (by decide)) (zr_shr (lo := 0) (hi := 51) 4 (by decide) h3 (by decide)) (by decide)
      exact (s_X12_operator_190 hσ h_x1 h_x2 h_x3 t_x3 g4)
    have h6 := zc_lel (15) (z_nlt q4) (zr_shr (lo := 0) (hi := 51) 4 (by decide) h3 (by decide)) (zr_div (lo := 0) (hi := 15) 8 (by decide) (rM_lv hσ.Y t_x3) (by decide)) (by decide)
    refine zok_ck (zin_ok (zr_add (lo := 173) (hi := 275) h_x3 (zr_c (lo := 1) (hi := 1) (by decide)) (by decide)) (by decide)) ?_
    refine zok_bs (hσ.op (zat_add t_x3 (c1 := 1) 1 (by decide) (by decide)) (by decide)) (fun σ17 e8 i7 => ?_)
    exact (s_X12_operator_190 i7 h_x1 h_x2 h_x3 t_x3 g4)
  exact (s_X12_operator_190 hσ h_x1 h_x2 h_x3 t_x3 g4)
theorem s_X12_operator_113 {G : Nat → Int} {σ : zSt} (hσ : zIM G σ) {x1 : Int32} (h_x1 : zr (0) (8) x1) {x2 : Int32} (h_x2 : zr (0) (1) x2) {x3 : Int32} (h_x3 : zr (172) (274) x3) (t_x3 : zat 0 x3) (g4 : 0 ≤ G 104 ∧ G 104 ≤ 1152921504606846976) : zok (fX12_operator_113 σ x1 x2 x3) (zIM G) := by
  unfold fX12_operator_113
  refine zok_ck (zin_ok (zr_add (lo := 173) (hi := 275) h_x3 (zr_c (lo := 1) (hi := 1) (by decide)) (by decide)) (by decide)) ?_
  refine zok_if (fun q1 => ?_) (fun q1 => ?_)
  · have h2 := zc_eql (1) (1) q1 zr_any (zr_c (lo := 1) (hi := 1) (by decide)) (by decide)
    refine zok_ck (zin_ok h_x3 (by decide)) ?_
    refine zok_if (fun q3 => ?_) (fun q3 => ?_)
    · have h4 := zc_eql (0) (0) q3 (rM_lv hσ.Y t_x3) (zr_c (lo := 0) (hi := 0) (by decide)) (by decide)
      refine zok_ck (zin_ok (zr_add (lo := 173) (hi := 275) h_x3 (zr_c (lo := 1) (hi := 1) (by decide)) (by decide)) (by decide)) ?_
      refine zok_bs (hσ.op (zat_add t_x3 (c1 := 1) 1 (by decide) (by decide)) (by decide)) (fun σ18 e6 i5 => ?_)
      exact (s_X12_operator_190 i5 h_x1 h_x2 h_x3 t_x3 g4)
    have h7 := zc_nel (1) (127) q3 (rM_lv hσ.Y t_x3) (zr_c (lo := 0) (hi := 0) (by decide)) (by decide)
    exact (s_X12_operator_146 hσ h_x1 h_x2 h_x3 t_x3 g4)
  exact (s_X12_operator_146 hσ h_x1 h_x2 h_x3 t_x3 g4)
theorem s_X12_operator_53 {G : Nat → Int} {σ : zSt} (hσ : zIM G σ) {x1 : Int32} (h_x1 : zr (0) (8) x1) {x2 : Int32} (h_x2 : zr (0) (1) x2) {x3 : Int32} (h_x3 : zr (172) (274) x3) {x4 : Int32} (h_x4 : zr (0) (1) x4) (t_x3 : zat 0 x3) (g4 : 0 ≤ G 104 ∧ G 104 ≤ 1152921504606846976) : zok (fX12_operator_53 σ x1 x2 x3 x4) (zIM G) := by
  unfold fX12_operator_53
  refine zok_ck (zin_ok (zr_add (lo := 177) (hi := 279) h_x3 (zr_c (lo := 5) (hi := 5) (by decide)) (by decide)) (by decide)) ?_
  refine zok_bs (hσ.op (zat_add t_x3 (c1 := 5) 5 (by decide) (by decide)) (by decide)) (fun σ19 e2 i1 => ?_)
  refine zok_bu (s_X12_envelope i1 h_x3 h_x1 h_x2 t_x3) (fun σ20 i3 => ?_)
  refine zok_ck (zin_ok (zr_add (lo := 173) (hi := 275) h_x3 (zr_c (lo := 1) (hi := 1) (by decide)) (by decide)) (by decide)) ?_
  refine zok_if (fun q4 => ?_) (fun q4 => ?_)
  · have h5 := zc_eql (0) (0) q4 zr_any (zr_c (lo := 0) (hi := 0) (by decide)) (by decide)
    refine zok_ck (zin_ok h_x3 (by decide)) ?_
    refine zok_if (fun q6 => ?_) (fun q6 => ?_)
    · have h7 := zc_ltl (123) q6 (rM_lv i3.Y t_x3) (zr_c (lo := 124) (hi := 124) (by decide)) (by decide)
      exact (s_X12_operator_113 i3 h_x1 h_x2 h_x3 t_x3 g4)
    have h8 := zc_ler (124) (z_nlt q6) (zr_c (lo := 124) (hi := 124) (by decide)) (rM_lv i3.Y t_x3) (by decide)
    refine zok_ck (zin_ok (zr_add (lo := 173) (hi := 275) h_x3 (zr_c (lo := 1) (hi := 1) (by decide)) (by decide)) (by decide)) ?_
    refine zok_bs (i3.op (zat_add t_x3 (c1 := 1) 1 (by decide) (by decide)) (by decide)) (fun σ21 e10 i9 => ?_)
    refine zok_ck (zin_ok (zr_add (lo := 174) (hi := 276) h_x3 (zr_c (lo := 2) (hi := 2) (by decide)) (by decide)) (by decide)) ?_
    refine zok_bs (i9.op (zat_add t_x3 (c1 := 2) 2 (by decide) (by decide)) (by decide)) (fun σ22 e12 i11 => ?_)
    exact (s_X12_operator_190 i11 h_x1 h_x2 h_x3 t_x3 g4)
  exact (s_X12_operator_113 i3 h_x1 h_x2 h_x3 t_x3 g4)
theorem s_X12_operator_52 {G : Nat → Int} {σ : zSt} (hσ : zIM G σ) {x1 : Int32} (h_x1 : zr (0) (8) x1) {x2 : Int32} (h_x2 : zr (0) (1) x2) {x3 : Int32} (h_x3 : zr (172) (274) x3) {x4 : Int32} (h_x4 : zr (0) (1) x4) {s0 : Int32} (h_s0 : zr (0) (4) s0) {s1 : Int32} (h_s1 : zr (173) (275) s1) (t_x3 : zat 0 x3) (t_s1 : zat 1 s1) (g4 : 0 ≤ G 104 ∧ G 104 ≤ 1152921504606846976) : zok (fX12_operator_52 σ x1 x2 x3 x4 s0 s1) (zIM G) := by
  unfold fX12_operator_52
  refine zok_ck (zin_ok h_s1 (by decide)) ?_
  refine zok_bs (hσ.op t_s1 (by decide)) (fun σ23 e2 i1 => ?_)
  exact (s_X12_operator_53 i1 h_x1 h_x2 h_x3 h_x4 t_x3 g4)
theorem s_X12_operator {G : Nat → Int} {σ : zSt} (hσ : zIM G σ) {x1 : Int32} (h_x1 : zr (0) (8) x1) {x2 : Int32} (h_x2 : zr (0) (1) x2) (g4 : 0 ≤ G 104 ∧ G 104 ≤ 1152921504606846976) : zok (fX12_operator σ x1 x2) (zIM G) := by
  unfold fX12_operator
  refine zok_br (zr_add (lo := 172) (hi := 274) (zr_c (lo := 172) (hi := 172) (by decide)) (zr_mul (lo := 0) (hi := 102) (zr_c (lo := 6) (hi := 6) (by decide)) (zr_add (lo := 0) (hi := 17) (zr_mul (lo := 0) (hi := 16) (zr_c (lo := 2) (hi := 2) (by decide)) h_x1 (by decide)) h_x2 (by decide)) (by decide)) (by decide)) (fun v24 e2 h1 => ?_)
  have h3 := z_at0 e2 h_x1 h_x2 (by decide)
  refine zok_pi (s_X12_isOn hσ.P h_x1 h_x2) (fun v26 h4 => ?_)
  refine zok_ck (zin_ok (zr_add (lo := 177) (hi := 279) h1 (zr_c (lo := 5) (hi := 5) (by decide)) (by decide)) (by decide)) ?_
  refine zok_if (fun q5 => ?_) (fun q5 => ?_)
  · have h6 := zc_eqr (0) (1) q5 h4 zr_any (by decide)
    exact (s_X12_operator_53 hσ h_x1 h_x2 h1 h4 h3 g4)
  refine zok_if (fun q7 => ?_) (fun q7 => ?_)
  · have h8 := zc_eql (1) (1) q7 h4 (zr_c (lo := 1) (hi := 1) (by decide)) (by decide)
    exact (s_X12_operator_52 hσ h_x1 h_x2 h1 (zr_w h8 (by decide)) (zr_w (zr_c (lo := 0) (hi := 0) (by decide)) (by decide)) (zr_add (lo := 173) (hi := 275) h1 (zr_c (lo := 1) (hi := 1) (by decide)) (by decide)) h3 (zat_add h3 (c1 := 1) 1 (by decide) (by decide)) g4)
  have h9 := zc_nel (0) (0) q7 h4 (zr_c (lo := 1) (hi := 1) (by decide)) (by decide)
  exact (s_X12_operator_52 hσ h_x1 h_x2 h1 (zr_w h9 (by decide)) (zr_w (zr_c (lo := 4) (hi := 4) (by decide)) (by decide)) (zr_add (lo := 173) (hi := 275) h1 (zr_c (lo := 1) (hi := 1) (by decide)) (by decide)) h3 (zat_add h3 (c1 := 1) 1 (by decide) (by decide)) g4)
theorem s_X12_waves_20_body {G : Nat → Int} {σ : zSt} {k12 : zSt → Int32 → Option (zSt)} {Mk12 : Int} (hk12 : ∀ (σ : zSt) (x1 : Int32), zIM G σ → zr (0) (9) x1 → (9) - x1.toInt < Mk12 → zok (k12 σ x1) (zIM G)) {k20 : zSt → Int32 → Int32 → Option (zSt)} {Mk20 : Int} (hk20 : ∀ (σ : zSt) (x1 : Int32) (x2 : Int32), zIM G σ → zr (0) (8) x1 → zr (0) (2) x2 → (2) - x2.toInt < Mk20 → (9) - x1.toInt ≤ Mk12 → zok (k20 σ x1 x2) (zIM G)) (hσ : zIM G σ) {x1 : Int32} (h_x1 : zr (0) (8) x1) {x2 : Int32} (h_x2 : zr (0) (2) x2) (g4 : 0 ≤ G 104 ∧ G 104 ≤ 1152921504606846976) (hMk12 : (9) - x1.toInt ≤ Mk12) (hMk20 : (2) - x2.toInt ≤ Mk20) : zok (fX12_waves_20_body k12 k20 σ x1 x2) (zIM G) := by
  unfold fX12_waves_20_body
  refine zok_if (fun q1 => ?_) (fun q1 => ?_)
  · have h2 := zc_ler (2) q1 (zr_c (lo := 2) (hi := 2) (by decide)) h_x2 (by decide)
    refine zok_br (zr_add (lo := 1) (hi := 9) h_x1 (zr_c (lo := 1) (hi := 1) (by decide)) (by decide)) (fun v1 e4 h3 => ?_)
    exact hk12 _ _ hσ (zr_w h3 (by decide)) (by rw [e4]; have := z_tadd (y := (1 : Int32)) h_x1 (zr_c (lo := 1) (hi := 1) (by decide)) (by decide); have e9 : (1 : Int32).toInt = 1 := rfl; omega) 
  have h5 := zc_ltl (1) (z_nle q1) h_x2 (zr_c (lo := 2) (hi := 2) (by decide)) (by decide)
  refine zok_bu (s_X12_operator hσ h_x1 h5 g4) (fun σ2 i6 => ?_)
  refine zok_br (zr_add (lo := 1) (hi := 2) h5 (zr_c (lo := 1) (hi := 1) (by decide)) (by decide)) (fun v3 e8 h7 => ?_)
  exact hk20 _ _ _ i6 h_x1 (zr_w h7 (by decide)) (by rw [e8]; have := z_tadd (y := (1 : Int32)) h5 (zr_c (lo := 1) (hi := 1) (by decide)) (by decide); have e9 : (1 : Int32).toInt = 1 := rfl; omega) hMk12
theorem s_X12_waves_20 {G : Nat → Int} {k12 : zSt → Int32 → Option (zSt)} {Mk12 : Int} (hk12 : ∀ (σ : zSt) (x1 : Int32), zIM G σ → zr (0) (9) x1 → (9) - x1.toInt < Mk12 → zok (k12 σ x1) (zIM G)) (g4 : 0 ≤ G 104 ∧ G 104 ≤ 1152921504606846976) : ∀ (n : Nat) {σ : zSt} (hσ : zIM G σ) {x1 : Int32} (h_x1 : zr (0) (8) x1) {x2 : Int32} (h_x2 : zr (0) (2) x2) (hm : (2) - x2.toInt < n) (hMk12 : (9) - x1.toInt ≤ Mk12), zok (fX12_waves_20 k12 n σ x1 x2) (zIM G) := by
  intro n
  induction n with
  | zero => intro σ hσ x1 h_x1 x2 h_x2 hm hMk12; have h9 := h_x2.1; have h8 := h_x2.2; exfalso; omega
  | succ n ih => intro σ hσ x1 h_x1 x2 h_x2 hm hMk12; exact s_X12_waves_20_body hk12 (fun σ x1 x2 hσ h_x1 h_x2 hm1 hMk12 => ih hσ h_x1 h_x2 (by omega) hMk12) hσ h_x1 h_x2 g4 hMk12 (Int.le_refl _)
theorem s_X12_waves_157 {G : Nat → Int} {σ : zSt} {k82 : zSt → Int32 → Int32 → Option (zSt)} {Mk82 : Int} (hk82 : ∀ (σ : zSt) (x2 : Int32) (x3 : Int32), zIM G σ → zr (0) (9) x3 → (9) - x3.toInt < Mk82 → zok (k82 σ x2 x3) (zIM G)) (hσ : zIM G σ) {x2 : Int32} {x3 : Int32} (h_x3 : zr (0) (8) x3) (hMk82 : (9) - x3.toInt ≤ Mk82) : zok (fX12_waves_157 k82 σ x2 x3) (zIM G) := by
  unfold fX12_waves_157
  refine zok_br (zr_add (lo := 1) (hi := 9) h_x3 (zr_c (lo := 1) (hi := 1) (by decide)) (by decide)) (fun v4 e2 h1 => ?_)
  exact hk82 _ _ _ hσ (zr_w h1 (by decide)) (by rw [e2]; have := z_tadd (y := (1 : Int32)) h_x3 (zr_c (lo := 1) (hi := 1) (by decide)) (by decide); have e9 : (1 : Int32).toInt = 1 := rfl; omega) 
theorem s_X12_waves_153 {G : Nat → Int} {σ : zSt} {k82 : zSt → Int32 → Int32 → Option (zSt)} {Mk82 : Int} (hk82 : ∀ (σ : zSt) (x2 : Int32) (x3 : Int32), zIM G σ → zr (0) (9) x3 → (9) - x3.toInt < Mk82 → zok (k82 σ x2 x3) (zIM G)) (hσ : zIM G σ) {x3 : Int32} (h_x3 : zr (0) (8) x3) {s0 : Int32} {s1 : Int32} {s2 : Int32} (h_s2 : zr (2) (2) s2) {s3 : Int32} (hMk82 : (9) - x3.toInt ≤ Mk82) : zok (fX12_waves_153 k82 σ x3 s0 s1 s2 s3) (zIM G) := by
  unfold fX12_waves_153
  refine zok_bv (fun v5 e2 => ?_)
  exact (s_X12_waves_157 hk82 hσ h_x3 hMk82)
theorem s_X12_waves_82_body {G : Nat → Int} {σ : zSt} {k82 : zSt → Int32 → Int32 → Option (zSt)} {Mk82 : Int} (hk82 : ∀ (σ : zSt) (x2 : Int32) (x3 : Int32), zIM G σ → zr (0) (9) x3 → (9) - x3.toInt < Mk82 → zok (k82 σ x2 x3) (zIM G)) (hσ : zIM G σ) {x2 : Int32} {x3 : Int32} (h_x3 : zr (0) (9) x3) (hMk82 : (9) - x3.toInt ≤ Mk82) : zok (fX12_waves_82_body k82 σ x2 x3) (zIM G) := by
  unfold fX12_waves_82_body
  refine zok_if (fun q1 => ?_) (fun q1 => ?_)
  · have h2 := zc_ler (9) q1 (zr_c (lo := 9) (hi := 9) (by decide)) h_x3 (by decide)
    refine zok_ck rfl ?_
    refine zok_bs (hσ.wi 165 165 (by decide) zr_any (by decide +kernel)) (fun σ6 e4 i3 => ?_)
    exact zok_some i3
  have h5 := zc_ltl (8) (z_nle q1) h_x3 (zr_c (lo := 9) (hi := 9) (by decide)) (by decide)
  refine zok_br (zr_add (lo := 172) (hi := 268) (zr_c (lo := 172) (hi := 172) (by decide)) (zr_mul (lo := 0) (hi := 96) (zr_c (lo := 12) (hi := 12) (by decide)) h5 (by decide)) (by decide)) (fun v7 e7 h6 => ?_)
  refine zok_pi (s_X12_isRhythm hσ.P h5) (fun v9 h8 => ?_)
  refine zok_if (fun q9 => ?_) (fun q9 => ?_)
  · have h10 := zc_eql (0) (0) q9 h8 (zr_c (lo := 0) (hi := 0) (by decide)) (by decide)
    refine zok_ck (zin_ok (zr_add (lo := 181) (hi := 277) h6 (zr_c (lo := 9) (hi := 9) (by decide)) (by decide)) (by decide)) ?_
    refine zok_bv (fun v10 e12 => ?_)
    exact (s_X12_waves_157 hk82 hσ h5 hMk82)
  have h13 := zc_nel (1) (1) q9 h8 (zr_c (lo := 0) (hi := 0) (by decide)) (by decide)
  refine zok_ck (zin_ok (zr_add (lo := 181) (hi := 277) h6 (zr_c (lo := 9) (hi := 9) (by decide)) (by decide)) (by decide)) ?_
  refine zok_if (fun q14 => ?_) (fun q14 => ?_)
  · have h15 := zc_lel (6) q14 h5 (zr_c (lo := 6) (hi := 6) (by decide)) (by decide)
    exact (s_X12_waves_153 hk82 hσ (zr_w h15 (by decide)) (zr_c (lo := 2) (hi := 2) (by decide)) hMk82)
  have h16 := zc_ltr (7) (z_nle q14) (zr_c (lo := 6) (hi := 6) (by decide)) h5 (by decide)
  refine zok_ck (zin_ok (zr_add (lo := 175) (hi := 271) h6 (zr_c (lo := 3) (hi := 3) (by decide)) (by decide)) (by decide)) ?_
  exact (s_X12_waves_153 hk82 hσ (zr_w h16 (by decide)) (zr_c (lo := 2) (hi := 2) (by decide)) hMk82)
theorem s_X12_waves_82 {G : Nat → Int} : ∀ (n : Nat) {σ : zSt} (hσ : zIM G σ) {x2 : Int32} {x3 : Int32} (h_x3 : zr (0) (9) x3) (hm : (9) - x3.toInt < n), zok (fX12_waves_82 n σ x2 x3) (zIM G) := by
  intro n
  induction n with
  | zero => intro σ hσ x2 x3 h_x3 hm ; have h9 := h_x3.1; have h8 := h_x3.2; exfalso; omega
  | succ n ih => intro σ hσ x2 x3 h_x3 hm ; exact s_X12_waves_82_body (fun σ x2 x3 hσ h_x3 hm1 => ih hσ h_x3 (by omega)) hσ h_x3 (Int.le_refl _)
end ZJN0
section ZJN1
theorem s_X12_waves_75 {G : Nat → Int} {σ : zSt} (hσ : zIM G σ) {s0 : Int32} {s1 : Int32} (h_s1 : zr (164) (164) s1) : zok (fX12_waves_75 σ s0 s1) (zIM G) := by
  unfold fX12_waves_75
  refine zok_ck (zin_ok h_s1 (by decide)) ?_
  refine zok_bs (hσ.wi 164 164 (z_ix h_s1 (by decide)) (zr_shr (lo := -1073741824) (hi := 1073741823) 1 (by decide) zr_any (by decide)) (by decide +kernel)) (fun σ11 e2 i1 => ?_)
  exact (s_X12_waves_82 zfuel i1 (zr_w (zr_c (lo := 0) (hi := 0) (by decide)) (by decide)) (by decide))
theorem s_X12_waves_12_body {G : Nat → Int} {σ : zSt} {k12 : zSt → Int32 → Option (zSt)} {Mk12 : Int} (hk12 : ∀ (σ : zSt) (x1 : Int32), zIM G σ → zr (0) (9) x1 → (9) - x1.toInt < Mk12 → zok (k12 σ x1) (zIM G)) (hσ : zIM G σ) {x1 : Int32} (h_x1 : zr (0) (9) x1) (g4 : 0 ≤ G 104 ∧ G 104 ≤ 1152921504606846976) (hMk12 : (9) - x1.toInt ≤ Mk12) : zok (fX12_waves_12_body k12 σ x1) (zIM G) := by
  unfold fX12_waves_12_body
  refine zok_if (fun q1 => ?_) (fun q1 => ?_)
  · have h2 := zc_ler (9) q1 (zr_c (lo := 9) (hi := 9) (by decide)) h_x1 (by decide)
    refine zok_ck rfl ?_
    refine zok_bv (fun v12 e4 => ?_)
    refine zok_if (fun q5 => ?_) (fun q5 => ?_)
    · have h6 := zc_eql (1) (1) q5 (zr_andr (lo := 0) (hi := 1) (zr_c (lo := 1) (hi := 1) (by decide)) (by decide)) (zr_c (lo := 1) (hi := 1) (by decide)) (by decide)
      exact (s_X12_waves_75 hσ (zr_c (lo := 164) (hi := 164) (by decide)))
    have h7 := zc_nel (0) (0) q5 (zr_andr (lo := 0) (hi := 1) (zr_c (lo := 1) (hi := 1) (by decide)) (by decide)) (zr_c (lo := 1) (hi := 1) (by decide)) (by decide)
    exact (s_X12_waves_75 hσ (zr_c (lo := 164) (hi := 164) (by decide)))
  have h8 := zc_ltl (8) (z_nle q1) h_x1 (zr_c (lo := 9) (hi := 9) (by decide)) (by decide)
  exact (s_X12_waves_20 hk12 g4 zfuel hσ h8 (zr_w (zr_c (lo := 0) (hi := 0) (by decide)) (by decide)) (by decide) hMk12)
theorem s_X12_waves_12 {G : Nat → Int} (g4 : 0 ≤ G 104 ∧ G 104 ≤ 1152921504606846976) : ∀ (n : Nat) {σ : zSt} (hσ : zIM G σ) {x1 : Int32} (h_x1 : zr (0) (9) x1) (hm : (9) - x1.toInt < n), zok (fX12_waves_12 n σ x1) (zIM G) := by
  intro n
  induction n with
  | zero => intro σ hσ x1 h_x1 hm ; have h9 := h_x1.1; have h8 := h_x1.2; exfalso; omega
  | succ n ih => intro σ hσ x1 h_x1 hm ; exact s_X12_waves_12_body (fun σ x1 hσ h_x1 hm1 => ih hσ h_x1 (by omega)) hσ h_x1 g4 (Int.le_refl _)
theorem s_X12_waves {G : Nat → Int} {σ : zSt} (hσ : zIM G σ) (g4 : 0 ≤ G 104 ∧ G 104 ≤ 1125899906842624) : zok (fX12_waves σ ) (zIM (zset G 104 (G 104 + 1))) := by
  unfold fX12_waves
  refine zok_ck rfl (zok_ck rfl ?_)
  refine zok_bs (I := zIM (zset G 104 (G 104 + 1))) (z_w44 hσ g4) (fun σ1 e i1 => ?_)
  exact s_X12_waves_12 (by rw [zset_eq]; omega) zfuel i1 (zr_w (zr_c (lo := 0) (hi := 0) (by decide)) (by decide)) (by decide)
theorem s_X12_mixed_151 {G : Nat → Int} {σ : zSt} (hσ : zIM G σ) {x2 : Int64} (c_3_169 : zr (1) (4096) (zgi σ 3 169)) : zok (fX12_mixed_151 σ x2) (zIM G) := by
  unfold fX12_mixed_151
  refine zok_ck rfl ?_
  refine zok_ck rfl ?_
  refine zok_ck (by decide) ?_
  refine zok_ck (zin_ok (zr_rem (lo := 0) (hi := 4095) 4096 (by decide) (zr_sub (lo := 0) (hi := 8190) (zr_add (lo := 1) (hi := 8191) (rM_44 hσ.sg _ (by decide)) c_3_169 (by decide)) (zr_c (lo := 1) (hi := 1) (by decide)) (by decide)) (by decide)) (by decide)) ?_
  refine zok_bs (hσ.wl 0 4095 (z_ix (zr_rem (lo := 0) (hi := 4095) 4096 (by decide) (zr_sub (lo := 0) (hi := 8190) (zr_add (lo := 1) (hi := 8191) (rM_44 hσ.sg _ (by decide)) c_3_169 (by decide)) (zr_c (lo := 1) (hi := 1) (by decide)) (by decide)) (by decide)) (by decide)) (by decide)) (fun σ1 e2 i1 => ?_)
  exact zok_some i1
theorem s_mixed_76_x {G : Nat → Int} {σ : zSt} (hσ : zIM G σ) {x2 : Int64} {k : zSt → Int64 → Int32 → Option zSt} : zok (fX12_mixed_76_body k σ x2 3) (zIM G) := by
  unfold fX12_mixed_76_body
  rw [if_pos (by decide)]
  refine zok_ck rfl ?_
  have hw := rM_43 hσ.sg (169 : Int32).toNatClampNeg (by decide)
  have hf := rM_44 hσ.sg (170 : Int32).toNatClampNeg (by decide)
  refine zok_if (fun q => ?_) (fun q => ?_)
  · refine zok_ck rfl (zok_ck (by decide) (zok_ck rfl ?_))
    have h4 := zc_eql (4096) (4096) q hw (zr_c (lo := 4096) (hi := 4096) (by decide)) (by decide)
    refine zok_bs (hσ.wi 170 170 (by decide) (zr_rem (lo := 0) (hi := 4095) 4096 (by decide) (zr_add (lo := 1) (hi := 4096) hf (zr_c (lo := 1) (hi := 1) (by decide)) (by decide)) (by decide)) (by decide +kernel)) (fun σ3 e3 i3 => ?_)
    exact s_X12_mixed_151 i3 (zr_w (z_trj e3 (by decide) h4) (by decide))
  · refine zok_ck rfl (zok_ck rfl ?_)
    have h4 := zc_nel (0) (4095) q hw (zr_c (lo := 4096) (hi := 4096) (by decide)) (by decide)
    have h5 := zr_add (lo := 1) (hi := 4096) h4 (zr_c (lo := 1) (hi := 1) (x := 1) (by decide)) (by decide)
    refine zok_bs (hσ.wi 169 169 (by decide) h5 (by decide +kernel)) (fun σ3 e3 i3 => ?_)
    exact s_X12_mixed_151 i3 (z_own e3 h5)
theorem s_mixed_76 {G : Nat → Int} (n : Nat) {σ : zSt} (hσ : zIM G σ) {x2 : Int64} : zok (fX12_mixed_76 (n + 4) σ x2 0) (zIM (zset G 5 0)) := by
  show zok (fX12_mixed_76_body (fX12_mixed_76 (n + 3)) σ x2 0) _
  unfold fX12_mixed_76_body
  rw [if_neg (by decide)]
  refine zok_ck rfl ?_
  refine zok_bs (hσ.wi 166 166 (by decide) zr_any (by decide +kernel)) (fun σ1 e1 i1 => ?_)
  show zok (fX12_mixed_76_body (fX12_mixed_76 (n + 2)) σ1 x2 1) _
  unfold fX12_mixed_76_body
  rw [if_neg (by decide)]
  refine zok_ck rfl ?_
  refine zok_bs (i1.wi 167 167 (by decide) zr_any (by decide +kernel)) (fun σ2 e2 i2 => ?_)
  show zok (fX12_mixed_76_body (fX12_mixed_76 (n + 1)) σ2 x2 2) _
  unfold fX12_mixed_76_body
  rw [if_neg (by decide)]
  refine zok_ck rfl ?_
  refine zok_bs (I := zIM (zset G 5 0)) (zIM.wg (v := 0) 5 i2 (by decide) (by decide) zr_any (by decide +kernel)) (fun σ3 e3 i3 => ?_)
  show zok (fX12_mixed_76_body (fX12_mixed_76 n) σ3 x2 3) _
  exact s_mixed_76_x i3
theorem s_X12_mixed_26 {G : Nat → Int} {σ : zSt} (hσ : zIM G σ) {s0 : Int32} (g5 : 1 ≤ G 5 ∧ G 5 ≤ 536870912) : zok (fX12_mixed_26 σ s0) (zIM (zset G 5 0)) := by
  unfold fX12_mixed_26
  refine zok_ck rfl (zok_ck rfl (zok_ck (zdv_ok (rM_g5 hσ g5) (by decide)) (zok_ck rfl (zok_ck rfl (zok_ck (zdv_ok (rM_g5 hσ g5) (by decide)) ?_)))))
  refine zok_bv (fun v6 _ => ?_)
  exact s_mixed_76 1999996 hσ
theorem s_X12_mixed {G : Nat → Int} {σ : zSt} (hσ : zIM G σ) (g5 : 1 ≤ G 5 ∧ G 5 ≤ 536870912) : zok (fX12_mixed σ ) (zIM (zset G 5 0)) := by
  unfold fX12_mixed
  refine zok_ck rfl ?_
  refine zok_if (fun q1 => ?_) (fun q1 => ?_)
  · have h2 := zc_eql (1) (1) q1 (zr_andr (lo := 0) (hi := 1) (zr_c (lo := 1) (hi := 1) (by decide)) (by decide)) (zr_c (lo := 1) (hi := 1) (by decide)) (by decide)
    refine zok_ck rfl ?_
    exact (s_X12_mixed_26 hσ g5)
  have h3 := zc_nel (0) (0) q1 (zr_andr (lo := 0) (hi := 1) (zr_c (lo := 1) (hi := 1) (by decide)) (by decide)) (zr_c (lo := 1) (hi := 1) (by decide)) (by decide)
  exact (s_X12_mixed_26 hσ g5)
theorem s_X12_asks_48 {σ : zSt} (hσ : zPM σ) {s0 : Int32} (h_s0 : zr (0) (1) s0) : zok (fX12_asks_48 σ s0) (zPi σ (fun v : Int32 => zr (0) (1) v)) := by
  unfold fX12_asks_48
  refine zok_ck (zbo_ok h_s0 (by decide)) ?_
  exact zok_spi h_s0
theorem s_X12_asks_47 {σ : zSt} (hσ : zPM σ) : zok (fX12_asks_47 σ ) (zPi σ (fun v : Int32 => zr (0) (1) v)) := by
  unfold fX12_asks_47
  exact (s_X12_asks_48 hσ (zr_w (zr_c (lo := 0) (hi := 0) (by decide)) (by decide)))
theorem s_X12_asks_43 {σ : zSt} (hσ : zPM σ) : zok (fX12_asks_43 σ ) (zPi σ (fun v : Int32 => zr (0) (1) v)) := by
  unfold fX12_asks_43
  exact (s_X12_asks_48 hσ (zr_w (zr_c (lo := 1) (hi := 1) (by decide)) (by decide)))
theorem s_X12_asks_22 {σ : zSt} (hσ : zPM σ) : zok (fX12_asks_22 σ ) (zPi σ (fun v : Int32 => zr (0) (1) v)) := by
  unfold fX12_asks_22
  refine zok_pi (s_X12_bit hσ (zr_w (zr_c (lo := 0) (hi := 0) (by decide)) (by decide)) (zr_w (zr_c (lo := 4) (hi := 4) (by decide)) (by decide))) (fun v2 h1 => ?_)
  refine zok_if (fun q2 => ?_) (fun q2 => ?_)
  · have h3 := zc_eql (1) (1) q2 h1 (zr_c (lo := 1) (hi := 1) (by decide)) (by decide)
    refine zok_ck rfl ?_
    refine zok_if (fun q4 => ?_) (fun q4 => ?_)
    · have h5 := zc_eql (1) (1) q4 (rM_27 hσ.sg _ (by decide)) (zr_c (lo := 1) (hi := 1) (by decide)) (by decide)
      exact (s_X12_asks_43 hσ)
    have h6 := zc_nel (0) (0) q4 (rM_27 hσ.sg _ (by decide)) (zr_c (lo := 1) (hi := 1) (by decide)) (by decide)
    exact (s_X12_asks_47 hσ)
  have h7 := zc_nel (0) (0) q2 h1 (zr_c (lo := 1) (hi := 1) (by decide)) (by decide)
  exact (s_X12_asks_47 hσ)
theorem s_X12_asks {σ : zSt} (hσ : zPM σ) : zok (fX12_asks σ ) (zPi σ (fun v : Int32 => zr (0) (1) v)) := by
  unfold fX12_asks
  refine zok_pi (s_X12_bit hσ (zr_w (zr_c (lo := 1) (hi := 1) (by decide)) (by decide)) (zr_w (zr_c (lo := 5) (hi := 5) (by decide)) (by decide))) (fun v4 h1 => ?_)
  refine zok_if (fun q2 => ?_) (fun q2 => ?_)
  · have h3 := zc_eql (1) (1) q2 h1 (zr_c (lo := 1) (hi := 1) (by decide)) (by decide)
    refine zok_ck rfl ?_
    refine zok_if (fun q4 => ?_) (fun q4 => ?_)
    · have h5 := zc_ltr (128) q4 (zr_c (lo := 127) (hi := 127) (by decide)) (rM_26 hσ.sg _ (by decide)) (by decide)
      exact (s_X12_asks_43 hσ)
    have h6 := zc_lel (127) (z_nlt q4) (rM_26 hσ.sg _ (by decide)) (zr_c (lo := 127) (hi := 127) (by decide)) (by decide)
    exact (s_X12_asks_22 hσ)
  have h7 := zc_nel (0) (0) q2 h1 (zr_c (lo := 1) (hi := 1) (by decide)) (by decide)
  exact (s_X12_asks_22 hσ)
theorem s_once_377 {G : Nat → Int} {σ : zSt} (n : Nat) (hσ : zIM G σ) {x5 : Int64} (hB : 0 ≤ G 100 ∧ G 100 ≤ 2251799813685248) (hx : x5.toInt = G 100 / 81 ∨ (x5.toInt + 1 = G 100 / 81 ∧ 1 ≤ G 5 ∧ G 5 ≤ 536870912)) : zok (fX12_once_377 (n + 2) σ x5) (zMix G x5) := by
  show zok (fX12_once_377_body (fX12_once_377 (n + 1)) σ x5) _
  unfold fX12_once_377_body
  have e := z_beat hσ hB 81 81 rfl (by decide)
  refine zok_ck rfl (zok_ck rfl (zok_if (fun q => ?_) (fun q => ?_)))
  · have q1 := z_cmp_ge.mp q
    rw [e] at q1
    exact zok_some (Or.inl ⟨by omega, hσ⟩)
  · have q1 : ¬ G 100 / 81 ≤ x5.toInt := fun r => q (z_cmp_ge.mpr (by rw [e]; exact r))
    have hx1 : x5.toInt + 1 = G 100 / 81 ∧ 1 ≤ G 5 ∧ G 5 ≤ 536870912 := by
      rcases hx with h | h
      · exact absurd (by omega) q1
      · exact h
    refine zok_bu (s_X12_mixed hσ hx1.2) (fun σ1 i1 => ?_)
    refine zok_bv (fun v2 e2 => ?_)
    have t : v2.toInt = x5.toInt + 1 := by
      rw [e2, Int64.toInt_add, show (1 : Int64).toInt = 1 from rfl]
      exact z_bml (by omega) (by omega)
    show zok (fX12_once_377_body (fX12_once_377 n) σ1 v2) _
    unfold fX12_once_377_body
    have z1 : (zset G 5 0) 100 = G 100 := zset_ne (by decide)
    have e1 := z_beat i1 (by rw [z1]; exact hB) 81 81 rfl (by decide)
    rw [z1] at e1
    refine zok_ck rfl (zok_ck rfl (zok_if (fun q2 => ?_) (fun q2 => ?_)))
    · exact zok_some (Or.inr ⟨hx1.1, i1⟩)
    · exact absurd (z_cmp_ge.mpr (by rw [e1]; omega)) q2
theorem s_once_341 {G : Nat → Int} {σ : zSt} (n : Nat) (hσ : zIM G σ) {x3 x5 : Int64} (hB : 0 ≤ G 100 ∧ G 100 ≤ 2251799813685248) (g4 : 0 ≤ G 104 ∧ G 104 ≤ 1125899906842624) (h3 : 0 ≤ x3.toInt ∧ x3.toInt ≤ G 100) (hx : x5.toInt = G 100 / 72 ∨ x5.toInt + 1 = G 100 / 72) (hm : x3.toInt / 81 = G 100 / 81 ∨ (x3.toInt / 81 + 1 = G 100 / 81 ∧ 1 ≤ G 5 ∧ G 5 ≤ 536870912)) : zok (fX12_once_341 (n + 2) σ x3 x5) (zWvs G x3) := by
  have t3 : (x3 / 81).toInt = x3.toInt / 81 := z_tldiv (a := 0) (b := 2251799813685248) 81 rfl ⟨by omega, by omega⟩ (by decide)
  have leaf : ∀ (σ1 : zSt) (w : Int), (w = G 104 ∨ w = G 104 + 1) → zIM (zset G 104 w) σ1 → zok (zck (decide (¬ (81 : Int64) = 0)) (zbv (x3 / 81) (fun v3 => fX12_once_377 zfuel σ1 v3))) (zWvs G x3) := fun σ1 w hw i1 => by
    refine zok_ck rfl (zok_bv (fun v3 e3 => ?_))
    subst e3
    have z1 : (zset G 104 w) 100 = G 100 := zset_ne (by decide)
    have z5 : (zset G 104 w) 5 = G 5 := zset_ne (by decide)
    refine zok_mono (s_once_377 1999998 i1 (by rw [z1]; exact hB) (by rw [z1, z5, t3]; exact hm)) (fun r hr => ?_)
    unfold zMix at hr
    rw [z1, t3] at hr
    exact ⟨w, hw, hr⟩
  show zok (fX12_once_341_body (fX12_once_341 (n + 1)) σ x3 x5) _
  unfold fX12_once_341_body
  have e := z_beat hσ hB 72 72 rfl (by decide)
  refine zok_ck rfl (zok_ck rfl (zok_if (fun q => leaf σ (G 104) (Or.inl rfl) (by rw [zset_id]; exact hσ)) (fun q => ?_)))
  have q1 : ¬ G 100 / 72 ≤ x5.toInt := fun r => q (z_cmp_ge.mpr (by rw [e]; exact r))
  have hx1 : x5.toInt + 1 = G 100 / 72 := by omega
  refine zok_bu (s_X12_waves hσ g4) (fun σ1 i1 => ?_)
  refine zok_bv (fun v2 e2 => ?_)
  have t : v2.toInt = x5.toInt + 1 := by
    rw [e2, Int64.toInt_add, show (1 : Int64).toInt = 1 from rfl]
    exact z_bml (by omega) (by omega)
  show zok (fX12_once_341_body (fX12_once_341 n) σ1 x3 v2) _
  unfold fX12_once_341_body
  have z1 : (zset G 104 (G 104 + 1)) 100 = G 100 := zset_ne (by decide)
  have e1 := z_beat i1 (by rw [z1]; exact hB) 72 72 rfl (by decide)
  rw [z1] at e1
  refine zok_ck rfl (zok_ck rfl (zok_if (fun q2 => leaf σ1 _ (Or.inr rfl) i1) (fun q2 => ?_)))
  exact absurd (z_cmp_ge.mpr (by rw [e1]; omega)) q2
theorem s_once_305 (n : Nat) : ∀ (d : Nat) {G : Nat → Int} {σ : zSt} (hσ : zIM G σ) {x3 x5 : Int64} (hB : 0 ≤ G 100 ∧ G 100 ≤ 2251799813685248) (g4 : 0 ≤ G 104 ∧ G 104 ≤ 1125899906842624) (h3 : 0 ≤ x3.toInt ∧ x3.toInt ≤ G 100) (h5 : 0 ≤ G 5 ∧ G 5 + d ≤ 536870912) (hd : x5.toInt + d = G 100 / 16) (h0 : 0 ≤ x5.toInt) (hw : x3.toInt / 72 = G 100 / 72 ∨ x3.toInt / 72 + 1 = G 100 / 72) (hm : x3.toInt / 81 = G 100 / 81 ∨ (x3.toInt / 81 + 1 = G 100 / 81 ∧ 1 ≤ G 5 + d)), zok (fX12_once_305 (n + d + 1) σ x3 x5) (zWvs (zset G 5 (G 5 + d)) x3) := by
  intro d
  induction d with
  | zero =>
    intro G σ hσ x3 x5 hB g4 h3 h5 hd h0 hw hm
    show zok (fX12_once_305_body (fX12_once_305 (n + 0)) σ x3 x5) _
    unfold fX12_once_305_body
    have e := z_beat hσ hB 16 16 rfl (by decide)
    have t3 : (x3 / 72).toInt = x3.toInt / 72 := z_tldiv (a := 0) (b := 2251799813685248) 72 rfl ⟨by omega, by omega⟩ (by decide)
    have eG : zset G 5 (G 5 + ((0 : Nat) : Int)) = G := by rw [show G 5 + ((0 : Nat) : Int) = G 5 by omega]; exact zset_id
    rw [eG]
    refine zok_ck rfl (zok_ck rfl (zok_if (fun q => ?_) (fun q => ?_)))
    · refine zok_ck rfl (zok_bv (fun v6 e6 => ?_))
      subst e6
      exact s_once_341 1999998 hσ hB g4 h3 (by rw [t3]; exact hw) (by omega)
    · exact absurd (z_cmp_ge.mpr (by rw [e]; omega)) q
  | succ d ih =>
    intro G σ hσ x3 x5 hB g4 h3 h5 hd h0 hw hm
    show zok (fX12_once_305_body (fX12_once_305 (n + (d + 1))) σ x3 x5) _
    unfold fX12_once_305_body
    have e := z_beat hσ hB 16 16 rfl (by decide)
    refine zok_ck rfl (zok_ck rfl (zok_if (fun q => ?_) (fun q => ?_)))
    · have q1 := z_cmp_ge.mp q
      rw [e] at q1
      exfalso; omega
    · refine zok_bu (s_X12_sample hσ (by omega)) (fun σ1 i1 => ?_)
      refine zok_bv (fun v2 e2 => ?_)
      have t : v2.toInt = x5.toInt + 1 := by
        rw [e2, Int64.toInt_add, show (1 : Int64).toInt = 1 from rfl]
        exact z_bml (by omega) (by omega)
      have z1 : (zset G 5 (G 5 + 1)) 100 = G 100 := zset_ne (by decide)
      have z4 : (zset G 5 (G 5 + 1)) 104 = G 104 := zset_ne (by decide)
      have z5 : (zset G 5 (G 5 + 1)) 5 = G 5 + 1 := zset_eq
      have k := ih i1 (x3 := x3) (x5 := v2) (by rw [z1]; exact hB) (by rw [z4]; exact g4) (by rw [z1]; exact h3) (by rw [z5]; omega) (by rw [z1]; omega) (by omega) (by rw [z1]; exact hw) (by rw [z1, z5]; omega)
      rw [zset_set, z5, show G 5 + 1 + (d : Int) = G 5 + ((d + 1 : Nat) : Int) by omega] at k
      exact k
theorem s_once_298 {G : Nat → Int} {σ : zSt} (hσ : zIM G σ) {x3 : Int64} {b : Int} (hb : 4 ≤ b ∧ b ≤ 35) (h3 : 0 ≤ x3.toInt ∧ x3.toInt + b = G 100) (hB : 0 ≤ G 100 ∧ G 100 ≤ 2251799813685248) (g4 : 0 ≤ G 104 ∧ G 104 ≤ 1125899906842624) (h5 : 0 ≤ G 5 ∧ G 5 ≤ 268435456) (hJ : zJ x3.toInt (G 5)) : zok (fX12_once_298 σ x3) (zEnT G) := by
  unfold fX12_once_298
  unfold zJ at hJ
  have t3 : (x3 / 16).toInt = x3.toInt / 16 := z_tldiv (a := 0) (b := 2251799813685248) 16 rfl ⟨by omega, by omega⟩ (by decide)
  refine zok_ck rfl (zok_bv (fun v9 e9 => ?_))
  subst e9
  obtain ⟨d, hd⟩ : ∃ d : Nat, (d : Int) = G 100 / 16 - x3.toInt / 16 := ⟨(G 100 / 16 - x3.toInt / 16).toNat, by omega⟩
  have hd3 : (d : Int) ≤ 3 := by omega
  have ef : zfuel = (1999990 - d + 9) + d + 1 := by unfold zfuel; omega
  rw [ef]
  have k := s_once_305 (1999990 - d + 9) d hσ (x3 := x3) (x5 := x3 / 16) hB g4 (by omega) (by omega) (by rw [t3]; omega) (by rw [t3]; omega) (by omega) (by omega)
  refine zok_mono k (fun r hr => ?_)
  obtain ⟨w, hw, hr⟩ := hr
  have z1 : (zset G 5 (G 5 + d)) 100 = G 100 := zset_ne (by decide)
  have z4 : (zset G 5 (G 5 + d)) 104 = G 104 := zset_ne (by decide)
  rw [z4] at hw
  rw [z1] at hr
  rcases hr with ⟨m, i⟩ | ⟨m, i⟩
  · rw [zset_com (by decide)] at i
    exact ⟨w, G 5 + d, hw, by omega, by unfold zJ; omega, i⟩
  · rw [zset_com (i := 5) (k := 104) (by decide), zset_set] at i
    exact ⟨w, 0, hw, by omega, by unfold zJ; omega, i⟩
theorem s_once_fin {G G2 : Nat → Int} {σ : zSt} {x3 : Int64} {b : Int} (hσ : zIM G2 σ) (gJ : zGJ G) (hb : 4 ≤ b ∧ b ≤ 35) (h3 : x3.toInt = G 100) (h100 : G2 100 = G 100 + b) (h104 : G2 104 = G 104) (h5 : G2 5 = G 5) (hl : 0 ≤ G2 3 ∧ G2 3 < zln G2) (h4 : 0 ≤ G2 4 ∧ G2 4 ≤ 227) (hp : zph G2 = zph G + b) (h101 : G 101 ≤ G2 101 ∧ G2 101 ≤ G 101 + 1) (hr : ∀ i, i ∈ [0, 1, 2, 6, 7, 8, 9, 102, 103, 105, 106] → G2 i = G i) : zok (fX12_once_298 σ x3) (zOnce G) := by
  obtain ⟨j1, j2, j3, j4, j5, j6, j7, j8⟩ := gJ
  refine zok_mono (s_once_298 hσ hb (by rw [h3, h100]; omega) (by rw [h100]; omega) (by rw [h104]; omega) (by rw [h5]; exact j7) (by rw [h3, h5]; exact j8)) (fun r q => ?_)
  obtain ⟨w, c, w1, c1, c2, i⟩ := q
  rw [h104] at w1
  rw [h5] at c1
  have v : ∀ k, ¬ k = 5 → ¬ k = 104 → (zset (zset G2 104 w) 5 c) k = G2 k := fun k k5 k4 => by rw [zset_ne k5, zset_ne k4]
  have v5 : (zset (zset G2 104 w) 5 c) 5 = c := zset_eq
  have v4 : (zset (zset G2 104 w) 5 c) 104 = w := by rw [zset_ne (by decide), zset_eq]
  refine ⟨_, b, i, hb, ?_, ?_, ?_, ?_, ?_, ?_, ?_, ?_, ?_⟩
  · rw [v 100 (by decide) (by decide)]; exact h100
  · rw [v4]; omega
  · rw [v5]; exact c1
  · rw [v 100 (by decide) (by decide), v5]; exact c2
  · rw [v 3 (by decide) (by decide), zln_c (v 1 (by decide) (by decide))]; exact hl
  · rw [v 4 (by decide) (by decide)]; exact h4
  · unfold zph at hp ⊢
    rw [v 1 (by decide) (by decide), v 101 (by decide) (by decide), v 3 (by decide) (by decide), v 4 (by decide) (by decide)]; exact hp
  · rw [v 101 (by decide) (by decide)]; exact h101
  · intro k hk
    rw [v k (fun r => by subst r; revert hk; decide) (fun r => by subst r; revert hk; decide)]; exact hr k hk
theorem s_X12_once_229 {G : Nat → Int} {σ : zSt} (hσ : zIM G σ) {x2 : Int32} (h_x2 : zr (4) (35) x2) (gJ : zGJ G) : zok (fX12_once_229 σ x2) (zOnce G) := by
  have gJ0 := gJ
  obtain ⟨j1, j2, j3, j4, j5, j6, j7, j8⟩ := gJ
  have b1 := h_x2.1
  have b2 := h_x2.2
  unfold fX12_once_229
  refine zok_ck rfl (zok_ck rfl ?_)
  refine zok_bs (I := zIM G) (hσ.wl 1 1 (by decide) (by decide)) (fun σ1 e1 i1 => ?_)
  refine zok_ck rfl (zok_bv (fun v11 e11 => ?_))
  have ev : v11.toInt = G 100 := by rw [e11]; exact i1.atl 0 (by decide)
  refine zok_ck rfl (zok_ck rfl ?_)
  have eb : (zgl σ1 4 (0 : Int32).toNatClampNeg).toInt = G 100 := i1.atl 0 (by decide)
  have tb : (zgl σ1 4 (0 : Int32).toNatClampNeg + x2.toInt64).toInt = G 100 + x2.toInt := by
    rw [z_tladd (a := 0) (b := 1125899906842624) (c := 4) (d := 35) (x := zgl σ1 4 (0 : Int32).toNatClampNeg) (y := x2.toInt64) ⟨by omega, by omega⟩ (zrl_i h_x2) (by decide), eb, Int32.toInt_toInt64]
  refine zok_bs (I := zIM (zset G 100 (G 100 + x2.toInt))) (by rw [← tb]; exact i1.wgl 0 (by decide)) (fun σ2 e2 i2 => ?_)
  refine zok_ck rfl (zok_ck rfl ?_)
  have e4 : (zgi σ2 3 (67 : Int32).toNatClampNeg).toInt = G 4 := by rw [i2.at 4 (by decide), zset_ne (by decide)]
  have h4 : zr 0 227 (zgi σ2 3 (67 : Int32).toNatClampNeg) := ⟨by omega, by omega⟩
  have t4 : (zgi σ2 3 (67 : Int32).toNatClampNeg + x2).toInt = G 4 + x2.toInt := by rw [z_tadd h4 h_x2 (by decide), e4]
  refine zok_bv (fun σ3 e3 => ?_)
  have e5 : (zgi σ3 3 (67 : Int32).toNatClampNeg).toInt = G 4 + x2.toInt := by
    rw [← t4, e3]; show ((zsi _ _ _ _).1 _ _).toInt = _; rw [zsi_ej]
  have c228 : (228 : Int32).toInt = 228 := rfl
  refine zok_ck rfl (zok_if (fun q => ?_) (fun q => ?_))
  · have q1 := Int32.lt_iff_toInt_lt.mp q
    have i3 : zIM (zset (zset G 100 (G 100 + x2.toInt)) 4 (G 4 + x2.toInt)) σ3 := by
      rw [e3, ← t4]
      exact i2.wg (lo := 0) (hi := 227) 4 (by decide) (by decide) ⟨by rw [t4]; omega, by rw [t4]; omega⟩ (by decide +kernel)
    have v : ∀ k, ¬ k = 100 → ¬ k = 4 → (zset (zset G 100 (G 100 + x2.toInt)) 4 (G 4 + x2.toInt)) k = G k := fun k k1 k2 => by rw [zset_ne k2, zset_ne k1]
    have v1 : (zset (zset G 100 (G 100 + x2.toInt)) 4 (G 4 + x2.toInt)) 100 = G 100 + x2.toInt := by rw [zset_ne (by decide), zset_eq]
    have v4 : (zset (zset G 100 (G 100 + x2.toInt)) 4 (G 4 + x2.toInt)) 4 = G 4 + x2.toInt := zset_eq
    refine s_once_fin (b := x2.toInt) i3 gJ0 ⟨b1, b2⟩ ev v1 (v 104 (by decide) (by decide)) (v 5 (by decide) (by decide)) ?_ ?_ ?_ ?_ ?_
    · rw [v 3 (by decide) (by decide), zln_c (v 1 (by decide) (by decide))]; exact j5
    · rw [v4]; omega
    · unfold zph
      rw [v 1 (by decide) (by decide), v 101 (by decide) (by decide), v 3 (by decide) (by decide), v4]; omega
    · rw [v 101 (by decide) (by decide)]; omega
    · intro k hk
      exact v k (fun r => by subst r; revert hk; decide) (fun r => by subst r; revert hk; decide)
  · have q1 := Int32.le_iff_toInt_le.mp (z_nlt q)
    refine zok_ck rfl (zok_ck rfl ?_)
    have h6 : zr 228 262 (zgi σ3 3 (67 : Int32).toNatClampNeg) := ⟨by omega, by omega⟩
    have k28 : zr 228 228 (228 : Int32) := zr_c (by decide)
    have t6 : (zgi σ3 3 (67 : Int32).toNatClampNeg - 228).toInt = G 4 + x2.toInt - 228 := by rw [z_tsub h6 k28 (by decide), e5, c228]
    refine zok_bs (I := zIM (zset (zset G 100 (G 100 + x2.toInt)) 4 (G 4 + x2.toInt - 228))) (by rw [← t6, zsi_two e3]; exact i2.wg 4 (by decide) (by decide) (zr_sub (lo := 0) (hi := 34) h6 k28 (by decide)) (by decide +kernel)) (fun σ4 e4 i4 => ?_)
    have v : ∀ k, ¬ k = 100 → ¬ k = 4 → (zset (zset G 100 (G 100 + x2.toInt)) 4 (G 4 + x2.toInt - 228)) k = G k := fun k k1 k2 => by rw [zset_ne k2, zset_ne k1]
    have v1 : (zset (zset G 100 (G 100 + x2.toInt)) 4 (G 4 + x2.toInt - 228)) 100 = G 100 + x2.toInt := by rw [zset_ne (by decide), zset_eq]
    have v4 : (zset (zset G 100 (G 100 + x2.toInt)) 4 (G 4 + x2.toInt - 228)) 4 = G 4 + x2.toInt - 228 := zset_eq
    have l1 : zln (zset (zset G 100 (G 100 + x2.toInt)) 4 (G 4 + x2.toInt - 228)) = zln G := zln_c (v 1 (by decide) (by decide))
    generalize zset (zset G 100 (G 100 + x2.toInt)) 4 (G 4 + x2.toInt - 228) = H at *
    have w3 := v 3 (by decide) (by decide)
    have w101 := v 101 (by decide) (by decide)
    refine zok_bu (s_X12_ends i4 (by unfold zEh; rw [w3, w101, l1]; exact ⟨j5, j4⟩)) (fun σ5 i5 => ?_)
    have lb := zln_b G
    by_cases qe : H 3 + 1 = zln H
    · have eE : zEnd H = zset (zset (zset H 3 (H 3 + 1)) 3 0) 101 (H 101 + 1) := if_pos qe
      rw [eE, zset_set] at i5
      have u : ∀ k, ¬ k = 3 → ¬ k = 101 → (zset (zset H 3 0) 101 (H 101 + 1)) k = H k := fun k k1 k2 => by rw [zset_ne k2, zset_ne k1]
      have u3 : (zset (zset H 3 0) 101 (H 101 + 1)) 3 = 0 := by rw [zset_ne (by decide), zset_eq]
      have u1 : (zset (zset H 3 0) 101 (H 101 + 1)) 101 = G 101 + 1 := by rw [zset_eq, w101]
      refine s_once_fin (b := x2.toInt) i5 gJ0 ⟨b1, b2⟩ ev ((u 100 (by decide) (by decide)).trans v1) ((u 104 (by decide) (by decide)).trans (v 104 (by decide) (by decide))) ((u 5 (by decide) (by decide)).trans (v 5 (by decide) (by decide))) ?_ ?_ ?_ ?_ ?_
      · rw [u3, zln_c (u 1 (by decide) (by decide)), l1]; omega
      · rw [u 4 (by decide) (by decide), v4]; omega
      · unfold zph
        rw [u 1 (by decide) (by decide), v 1 (by decide) (by decide), u1, u3, u 4 (by decide) (by decide), v4]
        rw [l1, w3] at qe
        unfold zln at qe
        split at qe
        · next h => rw [if_pos h, if_pos h]; omega
        · next h => rw [if_neg h, if_neg h]; omega
      · rw [u1]; omega
      · intro k hk
        exact (u k (fun r => by subst r; revert hk; decide) (fun r => by subst r; revert hk; decide)).trans (v k (fun r => by subst r; revert hk; decide) (fun r => by subst r; revert hk; decide))
    · have eE : zEnd H = zset H 3 (H 3 + 1) := if_neg qe
      rw [eE] at i5
      have u : ∀ k, ¬ k = 3 → (zset H 3 (H 3 + 1)) k = H k := fun k k1 => by rw [zset_ne k1]
      have u3 : (zset H 3 (H 3 + 1)) 3 = G 3 + 1 := by rw [zset_eq, w3]
      refine s_once_fin (b := x2.toInt) i5 gJ0 ⟨b1, b2⟩ ev ((u 100 (by decide)).trans v1) ((u 104 (by decide)).trans (v 104 (by decide) (by decide))) ((u 5 (by decide)).trans (v 5 (by decide) (by decide))) ?_ ?_ ?_ ?_ ?_
      · rw [u3, zln_c (u 1 (by decide)), l1]
        rw [l1, w3] at qe
        omega
      · rw [u 4 (by decide), v4]; omega
      · unfold zph
        rw [u 1 (by decide), v 1 (by decide) (by decide), u 101 (by decide), w101, u3, u 4 (by decide), v4]; omega
      · rw [u 101 (by decide), w101]; omega
      · intro k hk
        exact (u k (fun r => by subst r; revert hk; decide)).trans (v k (fun r => by subst r; revert hk; decide) (fun r => by subst r; revert hk; decide))
theorem s_X12_once_204 {G : Nat → Int} {σ : zSt} (hσ : zIM G σ) (gJ : zGJ G) : zok (fX12_once_204 σ ) (zOnce G) := by
  unfold fX12_once_204
  refine zok_ck rfl ?_
  refine zok_if (fun q1 => ?_) (fun q1 => ?_)
  · have h2 := zc_eql (1) (1) q1 (rM_17 hσ.sg _ (by decide)) (zr_c (lo := 1) (hi := 1) (by decide)) (by decide)
    refine zok_bu (s_X12_grows hσ) (fun σ18 i3 => ?_)
    exact (s_X12_once_229 i3 (zr_w (zr_c (lo := 4) (hi := 4) (by decide)) (by decide)) gJ)
  have h4 := zc_nel (0) (0) q1 (rM_17 hσ.sg _ (by decide)) (zr_c (lo := 1) (hi := 1) (by decide)) (by decide)
  refine zok_ai (s_X12_instruction hσ) (fun σ16 v17 i5 h6 => ?_)
  exact (s_X12_once_229 i5 h6 gJ)
theorem s_X12_once_200 {G : Nat → Int} {σ : zSt} (hσ : zIM G σ) {s0 : Int32} (h_s0 : zr (13) (19) s0) (gJ : zGJ G) : zok (fX12_once_200 σ s0) (zOnce G) := by
  unfold fX12_once_200
  exact (s_X12_once_229 hσ (zr_w h_s0 (by decide)) gJ)
theorem s_X12_once_179 {G : Nat → Int} {σ : zSt} (hσ : zIM G σ) {s0 : Int32} (h_s0 : zr (0) (65535) s0) (gJ : zGJ G) : zok (fX12_once_179 σ s0) (zOnce G) := by
  unfold fX12_once_179
  refine zok_bu (s_X12_call hσ h_s0) (fun σ19 i1 => ?_)
  refine zok_ck rfl ?_
  refine zok_if (fun q2 => ?_) (fun q2 => ?_)
  · have h3 := zc_ler (2) q2 (zr_c (lo := 2) (hi := 2) (by decide)) (rM_16 i1.sg _ (by decide)) (by decide)
    exact (s_X12_once_200 i1 (zr_w (zr_c (lo := 19) (hi := 19) (by decide)) (by decide)) gJ)
  have h4 := zc_ltl (1) (z_nle q2) (rM_16 i1.sg _ (by decide)) (zr_c (lo := 2) (hi := 2) (by decide)) (by decide)
  exact (s_X12_once_200 i1 (zr_w (zr_c (lo := 13) (hi := 13) (by decide)) (by decide)) gJ)
theorem s_X12_once_102 {G : Nat → Int} {σ : zSt} (hσ : zIM G σ) {x1 : Int32} (h_x1 : zr (0) (1) x1) (gJ : zGJ G) : zok (fX12_once_102 σ x1) (zOnce G) := by
  unfold fX12_once_102
  refine zok_ck rfl ?_
  refine zok_if (fun q1 => ?_) (fun q1 => ?_)
  · have h2 := zc_eql (1) (1) q1 (rM_15 hσ.sg _ (by decide)) (zr_c (lo := 1) (hi := 1) (by decide)) (by decide)
    refine zok_if (fun q3 => ?_) (fun q3 => ?_)
    · have h4 := zc_eql (0) (0) q3 h_x1 (zr_c (lo := 0) (hi := 0) (by decide)) (by decide)
      exact (s_X12_once_204 hσ gJ)
    have h5 := zc_nel (1) (1) q3 h_x1 (zr_c (lo := 0) (hi := 0) (by decide)) (by decide)
    refine zok_pi (s_X12_asks hσ.P) (fun v21 h6 => ?_)
    refine zok_if (fun q7 => ?_) (fun q7 => ?_)
    · have h8 := zc_eql (0) (0) q7 h6 (zr_c (lo := 0) (hi := 0) (by decide)) (by decide)
      exact (s_X12_once_204 hσ gJ)
    have h9 := zc_nel (1) (1) q7 h6 (zr_c (lo := 0) (hi := 0) (by decide)) (by decide)
    refine zok_ck rfl ?_
    refine zok_bs (hσ.wi 23 23 (by decide) (zr_c (lo := 0) (hi := 0) (by decide)) (by decide +kernel)) (fun σ22 e11 i10 => ?_)
    refine zok_ck rfl ?_
    refine zok_bs (i10.wi 24 24 (by decide) (zr_c (lo := 0) (hi := 0) (by decide)) (by decide +kernel)) (fun σ23 e13 i12 => ?_)
    refine zok_bu (s_X12_answers i12) (fun σ24 i14 => ?_)
    refine zok_ck rfl ?_
    refine zok_if (fun q15 => ?_) (fun q15 => ?_)
    · have h16 := zc_ler (2) q15 (zr_c (lo := 2) (hi := 2) (by decide)) (rM_16 i14.sg _ (by decide)) (by decide)
      refine zok_ck rfl ?_
      refine zok_pi (s_X12_word i14.P (zr_or (lo := 0) (hi := 65535) 16 (zr_shl (lo := 0) (hi := 65280) 8 (by decide) (rM_14 i14.sg _ (by decide)) (by decide)) (zr_c (lo := 255) (hi := 255) (by decide)) (by decide))) (fun v26 h17 => ?_)
      exact (s_X12_once_179 i14 h17 gJ)
    have h18 := zc_ltl (1) (z_nle q15) (rM_16 i14.sg _ (by decide)) (zr_c (lo := 2) (hi := 2) (by decide)) (by decide)
    exact (s_X12_once_179 i14 (zr_w (zr_c (lo := 56) (hi := 56) (by decide)) (by decide)) gJ)
  have h19 := zc_nel (0) (0) q1 (rM_15 hσ.sg _ (by decide)) (zr_c (lo := 1) (hi := 1) (by decide)) (by decide)
  exact (s_X12_once_204 hσ gJ)
theorem s_X12_once_46 {G : Nat → Int} {σ : zSt} (hσ : zIM G σ) {s0 : Int32} (h_s0 : zr (0) (1) s0) (gJ : zGJ G) : zok (fX12_once_46 σ s0) (zOnce G) := by
  unfold fX12_once_46
  refine zok_ck rfl ?_
  refine zok_bs (hσ.wi 27 27 (by decide) (zr_c (lo := 0) (hi := 0) (by decide)) (by decide +kernel)) (fun σ27 e2 i1 => ?_)
  refine zok_ck rfl ?_
  refine zok_if (fun q3 => ?_) (fun q3 => ?_)
  · have h4 := zc_eql (1) (1) q3 (rM_17 i1.sg _ (by decide)) (zr_c (lo := 1) (hi := 1) (by decide)) (by decide)
    refine zok_if (fun q5 => ?_) (fun q5 => ?_)
    · have h6 := zc_eql (0) (0) q5 h_s0 (zr_c (lo := 0) (hi := 0) (by decide)) (by decide)
      exact (s_X12_once_102 i1 (zr_w h6 (by decide)) gJ)
    have h7 := zc_nel (1) (1) q5 h_s0 (zr_c (lo := 0) (hi := 0) (by decide)) (by decide)
    refine zok_ck rfl ?_
    refine zok_bs (i1.wi 28 28 (by decide) (zr_c (lo := 0) (hi := 0) (by decide)) (by decide +kernel)) (fun σ28 e9 i8 => ?_)
    refine zok_ck rfl ?_
    refine zok_bs (i8.wi 23 23 (by decide) (zr_c (lo := 0) (hi := 0) (by decide)) (by decide +kernel)) (fun σ29 e11 i10 => ?_)
    refine zok_bu (s_X12_answers i10) (fun σ30 i12 => ?_)
    refine zok_bu (s_X12_call i12 (zr_w (zr_c (lo := 102) (hi := 102) (by decide)) (by decide))) (fun σ31 i13 => ?_)
    exact (s_X12_once_229 i13 (zr_w (zr_c (lo := 11) (hi := 11) (by decide)) (by decide)) gJ)
  have h14 := zc_nel (0) (0) q3 (rM_17 i1.sg _ (by decide)) (zr_c (lo := 1) (hi := 1) (by decide)) (by decide)
  exact (s_X12_once_102 i1 h_s0 gJ)
theorem s_X12_once {G : Nat → Int} {σ : zSt} (hσ : zIM G σ) (gJ : zGJ G) (gJh : ¬ G 103 = 1125899906842624) : zok (fX12_once σ ) (zOnce (zset G 103 (G 103 + 1))) := by
  have gJ0 := gJ
  obtain ⟨j1, j2, j3, j4, j5, j6, j7, j8⟩ := gJ
  unfold fX12_once
  have e : (zgl σ 0 30).toInt = G 103 := hσ.atl 3 (by decide)
  have hz : zrl 0 1125899906842624 (zgl σ 0 30) := ⟨by omega, by omega⟩
  have h3 := zr_l (lo := 0) (hi := 31) (zrl_rem (y := 32) (lo := 0) (hi := 31) 32 (by decide) hz (by decide)) (by decide)
  refine zok_ck rfl (zok_ck rfl (zok_ck (zin_ok h3 (by decide)) ?_))
  refine zok_bs (I := zIM G) (hσ.wk (by decide +kernel)) (fun σ1 e1 i1 => ?_)
  have ed : (zgl σ1 0 30).toInt = G 103 := i1.atl 3 (by decide)
  have t : (zgl σ1 0 30 + 1).toInt = G 103 + 1 := by
    rw [z_tladd (a := 0) (b := 1125899906842624) (x := zgl σ1 0 30) (y := 1) ⟨by omega, by omega⟩ (zrl_c (lo := 1) (hi := 1) (x := 1) (by decide)) (by decide), ed, show (1 : Int64).toInt = 1 from rfl]
  refine zok_bs (I := zIM (zset G 103 (G 103 + 1))) (by rw [← t]; exact i1.wgl 3 (by decide)) (fun σ2 e2 i2 => ?_)
  have v : ∀ k, ¬ k = 103 → (zset G 103 (G 103 + 1)) k = G k := fun k k1 => zset_ne k1
  have v3 : (zset G 103 (G 103 + 1)) 103 = G 103 + 1 := zset_eq
  have gX : zGJ (zset G 103 (G 103 + 1)) ∨ G 103 = 1125899906842624 := by
    by_cases q : G 103 = 1125899906842624
    · exact Or.inr q
    · refine Or.inl ?_
      unfold zGJ
      rw [v 100 (by decide), v3, v 104 (by decide), v 101 (by decide), v 3 (by decide), v 4 (by decide), v 5 (by decide), zln_c (v 1 (by decide))]
      exact ⟨j1, by omega, j3, j4, j5, j6, j7, j8⟩
  refine zok_ck rfl ?_
  exact zok_if (fun _ => s_X12_once_46 i2 (zr_w (zr_c (lo := 1) (hi := 1) (by decide)) (by decide)) (gX.resolve_right gJh)) (fun _ => s_X12_once_46 i2 (zr_w (zr_c (lo := 0) (hi := 0) (by decide)) (by decide)) (gX.resolve_right gJh))
theorem s_X12_isStop_2_body {σ : zSt} {k2 : zSt → Int32 → Int32 → Option (zSt × Int32)} {Mk2 : Int} (hk2 : ∀ (x1 : Int32) (x2 : Int32), zr (0) (8) x2 → (8) - x2.toInt < Mk2 → zok (k2 σ x1 x2) (zPi σ (fun v : Int32 => zr (0) (1) v))) (hσ : zPM σ) {x1 : Int32} {x2 : Int32} (h_x2 : zr (0) (8) x2) (hMk2 : (8) - x2.toInt ≤ Mk2) : zok (fX12_isStop_2_body k2 σ x1 x2) (zPi σ (fun v : Int32 => zr (0) (1) v)) := by
  unfold fX12_isStop_2_body
  refine zok_ck rfl ?_
  refine zok_if (fun q1 => ?_) (fun q1 => ?_)
  · refine zok_ck rfl ?_
    exact zok_spi (zr_w (zr_c (lo := 0) (hi := 0) (by decide)) (by decide))
  have h2 := zc_ltl (7) (z_nle q1) h_x2 (rM_39 hσ.sg _ (by decide)) (by decide)
  have h3 := zc_ltr (1) (z_nle q1) h_x2 (rM_39 hσ.sg _ (by decide)) (by decide)
  refine zok_ck (zin_ok (zr_add (lo := 90) (hi := 97) (zr_c (lo := 90) (hi := 90) (by decide)) h2 (by decide)) (by decide)) ?_
  refine zok_if (fun q4 => ?_) (fun q4 => ?_)
  · refine zok_ck rfl ?_
    exact zok_spi (zr_w (zr_c (lo := 1) (hi := 1) (by decide)) (by decide))
  refine zok_br (zr_add (lo := 1) (hi := 8) h2 (zr_c (lo := 1) (hi := 1) (by decide)) (by decide)) (fun v1 e6 h5 => ?_)
  exact hk2 _ _  (zr_w h5 (by decide)) (by rw [e6]; have := z_tadd (y := (1 : Int32)) h2 (zr_c (lo := 1) (hi := 1) (by decide)) (by decide); have e9 : (1 : Int32).toInt = 1 := rfl; omega) 
theorem s_X12_isStop_2 {σ : zSt} (hσ : zPM σ) : ∀ (n : Nat) {x1 : Int32} {x2 : Int32} (h_x2 : zr (0) (8) x2) (hm : (8) - x2.toInt < n), zok (fX12_isStop_2 n σ x1 x2) (zPi σ (fun v : Int32 => zr (0) (1) v)) := by
  intro n
  induction n with
  | zero => intro x1 x2 h_x2 hm ; have h9 := h_x2.1; have h8 := h_x2.2; exfalso; omega
  | succ n ih => intro x1 x2 h_x2 hm ; exact s_X12_isStop_2_body (fun x1 x2 h_x2 hm1 => ih h_x2 (by omega)) hσ h_x2 (Int.le_refl _)
theorem s_X12_isStop {σ : zSt} (hσ : zPM σ) {x1 : Int32} : zok (fX12_isStop σ x1) (zPi σ (fun v : Int32 => zr (0) (1) v)) := by
  unfold fX12_isStop
  exact (s_X12_isStop_2 hσ zfuel (zr_w (zr_c (lo := 0) (hi := 0) (by decide)) (by decide)) (by decide))
def zK (K : Int) (G : Nat → Int) : Prop := zGJ G ∧ G 100 ≤ K ∧ G 103 ≤ K ∧ G 104 ≤ K ∧ G 101 ≤ K ∧ G 5 ≤ K
theorem zK.mono {K K1 : Int} {G : Nat → Int} (h : zK K G) (c : K ≤ K1) : zK K1 G := ⟨h.1, Int.le_trans h.2.1 c, Int.le_trans h.2.2.1 c, Int.le_trans h.2.2.2.1 c, Int.le_trans h.2.2.2.2.1 c, Int.le_trans h.2.2.2.2.2 c⟩
def zStp (K : Int) (G : Nat → Int) (Q : Int32 → Prop) (r : zSt × Int32) : Prop := (∃ G1, zIM G1 r.1 ∧ zK K G1 ∧ ∀ i, i ∈ [0, 1, 2, 6, 7, 8, 9, 102, 105, 106] → G1 i = G i) ∧ Q r.2
theorem zK.once {K : Int} {G : Nat → Int} {r : zSt} (h : zK K G) (hK : K + 35 ≤ 268435456) (q : zOnce (zset G 103 (G 103 + 1)) r) : ∃ G1 b, zIM G1 r ∧ zK (K + 35) G1 ∧ (4 ≤ b ∧ b ≤ 35) ∧ zph G1 = zph G + b ∧ (∀ i, i ∈ [0, 1, 2, 6, 7, 8, 9, 102, 105, 106] → G1 i = G i) := by
  obtain ⟨G1, b, i, r1, r2, r3, r4, r5, r6, r7, r8, r9, r10⟩ := q
  obtain ⟨⟨j1, j2, j3, j4, j5, j6, j7, j8⟩, k1, k2, k3, k4, k5⟩ := h
  have v : ∀ k, ¬ k = 103 → (zset G 103 (G 103 + 1)) k = G k := fun k k1 => zset_ne k1
  have v3 : G1 103 = G 103 + 1 := by rw [r10 103 (by decide)]; exact zset_eq
  rw [v 100 (by decide)] at r2
  rw [v 104 (by decide)] at r3
  rw [v 5 (by decide)] at r4
  rw [v 101 (by decide)] at r9
  have p : zph (zset G 103 (G 103 + 1)) = zph G := by unfold zph; rw [v 1 (by decide), v 101 (by decide), v 3 (by decide), v 4 (by decide)]
  rw [p] at r8
  refine ⟨G1, b, i, ⟨⟨by omega, by omega, by omega, by omega, r6, r7, by omega, r5⟩, by omega, by omega, by omega, by omega, by omega⟩, r1, r8, fun k hk => ?_⟩
  have hk1 : k ∈ [0, 1, 2, 6, 7, 8, 9, 102, 103, 105, 106] := by
    revert hk
    simp only [List.mem_cons, List.not_mem_nil, or_false]
    omega
  rw [r10 k hk1]
  exact v k (fun r => by subst r; revert hk; decide)
theorem s_step_h {x1 : Int32} (h1 : zr 1 20000 x1) : ∀ (n : Nat) {G : Nat → Int} {σ : zSt} {K : Int} (hσ : zIM G σ) (hK : zK K G) {x2 : Int32} (h2 : zr 0 20000 x2) (hb : K + 35 * (20000 - x2.toInt) ≤ 268435456) (hm : 20000 - x2.toInt < n), zok (fX12_step_29 n σ x1 x2) (zStp (K + 35 * (20000 - x2.toInt)) G (fun v : Int32 => zr (0) (32767) v)) := by
  intro n
  induction n with
  | zero => intro G σ K hσ hK x2 h2 hb hm; have := h2.2; exfalso; omega
  | succ n ih =>
    intro G σ K hσ hK x2 h2 hb hm
    have b2 := h2.2
    have b1 := h2.1
    have b3 := h1.2
    show zok (fX12_step_29_body (fX12_step_29 n) σ x1 x2) _
    unfold fX12_step_29_body
    have out : zok (fX12_step_62 σ x2) (zStp (K + 35 * (20000 - x2.toInt)) G (fun v : Int32 => zr (0) (32767) v)) := zok_some ⟨⟨G, hσ, hK.mono (by omega), fun _ _ => rfl⟩, ⟨by show 0 ≤ x2.toInt; omega, by show x2.toInt ≤ 32767; omega⟩⟩
    refine zok_if (fun _ => out) (fun q => ?_)
    have q1 := Int32.lt_iff_toInt_lt.mp (z_nle q)
    have go : zok (fX12_step_52 (fX12_step_29 n) σ x1 x2) (zStp (K + 35 * (20000 - x2.toInt)) G (fun v : Int32 => zr (0) (32767) v)) := by
      unfold fX12_step_52
      have k2 := hK.2.2.1
      refine zok_bu (s_X12_once hσ hK.1 (by omega)) (fun σ1 q => ?_)
      obtain ⟨G1, b, i1, kk, _, _, hs⟩ := hK.once (by omega) q
      have c1 : (1 : Int32).toInt = 1 := rfl
      have t : (x2 + 1).toInt = x2.toInt + (1 : Int32).toInt := z_tadd h2 (zr_c (lo := 1) (hi := 1) (x := 1) (by decide)) (by decide)
      refine zok_bv (fun v2 e2 => ?_)
      subst e2
      refine zok_mono (ih i1 kk ⟨by omega, by omega⟩ (by omega) (by omega)) (fun r hr => ?_)
      obtain ⟨⟨G2, i2, k9, s2⟩, hq⟩ := hr
      exact ⟨⟨G2, i2, k9.mono (by omega), fun i hi => (s2 i hi).trans (hs i hi)⟩, hq⟩
    refine zok_if (fun _ => go) (fun _ => ?_)
    refine zok_ck rfl (zok_pi (s_X12_isStop hσ.P) (fun v4 _ => zok_if (fun _ => go) (fun _ => out)))
theorem s_X12_step {G : Nat → Int} {σ : zSt} {K : Int} (hσ : zIM G σ) (hK : zK K G) (hb : K + 700000 ≤ 268435456) {x1 : Int32} : zok (fX12_step σ x1) (zStp (K + 700000) G (fun v : Int32 => zr (0) (32767) v)) := by
  unfold fX12_step
  refine zok_within (fun w1 w2 => ?_) (fun w3 => ?_)
  · have h1 := z_wir w1 w2 (zrl_c (lo := 1) (hi := 1) (by decide)) (zrl_c (lo := 20000) (hi := 20000) (by decide))
    refine zok_if (fun q => absurd q (by decide)) (fun _ => ?_)
    unfold fX12_step_18
    refine zok_fails0 (I := zIM G) (hσ.wi 0 0 (by decide) zr_any (by decide +kernel)) (fun σ1 e1 i1 => ?_)
    refine zok_if (fun _ => ?_) (fun q => absurd rfl q)
    have c0 : (0 : Int32).toInt = 0 := rfl
    refine zok_mono (s_step_h h1 zfuel i1 hK (zr_c (by decide)) (by rw [c0]; omega) (by decide)) (fun r hr => ?_)
    obtain ⟨⟨G2, i2, k9, s2⟩, hq⟩ := hr
    exact ⟨⟨G2, i2, k9.mono (by rw [c0]; omega), s2⟩, hq⟩
  · refine zok_if (fun _ => ?_) (fun q => absurd rfl q)
    unfold fX12_step_18
    refine zok_fails1 (I := zIM G) (hσ.wi 0 0 (by decide) zr_any (by decide +kernel)) (fun σ1 e1 i1 => ?_)
    exact zok_if (fun q => absurd q (by decide)) (fun _ => zok_some ⟨⟨G, i1, hK.mono (by omega), fun _ _ => rfl⟩, (show zr 0 32767 (0 : Int32) from zr_c (by decide))⟩)
theorem s_pic_h (n : Nat) {x2 : Int64} : ∀ (m : Nat) {G : Nat → Int} {σ : zSt} {K : Int} (hσ : zIM G σ) (hK : zK K G) {x4 : Int32} (hm : 228 * (if G 1 = 1 then 313 * x2.toInt else 262 * x2.toInt) - zph G < 4 * (m : Int)) (hb : K + 35 * (m : Int) ≤ 268435456), zok (fX12_picture_40 (n + m + 1) σ x2 x4) (zStp (K + 35 * (m : Int)) G (fun v : Int32 => True)) := by
  intro m
  induction m with
  | zero =>
    intro G σ K hσ hK x4 hm hb
    show zok (fX12_picture_40_body (fX12_picture_40 (n + 0)) σ x2 x4) _
    unfold fX12_picture_40_body
    have e : (zgl σ 4 (2 : Int32).toNatClampNeg).toInt = G 101 := hσ.atl 1 (by decide)
    refine zok_ck rfl (zok_if (fun _ => zok_some ⟨⟨G, hσ, hK.mono (by omega), fun _ _ => rfl⟩, trivial⟩) (fun q => ?_))
    have q1 : ¬ x2.toInt ≤ G 101 := fun r => q (z_cmp_ge.mpr (by rw [e]; exact r))
    exfalso
    obtain ⟨⟨j1, j2, j3, j4, j5, j6, j7, j8⟩, _⟩ := hK
    unfold zph at hm
    unfold zln at j5
    split at j5
    · next h => rw [if_pos h, if_pos h] at hm; omega
    · next h => rw [if_neg h, if_neg h] at hm; omega
  | succ m ih =>
    intro G σ K hσ hK x4 hm hb
    show zok (fX12_picture_40_body (fX12_picture_40 (n + (m + 1))) σ x2 x4) _
    unfold fX12_picture_40_body
    have out : zok (fX12_picture_80 σ x4) (zStp (K + 35 * ((m + 1 : Nat) : Int)) G (fun v : Int32 => True)) := zok_some ⟨⟨G, hσ, hK.mono (by omega), fun _ _ => rfl⟩, trivial⟩
    have go : zok (fX12_picture_70 (fX12_picture_40 (n + (m + 1))) σ x2 x4) (zStp (K + 35 * ((m + 1 : Nat) : Int)) G (fun v : Int32 => True)) := by
      unfold fX12_picture_70
      have k2 := hK.2.2.1
      refine zok_bu (s_X12_once hσ hK.1 (by omega)) (fun σ1 q => ?_)
      obtain ⟨G1, b, i1, kk, hb4, hp, hs⟩ := hK.once (by omega) q
      have h1 : G1 1 = G 1 := hs 1 (by decide)
      refine zok_bv (fun v2 e2 => ?_)
      refine zok_mono (ih i1 kk (by rw [h1, hp]; omega) (by omega)) (fun r hr => ?_)
      obtain ⟨⟨G2, i2, k9, s2⟩, hq⟩ := hr
      exact ⟨⟨G2, i2, k9.mono (by omega), fun i hi => (s2 i hi).trans (hs i hi)⟩, hq⟩
    refine zok_ck rfl (zok_if (fun _ => out) (fun _ => zok_if (fun _ => go) (fun _ => ?_)))
    exact zok_ck rfl (zok_pi (s_X12_isStop hσ.P) (fun v4 _ => zok_if (fun _ => go) (fun _ => out)))
theorem s_X12_picture {G : Nat → Int} {σ : zSt} {K : Int} (hσ : zIM G σ) (hK : zK K G) (hb : K + 2100000 ≤ 268435456) {x1 : Int32} : zok (fX12_picture σ x1) (zStp (K + 2100000) G (fun v : Int32 => True)) := by
  unfold fX12_picture
  refine zok_within (fun w1 w2 => ?_) (fun w3 => ?_)
  · have h1 := z_wir w1 w2 (zrl_c (lo := 1) (hi := 1) (by decide)) (zrl_c (lo := 3) (hi := 3) (by decide))
    refine zok_if (fun q => absurd q (by decide)) (fun _ => ?_)
    unfold fX12_picture_18
    refine zok_fails0 (I := zIM G) (hσ.wi 0 0 (by decide) zr_any (by decide +kernel)) (fun σ1 e1 i1 => ?_)
    refine zok_if (fun _ => ?_) (fun q => absurd rfl q)
    refine zok_ck rfl (zok_bv (fun v7 e7 => ?_))
    have hK0 := hK
    obtain ⟨⟨j1, j2, j3, j4, j5, j6, j7, j8⟩, _⟩ := hK
    have b1 := h1.1
    have b2 := h1.2
    have e : (zgl σ1 4 (2 : Int32).toNatClampNeg).toInt = G 101 := i1.atl 1 (by decide)
    have t : v7.toInt = G 101 + x1.toInt := by
      rw [e7, z_tladd (a := 0) (b := 1125899906842624) (c := 1) (d := 3) (x := zgl σ1 4 (2 : Int32).toNatClampNeg) (y := x1.toInt64) ⟨by omega, by omega⟩ (zrl_i h1) (by decide), e, Int32.toInt_toInt64]
    show zok (fX12_picture_40 (1940000 + 59999 + 1) σ1 v7 0) _
    have hm : 228 * (if G 1 = 1 then 313 * v7.toInt else 262 * v7.toInt) - zph G < 4 * ((59999 : Nat) : Int) := by
      unfold zph
      rw [t]
      split <;> omega
    refine zok_mono (s_pic_h 1940000 59999 i1 hK0 (x4 := 0) hm (by omega)) (fun r hr => ?_)
    obtain ⟨⟨G2, i2, k9, s2⟩, hq⟩ := hr
    exact ⟨⟨G2, i2, k9.mono (by omega), s2⟩, hq⟩
  · refine zok_if (fun _ => ?_) (fun q => absurd rfl q)
    unfold fX12_picture_18
    refine zok_fails1 (I := zIM G) (hσ.wi 0 0 (by decide) zr_any (by decide +kernel)) (fun σ1 e1 i1 => ?_)
    exact zok_if (fun q => absurd q (by decide)) (fun _ => zok_some ⟨⟨G, i1, hK.mono (by omega), fun _ _ => rfl⟩, trivial⟩)
theorem s_X12_dot {G : Nat → Int} {σ : zSt} (hσ : zIM G σ) {x1 : Int32} {x2 : Int32} : zok (fX12_dot σ x1 x2) (zAi (zIM G) (fun v : Int32 => True)) := by
  unfold fX12_dot
  refine zok_if (fun q1 => ?_) (fun q1 => ?_)
  · have h2 := zc_eql (2) (2) q1 (rM_1 hσ.sg _ (by decide)) (zr_c (lo := 2) (hi := 2) (by decide)) (by decide)
    unfold fX12_dot_13
    refine zok_if (fun q3 => ?_) (fun q3 => ?_)
    · have h4 := zc_ltl (-1) q3 zr_any (zr_c (lo := 0) (hi := 0) (by decide)) (by decide)
      unfold fX12_dot_58
      unfold fX12_dot_63
      refine zok_fails1 (hσ.wi 0 0 (by decide) zr_any (by decide +kernel)) (fun σ1 e5 i6 => ?_)
      refine zok_if (fun q7 => ?_) (fun q7 => ?_)
      · exact zr_no (zc_eql (1) (0) q7 (zr_c (lo := 1) (hi := 1) (by decide)) (zr_c (lo := 0) (hi := 0) (by decide)) (by decide)) (by decide)
      exact zok_sai i6 trivial
    have h8 := zc_ler (0) (z_nlt q3) (zr_c (lo := 0) (hi := 0) (by decide)) zr_any (by decide)
    refine zok_if (fun q9 => ?_) (fun q9 => ?_)
    · have h10 := zc_ltl (-1) q9 zr_any (zr_c (lo := 0) (hi := 0) (by decide)) (by decide)
      unfold fX12_dot_58
      unfold fX12_dot_63
      refine zok_fails1 (hσ.wi 0 0 (by decide) zr_any (by decide +kernel)) (fun σ1 e11 i12 => ?_)
      refine zok_if (fun q13 => ?_) (fun q13 => ?_)
      · exact zr_no (zc_eql (1) (0) q13 (zr_c (lo := 1) (hi := 1) (by decide)) (zr_c (lo := 0) (hi := 0) (by decide)) (by decide)) (by decide)
      exact zok_sai i12 trivial
    have h14 := zc_ler (0) (z_nlt q9) (zr_c (lo := 0) (hi := 0) (by decide)) zr_any (by decide)
    refine zok_if (fun q15 => ?_) (fun q15 => ?_)
    · exact zr_no (zc_eql (1) (0) q15 (zr_c (lo := 1) (hi := 1) (by decide)) (zr_c (lo := 0) (hi := 0) (by decide)) (by decide)) (by decide)
    unfold fX12_dot_37
    refine zok_if (fun q16 => ?_) (fun q16 => ?_)
    · have h17 := zc_ler (160) q16 (zr_c (lo := 160) (hi := 160) (by decide)) h8 (by decide)
      unfold fX12_dot_58
      unfold fX12_dot_63
      refine zok_fails1 (hσ.wi 0 0 (by decide) zr_any (by decide +kernel)) (fun σ1 e18 i19 => ?_)
      refine zok_if (fun q20 => ?_) (fun q20 => ?_)
      · exact zr_no (zc_eql (1) (0) q20 (zr_c (lo := 1) (hi := 1) (by decide)) (zr_c (lo := 0) (hi := 0) (by decide)) (by decide)) (by decide)
      exact zok_sai i19 trivial
    have h21 := zc_ltl (159) (z_nle q16) h8 (zr_c (lo := 160) (hi := 160) (by decide)) (by decide)
    refine zok_if (fun q22 => ?_) (fun q22 => ?_)
    · exact zr_no (zc_eql (1) (0) q22 (zr_c (lo := 1) (hi := 1) (by decide)) (zr_c (lo := 0) (hi := 0) (by decide)) (by decide)) (by decide)
    unfold fX12_dot_55
    refine zok_if (fun q23 => ?_) (fun q23 => ?_)
    · have h24 := zc_ltl (143) q23 h14 (zr_c (lo := 144) (hi := 144) (by decide)) (by decide)
      unfold fX12_dot_63
      refine zok_fails0 (hσ.wi 0 0 (by decide) zr_any (by decide +kernel)) (fun σ1 e25 i26 => ?_)
      refine zok_if (fun q27 => ?_) (fun q27 => ?_)
      · refine zok_if (fun q28 => ?_) (fun q28 => ?_)
        · exact zr_no (zc_eql (1) (0) q28 (zr_c (lo := 1) (hi := 1) (by decide)) (zr_c (lo := 0) (hi := 0) (by decide)) (by decide)) (by decide)
        unfold fX12_dot_103
        refine zok_ck (zin_ok (zr_add (lo := 6192) (hi := 42959) (zr_add (lo := 6144) (hi := 42911) (zr_mul (lo := 6144) (hi := 42752) (zr_c (lo := 256) (hi := 256) (by decide)) (zr_add (lo := 24) (hi := 167) h24 (zr_c (lo := 24) (hi := 24) (by decide)) (by decide)) (by decide)) h21 (by decide)) (zr_c (lo := 48) (hi := 48) (by decide)) (by decide)) (by decide)) ?_
        exact zok_sai i26 trivial
      exact zr_no (zc_nel (1) (0) q27 (zr_c (lo := 0) (hi := 0) (by decide)) (zr_c (lo := 0) (hi := 0) (by decide)) (by decide)) (by decide)
    have h29 := zc_ler (144) (z_nlt q23) (zr_c (lo := 144) (hi := 144) (by decide)) h14 (by decide)
    unfold fX12_dot_58
    unfold fX12_dot_63
    refine zok_fails1 (hσ.wi 0 0 (by decide) zr_any (by decide +kernel)) (fun σ1 e30 i31 => ?_)
    refine zok_if (fun q32 => ?_) (fun q32 => ?_)
    · exact zr_no (zc_eql (1) (0) q32 (zr_c (lo := 1) (hi := 1) (by decide)) (zr_c (lo := 0) (hi := 0) (by decide)) (by decide)) (by decide)
    exact zok_sai i31 trivial
  have h33 := zc_nel (0) (1) q1 (rM_1 hσ.sg _ (by decide)) (zr_c (lo := 2) (hi := 2) (by decide)) (by decide)
  unfold fX12_dot_13
  refine zok_if (fun q34 => ?_) (fun q34 => ?_)
  · have h35 := zc_ltl (-1) q34 zr_any (zr_c (lo := 0) (hi := 0) (by decide)) (by decide)
    unfold fX12_dot_58
    unfold fX12_dot_63
    refine zok_fails1 (hσ.wi 0 0 (by decide) zr_any (by decide +kernel)) (fun σ1 e36 i37 => ?_)
    refine zok_if (fun q38 => ?_) (fun q38 => ?_)
    · exact zr_no (zc_eql (1) (0) q38 (zr_c (lo := 1) (hi := 1) (by decide)) (zr_c (lo := 0) (hi := 0) (by decide)) (by decide)) (by decide)
    exact zok_sai i37 trivial
  have h39 := zc_ler (0) (z_nlt q34) (zr_c (lo := 0) (hi := 0) (by decide)) zr_any (by decide)
  refine zok_if (fun q40 => ?_) (fun q40 => ?_)
  · have h41 := zc_ltl (-1) q40 zr_any (zr_c (lo := 0) (hi := 0) (by decide)) (by decide)
    unfold fX12_dot_58
    unfold fX12_dot_63
    refine zok_fails1 (hσ.wi 0 0 (by decide) zr_any (by decide +kernel)) (fun σ1 e42 i43 => ?_)
    refine zok_if (fun q44 => ?_) (fun q44 => ?_)
    · exact zr_no (zc_eql (1) (0) q44 (zr_c (lo := 1) (hi := 1) (by decide)) (zr_c (lo := 0) (hi := 0) (by decide)) (by decide)) (by decide)
    exact zok_sai i43 trivial
  have h45 := zc_ler (0) (z_nlt q40) (zr_c (lo := 0) (hi := 0) (by decide)) zr_any (by decide)
  refine zok_if (fun q46 => ?_) (fun q46 => ?_)
  · unfold fX12_dot_37
    refine zok_if (fun q47 => ?_) (fun q47 => ?_)
    · have h48 := zc_ler (256) q47 (zr_c (lo := 256) (hi := 256) (by decide)) h39 (by decide)
      unfold fX12_dot_58
      unfold fX12_dot_63
      refine zok_fails1 (hσ.wi 0 0 (by decide) zr_any (by decide +kernel)) (fun σ1 e49 i50 => ?_)
      refine zok_if (fun q51 => ?_) (fun q51 => ?_)
      · exact zr_no (zc_eql (1) (0) q51 (zr_c (lo := 1) (hi := 1) (by decide)) (zr_c (lo := 0) (hi := 0) (by decide)) (by decide)) (by decide)
      exact zok_sai i50 trivial
    have h52 := zc_ltl (255) (z_nle q47) h39 (zr_c (lo := 256) (hi := 256) (by decide)) (by decide)
    refine zok_if (fun q53 => ?_) (fun q53 => ?_)
    · refine zok_pi (s_X12_height hσ.P) (fun v4 h54 => ?_)
      unfold fX12_dot_55
      refine zok_if (fun q55 => ?_) (fun q55 => ?_)
      · have h56 := zc_ltl (239) q55 h45 h54 (by decide)
        unfold fX12_dot_63
        refine zok_fails0 (hσ.wi 0 0 (by decide) zr_any (by decide +kernel)) (fun σ1 e57 i58 => ?_)
        refine zok_if (fun q59 => ?_) (fun q59 => ?_)
        · refine zok_if (fun q60 => ?_) (fun q60 => ?_)
          · unfold fX12_dot_103
            refine zok_ck (zin_ok (zr_add (lo := 0) (hi := 61439) (zr_mul (lo := 0) (hi := 61184) (zr_c (lo := 256) (hi := 256) (by decide)) h56 (by decide)) h52 (by decide)) (by decide)) ?_
            exact zok_sai i58 trivial
          exact zr_no (zc_nel (1) (0) q60 (zr_c (lo := 0) (hi := 0) (by decide)) (zr_c (lo := 0) (hi := 0) (by decide)) (by decide)) (by decide)
        exact zr_no (zc_nel (1) (0) q59 (zr_c (lo := 0) (hi := 0) (by decide)) (zr_c (lo := 0) (hi := 0) (by decide)) (by decide)) (by decide)
      have h61 := zc_ler (192) (z_nlt q55) h54 h45 (by decide)
      unfold fX12_dot_58
      unfold fX12_dot_63
      refine zok_fails1 (hσ.wi 0 0 (by decide) zr_any (by decide +kernel)) (fun σ1 e62 i63 => ?_)
      refine zok_if (fun q64 => ?_) (fun q64 => ?_)
      · exact zr_no (zc_eql (1) (0) q64 (zr_c (lo := 1) (hi := 1) (by decide)) (zr_c (lo := 0) (hi := 0) (by decide)) (by decide)) (by decide)
      exact zok_sai i63 trivial
    exact zr_no (zc_nel (1) (0) q53 (zr_c (lo := 0) (hi := 0) (by decide)) (zr_c (lo := 0) (hi := 0) (by decide)) (by decide)) (by decide)
  exact zr_no (zc_nel (1) (0) q46 (zr_c (lo := 0) (hi := 0) (by decide)) (zr_c (lo := 0) (hi := 0) (by decide)) (by decide)) (by decide)
theorem s_row_h {σ : zSt} {x1 x2 : Int32} (h1 : zr 0 239 x1) (h2 : ¬ x2 = 0 → x1.toInt ≤ 143) : ∀ (n : Nat) {x3 x4 : Int32} (h4 : zr 0 256 x4) (hm : 256 - x4.toInt < n), zok (fX12_row_56 n σ x1 x2 x3 x4) (zPi σ (fun v : Int32 => True)) := by
  intro n
  induction n with
  | zero => intro x3 x4 h4 hm; have := h4.2; exfalso; omega
  | succ n ih =>
    intro x3 x4 h4 hm
    show zok (fX12_row_56_body (fX12_row_56 n) σ x1 x2 x3 x4) _
    unfold fX12_row_56_body
    have a1 : zr 1 1 (1 : Int32) := zr_c (by decide)
    have c1 : (1 : Int32).toInt = 1 := rfl
    have t : (x4 + 1).toInt = x4.toInt + (1 : Int32).toInt := z_tadd h4 a1 (by decide)
    have b := h4.1
    have nx : ∀ (s0 s2 : Int32), zr 0 61439 s0 → x4.toInt ≤ 255 → zok (fX12_row_111 (fX12_row_56 n) σ x1 x2 x4 s0 s2) (zPi σ (fun v : Int32 => True)) := fun s0 s2 hs hx => by
      unfold fX12_row_111
      refine zok_ck (zin_ok hs (by decide)) ?_
      refine zok_bv (fun v1 _ => zok_bv (fun v2 e2 => ?_))
      subst e2
      exact ih ⟨by omega, by omega⟩ (by omega)
    have k6 : zr 256 256 (256 : Int32) := zr_c (by decide)
    refine zok_if (fun q => ?_) (fun q => ?_)
    · unfold fX12_row_71
      refine zok_if (fun q1 => zok_spi trivial) (fun q1 => ?_)
      have q2 := Int32.lt_iff_toInt_lt.mp (z_nle q1)
      have c2 : (256 : Int32).toInt = 256 := rfl
      have h5 : zr 0 255 x4 := ⟨h4.1, by omega⟩
      refine zok_if (fun _ => ?_) (fun q9 => absurd q q9)
      exact nx _ _ (zr_add (lo := 0) (hi := 61439) (zr_mul (lo := 0) (hi := 61184) k6 h1 (by decide)) h5 (by decide)) h5.2
    · unfold fX12_row_71
      refine zok_if (fun q1 => zok_spi trivial) (fun q1 => ?_)
      have q2 := Int32.lt_iff_toInt_lt.mp (z_nle q1)
      have c2 : (160 : Int32).toInt = 160 := rfl
      have h5 : zr 0 159 x4 := ⟨h4.1, by omega⟩
      have h6 : zr 0 143 x1 := ⟨h1.1, h2 q⟩
      have k24 : zr 24 24 (24 : Int32) := zr_c (by decide)
      have k48 : zr 48 48 (48 : Int32) := zr_c (by decide)
      refine zok_if (fun q9 => absurd q9 q) (fun _ => ?_)
      exact nx _ _ (zr_add (lo := 0) (hi := 61439) (zr_add (lo := 0) (hi := 42911) (zr_mul (lo := 0) (hi := 42752) k6 (zr_add (lo := 24) (hi := 167) h6 k24 (by decide)) (by decide)) h5 (by decide)) k48 (by decide)) (by omega)
theorem s_X12_row {G : Nat → Int} {σ : zSt} (hσ : zIM G σ) {x1 : Int32} : zok (fX12_row σ x1) (zAi (zIM G) (fun v : Int32 => True)) := by
  have bad : ∀ x2, zok (fX12_row_37 σ x1 x2) (zAi (zIM G) (fun v : Int32 => True)) := fun x2 => by
    unfold fX12_row_37 fX12_row_42
    refine zok_fails1 (I := zIM G) (hσ.wi 0 0 (by decide) zr_any (by decide +kernel)) (fun σ1 e1 i1 => ?_)
    exact zok_if (fun q => absurd q (by decide)) (fun _ => zok_sai i1 trivial)
  have good : ∀ x2, zr 0 239 x1 → (¬ x2 = 0 → x1.toInt ≤ 143) → zok (fX12_row_42 σ x1 x2 0) (zAi (zIM G) (fun v : Int32 => True)) := fun x2 h1 h2 => by
    unfold fX12_row_42
    refine zok_fails0 (I := zIM G) (hσ.wi 0 0 (by decide) zr_any (by decide +kernel)) (fun σ1 e1 i1 => ?_)
    refine zok_if (fun _ => ?_) (fun q => absurd rfl q)
    exact zok_pai i1 (s_row_h h1 h2 zfuel (zr_c (by decide)) (by decide))
  have c0 : (0 : Int32).toInt = 0 := rfl
  unfold fX12_row
  refine zok_if (fun q => ?_) (fun q => ?_)
  · unfold fX12_row_13
    refine zok_if (fun q1 => bad _) (fun q1 => ?_)
    refine zok_if (fun q2 => absurd q2 (by decide)) (fun _ => ?_)
    unfold fX12_row_34
    have r1 := Int32.le_iff_toInt_le.mp (z_nlt q1)
    have c4 : (144 : Int32).toInt = 144 := rfl
    refine zok_if (fun q2 => ?_) (fun q2 => bad _)
    have r2 := Int32.lt_iff_toInt_lt.mp q2
    exact good _ ⟨by omega, by omega⟩ (fun _ => by omega)
  · unfold fX12_row_13
    refine zok_if (fun q1 => bad _) (fun q1 => ?_)
    refine zok_if (fun _ => ?_) (fun q2 => absurd rfl q2)
    have r1 := Int32.le_iff_toInt_le.mp (z_nlt q1)
    refine zok_pi (s_X12_height hσ.P) (fun v hv => ?_)
    have b := hv.2
    unfold fX12_row_34
    refine zok_if (fun q2 => ?_) (fun q2 => bad _)
    have r2 := Int32.lt_iff_toInt_lt.mp q2
    exact good _ ⟨by omega, by omega⟩ (fun h => absurd rfl h)
theorem s_X12_hear {G : Nat → Int} {σ : zSt} (hσ : zIM G σ) : zok (fX12_hear σ ) (zAL (zIM G) (fun v : Int64 => True)) := by
  unfold fX12_hear
  refine zok_ck rfl ?_
  refine zok_if (fun q1 => ?_) (fun q1 => ?_)
  · have h2 := zc_eql (0) (0) q1 (rM_37 hσ.sg _ (by decide)) (zr_c (lo := 0) (hi := 0) (by decide)) (by decide)
    unfold fX12_hear_16
    refine zok_fails1 (hσ.wi 0 0 (by decide) zr_any (by decide +kernel)) (fun σ1 e3 i4 => ?_)
    refine zok_if (fun q5 => ?_) (fun q5 => ?_)
    · exact zr_no (zc_eql (1) (0) q5 (zr_c (lo := 1) (hi := 1) (by decide)) (zr_c (lo := 0) (hi := 0) (by decide)) (by decide)) (by decide)
    exact zok_sal i4 trivial
  have h6 := zc_nel (1) (4096) q1 (rM_37 hσ.sg _ (by decide)) (zr_c (lo := 0) (hi := 0) (by decide)) (by decide)
  unfold fX12_hear_16
  refine zok_fails0 (hσ.wi 0 0 (by decide) zr_any (by decide +kernel)) (fun σ1 e7 i8 => ?_)
  refine zok_if (fun q9 => ?_) (fun q9 => ?_)
  · refine zok_ck rfl ?_
    refine zok_ck (zin_ok (rM_38 i8.sg _ (by decide)) (by decide)) ?_
    refine zok_bv (fun v3 e11 => ?_)
    refine zok_ck rfl ?_
    refine zok_ck (by decide) ?_
    refine zok_ck rfl ?_
    refine zok_bs (i8.wi 88 88 (by decide) (zr_rem (lo := 0) (hi := 4095) 4096 (by decide) (zr_add (lo := 1) (hi := 4096) (rM_38 i8.sg _ (by decide)) (zr_c (lo := 1) (hi := 1) (by decide)) (by decide)) (by decide)) (by decide +kernel)) (fun σ4 e13 i12 => ?_)
    refine zok_ck rfl ?_
    refine zok_ck rfl ?_
    refine zok_bs (i12.wi 87 87 (by decide) (zr_sub (lo := 0) (hi := 4095) (z_trj e13 (by decide) (z_tr e7 rfl h6)) (zr_c (lo := 1) (hi := 1) (by decide)) (by decide)) (by decide +kernel)) (fun σ5 e15 i14 => ?_)
    exact zok_sal i14 trivial
  exact zr_no (zc_nel (1) (0) q9 (zr_c (lo := 0) (hi := 0) (by decide)) (zr_c (lo := 0) (hi := 0) (by decide)) (by decide)) (by decide)
theorem s_X12_sound {G : Nat → Int} {σ : zSt} (hσ : zIM G σ) {x1 : Int32} : zok (fX12_sound σ x1) (zAi (zIM G) (fun v : Int32 => True)) := by
  unfold fX12_sound
  refine zok_within (fun w1 w2 => ?_) (fun w3 => ?_)
  · have h4 := z_wir w1 w2 (zrl_c (lo := 0) (hi := 0) (by decide)) (zrl_c (lo := 18) (hi := 18) (by decide))
    refine zok_if (fun q5 => ?_) (fun q5 => ?_)
    · exact zr_no (zc_eql (1) (0) q5 (zr_c (lo := 1) (hi := 1) (by decide)) (zr_c (lo := 0) (hi := 0) (by decide)) (by decide)) (by decide)
    unfold fX12_sound_18
    refine zok_fails0 (hσ.wi 0 0 (by decide) zr_any (by decide +kernel)) (fun σ1 e6 i7 => ?_)
    refine zok_if (fun q8 => ?_) (fun q8 => ?_)
    · refine zok_if (fun q9 => ?_) (fun q9 => ?_)
      · have h10 := zc_eql (18) (18) q9 h4 (zr_c (lo := 18) (hi := 18) (by decide)) (by decide)
        refine zok_ck rfl ?_
        unfold fX12_sound_52
        exact zok_sai i7 trivial
      have h11 := zc_nel (0) (17) q9 h4 (zr_c (lo := 18) (hi := 18) (by decide)) (by decide)
      refine zok_ck (zin_ok (zr_add (lo := 69) (hi := 86) (zr_c (lo := 69) (hi := 69) (by decide)) h11 (by decide)) (by decide)) ?_
      unfold fX12_sound_52
      exact zok_sai i7 trivial
    exact zr_no (zc_nel (1) (0) q8 (zr_c (lo := 0) (hi := 0) (by decide)) (zr_c (lo := 0) (hi := 0) (by decide)) (by decide)) (by decide)
  refine zok_if (fun q12 => ?_) (fun q12 => ?_)
  · unfold fX12_sound_18
    refine zok_fails1 (hσ.wi 0 0 (by decide) zr_any (by decide +kernel)) (fun σ1 e13 i14 => ?_)
    refine zok_if (fun q15 => ?_) (fun q15 => ?_)
    · exact zr_no (zc_eql (1) (0) q15 (zr_c (lo := 1) (hi := 1) (by decide)) (zr_c (lo := 0) (hi := 0) (by decide)) (by decide)) (by decide)
    exact zok_sai i14 trivial
  exact zr_no (zc_nel (1) (0) q12 (zr_c (lo := 0) (hi := 0) (by decide)) (zr_c (lo := 0) (hi := 0) (by decide)) (by decide)) (by decide)
theorem s_X12_reset {G : Nat → Int} {σ : zSt} (hσ : zEM [3, 4] G σ) : zok (fX12_reset σ ) (zEM [3, 4] G) := by
  unfold fX12_reset
  refine zok_bs (hσ.wi 0 0 (by decide) (zr_c (lo := 0) (hi := 0) (by decide)) (by decide +kernel)) (fun σ1 e2 i1 => ?_)
  refine zok_bu (s_X12_anew i1) (fun σ2 i3 => ?_)
  exact zok_some i3
theorem s_X12_pause {G : Nat → Int} {σ : zSt} (hσ : zIM G σ) : zok (fX12_pause σ ) (zAi (zIM G) (fun v : Int32 => zr (0) (1) v)) := by
  unfold fX12_pause
  refine zok_bs (hσ.wi 0 0 (by decide) (zr_c (lo := 0) (hi := 0) (by decide)) (by decide +kernel)) (fun σ1 e2 i1 => ?_)
  refine zok_if (fun q3 => ?_) (fun q3 => ?_)
  · have h4 := zc_eql (2) (2) q3 (rM_1 i1.sg _ (by decide)) (zr_c (lo := 2) (hi := 2) (by decide)) (by decide)
    refine zok_ck rfl ?_
    exact zok_sai i1 (zr_w (zr_c (lo := 0) (hi := 0) (by decide)) (by decide))
  have h5 := zc_nel (0) (1) q3 (rM_1 i1.sg _ (by decide)) (zr_c (lo := 2) (hi := 2) (by decide)) (by decide)
  refine zok_ck rfl ?_
  refine zok_bs (i1.wi 28 28 (by decide) (zr_c (lo := 1) (hi := 1) (by decide)) (by decide +kernel)) (fun σ2 e7 i6 => ?_)
  refine zok_ck rfl ?_
  exact zok_sai i6 (zr_w (zr_c (lo := 1) (hi := 1) (by decide)) (by decide))
theorem s_X12_press {G : Nat → Int} {σ : zSt} (hσ : zIM G σ) {x1 : Int32} {x2 : Int32} : zok (fX12_press σ x1 x2) (zIM G) := by
  unfold fX12_press
  refine zok_within (fun w1 w2 => ?_) (fun w3 => ?_)
  · have h4 := z_wir w1 w2 (zrl_c (lo := 0) (hi := 0) (by decide)) (zrl_c (lo := 1) (hi := 1) (by decide))
    refine zok_if (fun q5 => ?_) (fun q5 => ?_)
    · exact zr_no (zc_eql (1) (0) q5 (zr_c (lo := 1) (hi := 1) (by decide)) (zr_c (lo := 0) (hi := 0) (by decide)) (by decide)) (by decide)
    refine zok_within (fun w6 w7 => ?_) (fun w8 => ?_)
    · have h9 := z_wir w6 w7 (zrl_c (lo := 0) (hi := 0) (by decide)) (zrl_c (lo := 63) (hi := 63) (by decide))
      refine zok_if (fun q10 => ?_) (fun q10 => ?_)
      · exact zr_no (zc_eql (1) (0) q10 (zr_c (lo := 1) (hi := 1) (by decide)) (zr_c (lo := 0) (hi := 0) (by decide)) (by decide)) (by decide)
      unfold fX12_press_28
      refine zok_fails0 (hσ.wi 0 0 (by decide) zr_any (by decide +kernel)) (fun σ1 e11 i12 => ?_)
      refine zok_if (fun q13 => ?_) (fun q13 => ?_)
      · refine zok_ck (zin_ok (zr_add (lo := 42) (hi := 43) (zr_c (lo := 42) (hi := 42) (by decide)) h4 (by decide)) (by decide)) ?_
        refine zok_bs (i12.wi 42 43 (z_ix (zr_add (lo := 42) (hi := 43) (zr_c (lo := 42) (hi := 42) (by decide)) h4 (by decide)) (by decide)) h9 (by decide +kernel)) (fun σ3 e15 i14 => ?_)
        exact zok_some i14
      exact zr_no (zc_nel (1) (0) q13 (zr_c (lo := 0) (hi := 0) (by decide)) (zr_c (lo := 0) (hi := 0) (by decide)) (by decide)) (by decide)
    refine zok_if (fun q16 => ?_) (fun q16 => ?_)
    · unfold fX12_press_23
      unfold fX12_press_28
      refine zok_fails1 (hσ.wi 0 0 (by decide) zr_any (by decide +kernel)) (fun σ1 e17 i18 => ?_)
      refine zok_if (fun q19 => ?_) (fun q19 => ?_)
      · exact zr_no (zc_eql (1) (0) q19 (zr_c (lo := 1) (hi := 1) (by decide)) (zr_c (lo := 0) (hi := 0) (by decide)) (by decide)) (by decide)
      exact zok_some i18
    exact zr_no (zc_nel (1) (0) q16 (zr_c (lo := 0) (hi := 0) (by decide)) (zr_c (lo := 0) (hi := 0) (by decide)) (by decide)) (by decide)
  refine zok_if (fun q20 => ?_) (fun q20 => ?_)
  · unfold fX12_press_23
    unfold fX12_press_28
    refine zok_fails1 (hσ.wi 0 0 (by decide) zr_any (by decide +kernel)) (fun σ1 e21 i22 => ?_)
    refine zok_if (fun q23 => ?_) (fun q23 => ?_)
    · exact zr_no (zc_eql (1) (0) q23 (zr_c (lo := 1) (hi := 1) (by decide)) (zr_c (lo := 0) (hi := 0) (by decide)) (by decide)) (by decide)
    exact zok_some i22
  exact zr_no (zc_nel (1) (0) q20 (zr_c (lo := 0) (hi := 0) (by decide)) (zr_c (lo := 0) (hi := 0) (by decide)) (by decide)) (by decide)
theorem s_X12_start_20 {G : Nat → Int} {σ : zSt} (hσ : zIM G σ) {s0 : Int32} (h_s0 : zr (0) (1) s0) {s1 : Int32} (h_s1 : zr (44) (44) s1) : zok (fX12_start_20 σ s0 s1) (zIM G) := by
  unfold fX12_start_20
  refine zok_ck (zin_ok h_s1 (by decide)) ?_
  refine zok_bs (hσ.wi 44 44 (z_ix h_s1 (by decide)) h_s0 (by decide +kernel)) (fun σ1 e2 i1 => ?_)
  exact zok_some i1
theorem s_X12_start {G : Nat → Int} {σ : zSt} (hσ : zIM G σ) {x1 : Int32} (h_x1 : zr (0) (1) x1) : zok (fX12_start σ x1) (zIM G) := by
  unfold fX12_start
  refine zok_bs (hσ.wi 0 0 (by decide) (zr_c (lo := 0) (hi := 0) (by decide)) (by decide +kernel)) (fun σ2 e2 i1 => ?_)
  refine zok_if (fun q3 => ?_) (fun q3 => ?_)
  · have h4 := zc_eql (0) (0) q3 h_x1 (zr_c (lo := 0) (hi := 0) (by decide)) (by decide)
    exact (s_X12_start_20 i1 (zr_w (zr_c (lo := 0) (hi := 0) (by decide)) (by decide)) (zr_c (lo := 44) (hi := 44) (by decide)))
  have h5 := zc_nel (1) (1) q3 h_x1 (zr_c (lo := 0) (hi := 0) (by decide)) (by decide)
  exact (s_X12_start_20 i1 (zr_w (zr_c (lo := 1) (hi := 1) (by decide)) (by decide)) (zr_c (lo := 44) (hi := 44) (by decide)))
theorem s_X12_line {G : Nat → Int} {σ : zSt} (hσ : zIM G σ) {x1 : Int32} {x2 : Int32} (h_x2 : zr (0) (1) x2) : zok (fX12_line σ x1 x2) (zIM G) := by
  unfold fX12_line
  refine zok_within (fun w1 w2 => ?_) (fun w3 => ?_)
  · have h4 := z_wir w1 w2 (zrl_c (lo := 0) (hi := 0) (by decide)) (zrl_c (lo := 1) (hi := 1) (by decide))
    refine zok_if (fun q5 => ?_) (fun q5 => ?_)
    · exact zr_no (zc_eql (1) (0) q5 (zr_c (lo := 1) (hi := 1) (by decide)) (zr_c (lo := 0) (hi := 0) (by decide)) (by decide)) (by decide)
    unfold fX12_line_16
    refine zok_fails0 (hσ.wi 0 0 (by decide) zr_any (by decide +kernel)) (fun σ7 e6 i7 => ?_)
    refine zok_if (fun q8 => ?_) (fun q8 => ?_)
    · refine zok_pi (s_X12_lineAt i7.P h4) (fun v10 h9 => ?_)
      refine zok_if (fun q10 => ?_) (fun q10 => ?_)
      · have h11 := zc_eql (0) (0) q10 h_x2 (zr_c (lo := 0) (hi := 0) (by decide)) (by decide)
        unfold fX12_line_47
        refine zok_ck (zin_ok (zr_add (lo := 45) (hi := 46) (zr_c (lo := 45) (hi := 45) (by decide)) h4 (by decide)) (by decide)) ?_
        refine zok_bs (i7.wi 45 46 (z_ix (zr_add (lo := 45) (hi := 46) (zr_c (lo := 45) (hi := 45) (by decide)) h4 (by decide)) (by decide)) (zr_c (lo := 0) (hi := 0) (by decide)) (by decide +kernel)) (fun σ1 e13 i12 => ?_)
        refine zok_if (fun q14 => ?_) (fun q14 => ?_)
        · have h15 := zc_eql (0) (0) q14 h9 (zr_c (lo := 0) (hi := 0) (by decide)) (by decide)
          refine zok_pi (s_X12_lineAt i12.P h4) (fun v3 h16 => ?_)
          refine zok_if (fun q17 => ?_) (fun q17 => ?_)
          · have h18 := zc_eql (1) (1) q17 h16 (zr_c (lo := 1) (hi := 1) (by decide)) (by decide)
            refine zok_pi (s_X12_hCount i12.P) (fun v5 h19 => ?_)
            refine zok_ck rfl ?_
            refine zok_bs (i12.wi 35 35 (by decide) h19 (by decide +kernel)) (fun σ6 e21 i20 => ?_)
            unfold fX12_line_72
            exact zok_some i20
          have h22 := zc_nel (0) (0) q17 h16 (zr_c (lo := 1) (hi := 1) (by decide)) (by decide)
          unfold fX12_line_72
          exact zok_some i12
        have h23 := zc_nel (1) (1) q14 h9 (zr_c (lo := 0) (hi := 0) (by decide)) (by decide)
        unfold fX12_line_72
        exact zok_some i12
      have h24 := zc_nel (1) (1) q10 h_x2 (zr_c (lo := 0) (hi := 0) (by decide)) (by decide)
      unfold fX12_line_47
      refine zok_ck (zin_ok (zr_add (lo := 45) (hi := 46) (zr_c (lo := 45) (hi := 45) (by decide)) h4 (by decide)) (by decide)) ?_
      refine zok_bs (i7.wi 45 46 (z_ix (zr_add (lo := 45) (hi := 46) (zr_c (lo := 45) (hi := 45) (by decide)) h4 (by decide)) (by decide)) (zr_c (lo := 1) (hi := 1) (by decide)) (by decide +kernel)) (fun σ1 e26 i25 => ?_)
      refine zok_if (fun q27 => ?_) (fun q27 => ?_)
      · have h28 := zc_eql (0) (0) q27 h9 (zr_c (lo := 0) (hi := 0) (by decide)) (by decide)
        refine zok_pi (s_X12_lineAt i25.P h4) (fun v3 h29 => ?_)
        refine zok_if (fun q30 => ?_) (fun q30 => ?_)
        · have h31 := zc_eql (1) (1) q30 h29 (zr_c (lo := 1) (hi := 1) (by decide)) (by decide)
          refine zok_pi (s_X12_hCount i25.P) (fun v5 h32 => ?_)
          refine zok_ck rfl ?_
          refine zok_bs (i25.wi 35 35 (by decide) h32 (by decide +kernel)) (fun σ6 e34 i33 => ?_)
          unfold fX12_line_72
          exact zok_some i33
        have h35 := zc_nel (0) (0) q30 h29 (zr_c (lo := 1) (hi := 1) (by decide)) (by decide)
        unfold fX12_line_72
        exact zok_some i25
      have h36 := zc_nel (1) (1) q27 h9 (zr_c (lo := 0) (hi := 0) (by decide)) (by decide)
      unfold fX12_line_72
      exact zok_some i25
    exact zr_no (zc_nel (1) (0) q8 (zr_c (lo := 0) (hi := 0) (by decide)) (zr_c (lo := 0) (hi := 0) (by decide)) (by decide)) (by decide)
  refine zok_if (fun q37 => ?_) (fun q37 => ?_)
  · unfold fX12_line_16
    refine zok_fails1 (hσ.wi 0 0 (by decide) zr_any (by decide +kernel)) (fun σ7 e38 i39 => ?_)
    refine zok_if (fun q40 => ?_) (fun q40 => ?_)
    · exact zr_no (zc_eql (1) (0) q40 (zr_c (lo := 1) (hi := 1) (by decide)) (zr_c (lo := 0) (hi := 0) (by decide)) (by decide)) (by decide)
    exact zok_some i39
  exact zr_no (zc_nel (1) (0) q37 (zr_c (lo := 0) (hi := 0) (by decide)) (zr_c (lo := 0) (hi := 0) (by decide)) (by decide)) (by decide)
theorem s_X12_stop_64 {σ : zSt} (hσ : zPM σ) : zok (fX12_stop_64 σ ) (zPi σ (fun v : Int32 => zr (0) (8) v)) := by
  unfold fX12_stop_64
  exact zok_spi (zr_w (zr_c (lo := 0) (hi := 0) (by decide)) (by decide))
theorem s_X12_stop_168 {σ : zSt} (hσ : zPM σ) : zok (fX12_stop_168 σ ) (zPi σ (fun v : Int32 => zr (0) (8) v)) := by
  unfold fX12_stop_168
  refine zok_ck rfl ?_
  exact zok_spi (rM_39 hσ.sg _ (by decide))
def zFnd (σ : zSt) (x : Int32) (a : Nat) : Prop := ∃ i : Nat, a ≤ i ∧ i ≤ 8 ∧ (i : Int) ≤ (zgi σ 3 89).toInt ∧ σ.1 3 (89 + i) = x
theorem zFnd.off {σ σ1 : zSt} {x v : Int32} {a j : Nat} (e : σ1 = zsi σ 0 j v) (h : zFnd σ x a) : zFnd σ1 x a := by
  obtain ⟨i, h1, h2, h3, h4⟩ := h
  subst e
  refine ⟨i, h1, h2, ?_, ?_⟩
  · unfold zgi; rw [zsi_off (by omega)]; exact h3
  · rw [zsi_off (by omega)]; exact h4
theorem s_isStop_h {σ : zSt} (hσ : zPM σ) {x1 : Int32} : ∀ (n : Nat) {x2 : Int32} (h2 : zr 0 8 x2) (hm : 8 - x2.toInt < n), zok (fX12_isStop_2 n σ x1 x2) (zPi σ (fun v : Int32 => v = 0 ∨ (v = 1 ∧ zFnd σ x1 1))) := by
  intro n
  induction n with
  | zero => intro x2 h2 hm; have := h2.2; exfalso; omega
  | succ n ih =>
    intro x2 h2 hm
    show zok (fX12_isStop_2_body (fX12_isStop_2 n) σ x1 x2) _
    unfold fX12_isStop_2_body
    have hN : zr 0 8 (zgi σ 3 (89 : Int32).toNatClampNeg) := rM_39 hσ.sg (89 : Int32).toNatClampNeg (by decide)
    have eN : (zgi σ 3 (89 : Int32).toNatClampNeg).toInt = (zgi σ 3 89).toInt := rfl
    refine zok_ck rfl (zok_if (fun q => zok_ck rfl (zok_spi (Or.inl rfl))) (fun q => ?_))
    have q1 := Int32.lt_iff_toInt_lt.mp (z_nle q)
    have b2 := hN.2
    have b0 := h2.1
    have hx : zr 0 7 x2 := ⟨b0, by omega⟩
    have k90 : zr 90 90 (90 : Int32) := zr_c (by decide)
    have c9 : (90 : Int32).toInt = 90 := rfl
    have t9 : (90 + x2).toInt = (90 : Int32).toInt + x2.toInt := z_tadd k90 hx (by decide)
    refine zok_ck (zin_ok (zr_add (lo := 90) (hi := 97) k90 hx (by decide)) (by decide)) (zok_if (fun r => zok_ck rfl (zok_spi (Or.inr ⟨rfl, ?_⟩))) (fun r => ?_))
    · refine ⟨x2.toInt.toNat + 1, by omega, by omega, by omega, ?_⟩
      have ex : (90 + x2).toNatClampNeg = 89 + (x2.toInt.toNat + 1) := by
        have : (90 + x2).toNatClampNeg = (90 + x2).toInt.toNat := rfl
        omega
      rw [← ex]; exact r
    · have a1 : zr 1 1 (1 : Int32) := zr_c (by decide)
      have c1 : (1 : Int32).toInt = 1 := rfl
      have t : (x2 + 1).toInt = x2.toInt + (1 : Int32).toInt := z_tadd hx a1 (by decide)
      refine zok_bv (fun v1 e1 => ?_)
      subst e1
      exact ih ⟨by omega, by omega⟩ (by omega)
theorem s_stop_h {G : Nat → Int} {σ : zSt} (hσ : zIM G σ) {x1 : Int32} : ∀ (n : Nat) {x4 : Int32} (h4 : zr 1 8 x4) (hf : zFnd σ x1 x4.toInt.toNat) (hm : 8 - x4.toInt < n), zok (fX12_stop_112 n σ x1 x4) (zAi (zIM G) (fun v : Int32 => zr (0) (8) v)) := by
  intro n
  induction n with
  | zero => intro x4 h4 hf hm; have := h4.2; exfalso; omega
  | succ n ih =>
    intro x4 h4 hf hm
    show zok (fX12_stop_112_body (fX12_stop_112 n) σ x1 x4) _
    unfold fX12_stop_112_body
    obtain ⟨i, f1, f2, f3, f4⟩ := hf
    have b4 := h4.1
    have b5 := h4.2
    have k89 : zr 89 89 (89 : Int32) := zr_c (by decide)
    have c9 : (89 : Int32).toInt = 89 := rfl
    have t9 : (89 + x4).toInt = (89 : Int32).toInt + x4.toInt := z_tadd k89 h4 (by decide)
    have hI := zr_add (lo := 90) (hi := 97) k89 h4 (by decide)
    have hN0 : zr 0 8 (zgi σ 3 (89 : Int32).toNatClampNeg) := rM_39 hσ.sg (89 : Int32).toNatClampNeg (by decide)
    have eN : (zgi σ 3 (89 : Int32).toNatClampNeg).toInt = (zgi σ 3 89).toInt := rfl
    have hN : zr 1 8 (zgi σ 3 (89 : Int32).toNatClampNeg) := ⟨by omega, hN0.2⟩
    refine zok_ck (zin_ok hI (by decide)) (zok_if (fun r => ?_) (fun r => ?_))
    · refine zok_ck rfl (zok_ck (zin_ok (zr_add (lo := 90) (hi := 97) k89 hN (by decide)) (by decide)) (zok_ck (zin_ok hI (by decide)) ?_))
      refine zok_bs (I := zIM G) (hσ.wi 90 97 (z_ix hI (by decide)) zr_any (by decide +kernel)) (fun σ1 e1 i1 => ?_)
      have hN1 := z_trr (j1 := (89 : Int32).toNatClampNeg) e1 (z_ix (c := 90) (d := 97) hI (by decide)) (by decide) hN
      refine zok_ck rfl (zok_ck rfl ?_)
      refine zok_bs (I := zIM G) (i1.wi 89 89 (by decide) (zr_sub (lo := 0) (hi := 7) hN1 (zr_c (lo := 1) (hi := 1) (x := 1) (by decide)) (by decide)) (by decide +kernel)) (fun σ2 e2 i2 => ?_)
      exact zok_pai i2 (s_X12_stop_168 i2.P)
    · have a1 : zr 1 1 (1 : Int32) := zr_c (by decide)
      have c1 : (1 : Int32).toInt = 1 := rfl
      have t : (x4 + 1).toInt = x4.toInt + (1 : Int32).toInt := z_tadd h4 a1 (by decide)
      have ne : ¬ i = x4.toInt.toNat := fun h => r (by
        have ex : (89 + x4).toNatClampNeg = 89 + i := by
          have : (89 + x4).toNatClampNeg = (89 + x4).toInt.toNat := rfl
          omega
        rw [ex]; exact f4)
      refine zok_bv (fun v3 e3 => ?_)
      subst e3
      exact ih ⟨by omega, by omega⟩ ⟨i, by omega, f2, f3, f4⟩ (by omega)
theorem s_stop_101 {G : Nat → Int} {σ : zSt} (hσ : zIM G σ) {x1 x2 x3 : Int32} (hf : x3 = 0 ∨ (x3 = 1 ∧ zFnd σ x1 1)) : zok (fX12_stop_101 σ x1 x2 x3) (zAi (zIM G) (fun v : Int32 => zr (0) (8) v)) := by
  unfold fX12_stop_101
  refine zok_if (fun _ => zok_if (fun _ => zok_pai hσ (s_X12_stop_168 hσ.P)) (fun q => ?_)) (fun _ => zok_pai hσ (s_X12_stop_168 hσ.P))
  rcases hf with h | h
  · exact absurd h q
  · exact s_stop_h hσ zfuel (zr_c (by decide)) h.2 (by decide)
theorem s_stop_57 {G : Nat → Int} {σ : zSt} (hσ : zIM G σ) {x1 x2 x3 : Int32} (hf : x3 = 0 ∨ (x3 = 1 ∧ zFnd σ x1 1)) (hn : ¬ x2 = 0 → x3 = 0 → (zgi σ 3 89).toInt ≤ 7) : zok (fX12_stop_57 σ x1 x2 x3 0) (zAi (zIM G) (fun v : Int32 => zr (0) (8) v)) := by
  unfold fX12_stop_57
  refine zok_fails0 (I := zIM G) (hσ.wi 0 0 (by decide) zr_any (by decide +kernel)) (fun σ1 e1 i1 => ?_)
  refine zok_if (fun _ => ?_) (fun q => absurd rfl q)
  have hf1 : x3 = 0 ∨ (x3 = 1 ∧ zFnd σ1 x1 1) := hf.imp id (fun h => ⟨h.1, h.2.off e1⟩)
  refine zok_if (fun _ => s_stop_101 i1 hf1) (fun q => zok_if (fun q3 => ?_) (fun _ => s_stop_101 i1 hf1))
  refine zok_ck rfl (zok_ck rfl ?_)
  have hN0 : zr 0 8 (zgi σ 3 (89 : Int32).toNatClampNeg) := rM_39 hσ.sg (89 : Int32).toNatClampNeg (by decide)
  have hN : zr 0 7 (zgi σ1 3 (89 : Int32).toNatClampNeg) := z_tr e1 rfl ⟨hN0.1, hn q q3⟩
  have h9 := zr_add (lo := 1) (hi := 8) hN (zr_c (lo := 1) (hi := 1) (x := 1) (by decide)) (by decide)
  refine zok_bs (I := zIM G) (i1.wi 89 89 (by decide) h9 (by decide +kernel)) (fun σ2 e2 i2 => ?_)
  have hN2 : zr 1 8 (zgi σ2 3 (89 : Int32).toNatClampNeg) := z_own e2 h9
  have hI := zr_add (lo := 90) (hi := 97) (zr_c (lo := 89) (hi := 89) (x := 89) (by decide)) hN2 (by decide)
  refine zok_ck rfl (zok_ck (zin_ok hI (by decide)) ?_)
  refine zok_bs (I := zIM G) (i2.wi 90 97 (z_ix hI (by decide)) zr_any (by decide +kernel)) (fun σ3 e3 i3 => ?_)
  exact s_stop_101 i3 (Or.inl q3)
theorem s_X12_stop {G : Nat → Int} {σ : zSt} (hσ : zIM G σ) {x1 : Int32} {x2 : Int32} (h_x2 : zr (0) (1) x2) : zok (fX12_stop σ x1 x2) (zAi (zIM G) (fun v : Int32 => zr (0) (8) v)) := by
  have z9 : ∀ σ1, zIM G σ1 → zok (fX12_stop_64 σ1) (zAi (zIM G) (fun v : Int32 => zr (0) (8) v)) := fun σ1 i1 => zok_sai i1 (zr_c (by decide))
  unfold fX12_stop
  refine zok_pi (s_isStop_h hσ.P zfuel (zr_c (by decide)) (by decide)) (fun v11 hv => ?_)
  refine zok_within (fun w1 w2 => ?_) (fun w3 => ?_)
  · refine zok_if (fun q => absurd q (by decide)) (fun _ => ?_)
    unfold fX12_stop_24
    refine zok_fails0 (I := zIM G) (hσ.wi 0 0 (by decide) zr_any (by decide +kernel)) (fun σ1 e1 i1 => ?_)
    refine zok_if (fun _ => ?_) (fun q => absurd rfl q)
    have hf1 : v11 = 0 ∨ (v11 = 1 ∧ zFnd σ1 x1 1) := hv.imp id (fun h => ⟨h.1, h.2.off e1⟩)
    refine zok_if (fun q => s_stop_57 i1 hf1 (fun h => absurd q h)) (fun q => zok_if (fun q3 => zok_ck rfl (zok_if (fun q8 => ?_) (fun q8 => ?_))) (fun q3 => s_stop_57 i1 hf1 (fun _ h => absurd h q3)))
    · unfold fX12_stop_57
      refine zok_fails1 (I := zIM G) (i1.wi 0 0 (by decide) zr_any (by decide +kernel)) (fun σ2 e2 i2 => ?_)
      exact zok_if (fun q => absurd q (by decide)) (fun _ => z9 _ i2)
    · have hN0 : zr 0 8 (zgi σ1 3 (89 : Int32).toNatClampNeg) := rM_39 i1.sg (89 : Int32).toNatClampNeg (by decide)
      have h7 := zc_nel (0) (7) q8 hN0 (zr_c (lo := 8) (hi := 8) (by decide)) (by decide)
      exact s_stop_57 i1 hf1 (fun _ _ => h7.2)
  · refine zok_if (fun _ => ?_) (fun q => absurd rfl q)
    unfold fX12_stop_24
    refine zok_fails1 (I := zIM G) (hσ.wi 0 0 (by decide) zr_any (by decide +kernel)) (fun σ1 e1 i1 => ?_)
    exact zok_if (fun q => absurd q (by decide)) (fun _ => z9 _ i1)
theorem s_X12_save_196_body {G : Nat → Int} {σ : zSt} {k196 : zSt → Int32 → Option (zSt)} {Mk196 : Int} (hk196 : ∀ (σ : zSt) (x1 : Int32), zIM G σ → zr (0) (4096) x1 → (4096) - x1.toInt < Mk196 → zok (k196 σ x1) (zIM G)) (hσ : zIM G σ) {x1 : Int32} (h_x1 : zr (0) (4096) x1) (hMk196 : (4096) - x1.toInt ≤ Mk196) : zok (fX12_save_196_body k196 σ x1) (zIM G) := by
  unfold fX12_save_196_body
  refine zok_if (fun q1 => ?_) (fun q1 => ?_)
  · have h2 := zc_ler (4096) q1 (zr_c (lo := 4096) (hi := 4096) (by decide)) h_x1 (by decide)
    exact zok_some hσ
  have h3 := zc_ltl (4095) (z_nle q1) h_x1 (zr_c (lo := 4096) (hi := 4096) (by decide)) (by decide)
  refine zok_ck (zin_ok h3 (by decide)) ?_
  refine zok_ck (zin_ok h3 (by decide)) ?_
  refine zok_bs (hσ.wl 0 4095 (z_ix h3 (by decide)) (by decide)) (fun σ1 e5 i4 => ?_)
  refine zok_ck (zin_ok h3 (by decide)) ?_
  refine zok_ck (zin_ok h3 (by decide)) ?_
  refine zok_bs (i4.wl 0 4095 (z_ix h3 (by decide)) (by decide)) (fun σ2 e7 i6 => ?_)
  refine zok_br (zr_add (lo := 1) (hi := 4096) h3 (zr_c (lo := 1) (hi := 1) (by decide)) (by decide)) (fun v3 e9 h8 => ?_)
  exact hk196 _ _ i6 (zr_w h8 (by decide)) (by rw [e9]; have := z_tadd (y := (1 : Int32)) h3 (zr_c (lo := 1) (hi := 1) (by decide)) (by decide); have e9 : (1 : Int32).toInt = 1 := rfl; omega) 
theorem s_X12_save_196 {G : Nat → Int} : ∀ (n : Nat) {σ : zSt} (hσ : zIM G σ) {x1 : Int32} (h_x1 : zr (0) (4096) x1) (hm : (4096) - x1.toInt < n), zok (fX12_save_196 n σ x1) (zIM G) := by
  intro n
  induction n with
  | zero => intro σ hσ x1 h_x1 hm ; have h9 := h_x1.1; have h8 := h_x1.2; exfalso; omega
  | succ n ih => intro σ hσ x1 h_x1 hm ; exact s_X12_save_196_body (fun σ x1 hσ h_x1 hm1 => ih hσ h_x1 (by omega)) hσ h_x1 (Int.le_refl _)
theorem s_X12_save_170_body {G : Nat → Int} {σ : zSt} {k170 : zSt → Int32 → Option (zSt)} {Mk170 : Int} (hk170 : ∀ (σ : zSt) (x1 : Int32), zIM G σ → zr (0) (61440) x1 → (61440) - x1.toInt < Mk170 → zok (k170 σ x1) (zIM G)) (hσ : zIM G σ) {x1 : Int32} (h_x1 : zr (0) (61440) x1) (hMk170 : (61440) - x1.toInt ≤ Mk170) : zok (fX12_save_170_body k170 σ x1) (zIM G) := by
  unfold fX12_save_170_body
  refine zok_if (fun q1 => ?_) (fun q1 => ?_)
  · have h2 := zc_ler (61440) q1 (zr_c (lo := 61440) (hi := 61440) (by decide)) h_x1 (by decide)
    exact (s_X12_save_196 zfuel hσ (zr_w (zr_c (lo := 0) (hi := 0) (by decide)) (by decide)) (by decide))
  have h3 := zc_ltl (61439) (z_nle q1) h_x1 (zr_c (lo := 61440) (hi := 61440) (by decide)) (by decide)
  refine zok_ck (zin_ok h3 (by decide)) ?_
  refine zok_ck (zin_ok h3 (by decide)) ?_
  refine zok_bs (hσ.wk (by decide)) (fun σ4 e5 i4 => ?_)
  refine zok_br (zr_add (lo := 1) (hi := 61440) h3 (zr_c (lo := 1) (hi := 1) (by decide)) (by decide)) (fun v5 e7 h6 => ?_)
  exact hk170 _ _ i4 (zr_w h6 (by decide)) (by rw [e7]; have := z_tadd (y := (1 : Int32)) h3 (zr_c (lo := 1) (hi := 1) (by decide)) (by decide); have e9 : (1 : Int32).toInt = 1 := rfl; omega) 
theorem s_X12_save_170 {G : Nat → Int} : ∀ (n : Nat) {σ : zSt} (hσ : zIM G σ) {x1 : Int32} (h_x1 : zr (0) (61440) x1) (hm : (61440) - x1.toInt < n), zok (fX12_save_170 n σ x1) (zIM G) := by
  intro n
  induction n with
  | zero => intro σ hσ x1 h_x1 hm ; have h9 := h_x1.1; have h8 := h_x1.2; exfalso; omega
  | succ n ih => intro σ hσ x1 h_x1 hm ; exact s_X12_save_170_body (fun σ x1 hσ h_x1 hm1 => ih hσ h_x1 (by omega)) hσ h_x1 (Int.le_refl _)
theorem s_X12_save_144_body {G : Nat → Int} {σ : zSt} {k144 : zSt → Int32 → Option (zSt)} {Mk144 : Int} (hk144 : ∀ (σ : zSt) (x1 : Int32), zIM G σ → zr (0) (64) x1 → (64) - x1.toInt < Mk144 → zok (k144 σ x1) (zIM G)) (hσ : zIM G σ) {x1 : Int32} (h_x1 : zr (0) (64) x1) (hMk144 : (64) - x1.toInt ≤ Mk144) : zok (fX12_save_144_body k144 σ x1) (zIM G) := by
  unfold fX12_save_144_body
  refine zok_if (fun q1 => ?_) (fun q1 => ?_)
  · have h2 := zc_ler (64) q1 (zr_c (lo := 64) (hi := 64) (by decide)) h_x1 (by decide)
    exact (s_X12_save_170 zfuel hσ (zr_w (zr_c (lo := 0) (hi := 0) (by decide)) (by decide)) (by decide))
  have h3 := zc_ltl (63) (z_nle q1) h_x1 (zr_c (lo := 64) (hi := 64) (by decide)) (by decide)
  refine zok_ck (zin_ok h3 (by decide)) ?_
  refine zok_ck (zin_ok h3 (by decide)) ?_
  refine zok_bs (hσ.wk (by decide)) (fun σ6 e5 i4 => ?_)
  refine zok_br (zr_add (lo := 1) (hi := 64) h3 (zr_c (lo := 1) (hi := 1) (by decide)) (by decide)) (fun v7 e7 h6 => ?_)
  exact hk144 _ _ i4 (zr_w h6 (by decide)) (by rw [e7]; have := z_tadd (y := (1 : Int32)) h3 (zr_c (lo := 1) (hi := 1) (by decide)) (by decide); have e9 : (1 : Int32).toInt = 1 := rfl; omega) 
theorem s_X12_save_144 {G : Nat → Int} : ∀ (n : Nat) {σ : zSt} (hσ : zIM G σ) {x1 : Int32} (h_x1 : zr (0) (64) x1) (hm : (64) - x1.toInt < n), zok (fX12_save_144 n σ x1) (zIM G) := by
  intro n
  induction n with
  | zero => intro σ hσ x1 h_x1 hm ; have h9 := h_x1.1; have h8 := h_x1.2; exfalso; omega
  | succ n ih => intro σ hσ x1 h_x1 hm ; exact s_X12_save_144_body (fun σ x1 hσ h_x1 hm1 => ih hσ h_x1 (by omega)) hσ h_x1 (Int.le_refl _)
theorem s_X12_save_117_body {G : Nat → Int} {σ : zSt} {k117 : zSt → Int32 → Option (zSt)} {Mk117 : Int} (hk117 : ∀ (σ : zSt) (x1 : Int32), zIM G σ → zr (0) (16384) x1 → (16384) - x1.toInt < Mk117 → zok (k117 σ x1) (zIM G)) (hσ : zIM G σ) {x1 : Int32} (h_x1 : zr (0) (16384) x1) (hMk117 : (16384) - x1.toInt ≤ Mk117) : zok (fX12_save_117_body k117 σ x1) (zIM G) := by
  unfold fX12_save_117_body
  refine zok_if (fun q1 => ?_) (fun q1 => ?_)
  · have h2 := zc_ler (16384) q1 (zr_c (lo := 16384) (hi := 16384) (by decide)) h_x1 (by decide)
    exact (s_X12_save_144 zfuel hσ (zr_w (zr_c (lo := 0) (hi := 0) (by decide)) (by decide)) (by decide))
  have h3 := zc_ltl (16383) (z_nle q1) h_x1 (zr_c (lo := 16384) (hi := 16384) (by decide)) (by decide)
  refine zok_ck (zin_ok h3 (by decide)) ?_
  refine zok_ck (zin_ok h3 (by decide)) ?_
  refine zok_bs (hσ.wk (by decide)) (fun σ8 e5 i4 => ?_)
  refine zok_br (zr_add (lo := 1) (hi := 16384) h3 (zr_c (lo := 1) (hi := 1) (by decide)) (by decide)) (fun v9 e7 h6 => ?_)
  exact hk117 _ _ i4 (zr_w h6 (by decide)) (by rw [e7]; have := z_tadd (y := (1 : Int32)) h3 (zr_c (lo := 1) (hi := 1) (by decide)) (by decide); have e9 : (1 : Int32).toInt = 1 := rfl; omega) 
theorem s_X12_save_117 {G : Nat → Int} : ∀ (n : Nat) {σ : zSt} (hσ : zIM G σ) {x1 : Int32} (h_x1 : zr (0) (16384) x1) (hm : (16384) - x1.toInt < n), zok (fX12_save_117 n σ x1) (zIM G) := by
  intro n
  induction n with
  | zero => intro σ hσ x1 h_x1 hm ; have h9 := h_x1.1; have h8 := h_x1.2; exfalso; omega
  | succ n ih => intro σ hσ x1 h_x1 hm ; exact s_X12_save_117_body (fun σ x1 hσ h_x1 hm1 => ih hσ h_x1 (by omega)) hσ h_x1 (Int.le_refl _)
theorem s_X12_save_91_body {G : Nat → Int} {σ : zSt} {k91 : zSt → Int32 → Option (zSt)} {Mk91 : Int} (hk91 : ∀ (σ : zSt) (x1 : Int32), zIM G σ → zr (0) (32768) x1 → (32768) - x1.toInt < Mk91 → zok (k91 σ x1) (zIM G)) (hσ : zIM G σ) {x1 : Int32} (h_x1 : zr (0) (32768) x1) (hMk91 : (32768) - x1.toInt ≤ Mk91) : zok (fX12_save_91_body k91 σ x1) (zIM G) := by
  unfold fX12_save_91_body
  refine zok_if (fun q1 => ?_) (fun q1 => ?_)
  · have h2 := zc_ler (32768) q1 (zr_c (lo := 32768) (hi := 32768) (by decide)) h_x1 (by decide)
    exact (s_X12_save_117 zfuel hσ (zr_w (zr_c (lo := 0) (hi := 0) (by decide)) (by decide)) (by decide))
  have h3 := zc_ltl (32767) (z_nle q1) h_x1 (zr_c (lo := 32768) (hi := 32768) (by decide)) (by decide)
  refine zok_ck (zin_ok h3 (by decide)) ?_
  refine zok_ck (zin_ok h3 (by decide)) ?_
  refine zok_bs (hσ.wk (by decide)) (fun σ10 e5 i4 => ?_)
  refine zok_br (zr_add (lo := 1) (hi := 32768) h3 (zr_c (lo := 1) (hi := 1) (by decide)) (by decide)) (fun v11 e7 h6 => ?_)
  exact hk91 _ _ i4 (zr_w h6 (by decide)) (by rw [e7]; have := z_tadd (y := (1 : Int32)) h3 (zr_c (lo := 1) (hi := 1) (by decide)) (by decide); have e9 : (1 : Int32).toInt = 1 := rfl; omega) 
theorem s_X12_save_91 {G : Nat → Int} : ∀ (n : Nat) {σ : zSt} (hσ : zIM G σ) {x1 : Int32} (h_x1 : zr (0) (32768) x1) (hm : (32768) - x1.toInt < n), zok (fX12_save_91 n σ x1) (zIM G) := by
  intro n
  induction n with
  | zero => intro σ hσ x1 h_x1 hm ; have h9 := h_x1.1; have h8 := h_x1.2; exfalso; omega
  | succ n ih => intro σ hσ x1 h_x1 hm ; exact s_X12_save_91_body (fun σ x1 hσ h_x1 hm1 => ih hσ h_x1 (by omega)) hσ h_x1 (Int.le_refl _)
theorem s_X12_save_64_body {G : Nat → Int} {σ : zSt} {k64 : zSt → Int32 → Option (zSt)} {Mk64 : Int} (hk64 : ∀ (σ : zSt) (x1 : Int32), zIM G σ → zr (0) (8192) x1 → (8192) - x1.toInt < Mk64 → zok (k64 σ x1) (zIM G)) (hσ : zIM G σ) {x1 : Int32} (h_x1 : zr (0) (8192) x1) (hMk64 : (8192) - x1.toInt ≤ Mk64) : zok (fX12_save_64_body k64 σ x1) (zIM G) := by
  unfold fX12_save_64_body
  refine zok_if (fun q1 => ?_) (fun q1 => ?_)
  · have h2 := zc_ler (8192) q1 (zr_c (lo := 8192) (hi := 8192) (by decide)) h_x1 (by decide)
    exact (s_X12_save_91 zfuel hσ (zr_w (zr_c (lo := 0) (hi := 0) (by decide)) (by decide)) (by decide))
  have h3 := zc_ltl (8191) (z_nle q1) h_x1 (zr_c (lo := 8192) (hi := 8192) (by decide)) (by decide)
  refine zok_ck (zin_ok h3 (by decide)) ?_
  refine zok_ck (zin_ok h3 (by decide)) ?_
  refine zok_bs (hσ.wk (by decide)) (fun σ12 e5 i4 => ?_)
  refine zok_br (zr_add (lo := 1) (hi := 8192) h3 (zr_c (lo := 1) (hi := 1) (by decide)) (by decide)) (fun v13 e7 h6 => ?_)
  exact hk64 _ _ i4 (zr_w h6 (by decide)) (by rw [e7]; have := z_tadd (y := (1 : Int32)) h3 (zr_c (lo := 1) (hi := 1) (by decide)) (by decide); have e9 : (1 : Int32).toInt = 1 := rfl; omega) 
theorem s_X12_save_64 {G : Nat → Int} : ∀ (n : Nat) {σ : zSt} (hσ : zIM G σ) {x1 : Int32} (h_x1 : zr (0) (8192) x1) (hm : (8192) - x1.toInt < n), zok (fX12_save_64 n σ x1) (zIM G) := by
  intro n
  induction n with
  | zero => intro σ hσ x1 h_x1 hm ; have h9 := h_x1.1; have h8 := h_x1.2; exfalso; omega
  | succ n ih => intro σ hσ x1 h_x1 hm ; exact s_X12_save_64_body (fun σ x1 hσ h_x1 hm1 => ih hσ h_x1 (by omega)) hσ h_x1 (Int.le_refl _)
theorem s_X12_save_39_body {G : Nat → Int} {σ : zSt} {k39 : zSt → Int32 → Option (zSt)} {Mk39 : Int} (hk39 : ∀ (σ : zSt) (x1 : Int32), zEM [102, 105, 106] G σ → zr (0) (5) x1 → (5) - x1.toInt < Mk39 → zok (k39 σ x1) (zEM [102, 105, 106] G)) (hσ : zEM [102, 105, 106] G σ) {x1 : Int32} (h_x1 : zr (0) (5) x1) (hMk39 : (5) - x1.toInt ≤ Mk39) : zok (fX12_save_39_body k39 σ x1) (zEM [102, 105, 106] G) := by
  unfold fX12_save_39_body
  refine zok_if (fun q1 => ?_) (fun q1 => ?_)
  · have h2 := zc_ler (5) q1 (zr_c (lo := 5) (hi := 5) (by decide)) h_x1 (by decide)
    exact (hσ.upu (fun G1 hG => s_X12_save_64 zfuel hG (zr_w (zr_c (lo := 0) (hi := 0) (by decide)) (by decide)) (by decide)))
  have h3 := zc_ltl (4) (z_nle q1) h_x1 (zr_c (lo := 5) (hi := 5) (by decide)) (by decide)
  refine zok_ck (zin_ok h3 (by decide)) ?_
  refine zok_ck (zin_ok h3 (by decide)) ?_
  refine zok_bs (hσ.wle 0 4 (z_ix h3 (by decide)) (by decide +kernel)) (fun σ14 e5 i4 => ?_)
  refine zok_br (zr_add (lo := 1) (hi := 5) h3 (zr_c (lo := 1) (hi := 1) (by decide)) (by decide)) (fun v15 e7 h6 => ?_)
  exact hk39 _ _ i4 (zr_w h6 (by decide)) (by rw [e7]; have := z_tadd (y := (1 : Int32)) h3 (zr_c (lo := 1) (hi := 1) (by decide)) (by decide); have e9 : (1 : Int32).toInt = 1 := rfl; omega) 
theorem s_X12_save_39 {G : Nat → Int} : ∀ (n : Nat) {σ : zSt} (hσ : zEM [102, 105, 106] G σ) {x1 : Int32} (h_x1 : zr (0) (5) x1) (hm : (5) - x1.toInt < n), zok (fX12_save_39 n σ x1) (zEM [102, 105, 106] G) := by
  intro n
  induction n with
  | zero => intro σ hσ x1 h_x1 hm ; have h9 := h_x1.1; have h8 := h_x1.2; exfalso; omega
  | succ n ih => intro σ hσ x1 h_x1 hm ; exact s_X12_save_39_body (fun σ x1 hσ h_x1 hm1 => ih hσ h_x1 (by omega)) hσ h_x1 (Int.le_refl _)
theorem s_X12_save_12_body {G : Nat → Int} {σ : zSt} {k12 : zSt → Int32 → Option (zSt)} {Mk12 : Int} (hk12 : ∀ (σ : zSt) (x1 : Int32), zEM [6, 7, 8, 102, 105, 106] G σ → zr (0) (1048) x1 → (1048) - x1.toInt < Mk12 → zok (k12 σ x1) (zEM [6, 7, 8, 102, 105, 106] G)) (hσ : zEM [6, 7, 8, 102, 105, 106] G σ) {x1 : Int32} (h_x1 : zr (0) (1048) x1) (hMk12 : (1048) - x1.toInt ≤ Mk12) : zok (fX12_save_12_body k12 σ x1) (zEM [6, 7, 8, 102, 105, 106] G) := by
  unfold fX12_save_12_body
  refine zok_if (fun q => ?_) (fun q => ?_)
  · exact hσ.uEu (l1 := [102, 105, 106]) (by decide) (fun G1 h1 => s_X12_save_39 zfuel h1 (zr_c (by decide)) (by decide))
  · have q1 := Int32.lt_iff_toInt_lt.mp (z_nle q)
    have c2 : (1048 : Int32).toInt = 1048 := rfl
    have h5 : zr 0 1047 x1 := ⟨h_x1.1, by omega⟩
    have c1 : (1 : Int32).toInt = 1 := rfl
    have b := h_x1.1
    have t : (x1 + 1).toInt = x1.toInt + (1 : Int32).toInt := z_tadd h5 (zr_c (lo := 1) (hi := 1) (x := 1) (by decide)) (by decide)
    refine zok_ck (zin_ok h5 (by decide)) (zok_ck (zin_ok h5 (by decide)) ?_)
    refine zok_bs (I := zEM [6, 7, 8, 102, 105, 106] G) (hσ.c12 (z_ix h5 (by decide)) (by decide +kernel)) (fun σ1 e1 i1 => ?_)
    refine zok_bv (fun v3 e3 => ?_)
    subst e3
    exact hk12 _ _ i1 ⟨by omega, by omega⟩ (by omega)
end ZJN1
