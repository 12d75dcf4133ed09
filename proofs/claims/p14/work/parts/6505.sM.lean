theorem s_X12_sample_369 {G : Nat → Int} {σ : zSt} {k275 : zSt → Int64 → Int64 → Int32 → Option (zSt)} {Mk275 : Int} (hk275 : ∀ (σ : zSt) (x1 : Int64) (x3 : Int64) (x5 : Int32), zIM G σ → zr (0) (4) x5 → (4) - x5.toInt < Mk275 → zok (k275 σ x1 x3 x5) (zIM (zset G 5 (G 5 + 1)))) (hσ : zIM G σ) {x1 : Int64} {x3 : Int64} {x5 : Int32} (h_x5 : zr (0) (3) x5) {x6 : Int32} (h_x6 : zr (0) (1) x6) (g5 : 0 ≤ G 5 ∧ G 5 ≤ 536870912) (hMk275 : (4) - x5.toInt ≤ Mk275) : zok (fX12_sample_369 k275 σ x1 x3 x5 x6) (zIM (zset G 5 (G 5 + 1))) := by
  unfold fX12_sample_369
  refine zok_if (fun q1 => ?_) (fun q1 => ?_)
  · have h2 := zc_eql (0) (0) q1 h_x6 (zr_c (lo := 0) (hi := 0) (by decide)) (by decide)
    exact (s_X12_sample_407 hk275 hσ h_x5 g5 hMk275)
  have h3 := zc_nel (1) (1) q1 h_x6 (zr_c (lo := 0) (hi := 0) (by decide)) (by decide)
  refine zok_ck rfl ?_
  refine zok_if (fun q4 => ?_) (fun q4 => ?_)
  · have h5 := zc_eql (1) (1) q4 (zr_andr (lo := 0) (hi := 1) (zr_c (lo := 1) (hi := 1) (by decide)) (by decide)) (zr_c (lo := 1) (hi := 1) (by decide)) (by decide)
    refine zok_ck (zin_ok (zr_add (lo := 78) (hi := 81) (zr_c (lo := 78) (hi := 78) (by decide)) h_x5 (by decide)) (by decide)) ?_
    refine zok_pi (s_X12_loudness hσ.P (rM_33 hσ.sg _ (z_ix (zr_add (lo := 78) (hi := 81) (zr_c (lo := 78) (hi := 78) (by decide)) h_x5 (by decide)) (by decide)))) (fun v6 h6 => ?_)
    refine zok_bv (fun v7 e8 => ?_)
    exact (s_X12_sample_407 hk275 hσ h_x5 g5 hMk275)
  have h9 := zc_nel (0) (0) q4 (zr_andr (lo := 0) (hi := 1) (zr_c (lo := 1) (hi := 1) (by decide)) (by decide)) (zr_c (lo := 1) (hi := 1) (by decide)) (by decide)
  exact (s_X12_sample_407 hk275 hσ h_x5 g5 hMk275)
theorem s_X12_sample_327 {G : Nat → Int} {σ : zSt} {k275 : zSt → Int64 → Int64 → Int32 → Option (zSt)} {Mk275 : Int} (hk275 : ∀ (σ : zSt) (x1 : Int64) (x3 : Int64) (x5 : Int32), zIM G σ → zr (0) (4) x5 → (4) - x5.toInt < Mk275 → zok (k275 σ x1 x3 x5) (zIM (zset G 5 (G 5 + 1)))) (hσ : zIM G σ) {x1 : Int64} {x3 : Int64} {x5 : Int32} (h_x5 : zr (0) (3) x5) {s0 : Int32} (h_s0 : zr (0) (1) s0) (g5 : 0 ≤ G 5 ∧ G 5 ≤ 536870912) (hMk275 : (4) - x5.toInt ≤ Mk275) : zok (fX12_sample_327 k275 σ x1 x3 x5 s0) (zIM (zset G 5 (G 5 + 1))) := by
  unfold fX12_sample_327
  refine zok_if (fun q1 => ?_) (fun q1 => ?_)
  · have h2 := zc_eql (0) (0) q1 h_s0 (zr_c (lo := 0) (hi := 0) (by decide)) (by decide)
    exact (s_X12_sample_369 hk275 hσ h_x5 (zr_w h2 (by decide)) g5 hMk275)
  have h3 := zc_nel (1) (1) q1 h_s0 (zr_c (lo := 0) (hi := 0) (by decide)) (by decide)
  refine zok_ck rfl ?_
  refine zok_if (fun q4 => ?_) (fun q4 => ?_)
  · have h5 := zc_eql (1) (1) q4 (zr_andr (lo := 0) (hi := 1) (zr_c (lo := 1) (hi := 1) (by decide)) (by decide)) (zr_c (lo := 1) (hi := 1) (by decide)) (by decide)
    refine zok_ck (zin_ok (zr_add (lo := 78) (hi := 81) (zr_c (lo := 78) (hi := 78) (by decide)) h_x5 (by decide)) (by decide)) ?_
    refine zok_pi (s_X12_loudness hσ.P (rM_33 hσ.sg _ (z_ix (zr_add (lo := 78) (hi := 81) (zr_c (lo := 78) (hi := 78) (by decide)) h_x5 (by decide)) (by decide)))) (fun v9 h6 => ?_)
    refine zok_bv (fun v10 e8 => ?_)
    exact (s_X12_sample_369 hk275 hσ h_x5 (zr_w h3 (by decide)) g5 hMk275)
  have h9 := zc_nel (0) (0) q4 (zr_andr (lo := 0) (hi := 1) (zr_c (lo := 1) (hi := 1) (by decide)) (by decide)) (zr_c (lo := 1) (hi := 1) (by decide)) (by decide)
  exact (s_X12_sample_369 hk275 hσ h_x5 (zr_w h3 (by decide)) g5 hMk275)
theorem s_X12_sample_508 {G : Nat → Int} {σ : zSt} (hσ : zIM G σ) {x1 : Int64} {x3 : Int64} (c_3_87 : zr (1) (4096) (zgi σ 3 87)) : zok (fX12_sample_508 σ x1 x3) (zIM G) := by
  unfold fX12_sample_508
  refine zok_ck rfl ?_
  refine zok_ck rfl ?_
  refine zok_ck (by decide) ?_
  refine zok_ck (zin_ok (zr_rem (lo := 0) (hi := 4095) 4096 (by decide) (zr_sub (lo := 0) (hi := 8190) (zr_add (lo := 1) (hi := 8191) (rM_38 hσ.sg _ (by decide)) c_3_87 (by decide)) (zr_c (lo := 1) (hi := 1) (by decide)) (by decide)) (by decide)) (by decide)) ?_
  refine zok_bs (hσ.wl 0 4095 (z_ix (zr_rem (lo := 0) (hi := 4095) 4096 (by decide) (zr_sub (lo := 0) (hi := 8190) (zr_add (lo := 1) (hi := 8191) (rM_38 hσ.sg _ (by decide)) c_3_87 (by decide)) (zr_c (lo := 1) (hi := 1) (by decide)) (by decide)) (by decide)) (by decide)) (by decide)) (fun σ11 e2 i1 => ?_)
  exact zok_some i1
theorem s_X12_sample_275_body {G : Nat → Int} {σ : zSt} {k275 : zSt → Int64 → Int64 → Int32 → Option (zSt)} {Mk275 : Int} (hk275 : ∀ (σ : zSt) (x1 : Int64) (x3 : Int64) (x5 : Int32), zIM G σ → zr (0) (4) x5 → (4) - x5.toInt < Mk275 → zok (k275 σ x1 x3 x5) (zIM (zset G 5 (G 5 + 1)))) (hσ : zIM G σ) {x1 : Int64} {x3 : Int64} {x5 : Int32} (h_x5 : zr (0) (4) x5) (g5 : 0 ≤ G 5 ∧ G 5 ≤ 536870912) (hMk275 : (4) - x5.toInt ≤ Mk275) : zok (fX12_sample_275_body k275 σ x1 x3 x5) (zIM (zset G 5 (G 5 + 1))) := by
  unfold fX12_sample_275_body
  refine zok_if (fun q1 => ?_) (fun q1 => ?_)
  · have h2 := zc_ler (4) q1 (zr_c (lo := 4) (hi := 4) (by decide)) h_x5 (by decide)
    refine zok_ck rfl ?_
    refine zok_ck rfl ?_
    refine zok_bs (hσ.wl 3 3 (by decide) (by decide)) (fun σ12 e4 i3 => ?_)
    refine zok_ck rfl ?_
    refine zok_ck rfl ?_
    refine zok_bs (i3.wi 166 166 (by decide) zr_any (by decide +kernel)) (fun σ13 e6 i5 => ?_)
    refine zok_ck rfl ?_
    refine zok_ck rfl ?_
    refine zok_bs (i5.wi 167 167 (by decide) zr_any (by decide +kernel)) (fun σ14 e8 i7 => ?_)
    refine zok_ck rfl ?_
    refine zok_ck rfl ?_
    refine zok_bs (I := zIM (zset G 5 (G 5 + 1))) (z_s168 i7 g5) (fun σ15 e10 i9 => ?_)
    refine zok_ck rfl ?_
    refine zok_if (fun q11 => ?_) (fun q11 => ?_)
    · have h12 := zc_eql (4096) (4096) q11 (rM_37 i9.sg _ (by decide)) (zr_c (lo := 4096) (hi := 4096) (by decide)) (by decide)
      refine zok_ck rfl ?_
      refine zok_ck (by decide) ?_
      refine zok_ck rfl ?_
      refine zok_bs (i9.wi 88 88 (by decide) (zr_rem (lo := 0) (hi := 4095) 4096 (by decide) (zr_add (lo := 1) (hi := 4096) (rM_38 i9.sg _ (by decide)) (zr_c (lo := 1) (hi := 1) (by decide)) (by decide)) (by decide)) (by decide +kernel)) (fun σ17 e14 i13 => ?_)
      exact (s_X12_sample_508 i13 (zr_w (z_trj e14 (by decide) h12) (by decide)))
    have h15 := zc_nel (0) (4095) q11 (rM_37 i9.sg _ (by decide)) (zr_c (lo := 4096) (hi := 4096) (by decide)) (by decide)
    refine zok_ck rfl ?_
    refine zok_ck rfl ?_
    refine zok_bs (i9.wi 87 87 (by decide) (zr_add (lo := 1) (hi := 4096) h15 (zr_c (lo := 1) (hi := 1) (by decide)) (by decide)) (by decide +kernel)) (fun σ16 e17 i16 => ?_)
    exact (s_X12_sample_508 i16 (z_own e17 (zr_add (lo := 1) (hi := 4096) h15 (zr_c (lo := 1) (hi := 1) (by decide)) (by decide))))
  have h18 := zc_ltl (3) (z_nle q1) h_x5 (zr_c (lo := 4) (hi := 4) (by decide)) (by decide)
  refine zok_if (fun q19 => ?_) (fun q19 => ?_)
  · have h20 := zc_ler (3) q19 (zr_c (lo := 3) (hi := 3) (by decide)) h18 (by decide)
    refine zok_ck rfl ?_
    refine zok_if (fun q21 => ?_) (fun q21 => ?_)
    · have h22 := zc_eql (1) (1) q21 (zr_andr (lo := 0) (hi := 1) (zr_c (lo := 1) (hi := 1) (by decide)) (by decide)) (zr_c (lo := 1) (hi := 1) (by decide)) (by decide)
      exact (s_X12_sample_327 hk275 hσ (zr_w h20 (by decide)) (zr_w (zr_c (lo := 1) (hi := 1) (by decide)) (by decide)) g5 hMk275)
    have h23 := zc_nel (0) (0) q21 (zr_andr (lo := 0) (hi := 1) (zr_c (lo := 1) (hi := 1) (by decide)) (by decide)) (zr_c (lo := 1) (hi := 1) (by decide)) (by decide)
    exact (s_X12_sample_327 hk275 hσ (zr_w h20 (by decide)) (zr_w (zr_c (lo := 0) (hi := 0) (by decide)) (by decide)) g5 hMk275)
  have h24 := zc_ltl (2) (z_nle q19) h18 (zr_c (lo := 3) (hi := 3) (by decide)) (by decide)
  refine zok_ck (zin_ok (zr_add (lo := 75) (hi := 77) (zr_c (lo := 75) (hi := 75) (by decide)) h24 (by decide)) (by decide)) ?_
  refine zok_if (fun q25 => ?_) (fun q25 => ?_)
  · have h26 := zc_eql (1) (1) q25 zr_any (zr_c (lo := 1) (hi := 1) (by decide)) (by decide)
    exact (s_X12_sample_327 hk275 hσ (zr_w h24 (by decide)) (zr_w (zr_c (lo := 1) (hi := 1) (by decide)) (by decide)) g5 hMk275)
  exact (s_X12_sample_327 hk275 hσ (zr_w h24 (by decide)) (zr_w (zr_c (lo := 0) (hi := 0) (by decide)) (by decide)) g5 hMk275)
theorem s_X12_sample_275 {G : Nat → Int} (g5 : 0 ≤ G 5 ∧ G 5 ≤ 536870912) : ∀ (n : Nat) {σ : zSt} (hσ : zIM G σ) {x1 : Int64} {x3 : Int64} {x5 : Int32} (h_x5 : zr (0) (4) x5) (hm : (4) - x5.toInt < n), zok (fX12_sample_275 n σ x1 x3 x5) (zIM (zset G 5 (G 5 + 1))) := by
  intro n
  induction n with
  | zero => intro σ hσ x1 x3 x5 h_x5 hm ; have h9 := h_x5.1; have h8 := h_x5.2; exfalso; omega
  | succ n ih => intro σ hσ x1 x3 x5 h_x5 hm ; exact s_X12_sample_275_body (fun σ x1 x3 x5 hσ h_x5 hm1 => ih hσ h_x5 (by omega)) hσ h_x5 g5 (Int.le_refl _)
theorem s_X12_sample_268 {G : Nat → Int} {σ : zSt} (hσ : zIM G σ) (g5 : 0 ≤ G 5 ∧ G 5 ≤ 536870912) : zok (fX12_sample_268 σ ) (zIM (zset G 5 (G 5 + 1))) := by
  unfold fX12_sample_268
  exact (s_X12_sample_275 g5 zfuel hσ (zr_w (zr_c (lo := 0) (hi := 0) (by decide)) (by decide)) (by decide))
theorem s_X12_sample_246 {G : Nat → Int} {σ : zSt} (hσ : zIM G σ) {s0 : Int32} (h_s0 : zr (0) (1) s0) (g5 : 0 ≤ G 5 ∧ G 5 ≤ 536870912) : zok (fX12_sample_246 σ s0) (zIM (zset G 5 (G 5 + 1))) := by
  unfold fX12_sample_246
  refine zok_ck rfl ?_
  refine zok_ck rfl ?_
  refine zok_bs (hσ.wi 85 85 (by decide) (zr_or (lo := 0) (hi := 65535) 16 (zr_shr (lo := 0) (hi := 32767) 1 (by decide) (rM_35 hσ.sg _ (by decide)) (by decide)) (zr_shl (lo := 0) (hi := 32768) 15 (by decide) h_s0 (by decide)) (by decide)) (by decide +kernel)) (fun σ18 e2 i1 => ?_)
  exact (s_X12_sample_268 i1 g5)
theorem s_X12_sample_174 {G : Nat → Int} {σ : zSt} (hσ : zIM G σ) {s0 : Int32} (h_s0 : zr (0) (1023) s0) {s1 : Int32} (h_s1 : zr (83) (83) s1) (g5 : 0 ≤ G 5 ∧ G 5 ≤ 536870912) : zok (fX12_sample_174 σ s0 s1) (zIM (zset G 5 (G 5 + 1))) := by
  unfold fX12_sample_174
  refine zok_ck (zin_ok h_s1 (by decide)) ?_
  refine zok_bs (hσ.wi 83 83 (z_ix h_s1 (by decide)) h_s0 (by decide +kernel)) (fun σ19 e2 i1 => ?_)
  refine zok_ck rfl ?_
  refine zok_ck rfl ?_
  refine zok_bs (i1.wi 84 84 (by decide) zr_any (by decide +kernel)) (fun σ20 e4 i3 => ?_)
  refine zok_ck rfl ?_
  refine zok_if (fun q5 => ?_) (fun q5 => ?_)
  · have h6 := zc_eql (1) (1) q5 zr_any (zr_c (lo := 1) (hi := 1) (by decide)) (by decide)
    refine zok_ck rfl ?_
    refine zok_if (fun q7 => ?_) (fun q7 => ?_)
    · have h8 := zc_ler (4) q7 (zr_c (lo := 4) (hi := 4) (by decide)) (rM_34 i3.sg _ (by decide)) (by decide)
      refine zok_ck rfl ?_
      refine zok_ck rfl ?_
      exact (s_X12_sample_246 i3 (zr_xor (lo := 0) (hi := 1) 1 (zr_andr (lo := 0) (hi := 1) (zr_c (lo := 1) (hi := 1) (by decide)) (by decide)) (zr_andr (lo := 0) (hi := 1) (zr_c (lo := 1) (hi := 1) (by decide)) (by decide)) (by decide)) g5)
    have h9 := zc_ltl (3) (z_nle q7) (rM_34 i3.sg _ (by decide)) (zr_c (lo := 4) (hi := 4) (by decide)) (by decide)
    refine zok_ck rfl ?_
    exact (s_X12_sample_246 i3 (zr_andr (lo := 0) (hi := 1) (zr_c (lo := 1) (hi := 1) (by decide)) (by decide)) g5)
  exact (s_X12_sample_268 i3 g5)
theorem s_X12_sample_129 {G : Nat → Int} {σ : zSt} (hσ : zIM G σ) (g5 : 0 ≤ G 5 ∧ G 5 ≤ 536870912) : zok (fX12_sample_129 σ ) (zIM (zset G 5 (G 5 + 1))) := by
  unfold fX12_sample_129
  refine zok_ck rfl ?_
  refine zok_if (fun q1 => ?_) (fun q1 => ?_)
  · have h2 := zc_eql (0) (0) q1 zr_any (zr_c (lo := 0) (hi := 0) (by decide)) (by decide)
    refine zok_ck rfl ?_
    refine zok_ck (by decide) ?_
    refine zok_br (zr_rem (lo := 0) (hi := 3) 4 (by decide) (rM_34 hσ.sg _ (by decide)) (by decide)) (fun v21 e4 h3 => ?_)
    refine zok_if (fun q5 => ?_) (fun q5 => ?_)
    · have h6 := zc_eql (3) (3) q5 h3 (zr_c (lo := 3) (hi := 3) (by decide)) (by decide)
      refine zok_ck rfl ?_
      exact (s_X12_sample_174 hσ (rM_32 hσ.sg _ (by decide)) (zr_c (lo := 83) (hi := 83) (by decide)) g5)
    have h7 := zc_nel (0) (2) q5 h3 (zr_c (lo := 3) (hi := 3) (by decide)) (by decide)
    exact (s_X12_sample_174 hσ (zr_w (zr_shld (lo := 0) (hi := 64) (zr_c (lo := 16) (hi := 16) (by decide)) h7 (by decide)) (by decide)) (zr_c (lo := 83) (hi := 83) (by decide)) g5)
  exact (s_X12_sample_268 hσ g5)
theorem s_X12_sample_2_body {G : Nat → Int} {σ : zSt} {k2 : zSt → Int32 → Option (zSt)} {Mk2 : Int} (hk2 : ∀ (σ : zSt) (x1 : Int32), zIM G σ → zr (0) (3) x1 → (3) - x1.toInt < Mk2 → zok (k2 σ x1) (zIM (zset G 5 (G 5 + 1)))) (hσ : zIM G σ) {x1 : Int32} (h_x1 : zr (0) (3) x1) (g5 : 0 ≤ G 5 ∧ G 5 ≤ 536870912) (hMk2 : (3) - x1.toInt ≤ Mk2) : zok (fX12_sample_2_body k2 σ x1) (zIM (zset G 5 (G 5 + 1))) := by
  unfold fX12_sample_2_body
  refine zok_if (fun q1 => ?_) (fun q1 => ?_)
  · have h2 := zc_ler (3) q1 (zr_c (lo := 3) (hi := 3) (by decide)) h_x1 (by decide)
    refine zok_ck rfl ?_
    refine zok_if (fun q3 => ?_) (fun q3 => ?_)
    · have h4 := zc_lel (0) q3 zr_any (zr_c (lo := 0) (hi := 0) (by decide)) (by decide)
      exact (s_X12_sample_129 hσ g5)
    have h5 := zc_ltr (1) (z_nle q3) (zr_c (lo := 0) (hi := 0) (by decide)) zr_any (by decide)
    refine zok_ck rfl ?_
    refine zok_ck rfl ?_
    refine zok_bs (hσ.wi 83 83 (by decide) (zr_sub (lo := 0) (hi := 2147483646) h5 (zr_c (lo := 1) (hi := 1) (by decide)) (by decide)) (by decide +kernel)) (fun σ22 e7 i6 => ?_)
    exact (s_X12_sample_129 i6 g5)
  have h8 := zc_ltl (2) (z_nle q1) h_x1 (zr_c (lo := 3) (hi := 3) (by decide)) (by decide)
  refine zok_ck (zin_ok (zr_add (lo := 72) (hi := 74) (zr_c (lo := 72) (hi := 72) (by decide)) h8 (by decide)) (by decide)) ?_
  refine zok_if (fun q9 => ?_) (fun q9 => ?_)
  · have h10 := zc_lel (0) q9 zr_any (zr_c (lo := 0) (hi := 0) (by decide)) (by decide)
    exact (s_X12_sample_32 hk2 hσ h8 g5 hMk2)
  have h11 := zc_ltr (1) (z_nle q9) (zr_c (lo := 0) (hi := 0) (by decide)) zr_any (by decide)
  refine zok_br (zr_add (lo := 72) (hi := 74) (zr_c (lo := 72) (hi := 72) (by decide)) h8 (by decide)) (fun v23 e13 h12 => ?_)
  refine zok_ck (zin_ok h12 (by decide)) ?_
  refine zok_ck (zin_ok h12 (by decide)) ?_
  refine zok_bs (hσ.wi 72 74 (z_ix h12 (by decide)) zr_any (by decide +kernel)) (fun σ24 e15 i14 => ?_)
  exact (s_X12_sample_32 hk2 i14 h8 g5 hMk2)
theorem s_X12_sample_2 {G : Nat → Int} (g5 : 0 ≤ G 5 ∧ G 5 ≤ 536870912) : ∀ (n : Nat) {σ : zSt} (hσ : zIM G σ) {x1 : Int32} (h_x1 : zr (0) (3) x1) (hm : (3) - x1.toInt < n), zok (fX12_sample_2 n σ x1) (zIM (zset G 5 (G 5 + 1))) := by
  intro n
  induction n with
  | zero => intro σ hσ x1 h_x1 hm ; have h9 := h_x1.1; have h8 := h_x1.2; exfalso; omega
  | succ n ih => intro σ hσ x1 h_x1 hm ; exact s_X12_sample_2_body (fun σ x1 hσ h_x1 hm1 => ih hσ h_x1 (by omega)) hσ h_x1 g5 (Int.le_refl _)
theorem s_X12_sample {G : Nat → Int} {σ : zSt} (hσ : zIM G σ) (g5 : 0 ≤ G 5 ∧ G 5 ≤ 536870912) : zok (fX12_sample σ ) (zIM (zset G 5 (G 5 + 1))) := by
  unfold fX12_sample
  exact (s_X12_sample_2 g5 zfuel hσ (zr_w (zr_c (lo := 0) (hi := 0) (by decide)) (by decide)) (by decide))
theorem s_X12_wreg {σ : zSt} (hσ : zPM σ) {x1 : Int32} (h_x1 : zr (0) (63) x1) : zok (fX12_wreg σ x1) (zPi σ (fun v : Int32 => zr (0) (255) v)) := by
  unfold fX12_wreg
  refine zok_ck (zin_ok (zr_add (lo := 98) (hi := 161) (zr_c (lo := 98) (hi := 98) (by decide)) h_x1 (by decide)) (by decide)) ?_
  exact zok_spi (rM_40 hσ.sg _ (z_ix (zr_add (lo := 98) (hi := 161) (zr_c (lo := 98) (hi := 98) (by decide)) h_x1 (by decide)) (by decide)))
theorem s_X12_isRhythm_22 {σ : zSt} (hσ : zPM σ) {s0 : Int32} (h_s0 : zr (0) (1) s0) : zok (fX12_isRhythm_22 σ s0) (zPi σ (fun v : Int32 => zr (0) (1) v)) := by
  unfold fX12_isRhythm_22
  refine zok_ck (zbo_ok h_s0 (by decide)) ?_
  exact zok_spi h_s0
theorem s_X12_isRhythm_21 {σ : zSt} (hσ : zPM σ) : zok (fX12_isRhythm_21 σ ) (zPi σ (fun v : Int32 => zr (0) (1) v)) := by
  unfold fX12_isRhythm_21
  exact (s_X12_isRhythm_22 hσ (zr_w (zr_c (lo := 0) (hi := 0) (by decide)) (by decide)))
theorem s_X12_isRhythm {σ : zSt} (hσ : zPM σ) {x1 : Int32} (h_x1 : zr (0) (8) x1) : zok (fX12_isRhythm σ x1) (zPi σ (fun v : Int32 => zr (0) (1) v)) := by
  unfold fX12_isRhythm
  refine zok_if (fun q1 => ?_) (fun q1 => ?_)
  · have h2 := zc_lel (5) q1 h_x1 (zr_c (lo := 5) (hi := 5) (by decide)) (by decide)
    exact (s_X12_isRhythm_21 hσ)
  have h3 := zc_ltr (6) (z_nle q1) (zr_c (lo := 5) (hi := 5) (by decide)) h_x1 (by decide)
  refine zok_pi (s_X12_wreg hσ (zr_w (zr_c (lo := 14) (hi := 14) (by decide)) (by decide))) (fun v2 h4 => ?_)
  refine zok_if (fun q5 => ?_) (fun q5 => ?_)
  · have h6 := zc_eql (0) (0) q5 (zr_andr (lo := 0) (hi := 32) (zr_c (lo := 32) (hi := 32) (by decide)) (by decide)) (zr_c (lo := 0) (hi := 0) (by decide)) (by decide)
    exact (s_X12_isRhythm_21 hσ)
  have h7 := zc_nel (1) (32) q5 (zr_andr (lo := 0) (hi := 32) (zr_c (lo := 32) (hi := 32) (by decide)) (by decide)) (zr_c (lo := 0) (hi := 0) (by decide)) (by decide)
  exact (s_X12_isRhythm_22 hσ (zr_w (zr_c (lo := 1) (hi := 1) (by decide)) (by decide)))
theorem s_X12_isOn_60 {σ : zSt} (hσ : zPM σ) {x3 : Int32} (h_x3 : zr (0) (1) x3) {s0 : Int32} (h_s0 : zr (0) (4) s0) : zok (fX12_isOn_60 σ x3 s0) (zPi σ (fun v : Int32 => zr (0) (1) v)) := by
  unfold fX12_isOn_60
  refine zok_pi (s_X12_wreg hσ (zr_w (zr_c (lo := 14) (hi := 14) (by decide)) (by decide))) (fun v2 h1 => ?_)
  exact zok_spi (zr_or (lo := 0) (hi := 1) 1 h_x3 (zr_andr (lo := 0) (hi := 1) (zr_c (lo := 1) (hi := 1) (by decide)) (by decide)) (by decide))
theorem s_X12_isOn {σ : zSt} (hσ : zPM σ) {x1 : Int32} (h_x1 : zr (0) (8) x1) {x2 : Int32} (h_x2 : zr (0) (1) x2) : zok (fX12_isOn σ x1 x2) (zPi σ (fun v : Int32 => zr (0) (1) v)) := by
  unfold fX12_isOn
  refine zok_pi (s_X12_wreg hσ (zr_w (zr_add (lo := 32) (hi := 40) (zr_c (lo := 32) (hi := 32) (by decide)) h_x1 (by decide)) (by decide))) (fun v4 h1 => ?_)
  refine zok_br (zr_andr (lo := 0) (hi := 1) (zr_c (lo := 1) (hi := 1) (by decide)) (by decide)) (fun v5 e3 h2 => ?_)
  refine zok_pi (s_X12_isRhythm hσ h_x1) (fun v7 h4 => ?_)
  refine zok_if (fun q5 => ?_) (fun q5 => ?_)
  · have h6 := zc_eql (0) (0) q5 h4 (zr_c (lo := 0) (hi := 0) (by decide)) (by decide)
    exact zok_spi h2
  have h7 := zc_nel (1) (1) q5 h4 (zr_c (lo := 0) (hi := 0) (by decide)) (by decide)
  refine zok_if (fun q8 => ?_) (fun q8 => ?_)
  · have h9 := zc_eql (6) (6) q8 h_x1 (zr_c (lo := 6) (hi := 6) (by decide)) (by decide)
    exact (s_X12_isOn_60 hσ h2 (zr_w (zr_c (lo := 4) (hi := 4) (by decide)) (by decide)))
  refine zok_if (fun q10 => ?_) (fun q10 => ?_)
  · have h11 := zc_eql (7) (7) q10 h_x1 (zr_c (lo := 7) (hi := 7) (by decide)) (by decide)
    refine zok_if (fun q12 => ?_) (fun q12 => ?_)
    · have h13 := zc_eql (0) (0) q12 h_x2 (zr_c (lo := 0) (hi := 0) (by decide)) (by decide)
      exact (s_X12_isOn_60 hσ h2 (zr_w (zr_c (lo := 0) (hi := 0) (by decide)) (by decide)))
    have h14 := zc_nel (1) (1) q12 h_x2 (zr_c (lo := 0) (hi := 0) (by decide)) (by decide)
    exact (s_X12_isOn_60 hσ h2 (zr_w (zr_c (lo := 3) (hi := 3) (by decide)) (by decide)))
  refine zok_if (fun q15 => ?_) (fun q15 => ?_)
  · have h16 := zc_eql (0) (0) q15 h_x2 (zr_c (lo := 0) (hi := 0) (by decide)) (by decide)
    exact (s_X12_isOn_60 hσ h2 (zr_w (zr_c (lo := 2) (hi := 2) (by decide)) (by decide)))
  have h17 := zc_nel (1) (1) q15 h_x2 (zr_c (lo := 0) (hi := 0) (by decide)) (by decide)
  exact (s_X12_isOn_60 hσ h2 (zr_w (zr_c (lo := 1) (hi := 1) (by decide)) (by decide)))
theorem s_X12_digit_20 {σ : zSt} (hσ : zPM σ) {s0 : Int32} (h_s0 : zr (0) (48) s0) : zok (fX12_digit_20 σ s0) (zPi σ (fun v : Int32 => zr (0) (48) v)) := by
  unfold fX12_digit_20
  exact zok_spi h_s0
theorem s_X12_digit {σ : zSt} (hσ : zPM σ) {x0 : Int32} (h_x0 : zr (48) (102) x0) : zok (fX12_digit σ x0) (zPi σ (fun v : Int32 => zr (0) (48) v)) := by
  unfold fX12_digit
  refine zok_if (fun q1 => ?_) (fun q1 => ?_)
  · have h2 := zc_ler (97) q1 (zr_c (lo := 97) (hi := 97) (by decide)) h_x0 (by decide)
    exact (s_X12_digit_20 hσ (zr_w (zr_add (lo := 10) (hi := 15) (zr_sub (lo := 0) (hi := 5) h2 (zr_c (lo := 97) (hi := 97) (by decide)) (by decide)) (zr_c (lo := 10) (hi := 10) (by decide)) (by decide)) (by decide)))
  have h3 := zc_ltl (96) (z_nle q1) h_x0 (zr_c (lo := 97) (hi := 97) (by decide)) (by decide)
  exact (s_X12_digit_20 hσ (zr_sub (lo := 0) (hi := 48) h3 (zr_c (lo := 48) (hi := 48) (by decide)) (by decide)))
theorem s_X12_patchByte_25 {σ : zSt} (hσ : zPM σ) {x2 : Int32} (h_x2 : zr (0) (7) x2) {s0 : Int32} (h_s0 : zr (0) (18) s0) : zok (fX12_patchByte_25 σ x2 s0) (zPi σ (fun v : Int32 => zr (0) (816) v)) := by
  unfold fX12_patchByte_25
  refine zok_if (fun q1 => ?_) (fun q1 => ?_)
  · have h2 := zc_eql (0) (0) q1 h_s0 (zr_c (lo := 0) (hi := 0) (by decide)) (by decide)
    refine zok_pi (s_X12_wreg hσ (zr_w h_x2 (by decide))) (fun v7 h3 => ?_)
    exact zok_spi (zr_w h3 (by decide))
  have h4 := zc_nel (1) (18) q1 h_s0 (zr_c (lo := 0) (hi := 0) (by decide)) (by decide)
  refine zok_br (zr_add (lo := 0) (hi := 286) (zr_mul (lo := 0) (hi := 272) (zr_c (lo := 16) (hi := 16) (by decide)) (zr_sub (lo := 0) (hi := 17) h4 (zr_c (lo := 1) (hi := 1) (by decide)) (by decide)) (by decide)) (zr_mul (lo := 0) (hi := 14) (zr_c (lo := 2) (hi := 2) (by decide)) h_x2 (by decide)) (by decide)) (fun v1 e6 h5 => ?_)
  refine zok_ck (by decide) ?_
  refine zok_ck (zin_ok h5 (by decide +kernel)) ?_
  refine zok_pi (s_X12_digit hσ (zkC70_r _ (z_ixlt h5 (by decide)))) (fun v3 h7 => ?_)
  refine zok_ck (by decide) ?_
  refine zok_ck (zin_ok (zr_add (lo := 1) (hi := 287) h5 (zr_c (lo := 1) (hi := 1) (by decide)) (by decide)) (by decide +kernel)) ?_
  refine zok_pi (s_X12_digit hσ (zkC70_r _ (z_ixlt (zr_add (lo := 1) (hi := 287) h5 (zr_c (lo := 1) (hi := 1) (by decide)) (by decide)) (by decide)))) (fun v5 h8 => ?_)
  exact zok_spi (zr_add (lo := 0) (hi := 816) (zr_mul (lo := 0) (hi := 768) (zr_c (lo := 16) (hi := 16) (by decide)) h7 (by decide)) h8 (by decide))
theorem s_X12_patchByte {σ : zSt} (hσ : zPM σ) {x1 : Int32} (h_x1 : zr (0) (8) x1) {x2 : Int32} (h_x2 : zr (0) (7) x2) : zok (fX12_patchByte σ x1 x2) (zPi σ (fun v : Int32 => zr (0) (816) v)) := by
  unfold fX12_patchByte
  refine zok_pi (s_X12_isRhythm hσ h_x1) (fun v9 h1 => ?_)
  refine zok_if (fun q2 => ?_) (fun q2 => ?_)
  · have h3 := zc_eql (0) (0) q2 h1 (zr_c (lo := 0) (hi := 0) (by decide)) (by decide)
    refine zok_pi (s_X12_wreg hσ (zr_w (zr_add (lo := 48) (hi := 56) (zr_c (lo := 48) (hi := 48) (by decide)) h_x1 (by decide)) (by decide))) (fun v11 h4 => ?_)
    exact (s_X12_patchByte_25 hσ h_x2 (zr_w (zr_shr (lo := 0) (hi := 15) 4 (by decide) h4 (by decide)) (by decide)))
  have h5 := zc_nel (1) (1) q2 h1 (zr_c (lo := 0) (hi := 0) (by decide)) (by decide)
  exact (s_X12_patchByte_25 hσ h_x2 (zr_w (zr_add (lo := 10) (hi := 18) h_x1 (zr_c (lo := 10) (hi := 10) (by decide)) (by decide)) (by decide)))
theorem s_X12_rate_140 {σ : zSt} (hσ : zPM σ) {s0 : Int32} (h_s0 : zr (0) (15) s0) : zok (fX12_rate_140 σ s0) (zPi σ (fun v : Int32 => zr (0) (51) v)) := by
  unfold fX12_rate_140
  exact zok_spi (zr_w h_s0 (by decide))
theorem s_X12_rate_99 {σ : zSt} (hσ : zPM σ) {s0 : Int32} (h_s0 : zr (0) (15) s0) : zok (fX12_rate_99 σ s0) (zPi σ (fun v : Int32 => zr (0) (51) v)) := by
  unfold fX12_rate_99
  exact zok_spi (zr_w h_s0 (by decide))
theorem s_X12_rate_17 {σ : zSt} (hσ : zPM σ) {x1 : Int32} {x2 : Int32} (h_x2 : zr (0) (8) x2) {x3 : Int32} (h_x3 : zr (0) (1) x3) {s0 : Int32} (h_s0 : zr (0) (1) s0) : zok (fX12_rate_17 σ x1 x2 x3 s0) (zPi σ (fun v : Int32 => zr (0) (51) v)) := by
  unfold fX12_rate_17
  refine zok_if (fun q1 => ?_) (fun q1 => ?_)
  · have h2 := zc_eql (0) (0) q1 zr_any (zr_c (lo := 0) (hi := 0) (by decide)) (by decide)
    exact zok_spi (zr_w (zr_c (lo := 12) (hi := 12) (by decide)) (by decide))
  refine zok_if (fun q3 => ?_) (fun q3 => ?_)
  · have h4 := zc_eql (1) (1) q3 zr_any (zr_c (lo := 1) (hi := 1) (by decide)) (by decide)
    refine zok_pi (s_X12_patchByte hσ h_x2 (zr_w (zr_add (lo := 4) (hi := 5) (zr_c (lo := 4) (hi := 4) (by decide)) h_x3 (by decide)) (by decide))) (fun v2 h5 => ?_)
    exact zok_spi (zr_shr (lo := 0) (hi := 51) 4 (by decide) h5 (by decide))
  refine zok_if (fun q6 => ?_) (fun q6 => ?_)
  · have h7 := zc_eql (2) (2) q6 zr_any (zr_c (lo := 2) (hi := 2) (by decide)) (by decide)
    refine zok_pi (s_X12_patchByte hσ h_x2 (zr_w (zr_add (lo := 4) (hi := 5) (zr_c (lo := 4) (hi := 4) (by decide)) h_x3 (by decide)) (by decide))) (fun v4 h8 => ?_)
    exact zok_spi (zr_w (zr_andr (lo := 0) (hi := 15) (zr_c (lo := 15) (hi := 15) (by decide)) (by decide)) (by decide))
  refine zok_if (fun q9 => ?_) (fun q9 => ?_)
  · have h10 := zc_eql (3) (3) q9 zr_any (zr_c (lo := 3) (hi := 3) (by decide)) (by decide)
    refine zok_if (fun q11 => ?_) (fun q11 => ?_)
    · have h12 := zc_eql (0) (0) q11 h_s0 (zr_c (lo := 0) (hi := 0) (by decide)) (by decide)
      refine zok_pi (s_X12_patchByte hσ h_x2 (zr_w (zr_add (lo := 6) (hi := 7) (zr_c (lo := 6) (hi := 6) (by decide)) h_x3 (by decide)) (by decide))) (fun v6 h13 => ?_)
      exact (s_X12_rate_99 hσ (zr_andr (lo := 0) (hi := 15) (zr_c (lo := 15) (hi := 15) (by decide)) (by decide)))
    have h14 := zc_nel (1) (1) q11 h_s0 (zr_c (lo := 0) (hi := 0) (by decide)) (by decide)
    exact (s_X12_rate_99 hσ (zr_w (zr_c (lo := 0) (hi := 0) (by decide)) (by decide)))
  refine zok_pi (s_X12_wreg hσ (zr_w (zr_add (lo := 32) (hi := 40) (zr_c (lo := 32) (hi := 32) (by decide)) h_x2 (by decide)) (by decide))) (fun v8 h15 => ?_)
  refine zok_if (fun q16 => ?_) (fun q16 => ?_)
  · have h17 := zc_eql (0) (0) q16 (zr_andr (lo := 0) (hi := 32) (zr_c (lo := 32) (hi := 32) (by decide)) (by decide)) (zr_c (lo := 0) (hi := 0) (by decide)) (by decide)
    refine zok_if (fun q18 => ?_) (fun q18 => ?_)
    · have h19 := zc_eql (0) (0) q18 h_s0 (zr_c (lo := 0) (hi := 0) (by decide)) (by decide)
      exact (s_X12_rate_140 hσ (zr_w (zr_c (lo := 7) (hi := 7) (by decide)) (by decide)))
    have h20 := zc_nel (1) (1) q18 h_s0 (zr_c (lo := 0) (hi := 0) (by decide)) (by decide)
    refine zok_pi (s_X12_patchByte hσ h_x2 (zr_w (zr_add (lo := 6) (hi := 7) (zr_c (lo := 6) (hi := 6) (by decide)) h_x3 (by decide)) (by decide))) (fun v10 h21 => ?_)
    exact (s_X12_rate_140 hσ (zr_andr (lo := 0) (hi := 15) (zr_c (lo := 15) (hi := 15) (by decide)) (by decide)))
  have h22 := zc_nel (1) (32) q16 (zr_andr (lo := 0) (hi := 32) (zr_c (lo := 32) (hi := 32) (by decide)) (by decide)) (zr_c (lo := 0) (hi := 0) (by decide)) (by decide)
  exact (s_X12_rate_140 hσ (zr_w (zr_c (lo := 5) (hi := 5) (by decide)) (by decide)))
theorem s_X12_rate {σ : zSt} (hσ : zPM σ) {x1 : Int32} {x2 : Int32} (h_x2 : zr (0) (8) x2) {x3 : Int32} (h_x3 : zr (0) (1) x3) : zok (fX12_rate σ x1 x2 x3) (zPi σ (fun v : Int32 => zr (0) (51) v)) := by
  unfold fX12_rate
  refine zok_pi (s_X12_patchByte hσ h_x2 (zr_w h_x3 (by decide))) (fun v12 h1 => ?_)
  refine zok_if (fun q2 => ?_) (fun q2 => ?_)
  · have h3 := zc_eql (0) (0) q2 (zr_andr (lo := 0) (hi := 32) (zr_c (lo := 32) (hi := 32) (by decide)) (by decide)) (zr_c (lo := 0) (hi := 0) (by decide)) (by decide)
    exact (s_X12_rate_17 hσ h_x2 h_x3 (zr_w (zr_c (lo := 0) (hi := 0) (by decide)) (by decide)))
  have h4 := zc_nel (1) (32) q2 (zr_andr (lo := 0) (hi := 32) (zr_c (lo := 32) (hi := 32) (by decide)) (by decide)) (zr_c (lo := 0) (hi := 0) (by decide)) (by decide)
  exact (s_X12_rate_17 hσ h_x2 h_x3 (zr_w (zr_c (lo := 1) (hi := 1) (by decide)) (by decide)))
theorem s_X12_block {σ : zSt} (hσ : zPM σ) {x1 : Int32} (h_x1 : zr (0) (8) x1) : zok (fX12_block σ x1) (zPi σ (fun v : Int32 => zr (0) (7) v)) := by
  unfold fX12_block
  refine zok_pi (s_X12_wreg hσ (zr_w (zr_add (lo := 32) (hi := 40) (zr_c (lo := 32) (hi := 32) (by decide)) h_x1 (by decide)) (by decide))) (fun v2 h1 => ?_)
  exact zok_spi (zr_andr (lo := 0) (hi := 7) (zr_c (lo := 7) (hi := 7) (by decide)) (by decide))
theorem s_X12_f {σ : zSt} (hσ : zPM σ) {x1 : Int32} (h_x1 : zr (0) (8) x1) : zok (fX12_f σ x1) (zPi σ (fun v : Int32 => zr (0) (511) v)) := by
  unfold fX12_f
  refine zok_pi (s_X12_wreg hσ (zr_w (zr_add (lo := 16) (hi := 24) (zr_c (lo := 16) (hi := 16) (by decide)) h_x1 (by decide)) (by decide))) (fun v2 h1 => ?_)
  refine zok_pi (s_X12_wreg hσ (zr_w (zr_add (lo := 32) (hi := 40) (zr_c (lo := 32) (hi := 32) (by decide)) h_x1 (by decide)) (by decide))) (fun v4 h2 => ?_)
  exact zok_spi (zr_or (lo := 0) (hi := 511) 9 h1 (zr_shl (lo := 0) (hi := 256) 8 (by decide) (zr_andr (lo := 0) (hi := 1) (zr_c (lo := 1) (hi := 1) (by decide)) (by decide)) (by decide)) (by decide))
theorem s_X12_t_40 {σ : zSt} (hσ : zPM σ) {s0 : Int32} (h_s0 : zr (0) (1) s0) : zok (fX12_t_40 σ s0) (zPi σ (fun v : Int32 => zr (0) (1) v)) := by
  unfold fX12_t_40
  exact zok_spi h_s0
theorem s_X12_t_35 {σ : zSt} (hσ : zPM σ) : zok (fX12_t_35 σ ) (zPi σ (fun v : Int32 => zr (0) (1) v)) := by
  unfold fX12_t_35
  exact (s_X12_t_40 hσ (zr_w (zr_c (lo := 1) (hi := 1) (by decide)) (by decide)))
theorem s_X12_t_39 {σ : zSt} (hσ : zPM σ) : zok (fX12_t_39 σ ) (zPi σ (fun v : Int32 => zr (0) (1) v)) := by
  unfold fX12_t_39
  exact (s_X12_t_40 hσ (zr_w (zr_c (lo := 0) (hi := 0) (by decide)) (by decide)))
theorem s_X12_t_19 {σ : zSt} (hσ : zPM σ) {x0 : Int32} {x1 : Int32} (h_x1 : zr (0) (3) x1) : zok (fX12_t_19 σ x0 x1) (zPi σ (fun v : Int32 => zr (0) (1) v)) := by
  unfold fX12_t_19
  refine zok_if (fun q1 => ?_) (fun q1 => ?_)
  · have h2 := zc_lel (1) q1 h_x1 (zr_c (lo := 1) (hi := 1) (by decide)) (by decide)
    exact (s_X12_t_39 hσ)
  have h3 := zc_ltr (2) (z_nle q1) (zr_c (lo := 1) (hi := 1) (by decide)) h_x1 (by decide)
  refine zok_if (fun q4 => ?_) (fun q4 => ?_)
  · have h5 := zc_eql (2) (2) q4 zr_any (zr_c (lo := 2) (hi := 2) (by decide)) (by decide)
    exact (s_X12_t_35 hσ)
  refine zok_if (fun q6 => ?_) (fun q6 => ?_)
  · have h7 := zc_eql (6) (6) q6 zr_any (zr_c (lo := 6) (hi := 6) (by decide)) (by decide)
    exact (s_X12_t_35 hσ)
  exact (s_X12_t_39 hσ)
theorem s_X12_t {σ : zSt} (hσ : zPM σ) {x0 : Int32} {x1 : Int32} (h_x1 : zr (0) (3) x1) : zok (fX12_t σ x0 x1) (zPi σ (fun v : Int32 => zr (0) (1) v)) := by
  unfold fX12_t
  refine zok_ck (by decide) ?_
  refine zok_if (fun q1 => ?_) (fun q1 => ?_)
  · have h2 := zc_eql (1) (1) q1 zr_any (zr_c (lo := 1) (hi := 1) (by decide)) (by decide)
    exact (s_X12_t_35 hσ)
  refine zok_ck (by decide) ?_
  refine zok_if (fun q4 => ?_) (fun q4 => ?_)
  · have h5 := zc_eql (1) (1) q4 (zr_rem (lo := 0) (hi := 1) 2 (by decide) h_x1 (by decide)) (zr_c (lo := 1) (hi := 1) (by decide)) (by decide)
    have h6 := z_odd64 h_x1 h5 (by decide)
    refine zok_if (fun q7 => ?_) (fun q7 => ?_)
    · have h8 := zc_eql (4) (4) q7 zr_any (zr_c (lo := 4) (hi := 4) (by decide)) (by decide)
      exact (s_X12_t_35 hσ)
    exact (s_X12_t_19 hσ h_x1)
  have h9 := zc_nel (0) (0) q4 (zr_rem (lo := 0) (hi := 1) 2 (by decide) h_x1 (by decide)) (zr_c (lo := 1) (hi := 1) (by decide)) (by decide)
  exact (s_X12_t_19 hσ h_x1)
theorem s_X12_envelope_275 {G : Nat → Int} {σ : zSt} (hσ : zIM G σ) {s0 : Int32} (h_s0 : zr (0) (127) s0) {s1 : Int32} (h_s1 : zr (172) (274) s1) (t_s1 : zat 0 s1) : zok (fX12_envelope_275 σ s0 s1) (zIM G) := by
  unfold fX12_envelope_275
  refine zok_ck (zin_ok h_s1 (by decide)) ?_
  refine zok_bs (hσ.lv t_s1 h_s0 (by decide)) (fun σ1 e2 i1 => ?_)
  exact zok_some i1
theorem s_X12_envelope_259 {G : Nat → Int} {σ : zSt} (hσ : zIM G σ) {x1 : Int32} (h_x1 : zr (172) (274) x1) {x15 : Int32} (h_x15 : zr (-128) (127) x15) (t_x1 : zat 0 x1) : zok (fX12_envelope_259 σ x1 x15) (zIM G) := by
  unfold fX12_envelope_259
  refine zok_if (fun q1 => ?_) (fun q1 => ?_)
  · have h2 := zc_ler (0) q1 (zr_c (lo := 0) (hi := 0) (by decide)) h_x15 (by decide)
    exact (s_X12_envelope_275 hσ h2 h_x1 t_x1)
  have h3 := zc_ltl (-1) (z_nle q1) h_x15 (zr_c (lo := 0) (hi := 0) (by decide)) (by decide)
  exact (s_X12_envelope_275 hσ (zr_w (zr_c (lo := 0) (hi := 0) (by decide)) (by decide)) h_x1 t_x1)
theorem s_X12_envelope_220 {G : Nat → Int} {σ : zSt} (hσ : zIM G σ) {x1 : Int32} (h_x1 : zr (172) (274) x1) {s0 : Int32} (h_s0 : zr (-8) (127) s0) (t_x1 : zat 0 x1) : zok (fX12_envelope_220 σ x1 s0) (zIM G) := by
  unfold fX12_envelope_220
  exact (s_X12_envelope_259 hσ h_x1 (zr_w h_s0 (by decide)) t_x1)
theorem s_X12_envelope_257 {G : Nat → Int} {σ : zSt} (hσ : zIM G σ) {x1 : Int32} (h_x1 : zr (172) (274) x1) {s0 : Int32} (h_s0 : zr (-128) (126) s0) (t_x1 : zat 0 x1) : zok (fX12_envelope_257 σ x1 s0) (zIM G) := by
  unfold fX12_envelope_257
  exact (s_X12_envelope_259 hσ h_x1 (zr_w h_s0 (by decide)) t_x1)
theorem s_X12_envelope_358 {G : Nat → Int} {σ : zSt} (hσ : zIM G σ) {s0 : Int32} (h_s0 : zr (0) (127) s0) {s1 : Int32} (h_s1 : zr (172) (274) s1) (t_s1 : zat 0 s1) : zok (fX12_envelope_358 σ s0 s1) (zIM G) := by
  unfold fX12_envelope_358
  refine zok_ck (zin_ok h_s1 (by decide)) ?_
  refine zok_bs (hσ.lv t_s1 h_s0 (by decide)) (fun σ2 e2 i1 => ?_)
  exact zok_some i1
theorem s_X12_envelope_336 {G : Nat → Int} {σ : zSt} (hσ : zIM G σ) {x1 : Int32} (h_x1 : zr (172) (274) x1) {s0 : Int32} (h_s0 : zr (0) (2) s0) {s1 : Int32} (h_s1 : zr (0) (127) s1) (t_x1 : zat 0 x1) : zok (fX12_envelope_336 σ x1 s0 s1) (zIM G) := by
  unfold fX12_envelope_336
  refine zok_br (zr_add (lo := 0) (hi := 129) h_s1 h_s0 (by decide)) (fun v3 e2 h1 => ?_)
  refine zok_if (fun q3 => ?_) (fun q3 => ?_)
  · have h4 := zc_lel (127) q3 h1 (zr_c (lo := 127) (hi := 127) (by decide)) (by decide)
    exact (s_X12_envelope_358 hσ h4 h_x1 t_x1)
  have h5 := zc_ltr (128) (z_nle q3) (zr_c (lo := 127) (hi := 127) (by decide)) h1 (by decide)
  exact (s_X12_envelope_358 hσ (zr_w (zr_c (lo := 127) (hi := 127) (by decide)) (by decide)) h_x1 t_x1)
theorem s_X12_envelope_159 {G : Nat → Int} {σ : zSt} (hσ : zIM G σ) {x1 : Int32} (h_x1 : zr (172) (274) x1) {x4 : Int32} {x7 : Int32} (h_x7 : zr (1) (15) x7) {x8 : Int32} (h_x8 : zr (0) (3) x8) {x9 : Int64} {s0 : Int32} (h_s0 : zr (0) (1) s0) (t_x1 : zat 0 x1) : zok (fX12_envelope_159 σ x1 x4 x7 x8 x9 s0) (zIM G) := by
  unfold fX12_envelope_159
  refine zok_ck (by decide) ?_
  refine zok_ck (by decide) ?_
  refine zok_bv (fun v4 e2 => ?_)
  refine zok_ck (zin_ok h_x1 (by decide)) ?_
  refine zok_br (rM_lv hσ.Y t_x1) (fun v5 e4 h3 => ?_)
  refine zok_if (fun q5 => ?_) (fun q5 => ?_)
  · have h6 := zc_eql (1) (1) q5 zr_any (zr_c (lo := 1) (hi := 1) (by decide)) (by decide)
    refine zok_if (fun q7 => ?_) (fun q7 => ?_)
    · have h8 := zc_ler (12) q7 (zr_c (lo := 12) (hi := 12) (by decide)) h_x7 (by decide)
      refine zok_if (fun q9 => ?_) (fun q9 => ?_)
      · have h10 := zc_eql (15) (15) q9 h8 (zr_c (lo := 15) (hi := 15) (by decide)) (by decide)
        exact (s_X12_envelope_257 hσ h_x1 (zr_w (zr_c (lo := 0) (hi := 0) (by decide)) (by decide)) t_x1)
      have h11 := zc_nel (12) (14) q9 h8 (zr_c (lo := 15) (hi := 15) (by decide)) (by decide)
      refine zok_pi (s_X12_t hσ.P h_x8) (fun v11 h12 => ?_)
      exact (s_X12_envelope_257 hσ h_x1 (zr_sub (lo := -128) (hi := 126) (zr_sub (lo := -127) (hi := 127) h3 (zr_shra (lo := 0) (hi := 127) h3 (by decide)) (by decide)) (zr_c (lo := 1) (hi := 1) (by decide)) (by decide)) t_x1)
    have h13 := zc_ltl (11) (z_nle q7) h_x7 (zr_c (lo := 12) (hi := 12) (by decide)) (by decide)
    refine zok_if (fun q14 => ?_) (fun q14 => ?_)
    · have h15 := zc_eql (1) (1) q14 h_s0 (zr_c (lo := 1) (hi := 1) (by decide)) (by decide)
      refine zok_ck (by decide) ?_
      exact (s_X12_envelope_220 hσ h_x1 (zr_w (zr_sub (lo := -8) (hi := 126) (zr_sub (lo := -7) (hi := 127) h3 (zr_div (lo := 0) (hi := 7) 16 (by decide) h3 (by decide)) (by decide)) (zr_c (lo := 1) (hi := 1) (by decide)) (by decide)) (by decide)) t_x1)
    have h16 := zc_nel (0) (0) q14 h_s0 (zr_c (lo := 1) (hi := 1) (by decide)) (by decide)
    exact (s_X12_envelope_220 hσ h_x1 (zr_w h3 (by decide)) t_x1)
  refine zok_if (fun q17 => ?_) (fun q17 => ?_)
  · have h18 := zc_ler (13) q17 (zr_c (lo := 13) (hi := 13) (by decide)) h_x7 (by decide)
    refine zok_if (fun q19 => ?_) (fun q19 => ?_)
    · have h20 := zc_eql (13) (13) q19 h18 (zr_c (lo := 13) (hi := 13) (by decide)) (by decide)
      refine zok_ck (by decide) ?_
      refine zok_pi (s_X12_t hσ.P h_x8) (fun v9 h21 => ?_)
      exact (s_X12_envelope_336 hσ h_x1 (zr_w h21 (by decide)) h3 t_x1)
    have h22 := zc_nel (14) (15) q19 h18 (zr_c (lo := 13) (hi := 13) (by decide)) (by decide)
    refine zok_if (fun q23 => ?_) (fun q23 => ?_)
    · have h24 := zc_eql (14) (14) q23 h22 (zr_c (lo := 14) (hi := 14) (by decide)) (by decide)
      refine zok_pi (s_X12_t hσ.P h_x8) (fun v7 h25 => ?_)
      exact (s_X12_envelope_336 hσ h_x1 (zr_w (zr_add (lo := 1) (hi := 2) h25 (zr_c (lo := 1) (hi := 1) (by decide)) (by decide)) (by decide)) h3 t_x1)
    have h26 := zc_nel (15) (15) q23 h22 (zr_c (lo := 14) (hi := 14) (by decide)) (by decide)
    exact (s_X12_envelope_336 hσ h_x1 (zr_w (zr_c (lo := 2) (hi := 2) (by decide)) (by decide)) h3 t_x1)
  have h27 := zc_ltl (12) (z_nle q17) h_x7 (zr_c (lo := 13) (hi := 13) (by decide)) (by decide)
  exact (s_X12_envelope_336 hσ h_x1 (zr_w h_s0 (by decide)) h3 t_x1)
theorem s_X12_envelope_158 {G : Nat → Int} {σ : zSt} (hσ : zIM G σ) {x1 : Int32} (h_x1 : zr (172) (274) x1) {x4 : Int32} {x7 : Int32} (h_x7 : zr (1) (15) x7) {x8 : Int32} (h_x8 : zr (0) (3) x8) {x9 : Int64} (t_x1 : zat 0 x1) : zok (fX12_envelope_158 σ x1 x4 x7 x8 x9) (zIM G) := by
  unfold fX12_envelope_158
  exact (s_X12_envelope_159 hσ h_x1 h_x7 h_x8 (zr_w (zr_c (lo := 0) (hi := 0) (by decide)) (by decide)) t_x1)
theorem s_X12_envelope_121 {G : Nat → Int} {σ : zSt} (hσ : zIM G σ) {x1 : Int32} (h_x1 : zr (172) (274) x1) {x4 : Int32} {x7 : Int32} (h_x7 : zr (1) (15) x7) {x8 : Int32} (h_x8 : zr (0) (3) x8) {x9 : Int64} {s0 : Int64} (h_s0 : zrl (1) (8192) s0) (t_x1 : zat 0 x1) : zok (fX12_envelope_121 σ x1 x4 x7 x8 x9 s0) (zIM G) := by
  unfold fX12_envelope_121
  refine zok_if (fun q1 => ?_) (fun q1 => ?_)
  · have h2 := zc_ler (13) q1 (zr_c (lo := 13) (hi := 13) (by decide)) h_x7 (by decide)
    exact (s_X12_envelope_158 hσ h_x1 (zr_w h2 (by decide)) h_x8 t_x1)
  have h3 := zc_ltl (12) (z_nle q1) h_x7 (zr_c (lo := 13) (hi := 13) (by decide)) (by decide)
  refine zok_ck (zdvl_ok h_s0 (by decide)) ?_
  refine zok_if (fun q4 => ?_) (fun q4 => ?_)
  · refine zok_ck (zdvl_ok h_s0 (by decide)) ?_
    refine zok_ck (by decide) ?_
    refine zok_pi (s_X12_t hσ.P h_x8) (fun v13 h5 => ?_)
    exact (s_X12_envelope_159 hσ h_x1 (zr_w h3 (by decide)) h_x8 h5 t_x1)
  exact (s_X12_envelope_158 hσ h_x1 (zr_w h3 (by decide)) h_x8 t_x1)
theorem s_X12_envelope_87 {G : Nat → Int} {σ : zSt} (hσ : zIM G σ) {x1 : Int32} (h_x1 : zr (172) (274) x1) {x4 : Int32} {x6 : Int32} (h_x6 : zr (0) (15) x6) {s0 : Int32} (h_s0 : zr (1) (15) s0) (t_x1 : zat 0 x1) : zok (fX12_envelope_87 σ x1 x4 x6 s0) (zIM G) := by
  unfold fX12_envelope_87
  refine zok_ck (by decide) ?_
  refine zok_br (zr_rem (lo := 0) (hi := 3) 4 (by decide) h_x6 (by decide)) (fun v14 e2 h1 => ?_)
  refine zok_ck rfl ?_
  refine zok_bv (fun v15 e4 => ?_)
  refine zok_if (fun q5 => ?_) (fun q5 => ?_)
  · have h6 := zc_ler (13) q5 (zr_c (lo := 13) (hi := 13) (by decide)) h_s0 (by decide)
    exact (s_X12_envelope_121 hσ h_x1 (zr_w h6 (by decide)) h1 (zrl_w (zrl_c (lo := 1) (hi := 1) (by decide)) (by decide)) t_x1)
  have h7 := zc_ltl (12) (z_nle q5) h_s0 (zr_c (lo := 13) (hi := 13) (by decide)) (by decide)
  exact (s_X12_envelope_121 hσ h_x1 (zr_w h7 (by decide)) h1 (zrl_shl (lo := 1) (hi := 8192) (zr_sub (lo := 1) (hi := 12) (zr_c (lo := 13) (hi := 13) (by decide)) h7 (by decide)) (by decide)) t_x1)
theorem s_X12_envelope_63 {G : Nat → Int} {σ : zSt} (hσ : zIM G σ) {x1 : Int32} (h_x1 : zr (172) (274) x1) {x4 : Int32} {x5 : Int32} (h_x5 : zr (1) (51) x5) {x6 : Int32} (h_x6 : zr (0) (15) x6) (t_x1 : zat 0 x1) : zok (fX12_envelope_63 σ x1 x4 x5 x6) (zIM G) := by
  unfold fX12_envelope_63
  refine zok_ck (by decide) ?_
  refine zok_if (fun q1 => ?_) (fun q1 => ?_)
  · have h2 := zc_lel (15) q1 (zr_add (lo := 1) (hi := 54) h_x5 (zr_div (lo := 0) (hi := 3) 4 (by decide) h_x6 (by decide)) (by decide)) (zr_c (lo := 15) (hi := 15) (by decide)) (by decide)
    refine zok_ck (by decide) ?_
    exact (s_X12_envelope_87 hσ h_x1 h_x6 h2 t_x1)
  have h3 := zc_ltr (16) (z_nle q1) (zr_c (lo := 15) (hi := 15) (by decide)) (zr_add (lo := 1) (hi := 54) h_x5 (zr_div (lo := 0) (hi := 3) 4 (by decide) h_x6 (by decide)) (by decide)) (by decide)
  exact (s_X12_envelope_87 hσ h_x1 h_x6 (zr_w (zr_c (lo := 15) (hi := 15) (by decide)) (by decide)) t_x1)
theorem s_X12_envelope {G : Nat → Int} {σ : zSt} (hσ : zIM G σ) {x1 : Int32} (h_x1 : zr (172) (274) x1) {x2 : Int32} (h_x2 : zr (0) (8) x2) {x3 : Int32} (h_x3 : zr (0) (1) x3) (t_x1 : zat 0 x1) : zok (fX12_envelope σ x1 x2 x3) (zIM G) := by
  unfold fX12_envelope
  refine zok_ck (zin_ok (zr_add (lo := 173) (hi := 275) h_x1 (zr_c (lo := 1) (hi := 1) (by decide)) (by decide)) (by decide)) ?_
  refine zok_bv (fun v16 e2 => ?_)
  refine zok_pi (s_X12_rate hσ.P h_x2 h_x3) (fun v18 h3 => ?_)
  refine zok_if (fun q4 => ?_) (fun q4 => ?_)
  · have h5 := zc_eql (0) (0) q4 h3 (zr_c (lo := 0) (hi := 0) (by decide)) (by decide)
    exact zok_some hσ
  have h6 := zc_nel (1) (51) q4 h3 (zr_c (lo := 0) (hi := 0) (by decide)) (by decide)
  refine zok_pi (s_X12_block hσ.P h_x2) (fun v20 h7 => ?_)
  refine zok_pi (s_X12_f hσ.P h_x2) (fun v22 h8 => ?_)
  refine zok_ck (by decide) ?_
  refine zok_br (zr_add (lo := 0) (hi := 15) (zr_mul (lo := 0) (hi := 14) (zr_c (lo := 2) (hi := 2) (by decide)) h7 (by decide)) (zr_div (lo := 0) (hi := 1) 256 (by decide) h8 (by decide)) (by decide)) (fun v23 e10 h9 => ?_)
  refine zok_pi (s_X12_patchByte hσ.P h_x2 (zr_w h_x3 (by decide))) (fun v25 h11 => ?_)
  refine zok_if (fun q12 => ?_) (fun q12 => ?_)
  · have h13 := zc_eql (0) (0) q12 (zr_andr (lo := 0) (hi := 16) (zr_c (lo := 16) (hi := 16) (by decide)) (by decide)) (zr_c (lo := 0) (hi := 0) (by decide)) (by decide)
    refine zok_ck (by decide) ?_
    refine zok_br (zr_div (lo := 0) (hi := 3) 4 (by decide) h9 (by decide)) (fun v26 e15 h14 => ?_)
    exact (s_X12_envelope_63 hσ h_x1 h6 (zr_w h14 (by decide)) t_x1)
  have h16 := zc_nel (1) (16) q12 (zr_andr (lo := 0) (hi := 16) (zr_c (lo := 16) (hi := 16) (by decide)) (by decide)) (zr_c (lo := 0) (hi := 0) (by decide)) (by decide)
  exact (s_X12_envelope_63 hσ h_x1 h6 h9 t_x1)
theorem s_X12_phase_150 {G : Nat → Int} {σ : zSt} (hσ : zIM G σ) {x1 : Int32} (h_x1 : zr (172) (274) x1) {x2 : Int32} (h_x2 : zr (0) (8) x2) {x5 : Int32} (h_x5 : zr (1) (30) x5) {x6 : Int32} (h_x6 : zr (-7) (7) x6) (t_x1 : zat 0 x1) : zok (fX12_phase_150 σ x1 x2 x5 x6) (zIM G) := by
  unfold fX12_phase_150
  refine zok_ck (zin_ok (zr_add (lo := 174) (hi := 276) h_x1 (zr_c (lo := 2) (hi := 2) (by decide)) (by decide)) (by decide)) ?_
  refine zok_pi (s_X12_f hσ.P h_x2) (fun v2 h1 => ?_)
  refine zok_pi (s_X12_block hσ.P h_x2) (fun v4 h2 => ?_)
  refine zok_ck (by decide) ?_
  refine zok_ck (zin_ok (zr_add (lo := 174) (hi := 276) h_x1 (zr_c (lo := 2) (hi := 2) (by decide)) (by decide)) (by decide)) ?_
  refine zok_bs (hσ.op (zat_add t_x1 (c1 := 2) 2 (by decide) (by decide)) (by decide)) (fun σ5 e4 i3 => ?_)
  exact zok_some i3
theorem s_X12_phase_148 {G : Nat → Int} {σ : zSt} (hσ : zIM G σ) {x1 : Int32} (h_x1 : zr (172) (274) x1) {x2 : Int32} (h_x2 : zr (0) (8) x2) {x5 : Int32} (h_x5 : zr (1) (30) x5) {s0 : Int32} (h_s0 : zr (-7) (7) s0) (t_x1 : zat 0 x1) : zok (fX12_phase_148 σ x1 x2 x5 s0) (zIM G) := by
  unfold fX12_phase_148
  exact (s_X12_phase_150 hσ h_x1 h_x2 h_x5 h_s0 t_x1)
theorem s_X12_phase_132 {G : Nat → Int} {σ : zSt} (hσ : zIM G σ) {x1 : Int32} (h_x1 : zr (172) (274) x1) {x2 : Int32} (h_x2 : zr (0) (8) x2) {x5 : Int32} (h_x5 : zr (1) (30) x5) {x7 : Int32} {s0 : Int32} (h_s0 : zr (0) (7) s0) (t_x1 : zat 0 x1) : zok (fX12_phase_132 σ x1 x2 x5 x7 s0) (zIM G) := by
  unfold fX12_phase_132
  refine zok_if (fun q1 => ?_) (fun q1 => ?_)
  · have h2 := zc_ler (4) q1 (zr_c (lo := 4) (hi := 4) (by decide)) zr_any (by decide)
    exact (s_X12_phase_148 hσ h_x1 h_x2 h_x5 (zr_w (zr_neg (lo := -7) (hi := 0) h_s0 (by decide)) (by decide)) t_x1)
  have h3 := zc_ltl (3) (z_nle q1) zr_any (zr_c (lo := 4) (hi := 4) (by decide)) (by decide)
  exact (s_X12_phase_148 hσ h_x1 h_x2 h_x5 (zr_w h_s0 (by decide)) t_x1)
theorem s_X12_phase_60 {G : Nat → Int} {σ : zSt} (hσ : zIM G σ) {x1 : Int32} (h_x1 : zr (172) (274) x1) {x2 : Int32} (h_x2 : zr (0) (8) x2) {x3 : Int32} (h_x3 : zr (0) (1) x3) {s0 : Int32} (h_s0 : zr (1) (30) s0) (t_x1 : zat 0 x1) : zok (fX12_phase_60 σ x1 x2 x3 s0) (zIM G) := by
  unfold fX12_phase_60
  refine zok_pi (s_X12_patchByte hσ.P h_x2 (zr_w h_x3 (by decide))) (fun v7 h1 => ?_)
  refine zok_if (fun q2 => ?_) (fun q2 => ?_)
  · have h3 := zc_eql (0) (0) q2 (zr_andr (lo := 0) (hi := 64) (zr_c (lo := 64) (hi := 64) (by decide)) (by decide)) (zr_c (lo := 0) (hi := 0) (by decide)) (by decide)
    exact (s_X12_phase_150 hσ h_x1 h_x2 h_s0 (zr_w (zr_c (lo := 0) (hi := 0) (by decide)) (by decide)) t_x1)
  have h4 := zc_nel (1) (64) q2 (zr_andr (lo := 0) (hi := 64) (zr_c (lo := 64) (hi := 64) (by decide)) (by decide)) (zr_c (lo := 0) (hi := 0) (by decide)) (by decide)
  refine zok_ck rfl ?_
  refine zok_ck (by decide) ?_
  refine zok_ck (by decide) ?_
  refine zok_bv (fun v8 e6 => ?_)
  refine zok_pi (s_X12_f hσ.P h_x2) (fun v10 h7 => ?_)
  refine zok_ck (by decide) ?_
  refine zok_br (zr_div (lo := 0) (hi := 7) 64 (by decide) h7 (by decide)) (fun v11 e9 h8 => ?_)
  refine zok_ck (by decide) ?_
  refine zok_if (fun q10 => ?_) (fun q10 => ?_)
  · have h11 := zc_eql (0) (0) q10 zr_any (zr_c (lo := 0) (hi := 0) (by decide)) (by decide)
    exact (s_X12_phase_132 hσ h_x1 h_x2 h_s0 (zr_w (zr_c (lo := 0) (hi := 0) (by decide)) (by decide)) t_x1)
  refine zok_ck (by decide) ?_
  refine zok_if (fun q12 => ?_) (fun q12 => ?_)
  · have h13 := zc_eql (2) (2) q12 zr_any (zr_c (lo := 2) (hi := 2) (by decide)) (by decide)
    exact (s_X12_phase_132 hσ h_x1 h_x2 h_s0 h8 t_x1)
  refine zok_ck (by decide) ?_
  exact (s_X12_phase_132 hσ h_x1 h_x2 h_s0 (zr_w (zr_div (lo := 0) (hi := 3) 2 (by decide) h8 (by decide)) (by decide)) t_x1)
theorem s_X12_phase {G : Nat → Int} {σ : zSt} (hσ : zIM G σ) {x1 : Int32} (h_x1 : zr (172) (274) x1) {x2 : Int32} (h_x2 : zr (0) (8) x2) {x3 : Int32} (h_x3 : zr (0) (1) x3) (t_x1 : zat 0 x1) : zok (fX12_phase σ x1 x2 x3) (zIM G) := by
  unfold fX12_phase
  refine zok_pi (s_X12_patchByte hσ.P h_x2 (zr_w h_x3 (by decide))) (fun v13 h1 => ?_)
  refine zok_br (zr_andr (lo := 0) (hi := 15) (zr_c (lo := 15) (hi := 15) (by decide)) (by decide)) (fun v14 e3 h2 => ?_)
  refine zok_if (fun q4 => ?_) (fun q4 => ?_)
  · have h5 := zc_eql (0) (0) q4 h2 (zr_c (lo := 0) (hi := 0) (by decide)) (by decide)
    exact (s_X12_phase_60 hσ h_x1 h_x2 h_x3 (zr_w (zr_c (lo := 1) (hi := 1) (by decide)) (by decide)) t_x1)
  have h6 := zc_nel (1) (15) q4 h2 (zr_c (lo := 0) (hi := 0) (by decide)) (by decide)
  refine zok_if (fun q7 => ?_) (fun q7 => ?_)
  · have h8 := zc_ler (11) q7 (zr_c (lo := 11) (hi := 11) (by decide)) h6 (by decide)
    refine zok_if (fun q9 => ?_) (fun q9 => ?_)
    · have h10 := zc_eql (11) (11) q9 h8 (zr_c (lo := 11) (hi := 11) (by decide)) (by decide)
      exact (s_X12_phase_60 hσ h_x1 h_x2 h_x3 (zr_w (zr_c (lo := 20) (hi := 20) (by decide)) (by decide)) t_x1)
    have h11 := zc_nel (12) (15) q9 h8 (zr_c (lo := 11) (hi := 11) (by decide)) (by decide)
    refine zok_if (fun q12 => ?_) (fun q12 => ?_)
    · have h13 := zc_ler (14) q12 (zr_c (lo := 14) (hi := 14) (by decide)) h11 (by decide)
      exact (s_X12_phase_60 hσ h_x1 h_x2 h_x3 (zr_w (zr_c (lo := 30) (hi := 30) (by decide)) (by decide)) t_x1)
    have h14 := zc_ltl (13) (z_nle q12) h11 (zr_c (lo := 14) (hi := 14) (by decide)) (by decide)
    exact (s_X12_phase_60 hσ h_x1 h_x2 h_x3 (zr_w (zr_c (lo := 24) (hi := 24) (by decide)) (by decide)) t_x1)
  have h15 := zc_ltl (10) (z_nle q7) h6 (zr_c (lo := 11) (hi := 11) (by decide)) (by decide)
  exact (s_X12_phase_60 hσ h_x1 h_x2 h_x3 (zr_w (zr_mul (lo := 2) (hi := 20) (zr_c (lo := 2) (hi := 2) (by decide)) h15 (by decide)) (by decide)) t_x1)
theorem s_X12_drum_191 {σ : zSt} (hσ : zPM σ) {s0 : Int32} (h_s0 : zr (0) (768) s0) : zok (fX12_drum_191 σ s0) (zPi σ (fun v : Int32 => True)) := by
  unfold fX12_drum_191
  exact zok_spi trivial
theorem s_X12_drum_214 {σ : zSt} (hσ : zPM σ) {s0 : Int32} : zok (fX12_drum_214 σ s0) (zPi σ (fun v : Int32 => True)) := by
  unfold fX12_drum_214
  exact zok_spi trivial
theorem s_X12_drum_148 {σ : zSt} (hσ : zPM σ) {x1 : Int32} (h_x1 : zr (7) (8) x1) {x2 : Int32} (h_x2 : zr (0) (1) x2) {x3 : Int32} {x6 : Int32} (h_x6 : zr (0) (1) x6) {x7 : Int32} (h_x7 : zr (0) (1) x7) : zok (fX12_drum_148 σ x1 x2 x3 x6 x7) (zPi σ (fun v : Int32 => True)) := by
  unfold fX12_drum_148
  refine zok_if (fun q1 => ?_) (fun q1 => ?_)
  · have h2 := zc_eql (7) (7) q1 h_x1 (zr_c (lo := 7) (hi := 7) (by decide)) (by decide)
    refine zok_if (fun q3 => ?_) (fun q3 => ?_)
    · have h4 := zc_eql (0) (0) q3 (zr_andr (lo := 0) (hi := 512) (zr_c (lo := 512) (hi := 512) (by decide)) (by decide)) (zr_c (lo := 0) (hi := 0) (by decide)) (by decide)
      refine zok_if (fun q5 => ?_) (fun q5 => ?_)
      · have h6 := zc_eql (0) (0) q5 h_x7 (zr_c (lo := 0) (hi := 0) (by decide)) (by decide)
        exact (s_X12_drum_191 hσ (zr_w (zr_c (lo := 256) (hi := 256) (by decide)) (by decide)))
      have h7 := zc_nel (1) (1) q5 h_x7 (zr_c (lo := 0) (hi := 0) (by decide)) (by decide)
      exact (s_X12_drum_191 hσ (zr_w (zr_c (lo := 0) (hi := 0) (by decide)) (by decide)))
    have h8 := zc_nel (1) (512) q3 (zr_andr (lo := 0) (hi := 512) (zr_c (lo := 512) (hi := 512) (by decide)) (by decide)) (zr_c (lo := 0) (hi := 0) (by decide)) (by decide)
    refine zok_if (fun q9 => ?_) (fun q9 => ?_)
    · have h10 := zc_eql (0) (0) q9 h_x7 (zr_c (lo := 0) (hi := 0) (by decide)) (by decide)
      exact (s_X12_drum_191 hσ (zr_w (zr_c (lo := 512) (hi := 512) (by decide)) (by decide)))
    have h11 := zc_nel (1) (1) q9 h_x7 (zr_c (lo := 0) (hi := 0) (by decide)) (by decide)
    exact (s_X12_drum_191 hσ (zr_w (zr_c (lo := 768) (hi := 768) (by decide)) (by decide)))
  have h12 := zc_nel (8) (8) q1 h_x1 (zr_c (lo := 7) (hi := 7) (by decide)) (by decide)
  refine zok_if (fun q13 => ?_) (fun q13 => ?_)
  · have h14 := zc_eql (0) (0) q13 h_x2 (zr_c (lo := 0) (hi := 0) (by decide)) (by decide)
    exact (s_X12_drum_214 hσ)
  have h15 := zc_nel (1) (1) q13 h_x2 (zr_c (lo := 0) (hi := 0) (by decide)) (by decide)
  refine zok_if (fun q16 => ?_) (fun q16 => ?_)
  · have h17 := zc_eql (0) (0) q16 h_x6 (zr_c (lo := 0) (hi := 0) (by decide)) (by decide)
    exact (s_X12_drum_214 hσ)
  have h18 := zc_nel (1) (1) q16 h_x6 (zr_c (lo := 0) (hi := 0) (by decide)) (by decide)
  exact (s_X12_drum_214 hσ)
theorem s_X12_drum_147 {σ : zSt} (hσ : zPM σ) {s0 : Int32} (h_s0 : zr (52) (720) s0) : zok (fX12_drum_147 σ s0) (zPi σ (fun v : Int32 => True)) := by
  unfold fX12_drum_147
  exact zok_spi trivial
theorem s_X12_drum_100 {σ : zSt} (hσ : zPM σ) {x1 : Int32} (h_x1 : zr (7) (8) x1) {x2 : Int32} (h_x2 : zr (0) (1) x2) {x3 : Int32} {x6 : Int32} (h_x6 : zr (0) (1) x6) {s0 : Int32} (h_s0 : zr (0) (1) s0) : zok (fX12_drum_100 σ x1 x2 x3 x6 s0) (zPi σ (fun v : Int32 => True)) := by
  unfold fX12_drum_100
  refine zok_if (fun q1 => ?_) (fun q1 => ?_)
  · have h2 := zc_eql (7) (7) q1 h_x1 (zr_c (lo := 7) (hi := 7) (by decide)) (by decide)
    refine zok_if (fun q3 => ?_) (fun q3 => ?_)
    · have h4 := zc_eql (0) (0) q3 h_x2 (zr_c (lo := 0) (hi := 0) (by decide)) (by decide)
      refine zok_if (fun q5 => ?_) (fun q5 => ?_)
      · have h6 := zc_eql (0) (0) q5 h_x6 (zr_c (lo := 0) (hi := 0) (by decide)) (by decide)
        refine zok_if (fun q7 => ?_) (fun q7 => ?_)
        · have h8 := zc_eql (0) (0) q7 h_s0 (zr_c (lo := 0) (hi := 0) (by decide)) (by decide)
          exact (s_X12_drum_147 hσ (zr_w (zr_c (lo := 208) (hi := 208) (by decide)) (by decide)))
        have h9 := zc_nel (1) (1) q7 h_s0 (zr_c (lo := 0) (hi := 0) (by decide)) (by decide)
        exact (s_X12_drum_147 hσ (zr_w (zr_c (lo := 52) (hi := 52) (by decide)) (by decide)))
      have h10 := zc_nel (1) (1) q5 h_x6 (zr_c (lo := 0) (hi := 0) (by decide)) (by decide)
      refine zok_if (fun q11 => ?_) (fun q11 => ?_)
      · have h12 := zc_eql (0) (0) q11 h_s0 (zr_c (lo := 0) (hi := 0) (by decide)) (by decide)
        exact (s_X12_drum_147 hσ (zr_w (zr_c (lo := 564) (hi := 564) (by decide)) (by decide)))
      have h13 := zc_nel (1) (1) q11 h_s0 (zr_c (lo := 0) (hi := 0) (by decide)) (by decide)
      exact (s_X12_drum_147 hσ (zr_w (zr_c (lo := 720) (hi := 720) (by decide)) (by decide)))
    have h14 := zc_nel (1) (1) q3 h_x2 (zr_c (lo := 0) (hi := 0) (by decide)) (by decide)
    exact (s_X12_drum_148 hσ (zr_w h2 (by decide)) (zr_w h14 (by decide)) h_x6 h_s0)
  have h15 := zc_nel (8) (8) q1 h_x1 (zr_c (lo := 7) (hi := 7) (by decide)) (by decide)
  exact (s_X12_drum_148 hσ (zr_w h15 (by decide)) h_x2 h_x6 h_s0)
theorem s_X12_drum_79 {σ : zSt} (hσ : zPM σ) {x1 : Int32} (h_x1 : zr (7) (8) x1) {x2 : Int32} (h_x2 : zr (0) (1) x2) {x3 : Int32} {s0 : Int32} (h_s0 : zr (0) (1) s0) : zok (fX12_drum_79 σ x1 x2 x3 s0) (zPi σ (fun v : Int32 => True)) := by
  unfold fX12_drum_79
  refine zok_ck rfl ?_
  refine zok_if (fun q1 => ?_) (fun q1 => ?_)
  · have h2 := zc_eql (1) (1) q1 (zr_andr (lo := 0) (hi := 1) (zr_c (lo := 1) (hi := 1) (by decide)) (by decide)) (zr_c (lo := 1) (hi := 1) (by decide)) (by decide)
    exact (s_X12_drum_100 hσ h_x1 h_x2 h_s0 (zr_w (zr_c (lo := 1) (hi := 1) (by decide)) (by decide)))
  have h3 := zc_nel (0) (0) q1 (zr_andr (lo := 0) (hi := 1) (zr_c (lo := 1) (hi := 1) (by decide)) (by decide)) (zr_c (lo := 1) (hi := 1) (by decide)) (by decide)
  exact (s_X12_drum_100 hσ h_x1 h_x2 h_s0 (zr_w (zr_c (lo := 0) (hi := 0) (by decide)) (by decide)))
theorem s_X12_drum_74 {σ : zSt} (hσ : zPM σ) {x1 : Int32} (h_x1 : zr (7) (8) x1) {x2 : Int32} (h_x2 : zr (0) (1) x2) {x3 : Int32} : zok (fX12_drum_74 σ x1 x2 x3) (zPi σ (fun v : Int32 => True)) := by
  unfold fX12_drum_74
  exact (s_X12_drum_79 hσ h_x1 h_x2 (zr_w (zr_c (lo := 1) (hi := 1) (by decide)) (by decide)))
theorem s_X12_drum {σ : zSt} (hσ : zPM σ) {x1 : Int32} (h_x1 : zr (7) (8) x1) {x2 : Int32} (h_x2 : zr (0) (1) x2) {x3 : Int32} : zok (fX12_drum σ x1 x2 x3) (zPi σ (fun v : Int32 => True)) := by
  unfold fX12_drum
  refine zok_ck rfl ?_
  refine zok_ck (by decide) ?_
  refine zok_bv (fun v1 e2 => ?_)
  refine zok_ck rfl ?_
  refine zok_ck (by decide) ?_
  refine zok_bv (fun v2 e4 => ?_)
  refine zok_if (fun q5 => ?_) (fun q5 => ?_)
  · refine zok_if (fun q6 => ?_) (fun q6 => ?_)
    · refine zok_if (fun q7 => ?_) (fun q7 => ?_)
      · exact (s_X12_drum_79 hσ h_x1 h_x2 (zr_w (zr_c (lo := 0) (hi := 0) (by decide)) (by decide)))
      exact (s_X12_drum_74 hσ h_x1 h_x2)
    exact (s_X12_drum_74 hσ h_x1 h_x2)
  exact (s_X12_drum_74 hσ h_x1 h_x2)
theorem s_X12_kept_97 {σ : zSt} (hσ : zPM σ) {s0 : Int32} (h_s0 : zr (0) (112) s0) : zok (fX12_kept_97 σ s0) (zPi σ (fun v : Int32 => zr (0) (112) v)) := by
  unfold fX12_kept_97
  exact zok_spi h_s0
theorem s_X12_kept {σ : zSt} (hσ : zPM σ) {x0 : Int32} (h_x0 : zr (0) (15) x0) : zok (fX12_kept σ x0) (zPi σ (fun v : Int32 => zr (0) (112) v)) := by
  unfold fX12_kept
  refine zok_if (fun q1 => ?_) (fun q1 => ?_)
  · have h2 := zc_eql (0) (0) q1 h_x0 (zr_c (lo := 0) (hi := 0) (by decide)) (by decide)
    exact (s_X12_kept_97 hσ (zr_w (zr_c (lo := 0) (hi := 0) (by decide)) (by decide)))
  have h3 := zc_nel (1) (15) q1 h_x0 (zr_c (lo := 0) (hi := 0) (by decide)) (by decide)
  refine zok_if (fun q4 => ?_) (fun q4 => ?_)
  · have h5 := zc_eql (1) (1) q4 h3 (zr_c (lo := 1) (hi := 1) (by decide)) (by decide)
    exact (s_X12_kept_97 hσ (zr_w (zr_c (lo := 48) (hi := 48) (by decide)) (by decide)))
  have h6 := zc_nel (2) (15) q4 h3 (zr_c (lo := 1) (hi := 1) (by decide)) (by decide)
  refine zok_if (fun q7 => ?_) (fun q7 => ?_)
  · have h8 := zc_eql (2) (2) q7 h6 (zr_c (lo := 2) (hi := 2) (by decide)) (by decide)
    exact (s_X12_kept_97 hσ (zr_w (zr_c (lo := 64) (hi := 64) (by decide)) (by decide)))
  have h9 := zc_nel (3) (15) q7 h6 (zr_c (lo := 2) (hi := 2) (by decide)) (by decide)
  refine zok_if (fun q10 => ?_) (fun q10 => ?_)
  · have h11 := zc_eql (3) (3) q10 h9 (zr_c (lo := 3) (hi := 3) (by decide)) (by decide)
    exact (s_X12_kept_97 hσ (zr_w (zr_c (lo := 74) (hi := 74) (by decide)) (by decide)))
  have h12 := zc_nel (4) (15) q10 h9 (zr_c (lo := 3) (hi := 3) (by decide)) (by decide)
  refine zok_if (fun q13 => ?_) (fun q13 => ?_)
  · have h14 := zc_eql (4) (4) q13 h12 (zr_c (lo := 4) (hi := 4) (by decide)) (by decide)
    exact (s_X12_kept_97 hσ (zr_w (zr_c (lo := 80) (hi := 80) (by decide)) (by decide)))
  have h15 := zc_nel (5) (15) q13 h12 (zr_c (lo := 4) (hi := 4) (by decide)) (by decide)
  refine zok_if (fun q16 => ?_) (fun q16 => ?_)
  · have h17 := zc_eql (5) (5) q16 h15 (zr_c (lo := 5) (hi := 5) (by decide)) (by decide)
    exact (s_X12_kept_97 hσ (zr_w (zr_c (lo := 86) (hi := 86) (by decide)) (by decide)))
  have h18 := zc_nel (6) (15) q16 h15 (zr_c (lo := 5) (hi := 5) (by decide)) (by decide)
  refine zok_if (fun q19 => ?_) (fun q19 => ?_)
  · have h20 := zc_eql (6) (6) q19 h18 (zr_c (lo := 6) (hi := 6) (by decide)) (by decide)
    exact (s_X12_kept_97 hσ (zr_w (zr_c (lo := 90) (hi := 90) (by decide)) (by decide)))
  have h21 := zc_nel (7) (15) q19 h18 (zr_c (lo := 6) (hi := 6) (by decide)) (by decide)
  refine zok_if (fun q22 => ?_) (fun q22 => ?_)
  · have h23 := zc_eql (7) (7) q22 h21 (zr_c (lo := 7) (hi := 7) (by decide)) (by decide)
    exact (s_X12_kept_97 hσ (zr_w (zr_c (lo := 94) (hi := 94) (by decide)) (by decide)))
  have h24 := zc_nel (8) (15) q22 h21 (zr_c (lo := 7) (hi := 7) (by decide)) (by decide)
  refine zok_if (fun q25 => ?_) (fun q25 => ?_)
  · have h26 := zc_eql (8) (8) q25 h24 (zr_c (lo := 8) (hi := 8) (by decide)) (by decide)
    exact (s_X12_kept_97 hσ (zr_w (zr_c (lo := 96) (hi := 96) (by decide)) (by decide)))
  have h27 := zc_nel (9) (15) q25 h24 (zr_c (lo := 8) (hi := 8) (by decide)) (by decide)
  exact (s_X12_kept_97 hσ (zr_w (zr_add (lo := 100) (hi := 112) (zr_c (lo := 82) (hi := 82) (by decide)) (zr_mul (lo := 18) (hi := 30) (zr_c (lo := 2) (hi := 2) (by decide)) h27 (by decide)) (by decide)) (by decide)))
theorem s_X12_waveAt_376 {σ : zSt} (hσ : zPM σ) {s0 : Int32} : zok (fX12_waveAt_376 σ s0) (zPi σ (fun v : Int32 => True)) := by
  unfold fX12_waveAt_376
  exact zok_spi trivial
theorem s_X12_waveAt_296 {σ : zSt} (hσ : zPM σ) {x2 : Int32} (h_x2 : zr (0) (8) x2) {x3 : Int32} (h_x3 : zr (0) (1) x3) {x4 : Int32} (h_x4 : zr (0) (1023) x4) {x5 : Int32} (h_x5 : zr (0) (255) x5) {s0 : Int32} (h_s0 : zr (0) (127) s0) : zok (fX12_waveAt_296 σ x2 x3 x4 x5 s0) (zPi σ (fun v : Int32 => True)) := by
  unfold fX12_waveAt_296
  refine zok_ck (zin_ok h_x5 (by decide)) ?_
  refine zok_br (zr_add (lo := 0) (hi := 4169) (zt11_r _) (zr_mul (lo := 0) (hi := 2032) (zr_c (lo := 16) (hi := 16) (by decide)) h_s0 (by decide)) (by decide)) (fun v1 e2 h1 => ?_)
  refine zok_ck (by decide) ?_
  refine zok_ck (zin_ok (zr_sub (lo := 0) (hi := 255) (zr_c (lo := 255) (hi := 255) (by decide)) (zr_rem (lo := 0) (hi := 255) 256 (by decide) h1 (by decide)) (by decide)) (by decide)) ?_
  refine zok_ck (by decide) ?_
  refine zok_bv (fun v2 e4 => ?_)
  refine zok_if (fun q5 => ?_) (fun q5 => ?_)
  · have h6 := zc_eql (0) (0) q5 (zr_andr (lo := 0) (hi := 512) (zr_c (lo := 512) (hi := 512) (by decide)) (by decide)) (zr_c (lo := 0) (hi := 0) (by decide)) (by decide)
    exact zok_spi trivial
  have h7 := zc_nel (1) (512) q5 (zr_andr (lo := 0) (hi := 512) (zr_c (lo := 512) (hi := 512) (by decide)) (by decide)) (zr_c (lo := 0) (hi := 0) (by decide)) (by decide)
  refine zok_pi (s_X12_patchByte hσ h_x2 (zr_w (zr_c (lo := 3) (hi := 3) (by decide)) (by decide))) (fun v4 h8 => ?_)
  refine zok_if (fun q9 => ?_) (fun q9 => ?_)
  · have h10 := zc_eql (1) (1) q9 (zr_andr (lo := 0) (hi := 1) (zr_c (lo := 1) (hi := 1) (by decide)) (by decide)) (zr_c (lo := 1) (hi := 1) (by decide)) (by decide)
    exact (s_X12_waveAt_376 hσ)
  have h11 := zc_nel (0) (0) q9 (zr_andr (lo := 0) (hi := 1) (zr_c (lo := 1) (hi := 1) (by decide)) (by decide)) (zr_c (lo := 1) (hi := 1) (by decide)) (by decide)
  exact (s_X12_waveAt_376 hσ)
theorem s_X12_waveAt_263 {σ : zSt} (hσ : zPM σ) {x1 : Int32} (h_x1 : zr (172) (274) x1) {x2 : Int32} (h_x2 : zr (0) (8) x2) {x3 : Int32} (h_x3 : zr (0) (1) x3) {x4 : Int32} (h_x4 : zr (0) (1023) x4) {x5 : Int32} (h_x5 : zr (0) (255) x5) {x8 : Int32} (h_x8 : zr (0) (112) x8) {x11 : Int32} (h_x11 : zr (0) (126) x11) {s0 : Int32} (h_s0 : zr (0) (13) s0) (t_x1 : zat 0 x1) (c_4_4 : zrl (0) (1152921504606846976) (zgl σ 4 4)) : zok (fX12_waveAt_263 σ x1 x2 x3 x4 x5 x8 x11 s0) (zPi σ (fun v : Int32 => True)) := by
  unfold fX12_waveAt_263
  refine zok_ck (zin_ok h_x1 (by decide)) ?_
  refine zok_br (zr_add (lo := 0) (hi := 378) (zr_add (lo := 0) (hi := 365) (zr_add (lo := 0) (hi := 239) (rM_lv hσ.Y t_x1) h_x8 (by decide)) h_x11 (by decide)) h_s0 (by decide)) (fun v5 e2 h1 => ?_)
  refine zok_if (fun q3 => ?_) (fun q3 => ?_)
  · have h4 := zc_lel (127) q3 h1 (zr_c (lo := 127) (hi := 127) (by decide)) (by decide)
    exact (s_X12_waveAt_296 hσ h_x2 h_x3 h_x4 h_x5 h4)
  have h5 := zc_ltr (128) (z_nle q3) (zr_c (lo := 127) (hi := 127) (by decide)) h1 (by decide)
  exact (s_X12_waveAt_296 hσ h_x2 h_x3 h_x4 h_x5 (zr_w (zr_c (lo := 127) (hi := 127) (by decide)) (by decide)))
theorem s_X12_waveAt_260 {σ : zSt} (hσ : zPM σ) {x1 : Int32} (h_x1 : zr (172) (274) x1) {x2 : Int32} (h_x2 : zr (0) (8) x2) {x3 : Int32} (h_x3 : zr (0) (1) x3) {x4 : Int32} (h_x4 : zr (0) (1023) x4) {x5 : Int32} (h_x5 : zr (0) (255) x5) {x8 : Int32} (h_x8 : zr (0) (112) x8) {x11 : Int32} (h_x11 : zr (0) (126) x11) {s0 : Int32} (h_s0 : zr (0) (105) s0) (t_x1 : zat 0 x1) (c_4_4 : zrl (0) (1152921504606846976) (zgl σ 4 4)) : zok (fX12_waveAt_260 σ x1 x2 x3 x4 x5 x8 x11 s0) (zPi σ (fun v : Int32 => True)) := by
  unfold fX12_waveAt_260
  refine zok_ck (by decide) ?_
  exact (s_X12_waveAt_263 hσ h_x1 h_x2 h_x3 h_x4 h_x5 h_x8 h_x11 (zr_div (lo := 0) (hi := 13) 8 (by decide) h_s0 (by decide)) t_x1 c_4_4)
theorem s_X12_waveAt_206 {σ : zSt} (hσ : zPM σ) {x1 : Int32} (h_x1 : zr (172) (274) x1) {x2 : Int32} (h_x2 : zr (0) (8) x2) {x3 : Int32} (h_x3 : zr (0) (1) x3) {x4 : Int32} (h_x4 : zr (0) (1023) x4) {x5 : Int32} (h_x5 : zr (0) (255) x5) {x8 : Int32} (h_x8 : zr (0) (112) x8) {s0 : Int32} (h_s0 : zr (0) (126) s0) (t_x1 : zat 0 x1) (c_4_4 : zrl (0) (1152921504606846976) (zgl σ 4 4)) : zok (fX12_waveAt_206 σ x1 x2 x3 x4 x5 x8 s0) (zPi σ (fun v : Int32 => True)) := by
  unfold fX12_waveAt_206
  refine zok_ck rfl ?_
  refine zok_ck (by decide) ?_
  refine zok_ck (by decide) ?_
  refine zok_br (zr_l (lo := 0) (hi := 209) (zrl_rem (lo := 0) (hi := 209) 210 (by decide) (zrl_div (lo := 0) (hi := 18014398509481984) 64 (by decide) c_4_4 (by decide)) (by decide)) (by decide)) (fun v6 e2 h1 => ?_)
  refine zok_pi (s_X12_patchByte hσ h_x2 (zr_w h_x3 (by decide))) (fun v8 h3 => ?_)
  refine zok_if (fun q4 => ?_) (fun q4 => ?_)
  · have h5 := zc_eql (0) (0) q4 (zr_andr (lo := 0) (hi := 128) (zr_c (lo := 128) (hi := 128) (by decide)) (by decide)) (zr_c (lo := 0) (hi := 0) (by decide)) (by decide)
    exact (s_X12_waveAt_263 hσ h_x1 h_x2 h_x3 h_x4 h_x5 h_x8 h_s0 (zr_w (zr_c (lo := 0) (hi := 0) (by decide)) (by decide)) t_x1 c_4_4)
  have h6 := zc_nel (1) (128) q4 (zr_andr (lo := 0) (hi := 128) (zr_c (lo := 128) (hi := 128) (by decide)) (by decide)) (zr_c (lo := 0) (hi := 0) (by decide)) (by decide)
  refine zok_if (fun q7 => ?_) (fun q7 => ?_)
  · have h8 := zc_ler (105) q7 (zr_c (lo := 105) (hi := 105) (by decide)) h1 (by decide)
    exact (s_X12_waveAt_260 hσ h_x1 h_x2 h_x3 h_x4 h_x5 h_x8 h_s0 (zr_w (zr_sub (lo := 1) (hi := 105) (zr_c (lo := 210) (hi := 210) (by decide)) h8 (by decide)) (by decide)) t_x1 c_4_4)
  have h9 := zc_ltl (104) (z_nle q7) h1 (zr_c (lo := 105) (hi := 105) (by decide)) (by decide)
  exact (s_X12_waveAt_260 hσ h_x1 h_x2 h_x3 h_x4 h_x5 h_x8 h_s0 (zr_w h9 (by decide)) t_x1 c_4_4)
theorem s_X12_waveAt_192 {σ : zSt} (hσ : zPM σ) {x1 : Int32} (h_x1 : zr (172) (274) x1) {x2 : Int32} (h_x2 : zr (0) (8) x2) {x3 : Int32} (h_x3 : zr (0) (0) x3) {x4 : Int32} (h_x4 : zr (0) (1023) x4) {x5 : Int32} (h_x5 : zr (0) (255) x5) {x8 : Int32} (h_x8 : zr (0) (112) x8) {x9 : Int32} (h_x9 : zr (0) (63) x9) (t_x1 : zat 0 x1) (c_4_4 : zrl (0) (1152921504606846976) (zgl σ 4 4)) : zok (fX12_waveAt_192 σ x1 x2 x3 x4 x5 x8 x9) (zPi σ (fun v : Int32 => True)) := by
  unfold fX12_waveAt_192
  refine zok_ck (by decide) ?_
  refine zok_ck (by decide) ?_
  exact (s_X12_waveAt_206 hσ h_x1 h_x2 (zr_w h_x3 (by decide)) h_x4 h_x5 h_x8 (zr_add (lo := 0) (hi := 126) (zr_mul (lo := 0) (hi := 120) (zr_c (lo := 8) (hi := 8) (by decide)) (zr_div (lo := 0) (hi := 15) 4 (by decide) h_x9 (by decide)) (by decide)) (zr_mul (lo := 0) (hi := 6) (zr_c (lo := 2) (hi := 2) (by decide)) (zr_rem (lo := 0) (hi := 3) 4 (by decide) h_x9 (by decide)) (by decide)) (by decide)) t_x1 c_4_4)
theorem s_X12_waveAt_123 {σ : zSt} (hσ : zPM σ) {x1 : Int32} (h_x1 : zr (172) (274) x1) {x2 : Int32} (h_x2 : zr (0) (8) x2) {x3 : Int32} (h_x3 : zr (0) (1) x3) {x4 : Int32} (h_x4 : zr (0) (1023) x4) {x5 : Int32} (h_x5 : zr (0) (255) x5) {s0 : Int32} (h_s0 : zr (0) (112) s0) (t_x1 : zat 0 x1) (c_4_4 : zrl (0) (1152921504606846976) (zgl σ 4 4)) : zok (fX12_waveAt_123 σ x1 x2 x3 x4 x5 s0) (zPi σ (fun v : Int32 => True)) := by
  unfold fX12_waveAt_123
  refine zok_pi (s_X12_patchByte hσ h_x2 (zr_w (zr_c (lo := 2) (hi := 2) (by decide)) (by decide))) (fun v10 h1 => ?_)
  refine zok_br (zr_andr (lo := 0) (hi := 63) (zr_c (lo := 63) (hi := 63) (by decide)) (by decide)) (fun v11 e3 h2 => ?_)
  refine zok_pi (s_X12_wreg hσ (zr_w (zr_add (lo := 48) (hi := 56) (zr_c (lo := 48) (hi := 48) (by decide)) h_x2 (by decide)) (by decide))) (fun v13 h4 => ?_)
  refine zok_br (zr_andr (lo := 0) (hi := 15) (zr_c (lo := 15) (hi := 15) (by decide)) (by decide)) (fun v14 e6 h5 => ?_)
  refine zok_if (fun q7 => ?_) (fun q7 => ?_)
  · have h8 := zc_eql (1) (1) q7 h_x3 (zr_c (lo := 1) (hi := 1) (by decide)) (by decide)
    exact (s_X12_waveAt_206 hσ h_x1 h_x2 (zr_w h8 (by decide)) h_x4 h_x5 h_s0 (zr_w (zr_mul (lo := 0) (hi := 120) (zr_c (lo := 8) (hi := 8) (by decide)) h5 (by decide)) (by decide)) t_x1 c_4_4)
  have h9 := zc_nel (0) (0) q7 h_x3 (zr_c (lo := 1) (hi := 1) (by decide)) (by decide)
  refine zok_pi (s_X12_isRhythm hσ h_x2) (fun v16 h10 => ?_)
  refine zok_if (fun q11 => ?_) (fun q11 => ?_)
  · have h12 := zc_eql (0) (0) q11 h10 (zr_c (lo := 0) (hi := 0) (by decide)) (by decide)
    exact (s_X12_waveAt_192 hσ h_x1 h_x2 h9 h_x4 h_x5 h_s0 h2 t_x1 c_4_4)
  have h13 := zc_nel (1) (1) q11 h10 (zr_c (lo := 0) (hi := 0) (by decide)) (by decide)
  refine zok_if (fun q14 => ?_) (fun q14 => ?_)
  · have h15 := zc_lel (6) q14 h_x2 (zr_c (lo := 6) (hi := 6) (by decide)) (by decide)
    exact (s_X12_waveAt_192 hσ h_x1 (zr_w h15 (by decide)) h9 h_x4 h_x5 h_s0 h2 t_x1 c_4_4)
  have h16 := zc_ltr (7) (z_nle q14) (zr_c (lo := 6) (hi := 6) (by decide)) h_x2 (by decide)
  refine zok_pi (s_X12_wreg hσ (zr_w (zr_add (lo := 55) (hi := 56) (zr_c (lo := 48) (hi := 48) (by decide)) h16 (by decide)) (by decide))) (fun v18 h17 => ?_)
  exact (s_X12_waveAt_206 hσ h_x1 (zr_w h16 (by decide)) (zr_w h9 (by decide)) h_x4 h_x5 h_s0 (zr_w (zr_mul (lo := 0) (hi := 120) (zr_c (lo := 8) (hi := 8) (by decide)) (zr_shr (lo := 0) (hi := 15) 4 (by decide) h17 (by decide)) (by decide)) (by decide)) t_x1 c_4_4)
theorem s_X12_waveAt_91 {σ : zSt} (hσ : zPM σ) {x1 : Int32} (h_x1 : zr (172) (274) x1) {x2 : Int32} (h_x2 : zr (0) (8) x2) {x3 : Int32} (h_x3 : zr (0) (1) x3) {x4 : Int32} (h_x4 : zr (0) (1023) x4) {x5 : Int32} (h_x5 : zr (0) (255) x5) (t_x1 : zat 0 x1) (c_4_4 : zrl (0) (1152921504606846976) (zgl σ 4 4)) : zok (fX12_waveAt_91 σ x1 x2 x3 x4 x5) (zPi σ (fun v : Int32 => True)) := by
  unfold fX12_waveAt_91
  exact (s_X12_waveAt_123 hσ h_x1 h_x2 h_x3 h_x4 h_x5 (zr_w (zr_c (lo := 0) (hi := 0) (by decide)) (by decide)) t_x1 c_4_4)
theorem s_X12_waveAt_41 {σ : zSt} (hσ : zPM σ) {x1 : Int32} (h_x1 : zr (172) (274) x1) {x2 : Int32} (h_x2 : zr (0) (8) x2) {x3 : Int32} (h_x3 : zr (0) (1) x3) {x4 : Int32} (h_x4 : zr (0) (1023) x4) {s0 : Int32} (h_s0 : zr (0) (255) s0) (t_x1 : zat 0 x1) (c_4_4 : zrl (0) (1152921504606846976) (zgl σ 4 4)) : zok (fX12_waveAt_41 σ x1 x2 x3 x4 s0) (zPi σ (fun v : Int32 => True)) := by
  unfold fX12_waveAt_41
  refine zok_pi (s_X12_patchByte hσ h_x2 (zr_w (zr_add (lo := 2) (hi := 3) (zr_c (lo := 2) (hi := 2) (by decide)) h_x3 (by decide)) (by decide))) (fun v20 h1 => ?_)
  refine zok_br (zr_shr (lo := 0) (hi := 12) 6 (by decide) h1 (by decide)) (fun v21 e3 h2 => ?_)
  refine zok_pi (s_X12_f hσ h_x2) (fun v23 h4 => ?_)
  refine zok_ck (by decide) ?_
  refine zok_pi (s_X12_kept hσ (zr_div (lo := 0) (hi := 15) 32 (by decide) h4 (by decide))) (fun v25 h5 => ?_)
  refine zok_pi (s_X12_block hσ h_x2) (fun v27 h6 => ?_)
  refine zok_br (zr_sub (lo := -112) (hi := 112) h5 (zr_mul (lo := 0) (hi := 112) (zr_c (lo := 16) (hi := 16) (by decide)) (zr_sub (lo := 0) (hi := 7) (zr_c (lo := 7) (hi := 7) (by decide)) h6 (by decide)) (by decide)) (by decide)) (fun v28 e8 h7 => ?_)
  refine zok_if (fun q9 => ?_) (fun q9 => ?_)
  · have h10 := zc_ltl (-1) q9 h7 (zr_c (lo := 0) (hi := 0) (by decide)) (by decide)
    exact (s_X12_waveAt_91 hσ h_x1 h_x2 h_x3 h_x4 h_s0 t_x1 c_4_4)
  have h11 := zc_ler (0) (z_nlt q9) (zr_c (lo := 0) (hi := 0) (by decide)) h7 (by decide)
  refine zok_if (fun q12 => ?_) (fun q12 => ?_)
  · have h13 := zc_eql (0) (0) q12 h2 (zr_c (lo := 0) (hi := 0) (by decide)) (by decide)
    exact (s_X12_waveAt_91 hσ h_x1 h_x2 h_x3 h_x4 h_s0 t_x1 c_4_4)
  have h14 := zc_nel (1) (12) q12 h2 (zr_c (lo := 0) (hi := 0) (by decide)) (by decide)
  refine zok_if (fun q15 => ?_) (fun q15 => ?_)
  · have h16 := zc_eql (1) (1) q15 h14 (zr_c (lo := 1) (hi := 1) (by decide)) (by decide)
    refine zok_ck (by decide) ?_
    exact (s_X12_waveAt_123 hσ h_x1 h_x2 h_x3 h_x4 h_s0 (zr_w (zr_div (lo := 0) (hi := 28) 4 (by decide) h11 (by decide)) (by decide)) t_x1 c_4_4)
  have h17 := zc_nel (2) (12) q15 h14 (zr_c (lo := 1) (hi := 1) (by decide)) (by decide)
  refine zok_if (fun q18 => ?_) (fun q18 => ?_)
  · have h19 := zc_eql (2) (2) q18 h17 (zr_c (lo := 2) (hi := 2) (by decide)) (by decide)
    refine zok_ck (by decide) ?_
    exact (s_X12_waveAt_123 hσ h_x1 h_x2 h_x3 h_x4 h_s0 (zr_w (zr_div (lo := 0) (hi := 56) 2 (by decide) h11 (by decide)) (by decide)) t_x1 c_4_4)
  have h20 := zc_nel (3) (12) q18 h17 (zr_c (lo := 2) (hi := 2) (by decide)) (by decide)
  exact (s_X12_waveAt_123 hσ h_x1 h_x2 h_x3 h_x4 h_s0 h11 t_x1 c_4_4)
theorem s_X12_waveAt {σ : zSt} (hσ : zPM σ) {x1 : Int32} (h_x1 : zr (172) (274) x1) {x2 : Int32} (h_x2 : zr (0) (8) x2) {x3 : Int32} (h_x3 : zr (0) (1) x3) {x4 : Int32} (h_x4 : zr (0) (1023) x4) (t_x1 : zat 0 x1) (c_4_4 : zrl (0) (1152921504606846976) (zgl σ 4 4)) : zok (fX12_waveAt σ x1 x2 x3 x4) (zPi σ (fun v : Int32 => True)) := by
  unfold fX12_waveAt
  refine zok_ck (zin_ok h_x1 (by decide)) ?_
  refine zok_if (fun q1 => ?_) (fun q1 => ?_)
  · have h2 := zc_ltl (123) q1 (rM_lv hσ.Y t_x1) (zr_c (lo := 124) (hi := 124) (by decide)) (by decide)
    refine zok_if (fun q3 => ?_) (fun q3 => ?_)
    · have h4 := zc_eql (0) (0) q3 (zr_andr (lo := 0) (hi := 256) (zr_c (lo := 256) (hi := 256) (by decide)) (by decide)) (zr_c (lo := 0) (hi := 0) (by decide)) (by decide)
      refine zok_ck (by decide) ?_
      exact (s_X12_waveAt_41 hσ h_x1 h_x2 h_x3 h_x4 (zr_rem (lo := 0) (hi := 255) 256 (by decide) h_x4 (by decide)) t_x1 c_4_4)
    have h5 := zc_nel (1) (256) q3 (zr_andr (lo := 0) (hi := 256) (zr_c (lo := 256) (hi := 256) (by decide)) (by decide)) (zr_c (lo := 0) (hi := 0) (by decide)) (by decide)
    refine zok_ck (by decide) ?_
    exact (s_X12_waveAt_41 hσ h_x1 h_x2 h_x3 h_x4 (zr_sub (lo := 0) (hi := 255) (zr_c (lo := 255) (hi := 255) (by decide)) (zr_rem (lo := 0) (hi := 255) 256 (by decide) h_x4 (by decide)) (by decide)) t_x1 c_4_4)
  have h6 := zc_ler (124) (z_nlt q1) (zr_c (lo := 124) (hi := 124) (by decide)) (rM_lv hσ.Y t_x1) (by decide)
  exact zok_spi trivial
theorem s_X12_operator_319 {G : Nat → Int} {σ : zSt} (hσ : zIM G σ) {x1 : Int32} (h_x1 : zr (0) (8) x1) {x2 : Int32} (h_x2 : zr (0) (1) x2) {x3 : Int32} (h_x3 : zr (172) (274) x3) {x5 : Int32} {x8 : Int32} (t_x3 : zat 0 x3) (g4 : 0 ≤ G 104 ∧ G 104 ≤ 1152921504606846976) : zok (fX12_operator_319 σ x1 x2 x3 x5 x8) (zIM G) := by
  unfold fX12_operator_319
  refine zok_ck (zin_ok (zr_add (lo := 176) (hi := 278) h_x3 (zr_c (lo := 4) (hi := 4) (by decide)) (by decide)) (by decide)) ?_
  refine zok_bs (hσ.op (zat_add t_x3 (c1 := 4) 4 (by decide) (by decide)) (by decide)) (fun σ1 e2 i1 => ?_)
  refine zok_pi (s_X12_waveAt i1.P h_x3 h_x1 h_x2 (zr_andr (lo := 0) (hi := 1023) (zr_c (lo := 1023) (hi := 1023) (by decide)) (by decide)) t_x3 (rM_g4 i1 g4)) (fun v3 h3 => ?_)
  refine zok_ck (zin_ok (zr_add (lo := 175) (hi := 277) h_x3 (zr_c (lo := 3) (hi := 3) (by decide)) (by decide)) (by decide)) ?_
  refine zok_bs (i1.op (zat_add t_x3 (c1 := 3) 3 (by decide) (by decide)) (by decide)) (fun σ4 e5 i4 => ?_)
  exact zok_some i4
theorem s_X12_operator_266 {G : Nat → Int} {σ : zSt} (hσ : zIM G σ) {x1 : Int32} (h_x1 : zr (0) (8) x1) {x2 : Int32} (h_x2 : zr (0) (1) x2) {x3 : Int32} (h_x3 : zr (172) (274) x3) {x5 : Int32} {s0 : Int32} (t_x3 : zat 0 x3) (g4 : 0 ≤ G 104 ∧ G 104 ≤ 1152921504606846976) : zok (fX12_operator_266 σ x1 x2 x3 x5 s0) (zIM G) := by
  unfold fX12_operator_266
  refine zok_ck (zin_ok (zr_add (lo := 174) (hi := 276) h_x3 (zr_c (lo := 2) (hi := 2) (by decide)) (by decide)) (by decide)) ?_
  refine zok_ck (by decide) ?_
  refine zok_bv (fun v5 e2 => ?_)
  refine zok_pi (s_X12_isRhythm hσ.P h_x1) (fun v7 h3 => ?_)
  refine zok_if (fun q4 => ?_) (fun q4 => ?_)
  · have h5 := zc_eql (0) (0) q4 h3 (zr_c (lo := 0) (hi := 0) (by decide)) (by decide)
    exact (s_X12_operator_319 hσ h_x1 h_x2 h_x3 t_x3 g4)
  have h6 := zc_nel (1) (1) q4 h3 (zr_c (lo := 0) (hi := 0) (by decide)) (by decide)
  refine zok_if (fun q7 => ?_) (fun q7 => ?_)
  · have h8 := zc_lel (6) q7 h_x1 (zr_c (lo := 6) (hi := 6) (by decide)) (by decide)
    exact (s_X12_operator_319 hσ (zr_w h8 (by decide)) h_x2 h_x3 t_x3 g4)
  have h9 := zc_ltr (7) (z_nle q7) (zr_c (lo := 6) (hi := 6) (by decide)) h_x1 (by decide)
  refine zok_ck (zin_ok (zr_add (lo := 174) (hi := 276) h_x3 (zr_c (lo := 2) (hi := 2) (by decide)) (by decide)) (by decide)) ?_
  refine zok_ck (by decide) ?_
  refine zok_pi (s_X12_drum hσ.P h9 h_x2) (fun v9 h10 => ?_)
  exact (s_X12_operator_319 hσ (zr_w h9 (by decide)) h_x2 h_x3 t_x3 g4)
theorem s_X12_operator_190 {G : Nat → Int} {σ : zSt} (hσ : zIM G σ) {x1 : Int32} (h_x1 : zr (0) (8) x1) {x2 : Int32} (h_x2 : zr (0) (1) x2) {x3 : Int32} (h_x3 : zr (172) (274) x3) (t_x3 : zat 0 x3) (g4 : 0 ≤ G 104 ∧ G 104 ≤ 1152921504606846976) : zok (fX12_operator_190 σ x1 x2 x3) (zIM G) := by
  unfold fX12_operator_190
  refine zok_bu (s_X12_phase hσ h_x3 h_x1 h_x2 t_x3) (fun σ10 i1 => ?_)
  refine zok_ck (zin_ok (zr_add (lo := 175) (hi := 277) h_x3 (zr_c (lo := 3) (hi := 3) (by decide)) (by decide)) (by decide)) ?_
  refine zok_bv (fun v11 e3 => ?_)
  refine zok_pi (s_X12_patchByte i1.P h_x1 (zr_w (zr_c (lo := 3) (hi := 3) (by decide)) (by decide))) (fun v13 h4 => ?_)
  refine zok_br (zr_andr (lo := 0) (hi := 7) (zr_c (lo := 7) (hi := 7) (by decide)) (by decide)) (fun v14 e6 h5 => ?_)
  refine zok_if (fun q7 => ?_) (fun q7 => ?_)
  · have h8 := zc_eql (1) (1) q7 h_x2 (zr_c (lo := 1) (hi := 1) (by decide)) (by decide)
    refine zok_ck (zin_ok (zr_sub (lo := 169) (hi := 271) h_x3 (zr_c (lo := 3) (hi := 3) (by decide)) (by decide)) (by decide)) ?_
    exact (s_X12_operator_266 i1 h_x1 (zr_w h8 (by decide)) h_x3 t_x3 g4)
  have h9 := zc_nel (0) (0) q7 h_x2 (zr_c (lo := 1) (hi := 1) (by decide)) (by decide)
  refine zok_if (fun q10 => ?_) (fun q10 => ?_)
  · have h11 := zc_eql (0) (0) q10 h5 (zr_c (lo := 0) (hi := 0) (by decide)) (by decide)
    exact (s_X12_operator_266 i1 h_x1 (zr_w h9 (by decide)) h_x3 t_x3 g4)
  have h12 := zc_nel (1) (7) q10 h5 (zr_c (lo := 0) (hi := 0) (by decide)) (by decide)
  refine zok_ck (zin_ok (zr_add (lo := 175) (hi := 277) h_x3 (zr_c (lo := 3) (hi := 3) (by decide)) (by decide)) (by decide)) ?_
  refine zok_ck (zin_ok (zr_add (lo := 176) (hi := 278) h_x3 (zr_c (lo := 4) (hi := 4) (by decide)) (by decide)) (by decide)) ?_
  exact (s_X12_operator_266 i1 h_x1 (zr_w h9 (by decide)) h_x3 t_x3 g4)
theorem s_X12_operator_146 {G : Nat → Int} {σ : zSt} (hσ : zIM G σ) {x1 : Int32} (h_x1 : zr (0) (8) x1) {x2 : Int32} (h_x2 : zr (0) (1) x2) {x3 : Int32} (h_x3 : zr (172) (274) x3) (t_x3 : zat 0 x3) (g4 : 0 ≤ G 104 ∧ G 104 ≤ 1152921504606846976) : zok (fX12_operator_146 σ x1 x2 x3) (zIM G) := by
  unfold fX12_operator_146
  refine zok_ck (zin_ok (zr_add (lo := 173) (hi := 275) h_x3 (zr_c (lo := 1) (hi := 1) (by decide)) (by decide)) (by decide)) ?_
  refine zok_if (fun q1 => ?_) (fun q1 => ?_)
  · have h2 := zc_eql (2) (2) q1 zr_any (zr_c (lo := 2) (hi := 2) (by decide)) (by decide)
    refine zok_ck (zin_ok h_x3 (by decide)) ?_
    refine zok_ck (by decide) ?_
    refine zok_pi (s_X12_patchByte hσ.P h_x1 (zr_w (zr_add (lo := 6) (hi := 7) (zr_c (lo := 6) (hi := 6) (by decide)) h_x2 (by decide)) (by decide))) (fun v16 h3 => ?_)
    refine zok_if (fun q4 => ?_) (fun q4 => ?_)
    · have h5 := zc_ltr (1) q4 (zr_div (lo := 0) (hi := 15) 8 (by decide) (rM_lv hσ.Y t_x3) (by decide)) (zr_shr (lo := 0) (hi := 51) 4 (by decide) h3 (by decide)) (by decide)
      exact (s_X12_operator_190 hσ h_x1 h_x2 h_x3 t_x3 g4)
    have h6 := zc_lel (15) (z_nlt q4) (zr_shr (lo := 0) (hi := 51) 4 (by decide) h3 (by decide)) (zr_div (lo := 0) (hi := 15) 8 (by decide) (rM_lv hσ.Y t_x3) (by decide)) (by decide)
    refine zok_ck (zin_ok (zr_add (lo := 173) (hi := 275) h_x3 (zr_c (lo := 1) (hi := 1) (by decide)) (by decide)) (by decide)) ?_
    refine zok_bs (hσ.op (zat_add t_x3 (c1 := 1) 1 (by decide) (by decide)) (by decide)) (fun σ17 e8 i7 => ?_)
    exact (s_X12_operator_190 i7 h_x1 h_x2 h_x3 t_x3 g4)
  exact (s_X12_operator_190 hσ h_x1 h_x2 h_x3 t_x3 g4)
theorem s_X12_operator_113 {G : Nat → Int} {σ : zSt} (hσ : zIM G σ) {x1 : Int32} (h_x1 : zr (0) (8) x1) {x2 : Int32} (h_x2 : zr (0) (1) x2) {x3 : Int32} (h_x3 : zr (172) (274) x3) (t_x3 : zat 0 x3) (g4 : 0 ≤ G 104 ∧ G 104 ≤ 1152921504606846976) : zok (fX12_operator_113 σ x1 x2 x3) (zIM G) := by
  unfold fX12_operator_113
  refine zok_ck (zin_ok (zr_add (lo := 173) (hi := 275) h_x3 (zr_c (lo := 1) (hi := 1) (by decide)) (by decide)) (by decide)) ?_
  refine zok_if (fun q1 => ?_) (fun q1 => ?_)
  · have h2 := zc_eql (1) (1) q1 zr_any (zr_c (lo := 1) (hi := 1) (by decide)) (by decide)
    refine zok_ck (zin_ok h_x3 (by decide)) ?_
    refine zok_if (fun q3 => ?_) (fun q3 => ?_)
    · have h4 := zc_eql (0) (0) q3 (rM_lv hσ.Y t_x3) (zr_c (lo := 0) (hi := 0) (by decide)) (by decide)
      refine zok_ck (zin_ok (zr_add (lo := 173) (hi := 275) h_x3 (zr_c (lo := 1) (hi := 1) (by decide)) (by decide)) (by decide)) ?_
      refine zok_bs (hσ.op (zat_add t_x3 (c1 := 1) 1 (by decide) (by decide)) (by decide)) (fun σ18 e6 i5 => ?_)
      exact (s_X12_operator_190 i5 h_x1 h_x2 h_x3 t_x3 g4)
    have h7 := zc_nel (1) (127) q3 (rM_lv hσ.Y t_x3) (zr_c (lo := 0) (hi := 0) (by decide)) (by decide)
    exact (s_X12_operator_146 hσ h_x1 h_x2 h_x3 t_x3 g4)
  exact (s_X12_operator_146 hσ h_x1 h_x2 h_x3 t_x3 g4)
theorem s_X12_operator_53 {G : Nat → Int} {σ : zSt} (hσ : zIM G σ) {x1 : Int32} (h_x1 : zr (0) (8) x1) {x2 : Int32} (h_x2 : zr (0) (1) x2) {x3 : Int32} (h_x3 : zr (172) (274) x3) {x4 : Int32} (h_x4 : zr (0) (1) x4) (t_x3 : zat 0 x3) (g4 : 0 ≤ G 104 ∧ G 104 ≤ 1152921504606846976) : zok (fX12_operator_53 σ x1 x2 x3 x4) (zIM G) := by
  unfold fX12_operator_53
  refine zok_ck (zin_ok (zr_add (lo := 177) (hi := 279) h_x3 (zr_c (lo := 5) (hi := 5) (by decide)) (by decide)) (by decide)) ?_
  refine zok_bs (hσ.op (zat_add t_x3 (c1 := 5) 5 (by decide) (by decide)) (by decide)) (fun σ19 e2 i1 => ?_)
  refine zok_bu (s_X12_envelope i1 h_x3 h_x1 h_x2 t_x3) (fun σ20 i3 => ?_)
  refine zok_ck (zin_ok (zr_add (lo := 173) (hi := 275) h_x3 (zr_c (lo := 1) (hi := 1) (by decide)) (by decide)) (by decide)) ?_
  refine zok_if (fun q4 => ?_) (fun q4 => ?_)
  · have h5 := zc_eql (0) (0) q4 zr_any (zr_c (lo := 0) (hi := 0) (by decide)) (by decide)
    refine zok_ck (zin_ok h_x3 (by decide)) ?_
    refine zok_if (fun q6 => ?_) (fun q6 => ?_)
    · have h7 := zc_ltl (123) q6 (rM_lv i3.Y t_x3) (zr_c (lo := 124) (hi := 124) (by decide)) (by decide)
      exact (s_X12_operator_113 i3 h_x1 h_x2 h_x3 t_x3 g4)
    have h8 := zc_ler (124) (z_nlt q6) (zr_c (lo := 124) (hi := 124) (by decide)) (rM_lv i3.Y t_x3) (by decide)
    refine zok_ck (zin_ok (zr_add (lo := 173) (hi := 275) h_x3 (zr_c (lo := 1) (hi := 1) (by decide)) (by decide)) (by decide)) ?_
    refine zok_bs (i3.op (zat_add t_x3 (c1 := 1) 1 (by decide) (by decide)) (by decide)) (fun σ21 e10 i9 => ?_)
    refine zok_ck (zin_ok (zr_add (lo := 174) (hi := 276) h_x3 (zr_c (lo := 2) (hi := 2) (by decide)) (by decide)) (by decide)) ?_
    refine zok_bs (i9.op (zat_add t_x3 (c1 := 2) 2 (by decide) (by decide)) (by decide)) (fun σ22 e12 i11 => ?_)
    exact (s_X12_operator_190 i11 h_x1 h_x2 h_x3 t_x3 g4)
  exact (s_X12_operator_113 i3 h_x1 h_x2 h_x3 t_x3 g4)
theorem s_X12_operator_52 {G : Nat → Int} {σ : zSt} (hσ : zIM G σ) {x1 : Int32} (h_x1 : zr (0) (8) x1) {x2 : Int32} (h_x2 : zr (0) (1) x2) {x3 : Int32} (h_x3 : zr (172) (274) x3) {x4 : Int32} (h_x4 : zr (0) (1) x4) {s0 : Int32} (h_s0 : zr (0) (4) s0) {s1 : Int32} (h_s1 : zr (173) (275) s1) (t_x3 : zat 0 x3) (t_s1 : zat 1 s1) (g4 : 0 ≤ G 104 ∧ G 104 ≤ 1152921504606846976) : zok (fX12_operator_52 σ x1 x2 x3 x4 s0 s1) (zIM G) := by
  unfold fX12_operator_52
  refine zok_ck (zin_ok h_s1 (by decide)) ?_
  refine zok_bs (hσ.op t_s1 (by decide)) (fun σ23 e2 i1 => ?_)
  exact (s_X12_operator_53 i1 h_x1 h_x2 h_x3 h_x4 t_x3 g4)
theorem s_X12_operator {G : Nat → Int} {σ : zSt} (hσ : zIM G σ) {x1 : Int32} (h_x1 : zr (0) (8) x1) {x2 : Int32} (h_x2 : zr (0) (1) x2) (g4 : 0 ≤ G 104 ∧ G 104 ≤ 1152921504606846976) : zok (fX12_operator σ x1 x2) (zIM G) := by
  unfold fX12_operator
  refine zok_br (zr_add (lo := 172) (hi := 274) (zr_c (lo := 172) (hi := 172) (by decide)) (zr_mul (lo := 0) (hi := 102) (zr_c (lo := 6) (hi := 6) (by decide)) (zr_add (lo := 0) (hi := 17) (zr_mul (lo := 0) (hi := 16) (zr_c (lo := 2) (hi := 2) (by decide)) h_x1 (by decide)) h_x2 (by decide)) (by decide)) (by decide)) (fun v24 e2 h1 => ?_)
  have h3 := z_at0 e2 h_x1 h_x2 (by decide)
  refine zok_pi (s_X12_isOn hσ.P h_x1 h_x2) (fun v26 h4 => ?_)
  refine zok_ck (zin_ok (zr_add (lo := 177) (hi := 279) h1 (zr_c (lo := 5) (hi := 5) (by decide)) (by decide)) (by decide)) ?_
  refine zok_if (fun q5 => ?_) (fun q5 => ?_)
  · have h6 := zc_eqr (0) (1) q5 h4 zr_any (by decide)
    exact (s_X12_operator_53 hσ h_x1 h_x2 h1 h4 h3 g4)
  refine zok_if (fun q7 => ?_) (fun q7 => ?_)
  · have h8 := zc_eql (1) (1) q7 h4 (zr_c (lo := 1) (hi := 1) (by decide)) (by decide)
    exact (s_X12_operator_52 hσ h_x1 h_x2 h1 (zr_w h8 (by decide)) (zr_w (zr_c (lo := 0) (hi := 0) (by decide)) (by decide)) (zr_add (lo := 173) (hi := 275) h1 (zr_c (lo := 1) (hi := 1) (by decide)) (by decide)) h3 (zat_add h3 (c1 := 1) 1 (by decide) (by decide)) g4)
  have h9 := zc_nel (0) (0) q7 h4 (zr_c (lo := 1) (hi := 1) (by decide)) (by decide)
  exact (s_X12_operator_52 hσ h_x1 h_x2 h1 (zr_w h9 (by decide)) (zr_w (zr_c (lo := 4) (hi := 4) (by decide)) (by decide)) (zr_add (lo := 173) (hi := 275) h1 (zr_c (lo := 1) (hi := 1) (by decide)) (by decide)) h3 (zat_add h3 (c1 := 1) 1 (by decide) (by decide)) g4)
theorem s_X12_waves_20_body {G : Nat → Int} {σ : zSt} {k12 : zSt → Int32 → Option (zSt)} {Mk12 : Int} (hk12 : ∀ (σ : zSt) (x1 : Int32), zIM G σ → zr (0) (9) x1 → (9) - x1.toInt < Mk12 → zok (k12 σ x1) (zIM G)) {k20 : zSt → Int32 → Int32 → Option (zSt)} {Mk20 : Int} (hk20 : ∀ (σ : zSt) (x1 : Int32) (x2 : Int32), zIM G σ → zr (0) (8) x1 → zr (0) (2) x2 → (2) - x2.toInt < Mk20 → (9) - x1.toInt ≤ Mk12 → zok (k20 σ x1 x2) (zIM G)) (hσ : zIM G σ) {x1 : Int32} (h_x1 : zr (0) (8) x1) {x2 : Int32} (h_x2 : zr (0) (2) x2) (g4 : 0 ≤ G 104 ∧ G 104 ≤ 1152921504606846976) (hMk12 : (9) - x1.toInt ≤ Mk12) (hMk20 : (2) - x2.toInt ≤ Mk20) : zok (fX12_waves_20_body k12 k20 σ x1 x2) (zIM G) := by
  unfold fX12_waves_20_body
  refine zok_if (fun q1 => ?_) (fun q1 => ?_)
  · have h2 := zc_ler (2) q1 (zr_c (lo := 2) (hi := 2) (by decide)) h_x2 (by decide)
    refine zok_br (zr_add (lo := 1) (hi := 9) h_x1 (zr_c (lo := 1) (hi := 1) (by decide)) (by decide)) (fun v1 e4 h3 => ?_)
    exact hk12 _ _ hσ (zr_w h3 (by decide)) (by rw [e4]; have := z_tadd (y := (1 : Int32)) h_x1 (zr_c (lo := 1) (hi := 1) (by decide)) (by decide); have e9 : (1 : Int32).toInt = 1 := rfl; omega) 
  have h5 := zc_ltl (1) (z_nle q1) h_x2 (zr_c (lo := 2) (hi := 2) (by decide)) (by decide)
  refine zok_bu (s_X12_operator hσ h_x1 h5 g4) (fun σ2 i6 => ?_)
  refine zok_br (zr_add (lo := 1) (hi := 2) h5 (zr_c (lo := 1) (hi := 1) (by decide)) (by decide)) (fun v3 e8 h7 => ?_)
  exact hk20 _ _ _ i6 h_x1 (zr_w h7 (by decide)) (by rw [e8]; have := z_tadd (y := (1 : Int32)) h5 (zr_c (lo := 1) (hi := 1) (by decide)) (by decide); have e9 : (1 : Int32).toInt = 1 := rfl; omega) hMk12
theorem s_X12_waves_20 {G : Nat → Int} {k12 : zSt → Int32 → Option (zSt)} {Mk12 : Int} (hk12 : ∀ (σ : zSt) (x1 : Int32), zIM G σ → zr (0) (9) x1 → (9) - x1.toInt < Mk12 → zok (k12 σ x1) (zIM G)) (g4 : 0 ≤ G 104 ∧ G 104 ≤ 1152921504606846976) : ∀ (n : Nat) {σ : zSt} (hσ : zIM G σ) {x1 : Int32} (h_x1 : zr (0) (8) x1) {x2 : Int32} (h_x2 : zr (0) (2) x2) (hm : (2) - x2.toInt < n) (hMk12 : (9) - x1.toInt ≤ Mk12), zok (fX12_waves_20 k12 n σ x1 x2) (zIM G) := by
  intro n
  induction n with
  | zero => intro σ hσ x1 h_x1 x2 h_x2 hm hMk12; have h9 := h_x2.1; have h8 := h_x2.2; exfalso; omega
  | succ n ih => intro σ hσ x1 h_x1 x2 h_x2 hm hMk12; exact s_X12_waves_20_body hk12 (fun σ x1 x2 hσ h_x1 h_x2 hm1 hMk12 => ih hσ h_x1 h_x2 (by omega) hMk12) hσ h_x1 h_x2 g4 hMk12 (Int.le_refl _)
theorem s_X12_waves_157 {G : Nat → Int} {σ : zSt} {k82 : zSt → Int32 → Int32 → Option (zSt)} {Mk82 : Int} (hk82 : ∀ (σ : zSt) (x2 : Int32) (x3 : Int32), zIM G σ → zr (0) (9) x3 → (9) - x3.toInt < Mk82 → zok (k82 σ x2 x3) (zIM G)) (hσ : zIM G σ) {x2 : Int32} {x3 : Int32} (h_x3 : zr (0) (8) x3) (hMk82 : (9) - x3.toInt ≤ Mk82) : zok (fX12_waves_157 k82 σ x2 x3) (zIM G) := by
  unfold fX12_waves_157
  refine zok_br (zr_add (lo := 1) (hi := 9) h_x3 (zr_c (lo := 1) (hi := 1) (by decide)) (by decide)) (fun v4 e2 h1 => ?_)
  exact hk82 _ _ _ hσ (zr_w h1 (by decide)) (by rw [e2]; have := z_tadd (y := (1 : Int32)) h_x3 (zr_c (lo := 1) (hi := 1) (by decide)) (by decide); have e9 : (1 : Int32).toInt = 1 := rfl; omega) 
theorem s_X12_waves_153 {G : Nat → Int} {σ : zSt} {k82 : zSt → Int32 → Int32 → Option (zSt)} {Mk82 : Int} (hk82 : ∀ (σ : zSt) (x2 : Int32) (x3 : Int32), zIM G σ → zr (0) (9) x3 → (9) - x3.toInt < Mk82 → zok (k82 σ x2 x3) (zIM G)) (hσ : zIM G σ) {x3 : Int32} (h_x3 : zr (0) (8) x3) {s0 : Int32} {s1 : Int32} {s2 : Int32} (h_s2 : zr (2) (2) s2) {s3 : Int32} (hMk82 : (9) - x3.toInt ≤ Mk82) : zok (fX12_waves_153 k82 σ x3 s0 s1 s2 s3) (zIM G) := by
  unfold fX12_waves_153
  refine zok_bv (fun v5 e2 => ?_)
  exact (s_X12_waves_157 hk82 hσ h_x3 hMk82)
theorem s_X12_waves_82_body {G : Nat → Int} {σ : zSt} {k82 : zSt → Int32 → Int32 → Option (zSt)} {Mk82 : Int} (hk82 : ∀ (σ : zSt) (x2 : Int32) (x3 : Int32), zIM G σ → zr (0) (9) x3 → (9) - x3.toInt < Mk82 → zok (k82 σ x2 x3) (zIM G)) (hσ : zIM G σ) {x2 : Int32} {x3 : Int32} (h_x3 : zr (0) (9) x3) (hMk82 : (9) - x3.toInt ≤ Mk82) : zok (fX12_waves_82_body k82 σ x2 x3) (zIM G) := by
  unfold fX12_waves_82_body
  refine zok_if (fun q1 => ?_) (fun q1 => ?_)
  · have h2 := zc_ler (9) q1 (zr_c (lo := 9) (hi := 9) (by decide)) h_x3 (by decide)
    refine zok_ck rfl ?_
    refine zok_bs (hσ.wi 165 165 (by decide) zr_any (by decide +kernel)) (fun σ6 e4 i3 => ?_)
    exact zok_some i3
  have h5 := zc_ltl (8) (z_nle q1) h_x3 (zr_c (lo := 9) (hi := 9) (by decide)) (by decide)
  refine zok_br (zr_add (lo := 172) (hi := 268) (zr_c (lo := 172) (hi := 172) (by decide)) (zr_mul (lo := 0) (hi := 96) (zr_c (lo := 12) (hi := 12) (by decide)) h5 (by decide)) (by decide)) (fun v7 e7 h6 => ?_)
  refine zok_pi (s_X12_isRhythm hσ.P h5) (fun v9 h8 => ?_)
  refine zok_if (fun q9 => ?_) (fun q9 => ?_)
  · have h10 := zc_eql (0) (0) q9 h8 (zr_c (lo := 0) (hi := 0) (by decide)) (by decide)
    refine zok_ck (zin_ok (zr_add (lo := 181) (hi := 277) h6 (zr_c (lo := 9) (hi := 9) (by decide)) (by decide)) (by decide)) ?_
    refine zok_bv (fun v10 e12 => ?_)
    exact (s_X12_waves_157 hk82 hσ h5 hMk82)
  have h13 := zc_nel (1) (1) q9 h8 (zr_c (lo := 0) (hi := 0) (by decide)) (by decide)
  refine zok_ck (zin_ok (zr_add (lo := 181) (hi := 277) h6 (zr_c (lo := 9) (hi := 9) (by decide)) (by decide)) (by decide)) ?_
  refine zok_if (fun q14 => ?_) (fun q14 => ?_)
  · have h15 := zc_lel (6) q14 h5 (zr_c (lo := 6) (hi := 6) (by decide)) (by decide)
    exact (s_X12_waves_153 hk82 hσ (zr_w h15 (by decide)) (zr_c (lo := 2) (hi := 2) (by decide)) hMk82)
  have h16 := zc_ltr (7) (z_nle q14) (zr_c (lo := 6) (hi := 6) (by decide)) h5 (by decide)
  refine zok_ck (zin_ok (zr_add (lo := 175) (hi := 271) h6 (zr_c (lo := 3) (hi := 3) (by decide)) (by decide)) (by decide)) ?_
  exact (s_X12_waves_153 hk82 hσ (zr_w h16 (by decide)) (zr_c (lo := 2) (hi := 2) (by decide)) hMk82)
theorem s_X12_waves_82 {G : Nat → Int} : ∀ (n : Nat) {σ : zSt} (hσ : zIM G σ) {x2 : Int32} {x3 : Int32} (h_x3 : zr (0) (9) x3) (hm : (9) - x3.toInt < n), zok (fX12_waves_82 n σ x2 x3) (zIM G) := by
  intro n
  induction n with
  | zero => intro σ hσ x2 x3 h_x3 hm ; have h9 := h_x3.1; have h8 := h_x3.2; exfalso; omega
  | succ n ih => intro σ hσ x2 x3 h_x3 hm ; exact s_X12_waves_82_body (fun σ x2 x3 hσ h_x3 hm1 => ih hσ h_x3 (by omega)) hσ h_x3 (Int.le_refl _)
