/-! answers on fresh states -/
theorem z_finof {x : Int32} {n : Nat} (h : zr 0 ((n : Int) - 1) x) : ∃ i : Fin n, x = Int32.ofNat i.val := by
  obtain ⟨h0, h1⟩ := h
  obtain ⟨i, hi⟩ : ∃ i : Nat, x.toInt = i := ⟨x.toInt.toNat, by omega⟩
  exact ⟨⟨i, by omega⟩, z_ofN hi⟩
theorem zOut {K : Nat} {o : Nat → Int64} {q : Option zRi} {p : Option (zSt × Int32)} (hc : zpc q (fun r => ∃ s, r = Sum.inr (s, K))) (hm : zpc p (fun r => zTh 1 r.1)) : zp2 (zbr q (zhi o (zh1 K))) p zCv := zAns.h (zp2_of hc hm (fun a b x y => by obtain ⟨s, e⟩ := x; exact Or.inl ⟨s, e, y⟩))
theorem zOutl {K : Nat} {o : Nat → Int64} {q : Option zRl} {p : Option (zSt × Int64)} (hc : zpc q (fun r => ∃ s, r = Sum.inr (s, K))) (hm : zpc p (fun r => zTh 1 r.1)) : zp2 (zbr q (zhl o (zh1 K))) p zCl := zAnl.h (zp2_of hc hm (fun a b x y => by obtain ⟨s, e⟩ := x; exact Or.inl ⟨s, e, y⟩))
theorem zn_lo {x : Int32} {a b : Int} (h : ¬ zr a b x) : x.toInt < a ∨ b < x.toInt := by
  by_cases q : x.toInt < a
  · exact Or.inl q
  · by_cases r : b < x.toInt
    · exact Or.inr r
    · exact absurd ⟨by omega, by omega⟩ h
theorem z_wno {x : Int32} {l h : Int64} {a b c d : Int} (hn : ¬ zr c d x) (w1 : l.toInt ≤ x.toInt64.toInt) (w2 : x.toInt64.toInt ≤ h.toInt) (hl : l.toInt = a) (hh : h.toInt = b) (hc : c ≤ a ∧ b ≤ d) : False := by
  rw [Int32.toInt_toInt64, hl] at w1
  rw [Int32.toInt_toInt64, hh] at w2
  exact hn ⟨by omega, by omega⟩
section ZOUT
variable {σ μ : zSt} {x : Int32}
theorem oc_register (h : ¬ zr 0 26 x) : zpc (fX11_register σ x) (fun r => ∃ s, r = Sum.inr (s, 1)) := by
  unfold fX11_register fX11_register_10
  refine zpc_if (fun _ => zpc_some ⟨σ, rfl⟩) (fun q => zpc_if (fun q1 => ?_) (fun _ => zpc_some ⟨σ, rfl⟩))
  have r1 := Int32.le_iff_toInt_le.mp (z_nlt q)
  have r2 := Int32.le_iff_toInt_le.mp q1
  exact absurd ⟨r1, r2⟩ h
theorem om_register (h : ¬ zr 0 26 x) : zpc (fX12_register μ x) (fun r => zTh 1 r.1) := by
  unfold fX12_register fX12_register_18 fX12_register_35
  exact zpc_within (fun w1 w2 => (z_wno h w1 w2 rfl rfl (by decide)).elim) (fun w => zpc_if (fun _ => zpc_fails1 (fun μ1 e1 => zpc_if (fun q => absurd q (by decide)) (fun _ => zpc_some (by subst e1; exact zTh_own)))) (fun q => absurd rfl q))
theorem oc_sound (h : ¬ zr 0 18 x) : zpc (fX11_sound σ x) (fun r => ∃ s, r = Sum.inr (s, 1)) := by
  unfold fX11_sound fX11_sound_10
  refine zpc_if (fun _ => zpc_some ⟨σ, rfl⟩) (fun q => zpc_if (fun q1 => ?_) (fun _ => zpc_some ⟨σ, rfl⟩))
  have r1 := Int32.le_iff_toInt_le.mp (z_nlt q)
  have r2 := Int32.le_iff_toInt_le.mp q1
  exact absurd ⟨r1, r2⟩ h
theorem om_sound (h : ¬ zr 0 18 x) : zpc (fX12_sound μ x) (fun r => zTh 1 r.1) := by
  unfold fX12_sound fX12_sound_18
  exact zpc_within (fun w1 w2 => (z_wno h w1 w2 rfl rfl (by decide)).elim) (fun w => zpc_if (fun _ => zpc_fails1 (fun μ1 e1 => zpc_if (fun q => absurd q (by decide)) (fun _ => zpc_some (by subst e1; exact zTh_own)))) (fun q => absurd rfl q))
theorem oc_look (h : ¬ zr 0 18 x) : zpc (fX11_look σ x) (fun r => ∃ s, r = Sum.inr (s, 1)) := by
  unfold fX11_look fX11_look_10
  refine zpc_if (fun _ => zpc_some ⟨σ, rfl⟩) (fun q => zpc_if (fun q1 => ?_) (fun _ => zpc_some ⟨σ, rfl⟩))
  have r1 := Int32.le_iff_toInt_le.mp (z_nlt q)
  have r2 := Int32.le_iff_toInt_le.mp q1
  exact absurd ⟨r1, r2⟩ h
theorem om_look (h : ¬ zr 0 18 x) : zpc (fX12_look μ x) (fun r => zTh 1 r.1) := by
  unfold fX12_look fX12_look_18
  exact zpc_within (fun w1 w2 => (z_wno h w1 w2 rfl rfl (by decide)).elim) (fun w => zpc_if (fun _ => zpc_fails1 (fun μ1 e1 => zpc_if (fun q => absurd q (by decide)) (fun _ => zpc_some (by subst e1; exact zTh_own)))) (fun q => absurd rfl q))
theorem oc_card (h : ¬ zr 0 7 x) : zpc (fX11_card σ x) (fun r => ∃ s, r = Sum.inr (s, 1)) := by
  unfold fX11_card fX11_card_10
  refine zpc_if (fun _ => zpc_some ⟨σ, rfl⟩) (fun q => zpc_if (fun q1 => ?_) (fun _ => zpc_some ⟨σ, rfl⟩))
  have r1 := Int32.le_iff_toInt_le.mp (z_nlt q)
  have r2 := Int32.le_iff_toInt_le.mp q1
  exact absurd ⟨r1, r2⟩ h
theorem om_card (h : ¬ zr 0 7 x) : zpc (fX12_card μ x) (fun r => zTh 1 r.1) := by
  unfold fX12_card fX12_card_18
  exact zpc_within (fun w1 w2 => (z_wno h w1 w2 rfl rfl (by decide)).elim) (fun w => zpc_if (fun _ => zpc_fails1 (fun μ1 e1 => zpc_if (fun q => absurd q (by decide)) (fun _ => zpc_some (by subst e1; exact zTh_own)))) (fun q => absurd rfl q))
theorem oc_chip (h : ¬ zr 0 95 x) : zpc (fX11_chip σ x) (fun r => ∃ s, r = Sum.inr (s, 1)) := by
  unfold fX11_chip
  refine zpc_bi (P := fun r => r.2 = 0) ?_ (fun s v e => zpc_if (fun _ => zpc_some ⟨s, rfl⟩) (fun q => absurd e q))
  unfold fX9_has fX9_has_10 fX9_has_26 fX9_has_22 fX9_has_27
  have c0 : (0 : Int32).toInt = 0 := rfl
  have c25 : (25 : Int32).toInt = 25 := rfl
  have c96 : (96 : Int32).toInt = 96 := rfl
  have c32 : (32 : Int32).toInt = 32 := rfl
  have l := zn_lo h
  refine zpc_if (fun _ => zpc_if (fun _ => zpc_ck (zpc_some rfl)) (fun q2 => zpc_if (fun _ => zpc_ck (zpc_some rfl)) (fun q3 => ?_))) (fun q => zpc_if (fun q1 => ?_) (fun _ => zpc_if (fun _ => zpc_ck (zpc_some rfl)) (fun q2 => zpc_if (fun _ => zpc_ck (zpc_some rfl)) (fun q3 => ?_))))
  · have r1 := Int32.le_iff_toInt_le.mp (z_nlt q2); have r2 := Int32.lt_iff_toInt_lt.mp (z_nle q3); exfalso; omega
  · have r1 := Int32.le_iff_toInt_le.mp (z_nlt q); have r2 := Int32.le_iff_toInt_le.mp q1; exfalso; omega
  · have r1 := Int32.le_iff_toInt_le.mp (z_nlt q2); have r2 := Int32.lt_iff_toInt_lt.mp (z_nle q3); exfalso; omega
theorem om_chip (h : ¬ zr 0 95 x) : zpc (fX12_chip μ x) (fun r => zTh 1 r.1) := by
  unfold fX12_chip fX12_chip_32
  exact zpc_within (fun w1 w2 => (z_wno h w1 w2 rfl rfl (by decide)).elim) (fun w => zpc_if (fun _ => zpc_within (fun w1 w2 => (z_wno h w1 w2 rfl rfl (by decide)).elim) (fun w => zpc_if (fun _ => zpc_fails1 (fun μ1 e1 => zpc_if (fun q => absurd q (by decide)) (fun _ => zpc_some (by subst e1; exact zTh_own)))) (fun q => absurd rfl q))) (fun q => absurd rfl q))
theorem oc_wave (h : ¬ zr 0 271 x) : zpc (fX11_wave σ x) (fun r => ∃ s, r = Sum.inr (s, 1)) := by
  unfold fX11_wave
  refine zpc_bi (P := fun r => r.2 = 0) ?_ (fun s v e => zpc_if (fun _ => zpc_some ⟨s, rfl⟩) (fun q => absurd e q))
  unfold fX10_has fX10_has_10 fX10_has_36 fX10_has_32 fX10_has_37
  have c0 : (0 : Int32).toInt = 0 := rfl
  have c67 : (67 : Int32).toInt = 67 := rfl
  have c128 : (128 : Int32).toInt = 128 := rfl
  have c272 : (272 : Int32).toInt = 272 := rfl
  have l := zn_lo h
  refine zpc_if (fun _ => zpc_if (fun _ => zpc_ck (zpc_some rfl)) (fun q2 => zpc_if (fun _ => zpc_ck (zpc_some rfl)) (fun q3 => ?_))) (fun q => zpc_if (fun q1 => ?_) (fun _ => zpc_if (fun _ => zpc_ck (zpc_some rfl)) (fun q2 => zpc_if (fun _ => zpc_ck (zpc_some rfl)) (fun q3 => ?_))))
  · have r1 := Int32.le_iff_toInt_le.mp (z_nlt q2); have r2 := Int32.lt_iff_toInt_lt.mp (z_nle q3); exfalso; omega
  · have r1 := Int32.le_iff_toInt_le.mp (z_nlt q); have r2 := Int32.le_iff_toInt_le.mp q1; exfalso; omega
  · have r1 := Int32.le_iff_toInt_le.mp (z_nlt q2); have r2 := Int32.lt_iff_toInt_lt.mp (z_nle q3); exfalso; omega
theorem om_wave (h : ¬ zr 0 271 x) : zpc (fX12_wave μ x) (fun r => zTh 1 r.1) := by
  unfold fX12_wave fX12_wave_36 fX12_wave_41
  exact zpc_within (fun w1 w2 => (z_wno h w1 w2 rfl rfl (by decide)).elim) (fun w => zpc_if (fun _ => zpc_within (fun w1 w2 => (z_wno h w1 w2 rfl rfl (by decide)).elim) (fun w => zpc_if (fun _ => zpc_fails1 (fun μ1 e1 => zpc_if (fun q => absurd q (by decide)) (fun _ => zpc_some (by subst e1; exact zTh_own)))) (fun q => absurd rfl q))) (fun q => absurd rfl q))
theorem oc_trace (h : ¬ zr 0 31 x) : zpc (fX11_trace σ x) (fun r => r.2 = -1) := by
  unfold fX11_trace
  refine zpc_bi (P := fun r => r.2 = -1) ?_ (fun s v e => zpc_some e)
  unfold fX1_stepBack fX1_stepBack_10 fX1_stepBack_30
  refine zpc_if (fun _ => zpc_some rfl) (fun q => zpc_if (fun q1 => ?_) (fun _ => zpc_some rfl))
  have c0 : (0 : Int32).toInt = 0 := rfl
  have c32 : (32 : Int32).toInt = 32 := rfl
  have r1 := Int32.le_iff_toInt_le.mp (z_nlt q)
  have r2 := Int32.lt_iff_toInt_lt.mp q1
  exact absurd ⟨by omega, by omega⟩ h
theorem om_trace (h : ¬ zr 0 31 x) : zpc (fX12_trace μ x) (fun r => r.2 = -1) := by
  unfold fX12_trace fX12_trace_27 fX12_trace_50
  exact zpc_bv (fun _ _ => zpc_within (fun w1 w2 => (z_wno h w1 w2 rfl rfl (by decide)).elim) (fun w => zpc_if (fun _ => zpc_some rfl) (fun q => absurd rfl q)))
end ZOUT
section ZV1
variable {σ μ : zSt} {x : Int32} {k : Fin 3}
theorem v1_register (h : zFr k σ μ) : zp2 (fL_register (fun _ => 0) σ x) (fX12_register μ x) zCv := by
  obtain ⟨e1, e2⟩ := h
  by_cases q : zr 0 26 x
  · obtain ⟨i, e⟩ := z_finof (n := 27) q
    rw [e, e1, e2]
    exact zc1_of (d_register k i)
  · unfold fL_register
    exact zOut (oc_register q) (om_register q)
theorem v1_sound (h : zFr k σ μ) : zp2 (fL_sound (fun _ => 0) σ x) (fX12_sound μ x) zCv := by
  obtain ⟨e1, e2⟩ := h
  by_cases q : zr 0 18 x
  · obtain ⟨i, e⟩ := z_finof (n := 19) q
    rw [e, e1, e2]
    exact zc1_of (d_sound k i)
  · unfold fL_sound
    exact zOut (oc_sound q) (om_sound q)
theorem v1_chip (h : zFr k σ μ) : zp2 (fL_chip (fun _ => 0) σ x) (fX12_chip μ x) zCv := by
  obtain ⟨e1, e2⟩ := h
  by_cases q : zr 0 95 x
  · obtain ⟨i, e⟩ := z_finof (n := 96) q
    rw [e, e1, e2]
    exact zc1_of (d_chip k i)
  · unfold fL_chip
    exact zOut (oc_chip q) (om_chip q)
theorem v1_wave (h : zFr k σ μ) : zp2 (fL_wave (fun _ => 0) σ x) (fX12_wave μ x) zCv := by
  obtain ⟨e1, e2⟩ := h
  by_cases q : zr 0 271 x
  · obtain ⟨i, e⟩ := z_finof (n := 272) q
    rw [e, e1, e2]
    exact zc1_of (d_wave k i)
  · unfold fL_wave
    exact zOut (oc_wave q) (om_wave q)
theorem v1_card (h : zFr k σ μ) : zp2 (fL_card (fun _ => 0) σ x) (fX12_card μ x) zCv := by
  obtain ⟨e1, e2⟩ := h
  by_cases q : zr 0 7 x
  · obtain ⟨i, e⟩ := z_finof (n := 8) q
    rw [e, e1, e2]
    exact zc1_of (d_card k i)
  · unfold fL_card
    exact zOut (oc_card q) (om_card q)
theorem v1_look (h : zFr k σ μ) : zp2 (fL_look (fun _ => 0) σ x) (fX12_look μ x) zCl := by
  obtain ⟨e1, e2⟩ := h
  by_cases q : zr 0 18 x
  · obtain ⟨i, e⟩ := z_finof (n := 19) q
    rw [e, e1, e2]
    exact zc2_of (d_look k i)
  · unfold fL_look
    exact zOutl (oc_look q) (om_look q)
theorem v1_trace (h : zFr k σ μ) : zp2 (fX11_trace σ x) (fX12_trace μ x) (fun r q => r.2 = q.2) := by
  obtain ⟨e1, e2⟩ := h
  by_cases q : zr 0 31 x
  · obtain ⟨i, e⟩ := z_finof (n := 32) q
    rw [e, e1, e2]
    exact zc3_of (d_trace k i)
  · exact zp2_of (oc_trace q) (om_trace q) (fun a b e f => e.trans f.symm)
theorem v1_in (h : zFr k σ μ) : zp2 (fX11_in σ x) (fX12_in μ x) (fun r q => r.2 = q.2) := by
  obtain ⟨e1, e2⟩ := h
  have q : zr 0 255 (x &&& 255) := zr_andr (lo := 0) (hi := 255) (zr_c (lo := 255) (hi := 255) (by decide)) (by decide)
  obtain ⟨i, e⟩ := z_finof (n := 256) q
  have i1 : ∀ y : Int32, fX11_in σ y = fX11_in σ (y &&& 255) := fun y => by unfold fX11_in; rw [Int32.and_assoc, show (255 : Int32) &&& 255 = 255 by decide]
  have i2 : ∀ y : Int32, fX12_in μ y = fX12_in μ (y &&& 255) := fun y => by unfold fX12_in; rw [Int32.and_assoc, show (255 : Int32) &&& 255 = 255 by decide]
  rw [i1, i2, e, e1, e2]
  exact zc3_of (d_in k i)
theorem v1_hear (h : zFr k σ μ) : zp2 (fL_hear (fun _ => 0) σ ) (fX12_hear μ ) zCl := by
  obtain ⟨e1, e2⟩ := h
  rw [e1, e2]
  exact zc2_of (d_hear k)
theorem v1_mix (h : zFr k σ μ) : zp2 (fL_mix (fun _ => 0) σ ) (fX12_mix μ ) zCl := by
  obtain ⟨e1, e2⟩ := h
  rw [e1, e2]
  exact zc2_of (d_mix k)
end ZV1
