theorem q_fLaw_208 {K a b d a1 b1 d1 : Int} {xs : Nat → Int32} {L : Nat} {kn : zSt → (Nat → Int64) → zSt → Int32 → Option Int32} {μ σ : zSt} {o : Nat → Int64} {x4 : Int32} (hM : zRM K a b d μ) (hC : zRC a1 b1 d1 σ) (hb : K + 2100000 ≤ 268435456) (hz : ∀ j : Int32, 0 ≤ j.toInt → j.toInt ≤ 7 → zin (x4 + j) L = true) (hK : ∀ (μ1 : zSt) (o1 : Nat → Int64) (σ1 : zSt) (a b d a1 b1 d1 : Int), zRM (K + 2100000) a b d μ1 → zRC a1 b1 d1 σ1 → zok (kn μ1 o1 σ1 (x4 + 8)) (fun r => r = 1)) : zok (fLaw_208 xs L kn μ o σ x4) (fun r => r = 1) := by
  unfold fLaw_208
  refine zok_ck (hz 1 (by decide) (by decide)) ?_
  refine zok_ck (hz 2 (by decide) (by decide)) ?_
  refine zok_ck (hz 3 (by decide) (by decide)) ?_
  refine zok_ck (hz 4 (by decide) (by decide)) ?_
  refine zok_ck (hz 5 (by decide) (by decide)) ?_
  refine zok_ck (hz 6 (by decide) (by decide)) ?_
  refine zok_ck (hz 7 (by decide) (by decide)) ?_
  refine zok_bh (l_feed hC) (fun o2 s3 _ ⟨_, c1⟩ => ?_)
  refine zok_ck (hz 1 (by decide) (by decide)) ?_
  refine zok_ck (hz 2 (by decide) (by decide)) ?_
  refine zok_ck (hz 3 (by decide) (by decide)) ?_
  refine zok_ck (hz 4 (by decide) (by decide)) ?_
  refine zok_ck (hz 5 (by decide) (by decide)) ?_
  refine zok_ck (hz 6 (by decide) (by decide)) ?_
  refine zok_ck (hz 7 (by decide) (by decide)) ?_
  refine zok_bi (m_feed hM) (fun s5 _ ⟨_, m4⟩ => ?_)
  refine zok_bv (fun v8 e8 => ?_)
  subst e8
  exact hK _ _ _ _ _ _ _ _ _ (m4.mono (by omega) hb) c1
theorem q_fLaw_372 {K a b d a1 b1 d1 : Int} {xs : Nat → Int32} {L : Nat} {kn : zSt → (Nat → Int64) → zSt → Int32 → Option Int32} {μ σ : zSt} {o : Nat → Int64} {x4 : Int32} (hM : zRM K a b d μ) (hC : zRC a1 b1 d1 σ) (hb : K + 2100000 ≤ 268435456) (hz : ∀ j : Int32, 0 ≤ j.toInt → j.toInt ≤ 7 → zin (x4 + j) L = true) (hK : ∀ (μ1 : zSt) (o1 : Nat → Int64) (σ1 : zSt) (a b d a1 b1 d1 : Int), zRM (K + 2100000) a b d μ1 → zRC a1 b1 d1 σ1 → zok (kn μ1 o1 σ1 (x4 + 8)) (fun r => r = 1)) : zok (fLaw_372 xs L kn μ o σ x4) (fun r => r = 1) := by
  unfold fLaw_372
  refine zok_ck (hz 1 (by decide) (by decide)) ?_
  refine zok_bh (l_grow hC) (fun o2 s3 _ ⟨_, c1⟩ => ?_)
  refine zok_ck (hz 1 (by decide) (by decide)) ?_
  refine zok_bi (m_grow hM) (fun s5 _ ⟨_, m4⟩ => ?_)
  refine zok_bv (fun v8 e8 => ?_)
  subst e8
  exact hK _ _ _ _ _ _ _ _ _ (m4.mono (by omega) hb) c1
theorem q_fLaw_400 {K a b d a1 b1 d1 : Int} {xs : Nat → Int32} {L : Nat} {kn : zSt → (Nat → Int64) → zSt → Int32 → Option Int32} {μ σ : zSt} {o : Nat → Int64} {x4 : Int32} (hM : zRM K a b d μ) (hC : zRC a1 b1 d1 σ) (hb : K + 2100000 ≤ 268435456) (hz : ∀ j : Int32, 0 ≤ j.toInt → j.toInt ≤ 7 → zin (x4 + j) L = true) (hK : ∀ (μ1 : zSt) (o1 : Nat → Int64) (σ1 : zSt) (a b d a1 b1 d1 : Int), zRM (K + 2100000) a b d μ1 → zRC a1 b1 d1 σ1 → zok (kn μ1 o1 σ1 (x4 + 8)) (fun r => r = 1)) : zok (fLaw_400 xs L kn μ o σ x4) (fun r => r = 1) := by
  unfold fLaw_400
  refine zok_ck (hz 1 (by decide) (by decide)) ?_
  refine zok_ck (hz 2 (by decide) (by decide)) ?_
  refine zok_ck (hz 3 (by decide) (by decide)) ?_
  refine zok_bi (l_patch hC) (fun s2 _ c1 => ?_)
  refine zok_ck (hz 1 (by decide) (by decide)) ?_
  refine zok_ck (hz 2 (by decide) (by decide)) ?_
  refine zok_ck (hz 3 (by decide) (by decide)) ?_
  refine zok_bu (m_patch hM) (fun s4 m3 => ?_)
  refine zok_bv (fun v8 e8 => ?_)
  subst e8
  exact hK _ _ _ _ _ _ _ _ _ (m3.mono (by omega) hb) c1
theorem q_fLaw_469 {K a b d a1 b1 d1 : Int} {xs : Nat → Int32} {L : Nat} {kn : zSt → (Nat → Int64) → zSt → Int32 → Option Int32} {μ σ : zSt} {o : Nat → Int64} {x4 : Int32} (hM : zRM K a b d μ) (hC : zRC a1 b1 d1 σ) (hb : K + 2100000 ≤ 268435456) (hz : ∀ j : Int32, 0 ≤ j.toInt → j.toInt ≤ 7 → zin (x4 + j) L = true) (hK : ∀ (μ1 : zSt) (o1 : Nat → Int64) (σ1 : zSt) (a b d a1 b1 d1 : Int), zRM (K + 2100000) a b d μ1 → zRC a1 b1 d1 σ1 → zok (kn μ1 o1 σ1 (x4 + 8)) (fun r => r = 1)) : zok (fLaw_469 xs L kn μ o σ x4) (fun r => r = 1) := by
  unfold fLaw_469
  refine zok_bi (c_load hC) (fun s2 _ ⟨_, _, c1⟩ => ?_)
  refine zok_bi (m_load hM) (fun s4 _ ⟨_, _, m3⟩ => ?_)
  refine zok_bv (fun v8 e8 => ?_)
  subst e8
  exact hK _ _ _ _ _ _ _ _ _ (m3.mono (by omega) hb) c1
theorem q_fLaw_482 {K a b d a1 b1 d1 : Int} {xs : Nat → Int32} {L : Nat} {kn : zSt → (Nat → Int64) → zSt → Int32 → Option Int32} {μ σ : zSt} {o : Nat → Int64} {x4 : Int32} (hM : zRM K a b d μ) (hC : zRC a1 b1 d1 σ) (hb : K + 2100000 ≤ 268435456) (hz : ∀ j : Int32, 0 ≤ j.toInt → j.toInt ≤ 7 → zin (x4 + j) L = true) (hK : ∀ (μ1 : zSt) (o1 : Nat → Int64) (σ1 : zSt) (a b d a1 b1 d1 : Int), zRM (K + 2100000) a b d μ1 → zRC a1 b1 d1 σ1 → zok (kn μ1 o1 σ1 (x4 + 8)) (fun r => r = 1)) : zok (fLaw_482 xs L kn μ o σ x4) (fun r => r = 1) := by
  unfold fLaw_482
  refine zok_ck (hz 1 (by decide) (by decide)) ?_
  refine zok_bh (l_card hC) (fun o2 s3 _ c1 => ?_)
  refine zok_ck (hz 1 (by decide) (by decide)) ?_
  refine zok_bi (m_card hM) (fun s5 _ m4 => ?_)
  refine zok_bv (fun v8 e8 => ?_)
  subst e8
  exact hK _ _ _ _ _ _ _ _ _ (m4.mono (by omega) hb) c1
theorem q_fLaw_510 {K a b d a1 b1 d1 : Int} {xs : Nat → Int32} {L : Nat} {kn : zSt → (Nat → Int64) → zSt → Int32 → Option Int32} {μ σ : zSt} {o : Nat → Int64} {x4 : Int32} (hM : zRM K a b d μ) (hC : zRC a1 b1 d1 σ) (hb : K + 2100000 ≤ 268435456) (hz : ∀ j : Int32, 0 ≤ j.toInt → j.toInt ≤ 7 → zin (x4 + j) L = true) (hK : ∀ (μ1 : zSt) (o1 : Nat → Int64) (σ1 : zSt) (a b d a1 b1 d1 : Int), zRM (K + 2100000) a b d μ1 → zRC a1 b1 d1 σ1 → zok (kn μ1 o1 σ1 (x4 + 8)) (fun r => r = 1)) : zok (fLaw_510 xs L kn μ o σ x4) (fun r => r = 1) := by
  unfold fLaw_510
  refine zok_ck (hz 1 (by decide) (by decide)) ?_
  refine zok_bh (l_step hC) (fun o2 s3 _ c1 => ?_)
  refine zok_ck (hz 1 (by decide) (by decide)) ?_
  refine zok_bi (m_step hM hb) (fun s5 _ m4 => ?_)
  refine zok_bv (fun v8 e8 => ?_)
  subst e8
  exact hK _ _ _ _ _ _ _ _ _ m4 c1
theorem q_fLaw_538 {K a b d a1 b1 d1 : Int} {xs : Nat → Int32} {L : Nat} {kn : zSt → (Nat → Int64) → zSt → Int32 → Option Int32} {μ σ : zSt} {o : Nat → Int64} {x4 : Int32} (hM : zRM K a b d μ) (hC : zRC a1 b1 d1 σ) (hb : K + 2100000 ≤ 268435456) (hz : ∀ j : Int32, 0 ≤ j.toInt → j.toInt ≤ 7 → zin (x4 + j) L = true) (hK : ∀ (μ1 : zSt) (o1 : Nat → Int64) (σ1 : zSt) (a b d a1 b1 d1 : Int), zRM (K + 2100000) a b d μ1 → zRC a1 b1 d1 σ1 → zok (kn μ1 o1 σ1 (x4 + 8)) (fun r => r = 1)) : zok (fLaw_538 xs L kn μ o σ x4) (fun r => r = 1) := by
  unfold fLaw_538
  refine zok_ck (hz 1 (by decide) (by decide)) ?_
  refine zok_bh (l_picture hC) (fun o2 s3 _ c1 => ?_)
  refine zok_ck (hz 1 (by decide) (by decide)) ?_
  refine zok_bi (m_picture hM hb) (fun s5 _ m4 => ?_)
  refine zok_bv (fun v8 e8 => ?_)
  subst e8
  exact hK _ _ _ _ _ _ _ _ _ m4 c1
theorem q_fLaw_566 {K a b d a1 b1 d1 : Int} {xs : Nat → Int32} {L : Nat} {kn : zSt → (Nat → Int64) → zSt → Int32 → Option Int32} {μ σ : zSt} {o : Nat → Int64} {x4 : Int32} (hM : zRM K a b d μ) (hC : zRC a1 b1 d1 σ) (hb : K + 2100000 ≤ 268435456) (hz : ∀ j : Int32, 0 ≤ j.toInt → j.toInt ≤ 7 → zin (x4 + j) L = true) (hK : ∀ (μ1 : zSt) (o1 : Nat → Int64) (σ1 : zSt) (a b d a1 b1 d1 : Int), zRM (K + 2100000) a b d μ1 → zRC a1 b1 d1 σ1 → zok (kn μ1 o1 σ1 (x4 + 8)) (fun r => r = 1)) : zok (fLaw_566 xs L kn μ o σ x4) (fun r => r = 1) := by
  unfold fLaw_566
  refine zok_bu (c_reset hC) (fun s2 c1 => ?_)
  refine zok_bu (m_reset hM) (fun s4 m3 => ?_)
  refine zok_bv (fun v8 e8 => ?_)
  subst e8
  exact hK _ _ _ _ _ _ _ _ _ (m3.mono (by omega) hb) c1
theorem q_fLaw_577 {K a b d a1 b1 d1 : Int} {xs : Nat → Int32} {L : Nat} {kn : zSt → (Nat → Int64) → zSt → Int32 → Option Int32} {μ σ : zSt} {o : Nat → Int64} {x4 : Int32} (hM : zRM K a b d μ) (hC : zRC a1 b1 d1 σ) (hb : K + 2100000 ≤ 268435456) (hz : ∀ j : Int32, 0 ≤ j.toInt → j.toInt ≤ 7 → zin (x4 + j) L = true) (hK : ∀ (μ1 : zSt) (o1 : Nat → Int64) (σ1 : zSt) (a b d a1 b1 d1 : Int), zRM (K + 2100000) a b d μ1 → zRC a1 b1 d1 σ1 → zok (kn μ1 o1 σ1 (x4 + 8)) (fun r => r = 1)) : zok (fLaw_577 xs L kn μ o σ x4) (fun r => r = 1) := by
  unfold fLaw_577
  refine zok_bi (c_pause hC) (fun s2 _ c1 => ?_)
  refine zok_bi (m_pause hM) (fun s4 _ m3 => ?_)
  refine zok_bv (fun v8 e8 => ?_)
  subst e8
  exact hK _ _ _ _ _ _ _ _ _ (m3.mono (by omega) hb) c1
theorem q_fLaw_590 {K a b d a1 b1 d1 : Int} {xs : Nat → Int32} {L : Nat} {kn : zSt → (Nat → Int64) → zSt → Int32 → Option Int32} {μ σ : zSt} {o : Nat → Int64} {x4 : Int32} (hM : zRM K a b d μ) (hC : zRC a1 b1 d1 σ) (hb : K + 2100000 ≤ 268435456) (hz : ∀ j : Int32, 0 ≤ j.toInt → j.toInt ≤ 7 → zin (x4 + j) L = true) (hK : ∀ (μ1 : zSt) (o1 : Nat → Int64) (σ1 : zSt) (a b d a1 b1 d1 : Int), zRM (K + 2100000) a b d μ1 → zRC a1 b1 d1 σ1 → zok (kn μ1 o1 σ1 (x4 + 8)) (fun r => r = 1)) : zok (fLaw_590 xs L kn μ o σ x4) (fun r => r = 1) := by
  unfold fLaw_590
  refine zok_ck (hz 1 (by decide) (by decide)) (zok_ck (hz 2 (by decide) (by decide)) ?_)
  obtain ⟨hKb, G, iM, kM, sM1, eM⟩ := hM
  obtain ⟨H, iC, eC⟩ := hC
  refine zok_bi (q_pressC iC) (fun σ1 v1 hv => ?_)
  refine zok_ck (hz 1 (by decide) (by decide)) (zok_ck (hz 2 (by decide) (by decide)) ?_)
  refine zok_bu (q_pressM iM) (fun μ1 hw => ?_)
  refine zok_thrown ?_
  have e : zgi μ1 0 0 = v1 := by
    rcases hv.2 with ⟨x, y⟩ | ⟨x, y⟩ <;> rcases hw.2 with ⟨z, w⟩ | ⟨z, w⟩
    · exact w.trans y.symm
    · exact absurd x z
    · exact absurd z x
    · exact w.trans y.symm
  refine zok_if (fun _ => ?_) (fun q => absurd e q)
  refine zok_bv (fun v8 e8 => ?_)
  subst e8
  have hM2 : zRM K a b d μ1 := ⟨hKb, G, hw.1, kM, sM1, eM⟩
  exact hK _ _ _ _ _ _ _ _ _ (hM2.mono (by omega) hb) ⟨H, hv.1, eC⟩
theorem q_fLaw_638 {K a b d a1 b1 d1 : Int} {xs : Nat → Int32} {L : Nat} {kn : zSt → (Nat → Int64) → zSt → Int32 → Option Int32} {μ σ : zSt} {o : Nat → Int64} {x4 : Int32} (hM : zRM K a b d μ) (hC : zRC a1 b1 d1 σ) (hb : K + 2100000 ≤ 268435456) (hz : ∀ j : Int32, 0 ≤ j.toInt → j.toInt ≤ 7 → zin (x4 + j) L = true) (hK : ∀ (μ1 : zSt) (o1 : Nat → Int64) (σ1 : zSt) (a b d a1 b1 d1 : Int), zRM (K + 2100000) a b d μ1 → zRC a1 b1 d1 σ1 → zok (kn μ1 o1 σ1 (x4 + 8)) (fun r => r = 1)) : zok (fLaw_638 xs L kn μ o σ x4) (fun r => r = 1) := by
  unfold fLaw_638
  refine zok_ck (hz 1 (by decide) (by decide)) ?_
  refine zok_if (fun q1 => ?_) (fun q1 => ?_)
  · refine zok_bu (c_start hC (zr_c (by decide))) (fun s3 c2 => ?_)
    refine zok_ck (hz 1 (by decide) (by decide)) ?_
    refine zok_if (fun q4 => ?_) (fun q4 => ?_)
    · refine zok_bu (m_start hM (zr_c (by decide))) (fun s6 m5 => ?_)
      refine zok_bv (fun v8 e8 => ?_)
      subst e8
      exact hK _ _ _ _ _ _ _ _ _ (m5.mono (by omega) hb) c2
    · refine zok_bu (m_start hM (zr_c (by decide))) (fun s8 m7 => ?_)
      refine zok_bv (fun v8 e8 => ?_)
      subst e8
      exact hK _ _ _ _ _ _ _ _ _ (m7.mono (by omega) hb) c2
  · refine zok_bu (c_start hC (zr_c (by decide))) (fun s10 c9 => ?_)
    refine zok_ck (hz 1 (by decide) (by decide)) ?_
    refine zok_if (fun q11 => ?_) (fun q11 => ?_)
    · refine zok_bu (m_start hM (zr_c (by decide))) (fun s13 m12 => ?_)
      refine zok_bv (fun v8 e8 => ?_)
      subst e8
      exact hK _ _ _ _ _ _ _ _ _ (m12.mono (by omega) hb) c9
    · refine zok_bu (m_start hM (zr_c (by decide))) (fun s15 m14 => ?_)
      refine zok_bv (fun v8 e8 => ?_)
      subst e8
      exact hK _ _ _ _ _ _ _ _ _ (m14.mono (by omega) hb) c9
theorem q_fLaw_677 {K a b d a1 b1 d1 : Int} {xs : Nat → Int32} {L : Nat} {kn : zSt → (Nat → Int64) → zSt → Int32 → Option Int32} {μ σ : zSt} {o : Nat → Int64} {x4 : Int32} (hM : zRM K a b d μ) (hC : zRC a1 b1 d1 σ) (hb : K + 2100000 ≤ 268435456) (hz : ∀ j : Int32, 0 ≤ j.toInt → j.toInt ≤ 7 → zin (x4 + j) L = true) (hK : ∀ (μ1 : zSt) (o1 : Nat → Int64) (σ1 : zSt) (a b d a1 b1 d1 : Int), zRM (K + 2100000) a b d μ1 → zRC a1 b1 d1 σ1 → zok (kn μ1 o1 σ1 (x4 + 8)) (fun r => r = 1)) : zok (fLaw_677 xs L kn μ o σ x4) (fun r => r = 1) := by
  unfold fLaw_677
  refine zok_ck (hz 1 (by decide) (by decide)) ?_
  refine zok_ck (hz 2 (by decide) (by decide)) ?_
  refine zok_if (fun q1 => ?_) (fun q1 => ?_)
  · refine zok_bi (l_line hC (zr_c (by decide))) (fun s3 _ c2 => ?_)
    refine zok_ck (hz 1 (by decide) (by decide)) ?_
    refine zok_ck (hz 2 (by decide) (by decide)) ?_
    refine zok_if (fun q4 => ?_) (fun q4 => ?_)
    · refine zok_bu (m_line hM (zr_c (by decide))) (fun s6 m5 => ?_)
      refine zok_bv (fun v8 e8 => ?_)
      subst e8
      exact hK _ _ _ _ _ _ _ _ _ (m5.mono (by omega) hb) c2
    · refine zok_bu (m_line hM (zr_c (by decide))) (fun s8 m7 => ?_)
      refine zok_bv (fun v8 e8 => ?_)
      subst e8
      exact hK _ _ _ _ _ _ _ _ _ (m7.mono (by omega) hb) c2
  · refine zok_bi (l_line hC (zr_c (by decide))) (fun s10 _ c9 => ?_)
    refine zok_ck (hz 1 (by decide) (by decide)) ?_
    refine zok_ck (hz 2 (by decide) (by decide)) ?_
    refine zok_if (fun q11 => ?_) (fun q11 => ?_)
    · refine zok_bu (m_line hM (zr_c (by decide))) (fun s13 m12 => ?_)
      refine zok_bv (fun v8 e8 => ?_)
      subst e8
      exact hK _ _ _ _ _ _ _ _ _ (m12.mono (by omega) hb) c9
    · refine zok_bu (m_line hM (zr_c (by decide))) (fun s15 m14 => ?_)
      refine zok_bv (fun v8 e8 => ?_)
      subst e8
      exact hK _ _ _ _ _ _ _ _ _ (m14.mono (by omega) hb) c9
theorem q_fLaw_730 {K a b d a1 b1 d1 : Int} {xs : Nat → Int32} {L : Nat} {kn : zSt → (Nat → Int64) → zSt → Int32 → Option Int32} {μ σ : zSt} {o : Nat → Int64} {x4 : Int32} (hM : zRM K a b d μ) (hC : zRC a1 b1 d1 σ) (hb : K + 2100000 ≤ 268435456) (hz : ∀ j : Int32, 0 ≤ j.toInt → j.toInt ≤ 7 → zin (x4 + j) L = true) (hK : ∀ (μ1 : zSt) (o1 : Nat → Int64) (σ1 : zSt) (a b d a1 b1 d1 : Int), zRM (K + 2100000) a b d μ1 → zRC a1 b1 d1 σ1 → zok (kn μ1 o1 σ1 (x4 + 8)) (fun r => r = 1)) : zok (fLaw_730 xs L kn μ o σ x4) (fun r => r = 1) := by
  unfold fLaw_730
  refine zok_ck (hz 1 (by decide) (by decide)) ?_
  refine zok_ck (hz 2 (by decide) (by decide)) ?_
  refine zok_ck (hz 3 (by decide) (by decide)) ?_
  refine zok_bh (l_plan hC) (fun o2 s3 _ c1 => ?_)
  refine zok_ck (hz 1 (by decide) (by decide)) ?_
  refine zok_ck (hz 2 (by decide) (by decide)) ?_
  refine zok_ck (hz 3 (by decide) (by decide)) ?_
  refine zok_bi (m_plan hM) (fun s5 _ m4 => ?_)
  refine zok_bv (fun v8 e8 => ?_)
  subst e8
  exact hK _ _ _ _ _ _ _ _ _ (m4.mono (by omega) hb) c1
theorem q_fLaw_782 {K a b d a1 b1 d1 : Int} {xs : Nat → Int32} {L : Nat} {kn : zSt → (Nat → Int64) → zSt → Int32 → Option Int32} {μ σ : zSt} {o : Nat → Int64} {x4 : Int32} (hM : zRM K a b d μ) (hC : zRC a1 b1 d1 σ) (hb : K + 2100000 ≤ 268435456) (hz : ∀ j : Int32, 0 ≤ j.toInt → j.toInt ≤ 7 → zin (x4 + j) L = true) (hK : ∀ (μ1 : zSt) (o1 : Nat → Int64) (σ1 : zSt) (a b d a1 b1 d1 : Int), zRM (K + 2100000) a b d μ1 → zRC a1 b1 d1 σ1 → zok (kn μ1 o1 σ1 (x4 + 8)) (fun r => r = 1)) : zok (fLaw_782 xs L kn μ o σ x4) (fun r => r = 1) := by
  unfold fLaw_782
  refine zok_ck (hz 1 (by decide) (by decide)) ?_
  refine zok_bi (c_tell hC) (fun s2 _ c1 => ?_)
  refine zok_ck (hz 1 (by decide) (by decide)) ?_
  refine zok_bi (m_tell hM) (fun s4 _ m3 => ?_)
  refine zok_bv (fun v8 e8 => ?_)
  subst e8
  exact hK _ _ _ _ _ _ _ _ _ (m3.mono (by omega) hb) c1
theorem q_fLaw_807 {K a b d a1 b1 d1 : Int} {xs : Nat → Int32} {L : Nat} {kn : zSt → (Nat → Int64) → zSt → Int32 → Option Int32} {μ σ : zSt} {o : Nat → Int64} {x4 : Int32} (hM : zRM K a b d μ) (hC : zRC a1 b1 d1 σ) (hb : K + 2100000 ≤ 268435456) (hz : ∀ j : Int32, 0 ≤ j.toInt → j.toInt ≤ 7 → zin (x4 + j) L = true) (hK : ∀ (μ1 : zSt) (o1 : Nat → Int64) (σ1 : zSt) (a b d a1 b1 d1 : Int), zRM (K + 2100000) a b d μ1 → zRC a1 b1 d1 σ1 → zok (kn μ1 o1 σ1 (x4 + 8)) (fun r => r = 1)) : zok (fLaw_807 xs L kn μ o σ x4) (fun r => r = 1) := by
  unfold fLaw_807
  refine zok_ck (hz 1 (by decide) (by decide)) ?_
  refine zok_bh (l_text hC) (fun o2 s3 _ c1 => ?_)
  refine zok_ck (hz 1 (by decide) (by decide)) ?_
  refine zok_bll (m_text hM) (fun s5 _ m4 => ?_)
  refine zok_bv (fun v8 e8 => ?_)
  subst e8
  exact hK _ _ _ _ _ _ _ _ _ (m4.mono (by omega) hb) c1
theorem q_fLaw_835 {K a b d a1 b1 d1 : Int} {xs : Nat → Int32} {L : Nat} {kn : zSt → (Nat → Int64) → zSt → Int32 → Option Int32} {μ σ : zSt} {o : Nat → Int64} {x4 : Int32} (hM : zRM K a b d μ) (hC : zRC a1 b1 d1 σ) (hb : K + 2100000 ≤ 268435456) (hz : ∀ j : Int32, 0 ≤ j.toInt → j.toInt ≤ 7 → zin (x4 + j) L = true) (hK : ∀ (μ1 : zSt) (o1 : Nat → Int64) (σ1 : zSt) (a b d a1 b1 d1 : Int), zRM (K + 2100000) a b d μ1 → zRC a1 b1 d1 σ1 → zok (kn μ1 o1 σ1 (x4 + 8)) (fun r => r = 1)) : zok (fLaw_835 xs L kn μ o σ x4) (fun r => r = 1) := by
  unfold fLaw_835
  refine zok_ck (hz 1 (by decide) (by decide)) ?_
  refine zok_ck (hz 2 (by decide) (by decide)) ?_
  refine zok_if (fun q1 => ?_) (fun q1 => ?_)
  · refine zok_bh (l_stop hC (zr_c (by decide))) (fun o3 s4 _ c2 => ?_)
    refine zok_ck (hz 1 (by decide) (by decide)) ?_
    refine zok_ck (hz 2 (by decide) (by decide)) ?_
    refine zok_if (fun q5 => ?_) (fun q5 => ?_)
    · refine zok_bi (m_stop hM (zr_c (by decide))) (fun s7 _ m6 => ?_)
      refine zok_bv (fun v8 e8 => ?_)
      subst e8
      exact hK _ _ _ _ _ _ _ _ _ (m6.mono (by omega) hb) c2
    · refine zok_bi (m_stop hM (zr_c (by decide))) (fun s9 _ m8 => ?_)
      refine zok_bv (fun v8 e8 => ?_)
      subst e8
      exact hK _ _ _ _ _ _ _ _ _ (m8.mono (by omega) hb) c2
  · refine zok_bh (l_stop hC (zr_c (by decide))) (fun o11 s12 _ c10 => ?_)
    refine zok_ck (hz 1 (by decide) (by decide)) ?_
    refine zok_ck (hz 2 (by decide) (by decide)) ?_
    refine zok_if (fun q13 => ?_) (fun q13 => ?_)
    · refine zok_bi (m_stop hM (zr_c (by decide))) (fun s15 _ m14 => ?_)
      refine zok_bv (fun v8 e8 => ?_)
      subst e8
      exact hK _ _ _ _ _ _ _ _ _ (m14.mono (by omega) hb) c10
    · refine zok_bi (m_stop hM (zr_c (by decide))) (fun s17 _ m16 => ?_)
      refine zok_bv (fun v8 e8 => ?_)
      subst e8
      exact hK _ _ _ _ _ _ _ _ _ (m16.mono (by omega) hb) c10
theorem q_fLaw_891 {K a b d a1 b1 d1 : Int} {xs : Nat → Int32} {L : Nat} {kn : zSt → (Nat → Int64) → zSt → Int32 → Option Int32} {μ σ : zSt} {o : Nat → Int64} {x4 : Int32} (hM : zRM K a b d μ) (hC : zRC a1 b1 d1 σ) (hb : K + 2100000 ≤ 268435456) (hz : ∀ j : Int32, 0 ≤ j.toInt → j.toInt ≤ 7 → zin (x4 + j) L = true) (hK : ∀ (μ1 : zSt) (o1 : Nat → Int64) (σ1 : zSt) (a b d a1 b1 d1 : Int), zRM (K + 2100000) a b d μ1 → zRC a1 b1 d1 σ1 → zok (kn μ1 o1 σ1 (x4 + 8)) (fun r => r = 1)) : zok (fLaw_891 xs L kn μ o σ x4) (fun r => r = 1) := by
  unfold fLaw_891
  refine zok_bu (c_save hC) (fun s2 ⟨_, c1⟩ => ?_)
  refine zok_bu (m_save hM) (fun s4 m3 => ?_)
  refine zok_bv (fun v8 e8 => ?_)
  subst e8
  exact hK _ _ _ _ _ _ _ _ _ (m3.mono (by omega) hb) c1
theorem q_fLaw_902 {K a b d a1 b1 d1 : Int} {xs : Nat → Int32} {L : Nat} {kn : zSt → (Nat → Int64) → zSt → Int32 → Option Int32} {μ σ : zSt} {o : Nat → Int64} {x4 : Int32} (hM : zRM K a b d μ) (hC : zRC a1 b1 d1 σ) (hb : K + 2100000 ≤ 268435456) (hz : ∀ j : Int32, 0 ≤ j.toInt → j.toInt ≤ 7 → zin (x4 + j) L = true) (hK : ∀ (μ1 : zSt) (o1 : Nat → Int64) (σ1 : zSt) (a b d a1 b1 d1 : Int), zRM (K + 2100000) a b d μ1 → zRC a1 b1 d1 σ1 → zok (kn μ1 o1 σ1 (x4 + 8)) (fun r => r = 1)) : zok (fLaw_902 xs L kn μ o σ x4) (fun r => r = 1) := by
  unfold fLaw_902
  refine zok_bi (l_restore hC) (fun s2 _ c1 => ?_)
  refine zok_bu (m_restore hM) (fun s4 m3 => ?_)
  refine zok_bv (fun v8 e8 => ?_)
  subst e8
  exact hK _ _ _ _ _ _ _ _ _ (m3.mono (by omega) hb) c1
theorem q_fLaw_915 {K a b d a1 b1 d1 : Int} {xs : Nat → Int32} {L : Nat} {kn : zSt → (Nat → Int64) → zSt → Int32 → Option Int32} {μ σ : zSt} {o : Nat → Int64} {x4 : Int32} (hM : zRM K a b d μ) (hC : zRC a1 b1 d1 σ) (hb : K + 2100000 ≤ 268435456) (hz : ∀ j : Int32, 0 ≤ j.toInt → j.toInt ≤ 7 → zin (x4 + j) L = true) (hK : ∀ (μ1 : zSt) (o1 : Nat → Int64) (σ1 : zSt) (a b d a1 b1 d1 : Int), zRM (K + 2100000) a b d μ1 → zRC a1 b1 d1 σ1 → zok (kn μ1 o1 σ1 (x4 + 8)) (fun r => r = 1)) : zok (fLaw_915 xs L kn μ o σ x4) (fun r => r = 1) := by
  unfold fLaw_915
  refine zok_ck (hz 1 (by decide) (by decide)) ?_
  refine zok_bh (l_register hC) (fun o2 s3 _ c1 => ?_)
  refine zok_ck (hz 1 (by decide) (by decide)) ?_
  refine zok_bi (m_register hM) (fun s5 _ m4 => ?_)
  refine zok_bv (fun v8 e8 => ?_)
  subst e8
  exact hK _ _ _ _ _ _ _ _ _ (m4.mono (by omega) hb) c1
theorem q_fLaw_943 {K a b d a1 b1 d1 : Int} {xs : Nat → Int32} {L : Nat} {kn : zSt → (Nat → Int64) → zSt → Int32 → Option Int32} {μ σ : zSt} {o : Nat → Int64} {x4 : Int32} (hM : zRM K a b d μ) (hC : zRC a1 b1 d1 σ) (hb : K + 2100000 ≤ 268435456) (hz : ∀ j : Int32, 0 ≤ j.toInt → j.toInt ≤ 7 → zin (x4 + j) L = true) (hK : ∀ (μ1 : zSt) (o1 : Nat → Int64) (σ1 : zSt) (a b d a1 b1 d1 : Int), zRM (K + 2100000) a b d μ1 → zRC a1 b1 d1 σ1 → zok (kn μ1 o1 σ1 (x4 + 8)) (fun r => r = 1)) : zok (fLaw_943 xs L kn μ o σ x4) (fun r => r = 1) := by
  unfold fLaw_943
  refine zok_ck (hz 1 (by decide) (by decide)) ?_
  refine zok_ck (hz 2 (by decide) (by decide)) ?_
  refine zok_bi (l_set hC) (fun s2 _ c1 => ?_)
  refine zok_ck (hz 1 (by decide) (by decide)) ?_
  refine zok_ck (hz 2 (by decide) (by decide)) ?_
  refine zok_bu (m_set hM) (fun s4 m3 => ?_)
  refine zok_bv (fun v8 e8 => ?_)
  subst e8
  exact hK _ _ _ _ _ _ _ _ _ (m3.mono (by omega) hb) c1
theorem q_fLaw_980 {K a b d a1 b1 d1 : Int} {xs : Nat → Int32} {L : Nat} {kn : zSt → (Nat → Int64) → zSt → Int32 → Option Int32} {μ σ : zSt} {o : Nat → Int64} {x4 : Int32} (hM : zRM K a b d μ) (hC : zRC a1 b1 d1 σ) (hb : K + 2100000 ≤ 268435456) (hz : ∀ j : Int32, 0 ≤ j.toInt → j.toInt ≤ 7 → zin (x4 + j) L = true) (hK : ∀ (μ1 : zSt) (o1 : Nat → Int64) (σ1 : zSt) (a b d a1 b1 d1 : Int), zRM (K + 2100000) a b d μ1 → zRC a1 b1 d1 σ1 → zok (kn μ1 o1 σ1 (x4 + 8)) (fun r => r = 1)) : zok (fLaw_980 xs L kn μ o σ x4) (fun r => r = 1) := by
  unfold fLaw_980
  refine zok_ck (hz 1 (by decide) (by decide)) ?_
  refine zok_bi (c_peek hC) (fun s2 _ c1 => ?_)
  refine zok_ck (hz 1 (by decide) (by decide)) ?_
  refine zok_bi (m_peek hM) (fun s4 _ m3 => ?_)
  refine zok_bv (fun v8 e8 => ?_)
  subst e8
  exact hK _ _ _ _ _ _ _ _ _ (m3.mono (by omega) hb) c1
theorem q_fLaw_1005 {K a b d a1 b1 d1 : Int} {xs : Nat → Int32} {L : Nat} {kn : zSt → (Nat → Int64) → zSt → Int32 → Option Int32} {μ σ : zSt} {o : Nat → Int64} {x4 : Int32} (hM : zRM K a b d μ) (hC : zRC a1 b1 d1 σ) (hb : K + 2100000 ≤ 268435456) (hz : ∀ j : Int32, 0 ≤ j.toInt → j.toInt ≤ 7 → zin (x4 + j) L = true) (hK : ∀ (μ1 : zSt) (o1 : Nat → Int64) (σ1 : zSt) (a b d a1 b1 d1 : Int), zRM (K + 2100000) a b d μ1 → zRC a1 b1 d1 σ1 → zok (kn μ1 o1 σ1 (x4 + 8)) (fun r => r = 1)) : zok (fLaw_1005 xs L kn μ o σ x4) (fun r => r = 1) := by
  unfold fLaw_1005
  refine zok_ck (hz 1 (by decide) (by decide)) ?_
  refine zok_ck (hz 2 (by decide) (by decide)) ?_
  refine zok_bu (c_poke hC) (fun s2 c1 => ?_)
  refine zok_ck (hz 1 (by decide) (by decide)) ?_
  refine zok_ck (hz 2 (by decide) (by decide)) ?_
  refine zok_bu (m_poke hM) (fun s4 m3 => ?_)
  refine zok_bv (fun v8 e8 => ?_)
  subst e8
  exact hK _ _ _ _ _ _ _ _ _ (m3.mono (by omega) hb) c1
theorem q_fLaw_1040 {K a b d a1 b1 d1 : Int} {xs : Nat → Int32} {L : Nat} {kn : zSt → (Nat → Int64) → zSt → Int32 → Option Int32} {μ σ : zSt} {o : Nat → Int64} {x4 : Int32} (hM : zRM K a b d μ) (hC : zRC a1 b1 d1 σ) (hb : K + 2100000 ≤ 268435456) (hz : ∀ j : Int32, 0 ≤ j.toInt → j.toInt ≤ 7 → zin (x4 + j) L = true) (hK : ∀ (μ1 : zSt) (o1 : Nat → Int64) (σ1 : zSt) (a b d a1 b1 d1 : Int), zRM (K + 2100000) a b d μ1 → zRC a1 b1 d1 σ1 → zok (kn μ1 o1 σ1 (x4 + 8)) (fun r => r = 1)) : zok (fLaw_1040 xs L kn μ o σ x4) (fun r => r = 1) := by
  unfold fLaw_1040
  refine zok_ck (hz 1 (by decide) (by decide)) ?_
  refine zok_bi (c_in hC) (fun s2 _ c1 => ?_)
  refine zok_ck (hz 1 (by decide) (by decide)) ?_
  refine zok_bi (m_in hM) (fun s4 _ m3 => ?_)
  refine zok_bv (fun v8 e8 => ?_)
  subst e8
  exact hK _ _ _ _ _ _ _ _ _ (m3.mono (by omega) hb) c1
theorem q_fLaw_1065 {K a b d a1 b1 d1 : Int} {xs : Nat → Int32} {L : Nat} {kn : zSt → (Nat → Int64) → zSt → Int32 → Option Int32} {μ σ : zSt} {o : Nat → Int64} {x4 : Int32} (hM : zRM K a b d μ) (hC : zRC a1 b1 d1 σ) (hb : K + 2100000 ≤ 268435456) (hz : ∀ j : Int32, 0 ≤ j.toInt → j.toInt ≤ 7 → zin (x4 + j) L = true) (hK : ∀ (μ1 : zSt) (o1 : Nat → Int64) (σ1 : zSt) (a b d a1 b1 d1 : Int), zRM (K + 2100000) a b d μ1 → zRC a1 b1 d1 σ1 → zok (kn μ1 o1 σ1 (x4 + 8)) (fun r => r = 1)) : zok (fLaw_1065 xs L kn μ o σ x4) (fun r => r = 1) := by
  unfold fLaw_1065
  refine zok_ck (hz 1 (by decide) (by decide)) ?_
  refine zok_ck (hz 2 (by decide) (by decide)) ?_
  refine zok_bu (c_out hC) (fun s2 c1 => ?_)
  refine zok_ck (hz 1 (by decide) (by decide)) ?_
  refine zok_ck (hz 2 (by decide) (by decide)) ?_
  refine zok_bu (m_out hM) (fun s4 m3 => ?_)
  refine zok_bv (fun v8 e8 => ?_)
  subst e8
  exact hK _ _ _ _ _ _ _ _ _ (m3.mono (by omega) hb) c1
theorem q_fLaw_1100 {K a b d a1 b1 d1 : Int} {xs : Nat → Int32} {L : Nat} {kn : zSt → (Nat → Int64) → zSt → Int32 → Option Int32} {μ σ : zSt} {o : Nat → Int64} {x4 : Int32} (hM : zRM K a b d μ) (hC : zRC a1 b1 d1 σ) (hb : K + 2100000 ≤ 268435456) (hz : ∀ j : Int32, 0 ≤ j.toInt → j.toInt ≤ 7 → zin (x4 + j) L = true) (hK : ∀ (μ1 : zSt) (o1 : Nat → Int64) (σ1 : zSt) (a b d a1 b1 d1 : Int), zRM (K + 2100000) a b d μ1 → zRC a1 b1 d1 σ1 → zok (kn μ1 o1 σ1 (x4 + 8)) (fun r => r = 1)) : zok (fLaw_1100 xs L kn μ o σ x4) (fun r => r = 1) := by
  unfold fLaw_1100
  refine zok_ck (hz 1 (by decide) (by decide)) ?_
  refine zok_bh (l_battery hC) (fun o2 s3 _ c1 => ?_)
  refine zok_ck (hz 1 (by decide) (by decide)) ?_
  refine zok_bi (m_battery hM) (fun s5 _ m4 => ?_)
  refine zok_bv (fun v8 e8 => ?_)
  subst e8
  exact hK _ _ _ _ _ _ _ _ _ (m4.mono (by omega) hb) c1
theorem q_fLaw_1128 {K a b d a1 b1 d1 : Int} {xs : Nat → Int32} {L : Nat} {kn : zSt → (Nat → Int64) → zSt → Int32 → Option Int32} {μ σ : zSt} {o : Nat → Int64} {x4 : Int32} (hM : zRM K a b d μ) (hC : zRC a1 b1 d1 σ) (hb : K + 2100000 ≤ 268435456) (hz : ∀ j : Int32, 0 ≤ j.toInt → j.toInt ≤ 7 → zin (x4 + j) L = true) (hK : ∀ (μ1 : zSt) (o1 : Nat → Int64) (σ1 : zSt) (a b d a1 b1 d1 : Int), zRM (K + 2100000) a b d μ1 → zRC a1 b1 d1 σ1 → zok (kn μ1 o1 σ1 (x4 + 8)) (fun r => r = 1)) : zok (fLaw_1128 xs L kn μ o σ x4) (fun r => r = 1) := by
  unfold fLaw_1128
  refine zok_bu (c_wipe hC) (fun s2 c1 => ?_)
  refine zok_bu (m_wipe hM) (fun s4 m3 => ?_)
  refine zok_bv (fun v8 e8 => ?_)
  subst e8
  exact hK _ _ _ _ _ _ _ _ _ (m3.mono (by omega) hb) c1
theorem q_fLaw_1139 {K a b d a1 b1 d1 : Int} {xs : Nat → Int32} {L : Nat} {kn : zSt → (Nat → Int64) → zSt → Int32 → Option Int32} {μ σ : zSt} {o : Nat → Int64} {x4 : Int32} (hM : zRM K a b d μ) (hC : zRC a1 b1 d1 σ) (hb : K + 2100000 ≤ 268435456) (hz : ∀ j : Int32, 0 ≤ j.toInt → j.toInt ≤ 7 → zin (x4 + j) L = true) (hK : ∀ (μ1 : zSt) (o1 : Nat → Int64) (σ1 : zSt) (a b d a1 b1 d1 : Int), zRM (K + 2100000) a b d μ1 → zRC a1 b1 d1 σ1 → zok (kn μ1 o1 σ1 (x4 + 8)) (fun r => r = 1)) : zok (fLaw_1139 xs L kn μ o σ x4) (fun r => r = 1) := by
  unfold fLaw_1139
  refine zok_ck (hz 1 (by decide) (by decide)) ?_
  refine zok_bll (c_video hC) (fun s2 _ c1 => ?_)
  refine zok_ck (hz 1 (by decide) (by decide)) ?_
  refine zok_bll (m_video hM) (fun s4 _ m3 => ?_)
  refine zok_bv (fun v8 e8 => ?_)
  subst e8
  exact hK _ _ _ _ _ _ _ _ _ (m3.mono (by omega) hb) c1
theorem q_fLaw_1164 {K a b d a1 b1 d1 : Int} {xs : Nat → Int32} {L : Nat} {kn : zSt → (Nat → Int64) → zSt → Int32 → Option Int32} {μ σ : zSt} {o : Nat → Int64} {x4 : Int32} (hM : zRM K a b d μ) (hC : zRC a1 b1 d1 σ) (hb : K + 2100000 ≤ 268435456) (hz : ∀ j : Int32, 0 ≤ j.toInt → j.toInt ≤ 7 → zin (x4 + j) L = true) (hK : ∀ (μ1 : zSt) (o1 : Nat → Int64) (σ1 : zSt) (a b d a1 b1 d1 : Int), zRM (K + 2100000) a b d μ1 → zRC a1 b1 d1 σ1 → zok (kn μ1 o1 σ1 (x4 + 8)) (fun r => r = 1)) : zok (fLaw_1164 xs L kn μ o σ x4) (fun r => r = 1) := by
  unfold fLaw_1164
  refine zok_ck (hz 1 (by decide) (by decide)) ?_
  refine zok_bh (l_chip hC) (fun o2 s3 _ c1 => ?_)
  refine zok_ck (hz 1 (by decide) (by decide)) ?_
  refine zok_bi (m_chip hM) (fun s5 _ m4 => ?_)
  refine zok_bv (fun v8 e8 => ?_)
  subst e8
  exact hK _ _ _ _ _ _ _ _ _ (m4.mono (by omega) hb) c1
theorem q_fLaw_1192 {K a b d a1 b1 d1 : Int} {xs : Nat → Int32} {L : Nat} {kn : zSt → (Nat → Int64) → zSt → Int32 → Option Int32} {μ σ : zSt} {o : Nat → Int64} {x4 : Int32} (hM : zRM K a b d μ) (hC : zRC a1 b1 d1 σ) (hb : K + 2100000 ≤ 268435456) (hz : ∀ j : Int32, 0 ≤ j.toInt → j.toInt ≤ 7 → zin (x4 + j) L = true) (hK : ∀ (μ1 : zSt) (o1 : Nat → Int64) (σ1 : zSt) (a b d a1 b1 d1 : Int), zRM (K + 2100000) a b d μ1 → zRC a1 b1 d1 σ1 → zok (kn μ1 o1 σ1 (x4 + 8)) (fun r => r = 1)) : zok (fLaw_1192 xs L kn μ o σ x4) (fun r => r = 1) := by
  unfold fLaw_1192
  refine zok_ck (hz 1 (by decide) (by decide)) ?_
  refine zok_ck (hz 2 (by decide) (by decide)) ?_
  refine zok_bh (l_dot hC) (fun o2 s3 _ c1 => ?_)
  refine zok_ck (hz 1 (by decide) (by decide)) ?_
  refine zok_ck (hz 2 (by decide) (by decide)) ?_
  refine zok_bi (m_dot hM) (fun s5 _ m4 => ?_)
  refine zok_bv (fun v8 e8 => ?_)
  subst e8
  exact hK _ _ _ _ _ _ _ _ _ (m4.mono (by omega) hb) c1
theorem q_fLaw_1232 {K a b d a1 b1 d1 : Int} {xs : Nat → Int32} {L : Nat} {kn : zSt → (Nat → Int64) → zSt → Int32 → Option Int32} {μ σ : zSt} {o : Nat → Int64} {x4 : Int32} (hM : zRM K a b d μ) (hC : zRC a1 b1 d1 σ) (hb : K + 2100000 ≤ 268435456) (hz : ∀ j : Int32, 0 ≤ j.toInt → j.toInt ≤ 7 → zin (x4 + j) L = true) (hK : ∀ (μ1 : zSt) (o1 : Nat → Int64) (σ1 : zSt) (a b d a1 b1 d1 : Int), zRM (K + 2100000) a b d μ1 → zRC a1 b1 d1 σ1 → zok (kn μ1 o1 σ1 (x4 + 8)) (fun r => r = 1)) : zok (fLaw_1232 xs L kn μ o σ x4) (fun r => r = 1) := by
  unfold fLaw_1232
  refine zok_ck (hz 1 (by decide) (by decide)) ?_
  refine zok_bh (l_row hC) (fun o2 s3 _ c1 => ?_)
  refine zok_ck (hz 1 (by decide) (by decide)) ?_
  refine zok_bi (m_row hM) (fun s5 _ m4 => ?_)
  refine zok_bv (fun v8 e8 => ?_)
  subst e8
  exact hK _ _ _ _ _ _ _ _ _ (m4.mono (by omega) hb) c1
theorem q_fLaw_1260 {K a b d a1 b1 d1 : Int} {xs : Nat → Int32} {L : Nat} {kn : zSt → (Nat → Int64) → zSt → Int32 → Option Int32} {μ σ : zSt} {o : Nat → Int64} {x4 : Int32} (hM : zRM K a b d μ) (hC : zRC a1 b1 d1 σ) (hb : K + 2100000 ≤ 268435456) (hz : ∀ j : Int32, 0 ≤ j.toInt → j.toInt ≤ 7 → zin (x4 + j) L = true) (hK : ∀ (μ1 : zSt) (o1 : Nat → Int64) (σ1 : zSt) (a b d a1 b1 d1 : Int), zRM (K + 2100000) a b d μ1 → zRC a1 b1 d1 σ1 → zok (kn μ1 o1 σ1 (x4 + 8)) (fun r => r = 1)) : zok (fLaw_1260 xs L kn μ o σ x4) (fun r => r = 1) := by
  unfold fLaw_1260
  refine zok_bh (l_hear hC) (fun o2 s3 _ c1 => ?_)
  refine zok_bll (m_hear hM) (fun s5 _ m4 => ?_)
  refine zok_bv (fun v8 e8 => ?_)
  subst e8
  exact hK _ _ _ _ _ _ _ _ _ (m4.mono (by omega) hb) c1
theorem q_fLaw_1276 {K a b d a1 b1 d1 : Int} {xs : Nat → Int32} {L : Nat} {kn : zSt → (Nat → Int64) → zSt → Int32 → Option Int32} {μ σ : zSt} {o : Nat → Int64} {x4 : Int32} (hM : zRM K a b d μ) (hC : zRC a1 b1 d1 σ) (hb : K + 2100000 ≤ 268435456) (hz : ∀ j : Int32, 0 ≤ j.toInt → j.toInt ≤ 7 → zin (x4 + j) L = true) (hK : ∀ (μ1 : zSt) (o1 : Nat → Int64) (σ1 : zSt) (a b d a1 b1 d1 : Int), zRM (K + 2100000) a b d μ1 → zRC a1 b1 d1 σ1 → zok (kn μ1 o1 σ1 (x4 + 8)) (fun r => r = 1)) : zok (fLaw_1276 xs L kn μ o σ x4) (fun r => r = 1) := by
  unfold fLaw_1276
  refine zok_bh (l_mix hC) (fun o2 s3 _ c1 => ?_)
  refine zok_bll (m_mix hM) (fun s5 _ m4 => ?_)
  refine zok_bv (fun v8 e8 => ?_)
  subst e8
  exact hK _ _ _ _ _ _ _ _ _ (m4.mono (by omega) hb) c1
theorem q_fLaw_1292 {K a b d a1 b1 d1 : Int} {xs : Nat → Int32} {L : Nat} {kn : zSt → (Nat → Int64) → zSt → Int32 → Option Int32} {μ σ : zSt} {o : Nat → Int64} {x4 : Int32} (hM : zRM K a b d μ) (hC : zRC a1 b1 d1 σ) (hb : K + 2100000 ≤ 268435456) (hz : ∀ j : Int32, 0 ≤ j.toInt → j.toInt ≤ 7 → zin (x4 + j) L = true) (hK : ∀ (μ1 : zSt) (o1 : Nat → Int64) (σ1 : zSt) (a b d a1 b1 d1 : Int), zRM (K + 2100000) a b d μ1 → zRC a1 b1 d1 σ1 → zok (kn μ1 o1 σ1 (x4 + 8)) (fun r => r = 1)) : zok (fLaw_1292 xs L kn μ o σ x4) (fun r => r = 1) := by
  unfold fLaw_1292
  refine zok_ck (hz 1 (by decide) (by decide)) ?_
  refine zok_bh (l_wave hC) (fun o2 s3 _ c1 => ?_)
  refine zok_ck (hz 1 (by decide) (by decide)) ?_
  refine zok_bi (m_wave hM) (fun s5 _ m4 => ?_)
  refine zok_bv (fun v8 e8 => ?_)
  subst e8
  exact hK _ _ _ _ _ _ _ _ _ (m4.mono (by omega) hb) c1
theorem q_fLaw_1320 {K a b d a1 b1 d1 : Int} {xs : Nat → Int32} {L : Nat} {kn : zSt → (Nat → Int64) → zSt → Int32 → Option Int32} {μ σ : zSt} {o : Nat → Int64} {x4 : Int32} (hM : zRM K a b d μ) (hC : zRC a1 b1 d1 σ) (hb : K + 2100000 ≤ 268435456) (hz : ∀ j : Int32, 0 ≤ j.toInt → j.toInt ≤ 7 → zin (x4 + j) L = true) (hK : ∀ (μ1 : zSt) (o1 : Nat → Int64) (σ1 : zSt) (a b d a1 b1 d1 : Int), zRM (K + 2100000) a b d μ1 → zRC a1 b1 d1 σ1 → zok (kn μ1 o1 σ1 (x4 + 8)) (fun r => r = 1)) : zok (fLaw_1320 xs L kn μ o σ x4) (fun r => r = 1) := by
  unfold fLaw_1320
  refine zok_ck (hz 1 (by decide) (by decide)) ?_
  refine zok_bh (l_sound hC) (fun o2 s3 _ c1 => ?_)
  refine zok_ck (hz 1 (by decide) (by decide)) ?_
  refine zok_bi (m_sound hM) (fun s5 _ m4 => ?_)
  refine zok_bv (fun v8 e8 => ?_)
  subst e8
  exact hK _ _ _ _ _ _ _ _ _ (m4.mono (by omega) hb) c1
theorem q_fLaw_1348 {K a b d a1 b1 d1 : Int} {xs : Nat → Int32} {L : Nat} {kn : zSt → (Nat → Int64) → zSt → Int32 → Option Int32} {μ σ : zSt} {o : Nat → Int64} {x4 : Int32} (hM : zRM K a b d μ) (hC : zRC a1 b1 d1 σ) (hb : K + 2100000 ≤ 268435456) (hz : ∀ j : Int32, 0 ≤ j.toInt → j.toInt ≤ 7 → zin (x4 + j) L = true) (hK : ∀ (μ1 : zSt) (o1 : Nat → Int64) (σ1 : zSt) (a b d a1 b1 d1 : Int), zRM (K + 2100000) a b d μ1 → zRC a1 b1 d1 σ1 → zok (kn μ1 o1 σ1 (x4 + 8)) (fun r => r = 1)) : zok (fLaw_1348 xs L kn μ o σ x4) (fun r => r = 1) := by
  unfold fLaw_1348
  refine zok_ck (hz 1 (by decide) (by decide)) ?_
  refine zok_bi (c_trace hC) (fun s2 _ c1 => ?_)
  refine zok_ck (hz 1 (by decide) (by decide)) ?_
  refine zok_bi (m_trace hM) (fun s4 _ m3 => ?_)
  refine zok_bv (fun v8 e8 => ?_)
  subst e8
  exact hK _ _ _ _ _ _ _ _ _ (m3.mono (by omega) hb) c1
theorem q_fLaw_1373 {K a b d a1 b1 d1 : Int} {xs : Nat → Int32} {L : Nat} {kn : zSt → (Nat → Int64) → zSt → Int32 → Option Int32} {μ σ : zSt} {o : Nat → Int64} {x4 : Int32} (hM : zRM K a b d μ) (hC : zRC a1 b1 d1 σ) (hb : K + 2100000 ≤ 268435456) (hz : ∀ j : Int32, 0 ≤ j.toInt → j.toInt ≤ 7 → zin (x4 + j) L = true) (hK : ∀ (μ1 : zSt) (o1 : Nat → Int64) (σ1 : zSt) (a b d a1 b1 d1 : Int), zRM (K + 2100000) a b d μ1 → zRC a1 b1 d1 σ1 → zok (kn μ1 o1 σ1 (x4 + 8)) (fun r => r = 1)) : zok (fLaw_1373 xs L kn μ o σ x4) (fun r => r = 1) := by
  unfold fLaw_1373
  refine zok_ck (hz 1 (by decide) (by decide)) ?_
  refine zok_bh (l_look hC) (fun o2 s3 _ c1 => ?_)
  refine zok_ck (hz 1 (by decide) (by decide)) ?_
  refine zok_bll (m_look hM) (fun s5 _ m4 => ?_)
  refine zok_bv (fun v8 e8 => ?_)
  subst e8
  exact hK _ _ _ _ _ _ _ _ _ (m4.mono (by omega) hb) c1
theorem q_fLaw_1401 {K a b d a1 b1 d1 : Int} {xs : Nat → Int32} {L : Nat} {kn : zSt → (Nat → Int64) → zSt → Int32 → Option Int32} {μ σ : zSt} {o : Nat → Int64} {x4 : Int32} (hM : zRM K a b d μ) (hC : zRC a1 b1 d1 σ) (hb : K + 2100000 ≤ 268435456) (hz : ∀ j : Int32, 0 ≤ j.toInt → j.toInt ≤ 7 → zin (x4 + j) L = true) (hK : ∀ (μ1 : zSt) (o1 : Nat → Int64) (σ1 : zSt) (a b d a1 b1 d1 : Int), zRM (K + 2100000) a b d μ1 → zRC a1 b1 d1 σ1 → zok (kn μ1 o1 σ1 (x4 + 8)) (fun r => r = 1)) : zok (fLaw_1401 xs L kn μ o σ x4) (fun r => r = 1) := by
  unfold fLaw_1401
  refine zok_bv (fun v8 e8 => ?_)
  subst e8
  exact hK _ _ _ _ _ _ _ _ _ (hM.mono (by omega) hb) hC
