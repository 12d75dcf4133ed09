theorem q_fLaw_208 {K n k s h A : Int} {xs : Nat → Int32} {L : Nat} {kn : zSt → (Nat → Int64) → zSt → Int32 → Option Int32} {μ σ : zSt} {o : Nat → Int64} {x4 : Int32} (hM : zRM K n k s μ) (hC : zRC n h s σ) (hR : zAll A σ μ) (hA : A ≤ 900000000000000) (hb : K + 2100000 ≤ 268435456) (hz : ∀ j : Int32, 0 ≤ j.toInt → j.toInt ≤ 7 → zin (x4 + j) L = true) (hK : ∀ (μ1 : zSt) (o1 : Nat → Int64) (σ1 : zSt) (n s : Int), zRM (K + 2100000) n k s μ1 → zRC n h s σ1 → zAll (A + 1000000) σ1 μ1 → zok (kn μ1 o1 σ1 (x4 + 8)) (fun r => r = 1)) : zok (fLaw_208 xs L kn μ o σ x4) (fun r => r = 1) := by
  unfold fLaw_208
  refine zok_ck (hz 1 (by decide) (by decide)) ?_
  refine zok_ck (hz 2 (by decide) (by decide)) ?_
  refine zok_ck (hz 3 (by decide) (by decide)) ?_
  refine zok_ck (hz 4 (by decide) (by decide)) ?_
  refine zok_ck (hz 5 (by decide) (by decide)) ?_
  refine zok_ck (hz 6 (by decide) (by decide)) ?_
  refine zok_ck (hz 7 (by decide) (by decide)) ?_
  refine zok_bhE (l_feedx hC) (fun o3 s4 _ e2 p1 => ?_)
  refine zok_ck (hz 1 (by decide) (by decide)) ?_
  refine zok_ck (hz 2 (by decide) (by decide)) ?_
  refine zok_ck (hz 3 (by decide) (by decide)) ?_
  refine zok_ck (hz 4 (by decide) (by decide)) ?_
  refine zok_ck (hz 5 (by decide) (by decide)) ?_
  refine zok_ck (hz 6 (by decide) (by decide)) ?_
  refine zok_ck (hz 7 (by decide) (by decide)) ?_
  refine zok_biE (m_feedx hM) (fun s7 _ e6 p5 => ?_)
  have R6 := r_feed hR hM.len.1 _ _ e2 e6
  obtain ⟨_, ⟨_, c8, m9⟩, _⟩ := zBr.both p1 p5
  refine zok_bv (fun v8 e8 => ?_)
  subst e8
  exact hK _ _ _ _ _ (zRM.mono m9 (by omega) hb) c8 (zAll.mono R6 (by omega))
theorem q_fLaw_372 {K n k s h A : Int} {xs : Nat → Int32} {L : Nat} {kn : zSt → (Nat → Int64) → zSt → Int32 → Option Int32} {μ σ : zSt} {o : Nat → Int64} {x4 : Int32} (hM : zRM K n k s μ) (hC : zRC n h s σ) (hR : zAll A σ μ) (hA : A ≤ 900000000000000) (hb : K + 2100000 ≤ 268435456) (hz : ∀ j : Int32, 0 ≤ j.toInt → j.toInt ≤ 7 → zin (x4 + j) L = true) (hK : ∀ (μ1 : zSt) (o1 : Nat → Int64) (σ1 : zSt) (n s : Int), zRM (K + 2100000) n k s μ1 → zRC n h s σ1 → zAll (A + 1000000) σ1 μ1 → zok (kn μ1 o1 σ1 (x4 + 8)) (fun r => r = 1)) : zok (fLaw_372 xs L kn μ o σ x4) (fun r => r = 1) := by
  unfold fLaw_372
  refine zok_ck (hz 1 (by decide) (by decide)) ?_
  refine zok_bhE (l_growx hC) (fun o3 s4 _ e2 p1 => ?_)
  refine zok_ck (hz 1 (by decide) (by decide)) ?_
  refine zok_biE (m_growx hM) (fun s7 _ e6 p5 => ?_)
  have R6 := r_grow hR hM.len.1 _ _ e2 e6
  obtain ⟨_, ⟨_, c8, m9⟩, _⟩ := zBr.both p1 p5
  refine zok_bv (fun v8 e8 => ?_)
  subst e8
  exact hK _ _ _ _ _ (zRM.mono m9 (by omega) hb) c8 (zAll.mono R6 (by omega))
theorem q_fLaw_400 {K n k s h A : Int} {xs : Nat → Int32} {L : Nat} {kn : zSt → (Nat → Int64) → zSt → Int32 → Option Int32} {μ σ : zSt} {o : Nat → Int64} {x4 : Int32} (hM : zRM K n k s μ) (hC : zRC n h s σ) (hR : zAll A σ μ) (hA : A ≤ 900000000000000) (hb : K + 2100000 ≤ 268435456) (hz : ∀ j : Int32, 0 ≤ j.toInt → j.toInt ≤ 7 → zin (x4 + j) L = true) (hK : ∀ (μ1 : zSt) (o1 : Nat → Int64) (σ1 : zSt) (n s : Int), zRM (K + 2100000) n k s μ1 → zRC n h s σ1 → zAll (A + 1000000) σ1 μ1 → zok (kn μ1 o1 σ1 (x4 + 8)) (fun r => r = 1)) : zok (fLaw_400 xs L kn μ o σ x4) (fun r => r = 1) := by
  unfold fLaw_400
  refine zok_ck (hz 1 (by decide) (by decide)) ?_
  refine zok_ck (hz 2 (by decide) (by decide)) ?_
  refine zok_ck (hz 3 (by decide) (by decide)) ?_
  refine zok_biE (l_patchx hC) (fun s3 _ e2 p1 => ?_)
  refine zok_ck (hz 1 (by decide) (by decide)) ?_
  refine zok_ck (hz 2 (by decide) (by decide)) ?_
  refine zok_ck (hz 3 (by decide) (by decide)) ?_
  refine zok_buE (m_patchx hM) (fun s6 e5 p4 => ?_)
  have R6 := r_patch hR hM.len.1 _ _ e2 e5
  refine zok_bv (fun v8 e8 => ?_)
  subst e8
  exact hK _ _ _ _ _ (zRM.mono p4.1 (by omega) hb) p1.1 (zAll.mono R6 (by omega))
theorem q_fLaw_469 {K n k s h A : Int} {xs : Nat → Int32} {L : Nat} {kn : zSt → (Nat → Int64) → zSt → Int32 → Option Int32} {μ σ : zSt} {o : Nat → Int64} {x4 : Int32} (hM : zRM K n k s μ) (hC : zRC n h s σ) (hR : zAll A σ μ) (hA : A ≤ 900000000000000) (hb : K + 2100000 ≤ 268435456) (hz : ∀ j : Int32, 0 ≤ j.toInt → j.toInt ≤ 7 → zin (x4 + j) L = true) (hK : ∀ (μ1 : zSt) (o1 : Nat → Int64) (σ1 : zSt) (n s : Int), zRM (K + 2100000) n k s μ1 → zRC n h s σ1 → zAll (A + 1000000) σ1 μ1 → zok (kn μ1 o1 σ1 (x4 + 8)) (fun r => r = 1)) : zok (fLaw_469 xs L kn μ o σ x4) (fun r => r = 1) := by
  unfold fLaw_469
  refine zok_biE (c_loadx hC) (fun s3 _ e2 p1 => ?_)
  refine zok_biE (m_loadx hM) (fun s6 _ e5 p4 => ?_)
  have l10 := z2_load hR.2.1 hM.len.1 _ _ e2 e5
  have R5 := g_load hR hM.len.1 _ _ e2 e5
  obtain ⟨e9, _, c7, m8⟩ := zLo.both p1 p4
  have R6 := R5 e9 c7.len.2.1 c7.len.2.2 (zR6.ofL m8 c7 (l10 e9))
  refine zok_bv (fun v8 e8 => ?_)
  subst e8
  exact hK _ _ _ _ _ (zRM.mono m8 (by omega) hb) c7 (zAll.mono R6 (by omega))
theorem q_fLaw_482 {K n k s h A : Int} {xs : Nat → Int32} {L : Nat} {kn : zSt → (Nat → Int64) → zSt → Int32 → Option Int32} {μ σ : zSt} {o : Nat → Int64} {x4 : Int32} (hM : zRM K n k s μ) (hC : zRC n h s σ) (hR : zAll A σ μ) (hA : A ≤ 900000000000000) (hb : K + 2100000 ≤ 268435456) (hz : ∀ j : Int32, 0 ≤ j.toInt → j.toInt ≤ 7 → zin (x4 + j) L = true) (hK : ∀ (μ1 : zSt) (o1 : Nat → Int64) (σ1 : zSt) (n s : Int), zRM (K + 2100000) n k s μ1 → zRC n h s σ1 → zAll (A + 1000000) σ1 μ1 → zok (kn μ1 o1 σ1 (x4 + 8)) (fun r => r = 1)) : zok (fLaw_482 xs L kn μ o σ x4) (fun r => r = 1) := by
  unfold fLaw_482
  refine zok_ck (hz 1 (by decide) (by decide)) ?_
  refine zok_bhE (l_card hC) (fun o3 s4 _ e2 p1 => ?_)
  refine zok_ck (hz 1 (by decide) (by decide)) ?_
  refine zok_biE (m_card hM) (fun s7 _ e6 p5 => ?_)
  have R6 := r_card hR _ _ e2 e6
  refine zok_bv (fun v8 e8 => ?_)
  subst e8
  exact hK _ _ _ _ _ (zRM.mono p5 (by omega) hb) p1 (zAll.mono R6 (by omega))
theorem q_fLaw_510 {K n k s h A : Int} {xs : Nat → Int32} {L : Nat} {kn : zSt → (Nat → Int64) → zSt → Int32 → Option Int32} {μ σ : zSt} {o : Nat → Int64} {x4 : Int32} (hM : zRM K n k s μ) (hC : zRC n h s σ) (hR : zAll A σ μ) (hA : A ≤ 900000000000000) (hb : K + 2100000 ≤ 268435456) (hz : ∀ j : Int32, 0 ≤ j.toInt → j.toInt ≤ 7 → zin (x4 + j) L = true) (hK : ∀ (μ1 : zSt) (o1 : Nat → Int64) (σ1 : zSt) (n s : Int), zRM (K + 2100000) n k s μ1 → zRC n h s σ1 → zAll (A + 1000000) σ1 μ1 → zok (kn μ1 o1 σ1 (x4 + 8)) (fun r => r = 1)) : zok (fLaw_510 xs L kn μ o σ x4) (fun r => r = 1) := by
  unfold fLaw_510
  refine zok_ck (hz 1 (by decide) (by decide)) ?_
  refine zok_bhE (l_step hC) (fun o3 s4 _ e2 p1 => ?_)
  refine zok_ck (hz 1 (by decide) (by decide)) ?_
  refine zok_biE (m_step hM hb) (fun s7 _ e6 p5 => ?_)
  have R6 := r_step hR hA hM.pic _ _ e2 e6
  refine zok_bv (fun v8 e8 => ?_)
  subst e8
  exact hK _ _ _ _ _ p5 p1 R6
theorem q_fLaw_538 {K n k s h A : Int} {xs : Nat → Int32} {L : Nat} {kn : zSt → (Nat → Int64) → zSt → Int32 → Option Int32} {μ σ : zSt} {o : Nat → Int64} {x4 : Int32} (hM : zRM K n k s μ) (hC : zRC n h s σ) (hR : zAll A σ μ) (hA : A ≤ 900000000000000) (hb : K + 2100000 ≤ 268435456) (hz : ∀ j : Int32, 0 ≤ j.toInt → j.toInt ≤ 7 → zin (x4 + j) L = true) (hK : ∀ (μ1 : zSt) (o1 : Nat → Int64) (σ1 : zSt) (n s : Int), zRM (K + 2100000) n k s μ1 → zRC n h s σ1 → zAll (A + 1000000) σ1 μ1 → zok (kn μ1 o1 σ1 (x4 + 8)) (fun r => r = 1)) : zok (fLaw_538 xs L kn μ o σ x4) (fun r => r = 1) := by
  unfold fLaw_538
  refine zok_ck (hz 1 (by decide) (by decide)) ?_
  refine zok_bhE (l_picture hC) (fun o3 s4 _ e2 p1 => ?_)
  refine zok_ck (hz 1 (by decide) (by decide)) ?_
  refine zok_biE (m_picture hM hb) (fun s7 _ e6 p5 => ?_)
  have R6 := r_picture hR hA hM.pic _ _ e2 e6
  refine zok_bv (fun v8 e8 => ?_)
  subst e8
  exact hK _ _ _ _ _ p5 p1 R6
theorem q_fLaw_566 {K n k s h A : Int} {xs : Nat → Int32} {L : Nat} {kn : zSt → (Nat → Int64) → zSt → Int32 → Option Int32} {μ σ : zSt} {o : Nat → Int64} {x4 : Int32} (hM : zRM K n k s μ) (hC : zRC n h s σ) (hR : zAll A σ μ) (hA : A ≤ 900000000000000) (hb : K + 2100000 ≤ 268435456) (hz : ∀ j : Int32, 0 ≤ j.toInt → j.toInt ≤ 7 → zin (x4 + j) L = true) (hK : ∀ (μ1 : zSt) (o1 : Nat → Int64) (σ1 : zSt) (n s : Int), zRM (K + 2100000) n k s μ1 → zRC n h s σ1 → zAll (A + 1000000) σ1 μ1 → zok (kn μ1 o1 σ1 (x4 + 8)) (fun r => r = 1)) : zok (fLaw_566 xs L kn μ o σ x4) (fun r => r = 1) := by
  unfold fLaw_566
  refine zok_buE (c_reset hC) (fun s3 e2 p1 => ?_)
  refine zok_buE (m_reset hM) (fun s6 e5 p4 => ?_)
  have R6 := g_reset hR _ _ e2 e5
  refine zok_bv (fun v8 e8 => ?_)
  subst e8
  exact hK _ _ _ _ _ (zRM.mono p4 (by omega) hb) p1 (zAll.mono R6 (by omega))
theorem q_fLaw_577 {K n k s h A : Int} {xs : Nat → Int32} {L : Nat} {kn : zSt → (Nat → Int64) → zSt → Int32 → Option Int32} {μ σ : zSt} {o : Nat → Int64} {x4 : Int32} (hM : zRM K n k s μ) (hC : zRC n h s σ) (hR : zAll A σ μ) (hA : A ≤ 900000000000000) (hb : K + 2100000 ≤ 268435456) (hz : ∀ j : Int32, 0 ≤ j.toInt → j.toInt ≤ 7 → zin (x4 + j) L = true) (hK : ∀ (μ1 : zSt) (o1 : Nat → Int64) (σ1 : zSt) (n s : Int), zRM (K + 2100000) n k s μ1 → zRC n h s σ1 → zAll (A + 1000000) σ1 μ1 → zok (kn μ1 o1 σ1 (x4 + 8)) (fun r => r = 1)) : zok (fLaw_577 xs L kn μ o σ x4) (fun r => r = 1) := by
  unfold fLaw_577
  refine zok_biE (c_pause hC) (fun s3 _ e2 p1 => ?_)
  refine zok_biE (m_pause hM) (fun s6 _ e5 p4 => ?_)
  have R6 := g_pause hR _ _ e2 e5
  refine zok_bv (fun v8 e8 => ?_)
  subst e8
  exact hK _ _ _ _ _ (zRM.mono p4 (by omega) hb) p1 (zAll.mono R6 (by omega))
theorem q_fLaw_590 {K n k s h A : Int} {xs : Nat → Int32} {L : Nat} {kn : zSt → (Nat → Int64) → zSt → Int32 → Option Int32} {μ σ : zSt} {o : Nat → Int64} {x4 : Int32} (hM : zRM K n k s μ) (hC : zRC n h s σ) (hR : zAll A σ μ) (hA : A ≤ 900000000000000) (hb : K + 2100000 ≤ 268435456) (hz : ∀ j : Int32, 0 ≤ j.toInt → j.toInt ≤ 7 → zin (x4 + j) L = true) (hK : ∀ (μ1 : zSt) (o1 : Nat → Int64) (σ1 : zSt) (n s : Int), zRM (K + 2100000) n k s μ1 → zRC n h s σ1 → zAll (A + 1000000) σ1 μ1 → zok (kn μ1 o1 σ1 (x4 + 8)) (fun r => r = 1)) : zok (fLaw_590 xs L kn μ o σ x4) (fun r => r = 1) := by
  unfold fLaw_590
  refine zok_ck (hz 1 (by decide) (by decide)) ?_
  refine zok_ck (hz 2 (by decide) (by decide)) ?_
  refine zok_biE (l_press hC) (fun s3 _ e2 p1 => ?_)
  refine zok_ck (hz 1 (by decide) (by decide)) ?_
  refine zok_ck (hz 2 (by decide) (by decide)) ?_
  refine zok_buE (m_press hM) (fun s6 e5 p4 => ?_)
  have R6 := r_press hR _ _ e2 e5
  refine zok_bv (fun v8 e8 => ?_)
  subst e8
  exact hK _ _ _ _ _ (zRM.mono p4 (by omega) hb) p1 (zAll.mono R6 (by omega))
theorem q_fLaw_627 {K n k s h A : Int} {xs : Nat → Int32} {L : Nat} {kn : zSt → (Nat → Int64) → zSt → Int32 → Option Int32} {μ σ : zSt} {o : Nat → Int64} {x4 : Int32} (hM : zRM K n k s μ) (hC : zRC n h s σ) (hR : zAll A σ μ) (hA : A ≤ 900000000000000) (hb : K + 2100000 ≤ 268435456) (hz : ∀ j : Int32, 0 ≤ j.toInt → j.toInt ≤ 7 → zin (x4 + j) L = true) (hK : ∀ (μ1 : zSt) (o1 : Nat → Int64) (σ1 : zSt) (n s : Int), zRM (K + 2100000) n k s μ1 → zRC n h s σ1 → zAll (A + 1000000) σ1 μ1 → zok (kn μ1 o1 σ1 (x4 + 8)) (fun r => r = 1)) : zok (fLaw_627 xs L kn μ o σ x4) (fun r => r = 1) := by
  unfold fLaw_627
  refine zok_ck (hz 1 (by decide) (by decide)) ?_
  refine zok_if (fun q1 => ?_) (fun q1 => ?_)
  · refine zok_buE (c_start hC (zr_c (by decide))) (fun s4 e3 p2 => ?_)
    refine zok_ck (hz 1 (by decide) (by decide)) ?_
    refine zok_if (fun _ => ?_) (fun z => absurd q1 z)
    refine zok_buE (m_start hM (zr_c (by decide))) (fun s7 e6 p5 => ?_)
    have R6 := g_start hR _ _ e3 e6
    refine zok_bv (fun v8 e8 => ?_)
    subst e8
    exact hK _ _ _ _ _ (zRM.mono p5 (by omega) hb) p2 (zAll.mono R6 (by omega))
  · refine zok_buE (c_start hC (zr_c (by decide))) (fun s10 e9 p8 => ?_)
    refine zok_ck (hz 1 (by decide) (by decide)) ?_
    refine zok_if (fun z => absurd z q1) (fun _ => ?_)
    refine zok_buE (m_start hM (zr_c (by decide))) (fun s13 e12 p11 => ?_)
    have R6 := g_start hR _ _ e9 e12
    refine zok_bv (fun v8 e8 => ?_)
    subst e8
    exact hK _ _ _ _ _ (zRM.mono p11 (by omega) hb) p8 (zAll.mono R6 (by omega))
theorem q_fLaw_666 {K n k s h A : Int} {xs : Nat → Int32} {L : Nat} {kn : zSt → (Nat → Int64) → zSt → Int32 → Option Int32} {μ σ : zSt} {o : Nat → Int64} {x4 : Int32} (hM : zRM K n k s μ) (hC : zRC n h s σ) (hR : zAll A σ μ) (hA : A ≤ 900000000000000) (hb : K + 2100000 ≤ 268435456) (hz : ∀ j : Int32, 0 ≤ j.toInt → j.toInt ≤ 7 → zin (x4 + j) L = true) (hK : ∀ (μ1 : zSt) (o1 : Nat → Int64) (σ1 : zSt) (n s : Int), zRM (K + 2100000) n k s μ1 → zRC n h s σ1 → zAll (A + 1000000) σ1 μ1 → zok (kn μ1 o1 σ1 (x4 + 8)) (fun r => r = 1)) : zok (fLaw_666 xs L kn μ o σ x4) (fun r => r = 1) := by
  unfold fLaw_666
  refine zok_ck (hz 1 (by decide) (by decide)) ?_
  refine zok_ck (hz 2 (by decide) (by decide)) ?_
  refine zok_if (fun q1 => ?_) (fun q1 => ?_)
  · refine zok_biE (l_line hC (zr_c (by decide))) (fun s4 _ e3 p2 => ?_)
    refine zok_ck (hz 1 (by decide) (by decide)) ?_
    refine zok_ck (hz 2 (by decide) (by decide)) ?_
    refine zok_if (fun _ => ?_) (fun z => absurd q1 z)
    refine zok_buE (m_line hM (zr_c (by decide))) (fun s7 e6 p5 => ?_)
    have R6 := r_line hR _ _ e3 e6
    refine zok_bv (fun v8 e8 => ?_)
    subst e8
    exact hK _ _ _ _ _ (zRM.mono p5 (by omega) hb) p2 (zAll.mono R6 (by omega))
  · refine zok_biE (l_line hC (zr_c (by decide))) (fun s10 _ e9 p8 => ?_)
    refine zok_ck (hz 1 (by decide) (by decide)) ?_
    refine zok_ck (hz 2 (by decide) (by decide)) ?_
    refine zok_if (fun z => absurd z q1) (fun _ => ?_)
    refine zok_buE (m_line hM (zr_c (by decide))) (fun s13 e12 p11 => ?_)
    have R6 := r_line hR _ _ e9 e12
    refine zok_bv (fun v8 e8 => ?_)
    subst e8
    exact hK _ _ _ _ _ (zRM.mono p11 (by omega) hb) p8 (zAll.mono R6 (by omega))
theorem q_fLaw_719 {K n k s h A : Int} {xs : Nat → Int32} {L : Nat} {kn : zSt → (Nat → Int64) → zSt → Int32 → Option Int32} {μ σ : zSt} {o : Nat → Int64} {x4 : Int32} (hM : zRM K n k s μ) (hC : zRC n h s σ) (hR : zAll A σ μ) (hA : A ≤ 900000000000000) (hb : K + 2100000 ≤ 268435456) (hz : ∀ j : Int32, 0 ≤ j.toInt → j.toInt ≤ 7 → zin (x4 + j) L = true) (hK : ∀ (μ1 : zSt) (o1 : Nat → Int64) (σ1 : zSt) (n s : Int), zRM (K + 2100000) n k s μ1 → zRC n h s σ1 → zAll (A + 1000000) σ1 μ1 → zok (kn μ1 o1 σ1 (x4 + 8)) (fun r => r = 1)) : zok (fLaw_719 xs L kn μ o σ x4) (fun r => r = 1) := by
  unfold fLaw_719
  refine zok_ck (hz 1 (by decide) (by decide)) ?_
  refine zok_ck (hz 2 (by decide) (by decide)) ?_
  refine zok_ck (hz 3 (by decide) (by decide)) ?_
  refine zok_bhE (l_plan hC) (fun o3 s4 _ e2 p1 => ?_)
  refine zok_ck (hz 1 (by decide) (by decide)) ?_
  refine zok_ck (hz 2 (by decide) (by decide)) ?_
  refine zok_ck (hz 3 (by decide) (by decide)) ?_
  refine zok_biE (m_plan hM) (fun s7 _ e6 p5 => ?_)
  have R6 := r_plan hR _ _ e2 e6
  refine zok_bv (fun v8 e8 => ?_)
  subst e8
  exact hK _ _ _ _ _ (zRM.mono p5 (by omega) hb) p1 (zAll.mono R6 (by omega))
theorem q_fLaw_771 {K n k s h A : Int} {xs : Nat → Int32} {L : Nat} {kn : zSt → (Nat → Int64) → zSt → Int32 → Option Int32} {μ σ : zSt} {o : Nat → Int64} {x4 : Int32} (hM : zRM K n k s μ) (hC : zRC n h s σ) (hR : zAll A σ μ) (hA : A ≤ 900000000000000) (hb : K + 2100000 ≤ 268435456) (hz : ∀ j : Int32, 0 ≤ j.toInt → j.toInt ≤ 7 → zin (x4 + j) L = true) (hK : ∀ (μ1 : zSt) (o1 : Nat → Int64) (σ1 : zSt) (n s : Int), zRM (K + 2100000) n k s μ1 → zRC n h s σ1 → zAll (A + 1000000) σ1 μ1 → zok (kn μ1 o1 σ1 (x4 + 8)) (fun r => r = 1)) : zok (fLaw_771 xs L kn μ o σ x4) (fun r => r = 1) := by
  unfold fLaw_771
  refine zok_ck (hz 1 (by decide) (by decide)) ?_
  refine zok_biE (c_tell hC) (fun s3 _ e2 p1 => ?_)
  refine zok_ck (hz 1 (by decide) (by decide)) ?_
  refine zok_biE (m_tell hM) (fun s6 _ e5 p4 => ?_)
  have R6 := g_tell hR _ _ e2 e5
  refine zok_bv (fun v8 e8 => ?_)
  subst e8
  exact hK _ _ _ _ _ (zRM.mono p4 (by omega) hb) p1 (zAll.mono R6 (by omega))
theorem q_fLaw_796 {K n k s h A : Int} {xs : Nat → Int32} {L : Nat} {kn : zSt → (Nat → Int64) → zSt → Int32 → Option Int32} {μ σ : zSt} {o : Nat → Int64} {x4 : Int32} (hM : zRM K n k s μ) (hC : zRC n h s σ) (hR : zAll A σ μ) (hA : A ≤ 900000000000000) (hb : K + 2100000 ≤ 268435456) (hz : ∀ j : Int32, 0 ≤ j.toInt → j.toInt ≤ 7 → zin (x4 + j) L = true) (hK : ∀ (μ1 : zSt) (o1 : Nat → Int64) (σ1 : zSt) (n s : Int), zRM (K + 2100000) n k s μ1 → zRC n h s σ1 → zAll (A + 1000000) σ1 μ1 → zok (kn μ1 o1 σ1 (x4 + 8)) (fun r => r = 1)) : zok (fLaw_796 xs L kn μ o σ x4) (fun r => r = 1) := by
  unfold fLaw_796
  refine zok_ck (hz 1 (by decide) (by decide)) ?_
  refine zok_bhE (l_text hC) (fun o3 s4 _ e2 p1 => ?_)
  refine zok_ck (hz 1 (by decide) (by decide)) ?_
  refine zok_bllE (m_text hM) (fun s7 _ e6 p5 => ?_)
  have R6 := r_text hR _ _ e2 e6
  refine zok_bv (fun v8 e8 => ?_)
  subst e8
  exact hK _ _ _ _ _ (zRM.mono p5 (by omega) hb) p1 (zAll.mono R6 (by omega))
theorem q_fLaw_824 {K n k s h A : Int} {xs : Nat → Int32} {L : Nat} {kn : zSt → (Nat → Int64) → zSt → Int32 → Option Int32} {μ σ : zSt} {o : Nat → Int64} {x4 : Int32} (hM : zRM K n k s μ) (hC : zRC n h s σ) (hR : zAll A σ μ) (hA : A ≤ 900000000000000) (hb : K + 2100000 ≤ 268435456) (hz : ∀ j : Int32, 0 ≤ j.toInt → j.toInt ≤ 7 → zin (x4 + j) L = true) (hK : ∀ (μ1 : zSt) (o1 : Nat → Int64) (σ1 : zSt) (n s : Int), zRM (K + 2100000) n k s μ1 → zRC n h s σ1 → zAll (A + 1000000) σ1 μ1 → zok (kn μ1 o1 σ1 (x4 + 8)) (fun r => r = 1)) : zok (fLaw_824 xs L kn μ o σ x4) (fun r => r = 1) := by
  unfold fLaw_824
  refine zok_ck (hz 1 (by decide) (by decide)) ?_
  refine zok_ck (hz 2 (by decide) (by decide)) ?_
  refine zok_if (fun q1 => ?_) (fun q1 => ?_)
  · refine zok_bhE (l_stop hC (zr_c (by decide))) (fun o4 s5 _ e3 p2 => ?_)
    refine zok_ck (hz 1 (by decide) (by decide)) ?_
    refine zok_ck (hz 2 (by decide) (by decide)) ?_
    refine zok_if (fun _ => ?_) (fun z => absurd q1 z)
    refine zok_biE (m_stop hM (zr_c (by decide))) (fun s8 _ e7 p6 => ?_)
    have R6 := r_stop hR _ _ e3 e7
    refine zok_bv (fun v8 e8 => ?_)
    subst e8
    exact hK _ _ _ _ _ (zRM.mono p6 (by omega) hb) p2 (zAll.mono R6 (by omega))
  · refine zok_bhE (l_stop hC (zr_c (by decide))) (fun o11 s12 _ e10 p9 => ?_)
    refine zok_ck (hz 1 (by decide) (by decide)) ?_
    refine zok_ck (hz 2 (by decide) (by decide)) ?_
    refine zok_if (fun z => absurd z q1) (fun _ => ?_)
    refine zok_biE (m_stop hM (zr_c (by decide))) (fun s15 _ e14 p13 => ?_)
    have R6 := r_stop hR _ _ e10 e14
    refine zok_bv (fun v8 e8 => ?_)
    subst e8
    exact hK _ _ _ _ _ (zRM.mono p13 (by omega) hb) p9 (zAll.mono R6 (by omega))
theorem q_fLaw_880 {K n k s h A : Int} {xs : Nat → Int32} {L : Nat} {kn : zSt → (Nat → Int64) → zSt → Int32 → Option Int32} {μ σ : zSt} {o : Nat → Int64} {x4 : Int32} (hM : zRM K n k s μ) (hC : zRC n h s σ) (hR : zAll A σ μ) (hA : A ≤ 900000000000000) (hb : K + 2100000 ≤ 268435456) (hz : ∀ j : Int32, 0 ≤ j.toInt → j.toInt ≤ 7 → zin (x4 + j) L = true) (hK : ∀ (μ1 : zSt) (o1 : Nat → Int64) (σ1 : zSt) (n s : Int), zRM (K + 2100000) n k s μ1 → zRC n h s σ1 → zAll (A + 1000000) σ1 μ1 → zok (kn μ1 o1 σ1 (x4 + 8)) (fun r => r = 1)) : zok (fLaw_880 xs L kn μ o σ x4) (fun r => r = 1) := by
  unfold fLaw_880
  refine zok_buE (c_savex hC) (fun s3 e2 p1 => ?_)
  refine zok_buE (m_save hM) (fun s6 e5 p4 => ?_)
  have R6 := g_save hR _ _ e2 e5
  refine zok_bv (fun v8 e8 => ?_)
  subst e8
  exact hK _ _ _ _ _ (zRM.mono p4 (by omega) hb) p1 (zAll.mono R6 (by omega))
theorem q_fLaw_891 {K n k s h A : Int} {xs : Nat → Int32} {L : Nat} {kn : zSt → (Nat → Int64) → zSt → Int32 → Option Int32} {μ σ : zSt} {o : Nat → Int64} {x4 : Int32} (hM : zRM K n k s μ) (hC : zRC n h s σ) (hR : zAll A σ μ) (hA : A ≤ 900000000000000) (hb : K + 2100000 ≤ 268435456) (hz : ∀ j : Int32, 0 ≤ j.toInt → j.toInt ≤ 7 → zin (x4 + j) L = true) (hK : ∀ (μ1 : zSt) (o1 : Nat → Int64) (σ1 : zSt) (n s : Int), zRM (K + 2100000) n k s μ1 → zRC n h s σ1 → zAll (A + 1000000) σ1 μ1 → zok (kn μ1 o1 σ1 (x4 + 8)) (fun r => r = 1)) : zok (fLaw_891 xs L kn μ o σ x4) (fun r => r = 1) := by
  unfold fLaw_891
  refine zok_biE (l_restorex hC) (fun s3 _ e2 p1 => ?_)
  refine zok_buE (m_restorex hM) (fun s6 e5 p4 => ?_)
  have R6 := r_restore hR (z_flag hM hC) _ _ e2 e5
  refine zok_bv (fun v8 e8 => ?_)
  subst e8
  exact hK _ _ _ _ _ (zRM.mono p4.1 (by omega) hb) p1.1 (zAll.mono R6 (by omega))
theorem q_fLaw_904 {K n k s h A : Int} {xs : Nat → Int32} {L : Nat} {kn : zSt → (Nat → Int64) → zSt → Int32 → Option Int32} {μ σ : zSt} {o : Nat → Int64} {x4 : Int32} (hM : zRM K n k s μ) (hC : zRC n h s σ) (hR : zAll A σ μ) (hA : A ≤ 900000000000000) (hb : K + 2100000 ≤ 268435456) (hz : ∀ j : Int32, 0 ≤ j.toInt → j.toInt ≤ 7 → zin (x4 + j) L = true) (hK : ∀ (μ1 : zSt) (o1 : Nat → Int64) (σ1 : zSt) (n s : Int), zRM (K + 2100000) n k s μ1 → zRC n h s σ1 → zAll (A + 1000000) σ1 μ1 → zok (kn μ1 o1 σ1 (x4 + 8)) (fun r => r = 1)) : zok (fLaw_904 xs L kn μ o σ x4) (fun r => r = 1) := by
  unfold fLaw_904
  refine zok_ck (hz 1 (by decide) (by decide)) ?_
  refine zok_bhE (l_register hC) (fun o3 s4 _ e2 p1 => ?_)
  refine zok_ck (hz 1 (by decide) (by decide)) ?_
  refine zok_biE (m_register hM) (fun s7 _ e6 p5 => ?_)
  have R6 := r_register hR _ _ e2 e6
  refine zok_bv (fun v8 e8 => ?_)
  subst e8
  exact hK _ _ _ _ _ (zRM.mono p5 (by omega) hb) p1 (zAll.mono R6 (by omega))
theorem q_fLaw_932 {K n k s h A : Int} {xs : Nat → Int32} {L : Nat} {kn : zSt → (Nat → Int64) → zSt → Int32 → Option Int32} {μ σ : zSt} {o : Nat → Int64} {x4 : Int32} (hM : zRM K n k s μ) (hC : zRC n h s σ) (hR : zAll A σ μ) (hA : A ≤ 900000000000000) (hb : K + 2100000 ≤ 268435456) (hz : ∀ j : Int32, 0 ≤ j.toInt → j.toInt ≤ 7 → zin (x4 + j) L = true) (hK : ∀ (μ1 : zSt) (o1 : Nat → Int64) (σ1 : zSt) (n s : Int), zRM (K + 2100000) n k s μ1 → zRC n h s σ1 → zAll (A + 1000000) σ1 μ1 → zok (kn μ1 o1 σ1 (x4 + 8)) (fun r => r = 1)) : zok (fLaw_932 xs L kn μ o σ x4) (fun r => r = 1) := by
  unfold fLaw_932
  refine zok_ck (hz 1 (by decide) (by decide)) ?_
  refine zok_ck (hz 2 (by decide) (by decide)) ?_
  refine zok_biE (l_set hC) (fun s3 _ e2 p1 => ?_)
  refine zok_ck (hz 1 (by decide) (by decide)) ?_
  refine zok_ck (hz 2 (by decide) (by decide)) ?_
  refine zok_buE (m_set hM) (fun s6 e5 p4 => ?_)
  have R6 := r_set hR _ _ e2 e5
  refine zok_bv (fun v8 e8 => ?_)
  subst e8
  exact hK _ _ _ _ _ (zRM.mono p4 (by omega) hb) p1 (zAll.mono R6 (by omega))
theorem q_fLaw_969 {K n k s h A : Int} {xs : Nat → Int32} {L : Nat} {kn : zSt → (Nat → Int64) → zSt → Int32 → Option Int32} {μ σ : zSt} {o : Nat → Int64} {x4 : Int32} (hM : zRM K n k s μ) (hC : zRC n h s σ) (hR : zAll A σ μ) (hA : A ≤ 900000000000000) (hb : K + 2100000 ≤ 268435456) (hz : ∀ j : Int32, 0 ≤ j.toInt → j.toInt ≤ 7 → zin (x4 + j) L = true) (hK : ∀ (μ1 : zSt) (o1 : Nat → Int64) (σ1 : zSt) (n s : Int), zRM (K + 2100000) n k s μ1 → zRC n h s σ1 → zAll (A + 1000000) σ1 μ1 → zok (kn μ1 o1 σ1 (x4 + 8)) (fun r => r = 1)) : zok (fLaw_969 xs L kn μ o σ x4) (fun r => r = 1) := by
  unfold fLaw_969
  refine zok_ck (hz 1 (by decide) (by decide)) ?_
  refine zok_biE (c_peek hC) (fun s3 _ e2 p1 => ?_)
  refine zok_ck (hz 1 (by decide) (by decide)) ?_
  refine zok_biE (m_peek hM) (fun s6 _ e5 p4 => ?_)
  have d7 := w_peek hR hA hM.pic _ _ e2 e5
  have R6 := g_peek hR _ _ e2 e5
  refine zok_if (fun _ => ?_) (fun q => absurd d7 q)
  refine zok_bv (fun v8 e8 => ?_)
  subst e8
  exact hK _ _ _ _ _ (zRM.mono p4 (by omega) hb) p1 (zAll.mono R6 (by omega))
theorem q_fLaw_994 {K n k s h A : Int} {xs : Nat → Int32} {L : Nat} {kn : zSt → (Nat → Int64) → zSt → Int32 → Option Int32} {μ σ : zSt} {o : Nat → Int64} {x4 : Int32} (hM : zRM K n k s μ) (hC : zRC n h s σ) (hR : zAll A σ μ) (hA : A ≤ 900000000000000) (hb : K + 2100000 ≤ 268435456) (hz : ∀ j : Int32, 0 ≤ j.toInt → j.toInt ≤ 7 → zin (x4 + j) L = true) (hK : ∀ (μ1 : zSt) (o1 : Nat → Int64) (σ1 : zSt) (n s : Int), zRM (K + 2100000) n k s μ1 → zRC n h s σ1 → zAll (A + 1000000) σ1 μ1 → zok (kn μ1 o1 σ1 (x4 + 8)) (fun r => r = 1)) : zok (fLaw_994 xs L kn μ o σ x4) (fun r => r = 1) := by
  unfold fLaw_994
  refine zok_ck (hz 1 (by decide) (by decide)) ?_
  refine zok_ck (hz 2 (by decide) (by decide)) ?_
  refine zok_buE (c_poke hC) (fun s3 e2 p1 => ?_)
  refine zok_ck (hz 1 (by decide) (by decide)) ?_
  refine zok_ck (hz 2 (by decide) (by decide)) ?_
  refine zok_buE (m_poke hM) (fun s6 e5 p4 => ?_)
  have R6 := g_poke hR _ _ e2 e5
  refine zok_bv (fun v8 e8 => ?_)
  subst e8
  exact hK _ _ _ _ _ (zRM.mono p4 (by omega) hb) p1 (zAll.mono R6 (by omega))
theorem q_fLaw_1029 {K n k s h A : Int} {xs : Nat → Int32} {L : Nat} {kn : zSt → (Nat → Int64) → zSt → Int32 → Option Int32} {μ σ : zSt} {o : Nat → Int64} {x4 : Int32} (hM : zRM K n k s μ) (hC : zRC n h s σ) (hR : zAll A σ μ) (hA : A ≤ 900000000000000) (hb : K + 2100000 ≤ 268435456) (hz : ∀ j : Int32, 0 ≤ j.toInt → j.toInt ≤ 7 → zin (x4 + j) L = true) (hK : ∀ (μ1 : zSt) (o1 : Nat → Int64) (σ1 : zSt) (n s : Int), zRM (K + 2100000) n k s μ1 → zRC n h s σ1 → zAll (A + 1000000) σ1 μ1 → zok (kn μ1 o1 σ1 (x4 + 8)) (fun r => r = 1)) : zok (fLaw_1029 xs L kn μ o σ x4) (fun r => r = 1) := by
  unfold fLaw_1029
  refine zok_ck (hz 1 (by decide) (by decide)) ?_
  refine zok_biE (c_in hC) (fun s3 _ e2 p1 => ?_)
  refine zok_ck (hz 1 (by decide) (by decide)) ?_
  refine zok_biE (m_in hM) (fun s6 _ e5 p4 => ?_)
  have R6 := g_in hR _ _ e2 e5
  refine zok_bv (fun v8 e8 => ?_)
  subst e8
  exact hK _ _ _ _ _ (zRM.mono p4 (by omega) hb) p1 (zAll.mono R6 (by omega))
theorem q_fLaw_1054 {K n k s h A : Int} {xs : Nat → Int32} {L : Nat} {kn : zSt → (Nat → Int64) → zSt → Int32 → Option Int32} {μ σ : zSt} {o : Nat → Int64} {x4 : Int32} (hM : zRM K n k s μ) (hC : zRC n h s σ) (hR : zAll A σ μ) (hA : A ≤ 900000000000000) (hb : K + 2100000 ≤ 268435456) (hz : ∀ j : Int32, 0 ≤ j.toInt → j.toInt ≤ 7 → zin (x4 + j) L = true) (hK : ∀ (μ1 : zSt) (o1 : Nat → Int64) (σ1 : zSt) (n s : Int), zRM (K + 2100000) n k s μ1 → zRC n h s σ1 → zAll (A + 1000000) σ1 μ1 → zok (kn μ1 o1 σ1 (x4 + 8)) (fun r => r = 1)) : zok (fLaw_1054 xs L kn μ o σ x4) (fun r => r = 1) := by
  unfold fLaw_1054
  refine zok_ck (hz 1 (by decide) (by decide)) ?_
  refine zok_ck (hz 2 (by decide) (by decide)) ?_
  refine zok_buE (c_out hC) (fun s3 e2 p1 => ?_)
  refine zok_ck (hz 1 (by decide) (by decide)) ?_
  refine zok_ck (hz 2 (by decide) (by decide)) ?_
  refine zok_buE (m_out hM) (fun s6 e5 p4 => ?_)
  have R6 := g_out hR _ _ e2 e5
  refine zok_bv (fun v8 e8 => ?_)
  subst e8
  exact hK _ _ _ _ _ (zRM.mono p4 (by omega) hb) p1 (zAll.mono R6 (by omega))
theorem q_fLaw_1089 {K n k s h A : Int} {xs : Nat → Int32} {L : Nat} {kn : zSt → (Nat → Int64) → zSt → Int32 → Option Int32} {μ σ : zSt} {o : Nat → Int64} {x4 : Int32} (hM : zRM K n k s μ) (hC : zRC n h s σ) (hR : zAll A σ μ) (hA : A ≤ 900000000000000) (hb : K + 2100000 ≤ 268435456) (hz : ∀ j : Int32, 0 ≤ j.toInt → j.toInt ≤ 7 → zin (x4 + j) L = true) (hK : ∀ (μ1 : zSt) (o1 : Nat → Int64) (σ1 : zSt) (n s : Int), zRM (K + 2100000) n k s μ1 → zRC n h s σ1 → zAll (A + 1000000) σ1 μ1 → zok (kn μ1 o1 σ1 (x4 + 8)) (fun r => r = 1)) : zok (fLaw_1089 xs L kn μ o σ x4) (fun r => r = 1) := by
  unfold fLaw_1089
  refine zok_ck (hz 1 (by decide) (by decide)) ?_
  refine zok_bhE (l_battery hC) (fun o3 s4 _ e2 p1 => ?_)
  refine zok_ck (hz 1 (by decide) (by decide)) ?_
  refine zok_biE (m_battery hM) (fun s7 _ e6 p5 => ?_)
  have R6 := r_battery hR _ _ e2 e6
  refine zok_bv (fun v8 e8 => ?_)
  subst e8
  exact hK _ _ _ _ _ (zRM.mono p5 (by omega) hb) p1 (zAll.mono R6 (by omega))
theorem q_fLaw_1117 {K n k s h A : Int} {xs : Nat → Int32} {L : Nat} {kn : zSt → (Nat → Int64) → zSt → Int32 → Option Int32} {μ σ : zSt} {o : Nat → Int64} {x4 : Int32} (hM : zRM K n k s μ) (hC : zRC n h s σ) (hR : zAll A σ μ) (hA : A ≤ 900000000000000) (hb : K + 2100000 ≤ 268435456) (hz : ∀ j : Int32, 0 ≤ j.toInt → j.toInt ≤ 7 → zin (x4 + j) L = true) (hK : ∀ (μ1 : zSt) (o1 : Nat → Int64) (σ1 : zSt) (n s : Int), zRM (K + 2100000) n k s μ1 → zRC n h s σ1 → zAll (A + 1000000) σ1 μ1 → zok (kn μ1 o1 σ1 (x4 + 8)) (fun r => r = 1)) : zok (fLaw_1117 xs L kn μ o σ x4) (fun r => r = 1) := by
  unfold fLaw_1117
  refine zok_buE (c_wipe hC) (fun s3 e2 p1 => ?_)
  refine zok_buE (m_wipe hM) (fun s6 e5 p4 => ?_)
  have R6 := g_wipe hR _ _ e2 e5
  refine zok_bv (fun v8 e8 => ?_)
  subst e8
  exact hK _ _ _ _ _ (zRM.mono p4 (by omega) hb) p1 (zAll.mono R6 (by omega))
theorem q_fLaw_1128 {K n k s h A : Int} {xs : Nat → Int32} {L : Nat} {kn : zSt → (Nat → Int64) → zSt → Int32 → Option Int32} {μ σ : zSt} {o : Nat → Int64} {x4 : Int32} (hM : zRM K n k s μ) (hC : zRC n h s σ) (hR : zAll A σ μ) (hA : A ≤ 900000000000000) (hb : K + 2100000 ≤ 268435456) (hz : ∀ j : Int32, 0 ≤ j.toInt → j.toInt ≤ 7 → zin (x4 + j) L = true) (hK : ∀ (μ1 : zSt) (o1 : Nat → Int64) (σ1 : zSt) (n s : Int), zRM (K + 2100000) n k s μ1 → zRC n h s σ1 → zAll (A + 1000000) σ1 μ1 → zok (kn μ1 o1 σ1 (x4 + 8)) (fun r => r = 1)) : zok (fLaw_1128 xs L kn μ o σ x4) (fun r => r = 1) := by
  unfold fLaw_1128
  refine zok_ck (hz 1 (by decide) (by decide)) ?_
  refine zok_bllE (c_video hC) (fun s3 _ e2 p1 => ?_)
  refine zok_ck (hz 1 (by decide) (by decide)) ?_
  refine zok_bllE (m_video hM) (fun s6 _ e5 p4 => ?_)
  have R6 := g_video hR _ _ e2 e5
  refine zok_bv (fun v8 e8 => ?_)
  subst e8
  exact hK _ _ _ _ _ (zRM.mono p4 (by omega) hb) p1 (zAll.mono R6 (by omega))
theorem q_fLaw_1153 {K n k s h A : Int} {xs : Nat → Int32} {L : Nat} {kn : zSt → (Nat → Int64) → zSt → Int32 → Option Int32} {μ σ : zSt} {o : Nat → Int64} {x4 : Int32} (hM : zRM K n k s μ) (hC : zRC n h s σ) (hR : zAll A σ μ) (hA : A ≤ 900000000000000) (hb : K + 2100000 ≤ 268435456) (hz : ∀ j : Int32, 0 ≤ j.toInt → j.toInt ≤ 7 → zin (x4 + j) L = true) (hK : ∀ (μ1 : zSt) (o1 : Nat → Int64) (σ1 : zSt) (n s : Int), zRM (K + 2100000) n k s μ1 → zRC n h s σ1 → zAll (A + 1000000) σ1 μ1 → zok (kn μ1 o1 σ1 (x4 + 8)) (fun r => r = 1)) : zok (fLaw_1153 xs L kn μ o σ x4) (fun r => r = 1) := by
  unfold fLaw_1153
  refine zok_ck (hz 1 (by decide) (by decide)) ?_
  refine zok_bhE (l_chip hC) (fun o3 s4 _ e2 p1 => ?_)
  refine zok_ck (hz 1 (by decide) (by decide)) ?_
  refine zok_biE (m_chip hM) (fun s7 _ e6 p5 => ?_)
  have R6 := r_chip hR _ _ e2 e6
  refine zok_bv (fun v8 e8 => ?_)
  subst e8
  exact hK _ _ _ _ _ (zRM.mono p5 (by omega) hb) p1 (zAll.mono R6 (by omega))
theorem q_fLaw_1181 {K n k s h A : Int} {xs : Nat → Int32} {L : Nat} {kn : zSt → (Nat → Int64) → zSt → Int32 → Option Int32} {μ σ : zSt} {o : Nat → Int64} {x4 : Int32} (hM : zRM K n k s μ) (hC : zRC n h s σ) (hR : zAll A σ μ) (hA : A ≤ 900000000000000) (hb : K + 2100000 ≤ 268435456) (hz : ∀ j : Int32, 0 ≤ j.toInt → j.toInt ≤ 7 → zin (x4 + j) L = true) (hK : ∀ (μ1 : zSt) (o1 : Nat → Int64) (σ1 : zSt) (n s : Int), zRM (K + 2100000) n k s μ1 → zRC n h s σ1 → zAll (A + 1000000) σ1 μ1 → zok (kn μ1 o1 σ1 (x4 + 8)) (fun r => r = 1)) : zok (fLaw_1181 xs L kn μ o σ x4) (fun r => r = 1) := by
  unfold fLaw_1181
  refine zok_ck (hz 1 (by decide) (by decide)) ?_
  refine zok_ck (hz 2 (by decide) (by decide)) ?_
  refine zok_bhE (l_dot hC) (fun o3 s4 _ e2 p1 => ?_)
  refine zok_ck (hz 1 (by decide) (by decide)) ?_
  refine zok_ck (hz 2 (by decide) (by decide)) ?_
  refine zok_biE (m_dot hM) (fun s7 _ e6 p5 => ?_)
  have R6 := r_dot hR _ _ e2 e6
  refine zok_bv (fun v8 e8 => ?_)
  subst e8
  exact hK _ _ _ _ _ (zRM.mono p5 (by omega) hb) p1 (zAll.mono R6 (by omega))
theorem q_fLaw_1221 {K n k s h A : Int} {xs : Nat → Int32} {L : Nat} {kn : zSt → (Nat → Int64) → zSt → Int32 → Option Int32} {μ σ : zSt} {o : Nat → Int64} {x4 : Int32} (hM : zRM K n k s μ) (hC : zRC n h s σ) (hR : zAll A σ μ) (hA : A ≤ 900000000000000) (hb : K + 2100000 ≤ 268435456) (hz : ∀ j : Int32, 0 ≤ j.toInt → j.toInt ≤ 7 → zin (x4 + j) L = true) (hK : ∀ (μ1 : zSt) (o1 : Nat → Int64) (σ1 : zSt) (n s : Int), zRM (K + 2100000) n k s μ1 → zRC n h s σ1 → zAll (A + 1000000) σ1 μ1 → zok (kn μ1 o1 σ1 (x4 + 8)) (fun r => r = 1)) : zok (fLaw_1221 xs L kn μ o σ x4) (fun r => r = 1) := by
  unfold fLaw_1221
  refine zok_ck (hz 1 (by decide) (by decide)) ?_
  refine zok_bhE (l_row hC) (fun o3 s4 _ e2 p1 => ?_)
  refine zok_ck (hz 1 (by decide) (by decide)) ?_
  refine zok_biE (m_row hM) (fun s7 _ e6 p5 => ?_)
  have R6 := r_row hR _ _ e2 e6
  refine zok_bv (fun v8 e8 => ?_)
  subst e8
  exact hK _ _ _ _ _ (zRM.mono p5 (by omega) hb) p1 (zAll.mono R6 (by omega))
theorem q_fLaw_1249 {K n k s h A : Int} {xs : Nat → Int32} {L : Nat} {kn : zSt → (Nat → Int64) → zSt → Int32 → Option Int32} {μ σ : zSt} {o : Nat → Int64} {x4 : Int32} (hM : zRM K n k s μ) (hC : zRC n h s σ) (hR : zAll A σ μ) (hA : A ≤ 900000000000000) (hb : K + 2100000 ≤ 268435456) (hz : ∀ j : Int32, 0 ≤ j.toInt → j.toInt ≤ 7 → zin (x4 + j) L = true) (hK : ∀ (μ1 : zSt) (o1 : Nat → Int64) (σ1 : zSt) (n s : Int), zRM (K + 2100000) n k s μ1 → zRC n h s σ1 → zAll (A + 1000000) σ1 μ1 → zok (kn μ1 o1 σ1 (x4 + 8)) (fun r => r = 1)) : zok (fLaw_1249 xs L kn μ o σ x4) (fun r => r = 1) := by
  unfold fLaw_1249
  refine zok_bhE (l_hear hC) (fun o3 s4 _ e2 p1 => ?_)
  refine zok_bllE (m_hear hM) (fun s7 _ e6 p5 => ?_)
  have R6 := r_hear hR _ _ e2 e6
  refine zok_bv (fun v8 e8 => ?_)
  subst e8
  exact hK _ _ _ _ _ (zRM.mono p5 (by omega) hb) p1 (zAll.mono R6 (by omega))
theorem q_fLaw_1265 {K n k s h A : Int} {xs : Nat → Int32} {L : Nat} {kn : zSt → (Nat → Int64) → zSt → Int32 → Option Int32} {μ σ : zSt} {o : Nat → Int64} {x4 : Int32} (hM : zRM K n k s μ) (hC : zRC n h s σ) (hR : zAll A σ μ) (hA : A ≤ 900000000000000) (hb : K + 2100000 ≤ 268435456) (hz : ∀ j : Int32, 0 ≤ j.toInt → j.toInt ≤ 7 → zin (x4 + j) L = true) (hK : ∀ (μ1 : zSt) (o1 : Nat → Int64) (σ1 : zSt) (n s : Int), zRM (K + 2100000) n k s μ1 → zRC n h s σ1 → zAll (A + 1000000) σ1 μ1 → zok (kn μ1 o1 σ1 (x4 + 8)) (fun r => r = 1)) : zok (fLaw_1265 xs L kn μ o σ x4) (fun r => r = 1) := by
  unfold fLaw_1265
  refine zok_bhE (l_mix hC) (fun o3 s4 _ e2 p1 => ?_)
  refine zok_bllE (m_mix hM) (fun s7 _ e6 p5 => ?_)
  have R6 := r_mix hR _ _ e2 e6
  refine zok_bv (fun v8 e8 => ?_)
  subst e8
  exact hK _ _ _ _ _ (zRM.mono p5 (by omega) hb) p1 (zAll.mono R6 (by omega))
theorem q_fLaw_1281 {K n k s h A : Int} {xs : Nat → Int32} {L : Nat} {kn : zSt → (Nat → Int64) → zSt → Int32 → Option Int32} {μ σ : zSt} {o : Nat → Int64} {x4 : Int32} (hM : zRM K n k s μ) (hC : zRC n h s σ) (hR : zAll A σ μ) (hA : A ≤ 900000000000000) (hb : K + 2100000 ≤ 268435456) (hz : ∀ j : Int32, 0 ≤ j.toInt → j.toInt ≤ 7 → zin (x4 + j) L = true) (hK : ∀ (μ1 : zSt) (o1 : Nat → Int64) (σ1 : zSt) (n s : Int), zRM (K + 2100000) n k s μ1 → zRC n h s σ1 → zAll (A + 1000000) σ1 μ1 → zok (kn μ1 o1 σ1 (x4 + 8)) (fun r => r = 1)) : zok (fLaw_1281 xs L kn μ o σ x4) (fun r => r = 1) := by
  unfold fLaw_1281
  refine zok_ck (hz 1 (by decide) (by decide)) ?_
  refine zok_bhE (l_wave hC) (fun o3 s4 _ e2 p1 => ?_)
  refine zok_ck (hz 1 (by decide) (by decide)) ?_
  refine zok_biE (m_wave hM) (fun s7 _ e6 p5 => ?_)
  have R6 := r_wave hR _ _ e2 e6
  refine zok_bv (fun v8 e8 => ?_)
  subst e8
  exact hK _ _ _ _ _ (zRM.mono p5 (by omega) hb) p1 (zAll.mono R6 (by omega))
theorem q_fLaw_1309 {K n k s h A : Int} {xs : Nat → Int32} {L : Nat} {kn : zSt → (Nat → Int64) → zSt → Int32 → Option Int32} {μ σ : zSt} {o : Nat → Int64} {x4 : Int32} (hM : zRM K n k s μ) (hC : zRC n h s σ) (hR : zAll A σ μ) (hA : A ≤ 900000000000000) (hb : K + 2100000 ≤ 268435456) (hz : ∀ j : Int32, 0 ≤ j.toInt → j.toInt ≤ 7 → zin (x4 + j) L = true) (hK : ∀ (μ1 : zSt) (o1 : Nat → Int64) (σ1 : zSt) (n s : Int), zRM (K + 2100000) n k s μ1 → zRC n h s σ1 → zAll (A + 1000000) σ1 μ1 → zok (kn μ1 o1 σ1 (x4 + 8)) (fun r => r = 1)) : zok (fLaw_1309 xs L kn μ o σ x4) (fun r => r = 1) := by
  unfold fLaw_1309
  refine zok_ck (hz 1 (by decide) (by decide)) ?_
  refine zok_bhE (l_sound hC) (fun o3 s4 _ e2 p1 => ?_)
  refine zok_ck (hz 1 (by decide) (by decide)) ?_
  refine zok_biE (m_sound hM) (fun s7 _ e6 p5 => ?_)
  have R6 := r_sound hR _ _ e2 e6
  refine zok_bv (fun v8 e8 => ?_)
  subst e8
  exact hK _ _ _ _ _ (zRM.mono p5 (by omega) hb) p1 (zAll.mono R6 (by omega))
theorem q_fLaw_1337 {K n k s h A : Int} {xs : Nat → Int32} {L : Nat} {kn : zSt → (Nat → Int64) → zSt → Int32 → Option Int32} {μ σ : zSt} {o : Nat → Int64} {x4 : Int32} (hM : zRM K n k s μ) (hC : zRC n h s σ) (hR : zAll A σ μ) (hA : A ≤ 900000000000000) (hb : K + 2100000 ≤ 268435456) (hz : ∀ j : Int32, 0 ≤ j.toInt → j.toInt ≤ 7 → zin (x4 + j) L = true) (hK : ∀ (μ1 : zSt) (o1 : Nat → Int64) (σ1 : zSt) (n s : Int), zRM (K + 2100000) n k s μ1 → zRC n h s σ1 → zAll (A + 1000000) σ1 μ1 → zok (kn μ1 o1 σ1 (x4 + 8)) (fun r => r = 1)) : zok (fLaw_1337 xs L kn μ o σ x4) (fun r => r = 1) := by
  unfold fLaw_1337
  refine zok_ck (hz 1 (by decide) (by decide)) ?_
  refine zok_biE (c_trace hC) (fun s3 _ e2 p1 => ?_)
  refine zok_ck (hz 1 (by decide) (by decide)) ?_
  refine zok_biE (m_trace hM) (fun s6 _ e5 p4 => ?_)
  have R6 := g_trace hR _ _ e2 e5
  refine zok_bv (fun v8 e8 => ?_)
  subst e8
  exact hK _ _ _ _ _ (zRM.mono p4 (by omega) hb) p1 (zAll.mono R6 (by omega))
theorem q_fLaw_1362 {K n k s h A : Int} {xs : Nat → Int32} {L : Nat} {kn : zSt → (Nat → Int64) → zSt → Int32 → Option Int32} {μ σ : zSt} {o : Nat → Int64} {x4 : Int32} (hM : zRM K n k s μ) (hC : zRC n h s σ) (hR : zAll A σ μ) (hA : A ≤ 900000000000000) (hb : K + 2100000 ≤ 268435456) (hz : ∀ j : Int32, 0 ≤ j.toInt → j.toInt ≤ 7 → zin (x4 + j) L = true) (hK : ∀ (μ1 : zSt) (o1 : Nat → Int64) (σ1 : zSt) (n s : Int), zRM (K + 2100000) n k s μ1 → zRC n h s σ1 → zAll (A + 1000000) σ1 μ1 → zok (kn μ1 o1 σ1 (x4 + 8)) (fun r => r = 1)) : zok (fLaw_1362 xs L kn μ o σ x4) (fun r => r = 1) := by
  unfold fLaw_1362
  refine zok_ck (hz 1 (by decide) (by decide)) ?_
  refine zok_bhE (l_look hC) (fun o3 s4 _ e2 p1 => ?_)
  refine zok_ck (hz 1 (by decide) (by decide)) ?_
  refine zok_bllE (m_look hM) (fun s7 _ e6 p5 => ?_)
  have R6 := r_look hR _ _ e2 e6
  refine zok_bv (fun v8 e8 => ?_)
  subst e8
  exact hK _ _ _ _ _ (zRM.mono p5 (by omega) hb) p1 (zAll.mono R6 (by omega))
theorem q_fLaw_1390 {K n k s h A : Int} {xs : Nat → Int32} {L : Nat} {kn : zSt → (Nat → Int64) → zSt → Int32 → Option Int32} {μ σ : zSt} {o : Nat → Int64} {x4 : Int32} (hM : zRM K n k s μ) (hC : zRC n h s σ) (hR : zAll A σ μ) (hA : A ≤ 900000000000000) (hb : K + 2100000 ≤ 268435456) (hz : ∀ j : Int32, 0 ≤ j.toInt → j.toInt ≤ 7 → zin (x4 + j) L = true) (hK : ∀ (μ1 : zSt) (o1 : Nat → Int64) (σ1 : zSt) (n s : Int), zRM (K + 2100000) n k s μ1 → zRC n h s σ1 → zAll (A + 1000000) σ1 μ1 → zok (kn μ1 o1 σ1 (x4 + 8)) (fun r => r = 1)) : zok (fLaw_1390 xs L kn μ o σ x4) (fun r => r = 1) := by
  unfold fLaw_1390
  refine zok_bv (fun v8 e8 => ?_)
  subst e8
  exact hK _ _ _ _ _ (zRM.mono hM (by omega) hb) hC (zAll.mono hR (by omega))
