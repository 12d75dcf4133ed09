theorem q1_fLaw_208 {kk h : Int} {k : Fin 3} {xs : Nat → Int32} {L : Nat} {kn : zSt → (Nat → Int64) → zSt → Int32 → Option Int32} {μ σ : zSt} {x4 : Int32} (hk : zHk kk h) (hM : zRM 0 0 kk 0 μ) (hC : zRC 0 h 0 σ) (hF : zFr k σ μ) (hz : ∀ j : Int32, 0 ≤ j.toInt → j.toInt ≤ 7 → zin (x4 + j) L = true) (hK : ∀ (μ1 : zSt) (o1 : Nat → Int64) (σ1 : zSt), zok (kn μ1 o1 σ1 (x4 + 8)) (fun r => r = 1)) : zok (fLaw_208 xs L kn μ (fun _ => 0) σ x4) (fun r => r = 1) := by
  unfold fLaw_208
  refine zok_ck (hz 1 (by decide) (by decide)) ?_
  refine zok_ck (hz 2 (by decide) (by decide)) ?_
  refine zok_ck (hz 3 (by decide) (by decide)) ?_
  refine zok_ck (hz 4 (by decide) (by decide)) ?_
  refine zok_ck (hz 5 (by decide) (by decide)) ?_
  refine zok_ck (hz 6 (by decide) (by decide)) ?_
  refine zok_ck (hz 7 (by decide) (by decide)) ?_
  refine zok_bh (l_feedx hC) (fun o3 s4 _ p1 => ?_)
  refine zok_ck (hz 1 (by decide) (by decide)) ?_
  refine zok_ck (hz 2 (by decide) (by decide)) ?_
  refine zok_ck (hz 3 (by decide) (by decide)) ?_
  refine zok_ck (hz 4 (by decide) (by decide)) ?_
  refine zok_ck (hz 5 (by decide) (by decide)) ?_
  refine zok_ck (hz 6 (by decide) (by decide)) ?_
  refine zok_ck (hz 7 (by decide) (by decide)) ?_
  refine zok_bi (m_feedx hM) (fun s7 _ p5 => ?_)
  obtain ⟨e8, _, e9⟩ := zBr.both p1 p5
  refine zok_thrown ?_
  refine zok_if (fun _ => ?_) (fun q => absurd e8 q)
  refine zok_if (fun q10 => ?_) (fun q10 => ?_)
  · refine zok_if (fun _ => ?_) (fun q => absurd (by obtain ⟨_, y1, y2⟩ := e9 q10; exact z_lgc (by rw [Int32.toInt_toInt64]; exact Eq.trans y1 (Eq.symm y2))) q)
    refine zok_bv (fun v8 e8 => ?_)
    subst e8
    exact hK _ _ _
  · refine zok_bv (fun v8 e8 => ?_)
    subst e8
    exact hK _ _ _
theorem q1_fLaw_400 {kk h : Int} {k : Fin 3} {xs : Nat → Int32} {L : Nat} {kn : zSt → (Nat → Int64) → zSt → Int32 → Option Int32} {μ σ : zSt} {x4 : Int32} (hk : zHk kk h) (hM : zRM 0 0 kk 0 μ) (hC : zRC 0 h 0 σ) (hF : zFr k σ μ) (hz : ∀ j : Int32, 0 ≤ j.toInt → j.toInt ≤ 7 → zin (x4 + j) L = true) (hK : ∀ (μ1 : zSt) (o1 : Nat → Int64) (σ1 : zSt), zok (kn μ1 o1 σ1 (x4 + 8)) (fun r => r = 1)) : zok (fLaw_400 xs L kn μ (fun _ => 0) σ x4) (fun r => r = 1) := by
  unfold fLaw_400
  refine zok_ck (hz 1 (by decide) (by decide)) ?_
  refine zok_bh (l_growx hC) (fun o3 s4 _ p1 => ?_)
  refine zok_ck (hz 1 (by decide) (by decide)) ?_
  refine zok_bi (m_growx hM) (fun s7 _ p5 => ?_)
  obtain ⟨e8, _, e9⟩ := zBr.both p1 p5
  refine zok_thrown ?_
  refine zok_if (fun _ => ?_) (fun q => absurd e8 q)
  refine zok_if (fun q10 => ?_) (fun q10 => ?_)
  · refine zok_if (fun _ => ?_) (fun q => absurd (by obtain ⟨_, y1, y2⟩ := e9 q10; exact z_lgc (by rw [Int32.toInt_toInt64]; exact Eq.trans y1 (Eq.symm y2))) q)
    refine zok_bv (fun v8 e8 => ?_)
    subst e8
    exact hK _ _ _
  · refine zok_bv (fun v8 e8 => ?_)
    subst e8
    exact hK _ _ _
theorem q1_fLaw_456 {kk h : Int} {k : Fin 3} {xs : Nat → Int32} {L : Nat} {kn : zSt → (Nat → Int64) → zSt → Int32 → Option Int32} {μ σ : zSt} {x4 : Int32} (hk : zHk kk h) (hM : zRM 0 0 kk 0 μ) (hC : zRC 0 h 0 σ) (hF : zFr k σ μ) (hz : ∀ j : Int32, 0 ≤ j.toInt → j.toInt ≤ 7 → zin (x4 + j) L = true) (hK : ∀ (μ1 : zSt) (o1 : Nat → Int64) (σ1 : zSt), zok (kn μ1 o1 σ1 (x4 + 8)) (fun r => r = 1)) : zok (fLaw_456 xs L kn μ (fun _ => 0) σ x4) (fun r => r = 1) := by
  unfold fLaw_456
  refine zok_ck (hz 1 (by decide) (by decide)) ?_
  refine zok_ck (hz 2 (by decide) (by decide)) ?_
  refine zok_ck (hz 3 (by decide) (by decide)) ?_
  refine zok_bi (l_patchx hC) (fun s3 _ p1 => ?_)
  refine zok_ck (hz 1 (by decide) (by decide)) ?_
  refine zok_ck (hz 2 (by decide) (by decide)) ?_
  refine zok_ck (hz 3 (by decide) (by decide)) ?_
  refine zok_bu (m_patchx hM) (fun s6 p4 => ?_)
  refine zok_thrown ?_
  refine zok_if (fun _ => ?_) (fun q => absurd (z_cmp p1.2 p4.2) q)
  refine zok_bv (fun v8 e8 => ?_)
  subst e8
  exact hK _ _ _
theorem q1_fLaw_536 {kk h : Int} {k : Fin 3} {xs : Nat → Int32} {L : Nat} {kn : zSt → (Nat → Int64) → zSt → Int32 → Option Int32} {μ σ : zSt} {x4 : Int32} (hk : zHk kk h) (hM : zRM 0 0 kk 0 μ) (hC : zRC 0 h 0 σ) (hF : zFr k σ μ) (hz : ∀ j : Int32, 0 ≤ j.toInt → j.toInt ≤ 7 → zin (x4 + j) L = true) (hK : ∀ (μ1 : zSt) (o1 : Nat → Int64) (σ1 : zSt), zok (kn μ1 o1 σ1 (x4 + 8)) (fun r => r = 1)) : zok (fLaw_536 xs L kn μ (fun _ => 0) σ x4) (fun r => r = 1) := by
  unfold fLaw_536
  refine zok_bi (c_loadx hC) (fun s3 _ p1 => ?_)
  refine zok_bi (m_loadx hM) (fun s6 _ p4 => ?_)
  obtain ⟨e7, _⟩ := zLo.both p1 p4
  refine zok_if (fun _ => ?_) (fun q => absurd e7 q)
  refine zok_bv (fun v8 e8 => ?_)
  subst e8
  exact hK _ _ _
theorem q1_fLaw_549 {kk h : Int} {k : Fin 3} {xs : Nat → Int32} {L : Nat} {kn : zSt → (Nat → Int64) → zSt → Int32 → Option Int32} {μ σ : zSt} {x4 : Int32} (hk : zHk kk h) (hM : zRM 0 0 kk 0 μ) (hC : zRC 0 h 0 σ) (hF : zFr k σ μ) (hz : ∀ j : Int32, 0 ≤ j.toInt → j.toInt ≤ 7 → zin (x4 + j) L = true) (hK : ∀ (μ1 : zSt) (o1 : Nat → Int64) (σ1 : zSt), zok (kn μ1 o1 σ1 (x4 + 8)) (fun r => r = 1)) : zok (fLaw_549 xs L kn μ (fun _ => 0) σ x4) (fun r => r = 1) := by
  unfold fLaw_549
  refine zok_ck (hz 1 (by decide) (by decide)) ?_
  refine zok_bhE (l_card hC) (fun o3 s4 _ e2 p1 => ?_)
  refine zok_ck (hz 1 (by decide) (by decide)) ?_
  refine zok_biE (m_card hM) (fun s7 _ e6 p5 => ?_)
  have R8 := v1_card hF _ _ e2 e6
  refine zok_thrown ?_
  refine zok_if (fun _ => ?_) (fun q => absurd R8.1 q)
  refine zok_if (fun q9 => ?_) (fun q9 => ?_)
  · refine zok_if (fun _ => ?_) (fun q => absurd (z_lgc (by rw [Int32.toInt_toInt64]; exact R8.2 q9)) q)
    refine zok_bv (fun v8 e8 => ?_)
    subst e8
    exact hK _ _ _
  · refine zok_bv (fun v8 e8 => ?_)
    subst e8
    exact hK _ _ _
theorem q1_fLaw_605 {kk h : Int} {k : Fin 3} {xs : Nat → Int32} {L : Nat} {kn : zSt → (Nat → Int64) → zSt → Int32 → Option Int32} {μ σ : zSt} {x4 : Int32} (hk : zHk kk h) (hM : zRM 0 0 kk 0 μ) (hC : zRC 0 h 0 σ) (hF : zFr k σ μ) (hz : ∀ j : Int32, 0 ≤ j.toInt → j.toInt ≤ 7 → zin (x4 + j) L = true) (hK : ∀ (μ1 : zSt) (o1 : Nat → Int64) (σ1 : zSt), zok (kn μ1 o1 σ1 (x4 + 8)) (fun r => r = 1)) : zok (fLaw_605 xs L kn μ (fun _ => 0) σ x4) (fun r => r = 1) := by
  unfold fLaw_605
  refine zok_ck (hz 1 (by decide) (by decide)) ?_
  refine zok_bhE (l_step hC) (fun o3 s4 _ e2 p1 => ?_)
  refine zok_ck (hz 1 (by decide) (by decide)) ?_
  refine zok_biE (m_step hM (by decide)) (fun s7 _ e6 p5 => ?_)
  have R8 := v1_step hF _ _ e2 e6
  refine zok_thrown ?_
  refine zok_if (fun _ => ?_) (fun q => absurd R8.1 q)
  refine zok_if (fun q9 => ?_) (fun q9 => ?_)
  · refine zok_if (fun _ => ?_) (fun q => absurd (z_lgc (by rw [Int32.toInt_toInt64]; exact R8.2 q9)) q)
    refine zok_bv (fun v8 e8 => ?_)
    subst e8
    exact hK _ _ _
  · refine zok_bv (fun v8 e8 => ?_)
    subst e8
    exact hK _ _ _
theorem q1_fLaw_661 {kk h : Int} {k : Fin 3} {xs : Nat → Int32} {L : Nat} {kn : zSt → (Nat → Int64) → zSt → Int32 → Option Int32} {μ σ : zSt} {x4 : Int32} (hk : zHk kk h) (hM : zRM 0 0 kk 0 μ) (hC : zRC 0 h 0 σ) (hF : zFr k σ μ) (hz : ∀ j : Int32, 0 ≤ j.toInt → j.toInt ≤ 7 → zin (x4 + j) L = true) (hK : ∀ (μ1 : zSt) (o1 : Nat → Int64) (σ1 : zSt), zok (kn μ1 o1 σ1 (x4 + 8)) (fun r => r = 1)) : zok (fLaw_661 xs L kn μ (fun _ => 0) σ x4) (fun r => r = 1) := by
  unfold fLaw_661
  refine zok_ck (hz 1 (by decide) (by decide)) ?_
  refine zok_bhE (l_picture hC) (fun o3 s4 _ e2 p1 => ?_)
  refine zok_ck (hz 1 (by decide) (by decide)) ?_
  refine zok_biE (m_picture hM (by decide)) (fun s7 _ e6 p5 => ?_)
  have R8 := v1_picture hF _ _ e2 e6
  refine zok_thrown ?_
  refine zok_if (fun _ => ?_) (fun q => absurd R8.1 q)
  refine zok_if (fun q9 => ?_) (fun q9 => ?_)
  · refine zok_if (fun _ => ?_) (fun q => absurd (z_lgc (by rw [Int32.toInt_toInt64]; exact R8.2 q9)) q)
    refine zok_bv (fun v8 e8 => ?_)
    subst e8
    exact hK _ _ _
  · refine zok_bv (fun v8 e8 => ?_)
    subst e8
    exact hK _ _ _
theorem q1_fLaw_717 {kk h : Int} {k : Fin 3} {xs : Nat → Int32} {L : Nat} {kn : zSt → (Nat → Int64) → zSt → Int32 → Option Int32} {μ σ : zSt} {x4 : Int32} (hk : zHk kk h) (hM : zRM 0 0 kk 0 μ) (hC : zRC 0 h 0 σ) (hF : zFr k σ μ) (hz : ∀ j : Int32, 0 ≤ j.toInt → j.toInt ≤ 7 → zin (x4 + j) L = true) (hK : ∀ (μ1 : zSt) (o1 : Nat → Int64) (σ1 : zSt), zok (kn μ1 o1 σ1 (x4 + 8)) (fun r => r = 1)) : zok (fLaw_717 xs L kn μ (fun _ => 0) σ x4) (fun r => r = 1) := by
  unfold fLaw_717
  refine zok_buE (c_reset hC) (fun s3 e2 p1 => ?_)
  refine zok_buE (m_reset hM) (fun s6 e5 p4 => ?_)
  refine zok_bv (fun v8 e8 => ?_)
  subst e8
  exact hK _ _ _
theorem q1_fLaw_728 {kk h : Int} {k : Fin 3} {xs : Nat → Int32} {L : Nat} {kn : zSt → (Nat → Int64) → zSt → Int32 → Option Int32} {μ σ : zSt} {x4 : Int32} (hk : zHk kk h) (hM : zRM 0 0 kk 0 μ) (hC : zRC 0 h 0 σ) (hF : zFr k σ μ) (hz : ∀ j : Int32, 0 ≤ j.toInt → j.toInt ≤ 7 → zin (x4 + j) L = true) (hK : ∀ (μ1 : zSt) (o1 : Nat → Int64) (σ1 : zSt), zok (kn μ1 o1 σ1 (x4 + 8)) (fun r => r = 1)) : zok (fLaw_728 xs L kn μ (fun _ => 0) σ x4) (fun r => r = 1) := by
  unfold fLaw_728
  refine zok_bi (c_pausex hC) (fun s3 _ p1 => ?_)
  refine zok_bi (m_pausex hM) (fun s6 _ p4 => ?_)
  refine zok_if (fun _ => ?_) (fun q => absurd (zHk.both hk p1.2 p4.2) q)
  refine zok_bv (fun v8 e8 => ?_)
  subst e8
  exact hK _ _ _
theorem q1_fLaw_741 {kk h : Int} {k : Fin 3} {xs : Nat → Int32} {L : Nat} {kn : zSt → (Nat → Int64) → zSt → Int32 → Option Int32} {μ σ : zSt} {x4 : Int32} (hk : zHk kk h) (hM : zRM 0 0 kk 0 μ) (hC : zRC 0 h 0 σ) (hF : zFr k σ μ) (hz : ∀ j : Int32, 0 ≤ j.toInt → j.toInt ≤ 7 → zin (x4 + j) L = true) (hK : ∀ (μ1 : zSt) (o1 : Nat → Int64) (σ1 : zSt), zok (kn μ1 o1 σ1 (x4 + 8)) (fun r => r = 1)) : zok (fLaw_741 xs L kn μ (fun _ => 0) σ x4) (fun r => r = 1) := by
  obtain ⟨_, G, iM, _⟩ := hM
  obtain ⟨H, iC, _⟩ := hC
  unfold fLaw_741
  refine zok_ck (hz 1 (by decide) (by decide)) ?_
  refine zok_ck (hz 2 (by decide) (by decide)) ?_
  refine zok_bi (q_pressC iC) (fun s3 _ p1 => ?_)
  refine zok_ck (hz 1 (by decide) (by decide)) ?_
  refine zok_ck (hz 2 (by decide) (by decide)) ?_
  refine zok_bu (q_pressM iM) (fun s6 p4 => ?_)
  refine zok_thrown ?_
  refine zok_if (fun _ => ?_) (fun q => absurd (z_cmp p1.2 p4.2) q)
  refine zok_bv (fun v8 e8 => ?_)
  subst e8
  exact hK _ _ _
theorem q1_fLaw_789 {kk h : Int} {k : Fin 3} {xs : Nat → Int32} {L : Nat} {kn : zSt → (Nat → Int64) → zSt → Int32 → Option Int32} {μ σ : zSt} {x4 : Int32} (hk : zHk kk h) (hM : zRM 0 0 kk 0 μ) (hC : zRC 0 h 0 σ) (hF : zFr k σ μ) (hz : ∀ j : Int32, 0 ≤ j.toInt → j.toInt ≤ 7 → zin (x4 + j) L = true) (hK : ∀ (μ1 : zSt) (o1 : Nat → Int64) (σ1 : zSt), zok (kn μ1 o1 σ1 (x4 + 8)) (fun r => r = 1)) : zok (fLaw_789 xs L kn μ (fun _ => 0) σ x4) (fun r => r = 1) := by
  unfold fLaw_789
  refine zok_ck (hz 1 (by decide) (by decide)) ?_
  refine zok_if (fun q1 => ?_) (fun q1 => ?_)
  · refine zok_buE (c_start hC (zr_c (by decide))) (fun s4 e3 p2 => ?_)
    refine zok_ck (hz 1 (by decide) (by decide)) ?_
    refine zok_if (fun _ => ?_) (fun q => absurd q1 q)
    refine zok_buE (m_start hM (zr_c (by decide))) (fun s7 e6 p5 => ?_)
    refine zok_bv (fun v8 e8 => ?_)
    subst e8
    exact hK _ _ _
  · refine zok_buE (c_start hC (zr_c (by decide))) (fun s10 e9 p8 => ?_)
    refine zok_ck (hz 1 (by decide) (by decide)) ?_
    refine zok_if (fun q => absurd q q1) (fun _ => ?_)
    refine zok_buE (m_start hM (zr_c (by decide))) (fun s13 e12 p11 => ?_)
    refine zok_bv (fun v8 e8 => ?_)
    subst e8
    exact hK _ _ _
theorem q1_fLaw_828 {kk h : Int} {k : Fin 3} {xs : Nat → Int32} {L : Nat} {kn : zSt → (Nat → Int64) → zSt → Int32 → Option Int32} {μ σ : zSt} {x4 : Int32} (hk : zHk kk h) (hM : zRM 0 0 kk 0 μ) (hC : zRC 0 h 0 σ) (hF : zFr k σ μ) (hz : ∀ j : Int32, 0 ≤ j.toInt → j.toInt ≤ 7 → zin (x4 + j) L = true) (hK : ∀ (μ1 : zSt) (o1 : Nat → Int64) (σ1 : zSt), zok (kn μ1 o1 σ1 (x4 + 8)) (fun r => r = 1)) : zok (fLaw_828 xs L kn μ (fun _ => 0) σ x4) (fun r => r = 1) := by
  obtain ⟨_, G, iM, _⟩ := hM
  obtain ⟨H, iC, _⟩ := hC
  unfold fLaw_828
  refine zok_ck (hz 1 (by decide) (by decide)) ?_
  refine zok_ck (hz 2 (by decide) (by decide)) ?_
  refine zok_if (fun q1 => ?_) (fun q1 => ?_)
  · refine zok_bi (q_lineC iC (zr_c (by decide))) (fun s4 _ p2 => ?_)
    refine zok_ck (hz 1 (by decide) (by decide)) ?_
    refine zok_ck (hz 2 (by decide) (by decide)) ?_
    refine zok_if (fun _ => ?_) (fun q => absurd q1 q)
    refine zok_bu (q_lineM iM (zr_c (by decide))) (fun s7 p5 => ?_)
    refine zok_thrown ?_
    refine zok_if (fun _ => ?_) (fun q => absurd (z_cmp p2.2 p5.2) q)
    refine zok_bv (fun v8 e8 => ?_)
    subst e8
    exact hK _ _ _
  · refine zok_bi (q_lineC iC (zr_c (by decide))) (fun s10 _ p8 => ?_)
    refine zok_ck (hz 1 (by decide) (by decide)) ?_
    refine zok_ck (hz 2 (by decide) (by decide)) ?_
    refine zok_if (fun q => absurd q q1) (fun _ => ?_)
    refine zok_bu (q_lineM iM (zr_c (by decide))) (fun s13 p11 => ?_)
    refine zok_thrown ?_
    refine zok_if (fun _ => ?_) (fun q => absurd (z_cmp p8.2 p11.2) q)
    refine zok_bv (fun v8 e8 => ?_)
    subst e8
    exact hK _ _ _
theorem q1_fLaw_892 {kk h : Int} {k : Fin 3} {xs : Nat → Int32} {L : Nat} {kn : zSt → (Nat → Int64) → zSt → Int32 → Option Int32} {μ σ : zSt} {x4 : Int32} (hk : zHk kk h) (hM : zRM 0 0 kk 0 μ) (hC : zRC 0 h 0 σ) (hF : zFr k σ μ) (hz : ∀ j : Int32, 0 ≤ j.toInt → j.toInt ≤ 7 → zin (x4 + j) L = true) (hK : ∀ (μ1 : zSt) (o1 : Nat → Int64) (σ1 : zSt), zok (kn μ1 o1 σ1 (x4 + 8)) (fun r => r = 1)) : zok (fLaw_892 xs L kn μ (fun _ => 0) σ x4) (fun r => r = 1) := by
  unfold fLaw_892
  refine zok_ck (hz 1 (by decide) (by decide)) ?_
  refine zok_ck (hz 2 (by decide) (by decide)) ?_
  refine zok_ck (hz 3 (by decide) (by decide)) ?_
  refine zok_bhE (l_plan hC) (fun o3 s4 _ e2 p1 => ?_)
  refine zok_ck (hz 1 (by decide) (by decide)) ?_
  refine zok_ck (hz 2 (by decide) (by decide)) ?_
  refine zok_ck (hz 3 (by decide) (by decide)) ?_
  refine zok_biE (m_plan hM) (fun s7 _ e6 p5 => ?_)
  have R8 := v1_plan hF _ _ e2 e6
  refine zok_thrown ?_
  refine zok_if (fun _ => ?_) (fun q => absurd R8.1 q)
  refine zok_if (fun q9 => ?_) (fun q9 => ?_)
  · refine zok_if (fun _ => ?_) (fun q => absurd (z_lgc (by rw [Int32.toInt_toInt64]; exact R8.2 q9)) q)
    refine zok_bv (fun v8 e8 => ?_)
    subst e8
    exact hK _ _ _
  · refine zok_bv (fun v8 e8 => ?_)
    subst e8
    exact hK _ _ _
theorem q1_fLaw_972 {kk h : Int} {k : Fin 3} {xs : Nat → Int32} {L : Nat} {kn : zSt → (Nat → Int64) → zSt → Int32 → Option Int32} {μ σ : zSt} {x4 : Int32} (hk : zHk kk h) (hM : zRM 0 0 kk 0 μ) (hC : zRC 0 h 0 σ) (hF : zFr k σ μ) (hz : ∀ j : Int32, 0 ≤ j.toInt → j.toInt ≤ 7 → zin (x4 + j) L = true) (hK : ∀ (μ1 : zSt) (o1 : Nat → Int64) (σ1 : zSt), zok (kn μ1 o1 σ1 (x4 + 8)) (fun r => r = 1)) : zok (fLaw_972 xs L kn μ (fun _ => 0) σ x4) (fun r => r = 1) := by
  unfold fLaw_972
  refine zok_ck (hz 1 (by decide) (by decide)) ?_
  refine zok_biE (c_tell hC) (fun s3 _ e2 p1 => ?_)
  refine zok_ck (hz 1 (by decide) (by decide)) ?_
  refine zok_biE (m_tell hM) (fun s6 _ e5 p4 => ?_)
  have R7 := v1_tell hF _ _ e2 e5
  refine zok_if (fun _ => ?_) (fun q => absurd R7 q)
  refine zok_bv (fun v8 e8 => ?_)
  subst e8
  exact hK _ _ _
theorem q1_fLaw_997 {kk h : Int} {k : Fin 3} {xs : Nat → Int32} {L : Nat} {kn : zSt → (Nat → Int64) → zSt → Int32 → Option Int32} {μ σ : zSt} {x4 : Int32} (hk : zHk kk h) (hM : zRM 0 0 kk 0 μ) (hC : zRC 0 h 0 σ) (hF : zFr k σ μ) (hz : ∀ j : Int32, 0 ≤ j.toInt → j.toInt ≤ 7 → zin (x4 + j) L = true) (hK : ∀ (μ1 : zSt) (o1 : Nat → Int64) (σ1 : zSt), zok (kn μ1 o1 σ1 (x4 + 8)) (fun r => r = 1)) : zok (fLaw_997 xs L kn μ (fun _ => 0) σ x4) (fun r => r = 1) := by
  unfold fLaw_997
  refine zok_ck (hz 1 (by decide) (by decide)) ?_
  refine zok_bhE (l_text hC) (fun o3 s4 _ e2 p1 => ?_)
  refine zok_ck (hz 1 (by decide) (by decide)) ?_
  refine zok_bllE (m_text hM) (fun s7 _ e6 p5 => ?_)
  have R8 := v1_text hF _ _ e2 e6
  refine zok_thrown ?_
  refine zok_if (fun _ => ?_) (fun q => absurd R8.1 q)
  refine zok_if (fun q9 => ?_) (fun q9 => ?_)
  · refine zok_if (fun _ => ?_) (fun q => absurd (z_lgc (R8.2 q9)) q)
    refine zok_bv (fun v8 e8 => ?_)
    subst e8
    exact hK _ _ _
  · refine zok_bv (fun v8 e8 => ?_)
    subst e8
    exact hK _ _ _
theorem q1_fLaw_1052 {kk h : Int} {k : Fin 3} {xs : Nat → Int32} {L : Nat} {kn : zSt → (Nat → Int64) → zSt → Int32 → Option Int32} {μ σ : zSt} {x4 : Int32} (hk : zHk kk h) (hM : zRM 0 0 kk 0 μ) (hC : zRC 0 h 0 σ) (hF : zFr k σ μ) (hz : ∀ j : Int32, 0 ≤ j.toInt → j.toInt ≤ 7 → zin (x4 + j) L = true) (hK : ∀ (μ1 : zSt) (o1 : Nat → Int64) (σ1 : zSt), zok (kn μ1 o1 σ1 (x4 + 8)) (fun r => r = 1)) : zok (fLaw_1052 xs L kn μ (fun _ => 0) σ x4) (fun r => r = 1) := by
  unfold fLaw_1052
  refine zok_ck (hz 1 (by decide) (by decide)) ?_
  refine zok_ck (hz 2 (by decide) (by decide)) ?_
  refine zok_if (fun q1 => ?_) (fun q1 => ?_)
  · refine zok_bhE (l_stop hC (zr_c (by decide))) (fun o4 s5 _ e3 p2 => ?_)
    refine zok_ck (hz 1 (by decide) (by decide)) ?_
    refine zok_ck (hz 2 (by decide) (by decide)) ?_
    refine zok_if (fun _ => ?_) (fun q => absurd q1 q)
    refine zok_biE (m_stop hM (zr_c (by decide))) (fun s8 _ e7 p6 => ?_)
    have R9 := v1_stop hF _ _ e3 e7
    refine zok_thrown ?_
    refine zok_if (fun _ => ?_) (fun q => absurd R9.1 q)
    refine zok_if (fun q10 => ?_) (fun q10 => ?_)
    · refine zok_if (fun _ => ?_) (fun q => absurd (z_lgc (by rw [Int32.toInt_toInt64]; exact R9.2 q10)) q)
      refine zok_bv (fun v8 e8 => ?_)
      subst e8
      exact hK _ _ _
    · refine zok_bv (fun v8 e8 => ?_)
      subst e8
      exact hK _ _ _
  · refine zok_bhE (l_stop hC (zr_c (by decide))) (fun o13 s14 _ e12 p11 => ?_)
    refine zok_ck (hz 1 (by decide) (by decide)) ?_
    refine zok_ck (hz 2 (by decide) (by decide)) ?_
    refine zok_if (fun q => absurd q q1) (fun _ => ?_)
    refine zok_biE (m_stop hM (zr_c (by decide))) (fun s17 _ e16 p15 => ?_)
    have R18 := v1_stop hF _ _ e12 e16
    refine zok_thrown ?_
    refine zok_if (fun _ => ?_) (fun q => absurd R18.1 q)
    refine zok_if (fun q19 => ?_) (fun q19 => ?_)
    · refine zok_if (fun _ => ?_) (fun q => absurd (z_lgc (by rw [Int32.toInt_toInt64]; exact R18.2 q19)) q)
      refine zok_bv (fun v8 e8 => ?_)
      subst e8
      exact hK _ _ _
    · refine zok_bv (fun v8 e8 => ?_)
      subst e8
      exact hK _ _ _
theorem q1_fLaw_1136 {kk h : Int} {k : Fin 3} {xs : Nat → Int32} {L : Nat} {kn : zSt → (Nat → Int64) → zSt → Int32 → Option Int32} {μ σ : zSt} {x4 : Int32} (hk : zHk kk h) (hM : zRM 0 0 kk 0 μ) (hC : zRC 0 h 0 σ) (hF : zFr k σ μ) (hz : ∀ j : Int32, 0 ≤ j.toInt → j.toInt ≤ 7 → zin (x4 + j) L = true) (hK : ∀ (μ1 : zSt) (o1 : Nat → Int64) (σ1 : zSt), zok (kn μ1 o1 σ1 (x4 + 8)) (fun r => r = 1)) : zok (fLaw_1136 xs L kn μ (fun _ => 0) σ x4) (fun r => r = 1) := by
  unfold fLaw_1136
  refine zok_buE (c_savex hC) (fun s3 e2 p1 => ?_)
  refine zok_buE (m_save hM) (fun s6 e5 p4 => ?_)
  refine zok_bv (fun v8 e8 => ?_)
  subst e8
  exact hK _ _ _
theorem q1_fLaw_1147 {kk h : Int} {k : Fin 3} {xs : Nat → Int32} {L : Nat} {kn : zSt → (Nat → Int64) → zSt → Int32 → Option Int32} {μ σ : zSt} {x4 : Int32} (hk : zHk kk h) (hM : zRM 0 0 kk 0 μ) (hC : zRC 0 h 0 σ) (hF : zFr k σ μ) (hz : ∀ j : Int32, 0 ≤ j.toInt → j.toInt ≤ 7 → zin (x4 + j) L = true) (hK : ∀ (μ1 : zSt) (o1 : Nat → Int64) (σ1 : zSt), zok (kn μ1 o1 σ1 (x4 + 8)) (fun r => r = 1)) : zok (fLaw_1147 xs L kn μ (fun _ => 0) σ x4) (fun r => r = 1) := by
  unfold fLaw_1147
  refine zok_bi (l_restorex hC) (fun s3 _ p1 => ?_)
  refine zok_bu (m_restorex hM) (fun s6 p4 => ?_)
  refine zok_thrown ?_
  refine zok_if (fun _ => ?_) (fun q => absurd (z_cmp p1.2 p4.2) q)
  refine zok_bv (fun v8 e8 => ?_)
  subst e8
  exact hK _ _ _
theorem q1_fLaw_1171 {kk h : Int} {k : Fin 3} {xs : Nat → Int32} {L : Nat} {kn : zSt → (Nat → Int64) → zSt → Int32 → Option Int32} {μ σ : zSt} {x4 : Int32} (hk : zHk kk h) (hM : zRM 0 0 kk 0 μ) (hC : zRC 0 h 0 σ) (hF : zFr k σ μ) (hz : ∀ j : Int32, 0 ≤ j.toInt → j.toInt ≤ 7 → zin (x4 + j) L = true) (hK : ∀ (μ1 : zSt) (o1 : Nat → Int64) (σ1 : zSt), zok (kn μ1 o1 σ1 (x4 + 8)) (fun r => r = 1)) : zok (fLaw_1171 xs L kn μ (fun _ => 0) σ x4) (fun r => r = 1) := by
  unfold fLaw_1171
  refine zok_ck (hz 1 (by decide) (by decide)) ?_
  refine zok_bhE (l_register hC) (fun o3 s4 _ e2 p1 => ?_)
  refine zok_ck (hz 1 (by decide) (by decide)) ?_
  refine zok_biE (m_register hM) (fun s7 _ e6 p5 => ?_)
  have R8 := v1_register hF _ _ e2 e6
  refine zok_thrown ?_
  refine zok_if (fun _ => ?_) (fun q => absurd R8.1 q)
  refine zok_if (fun q9 => ?_) (fun q9 => ?_)
  · refine zok_if (fun _ => ?_) (fun q => absurd (z_lgc (by rw [Int32.toInt_toInt64]; exact R8.2 q9)) q)
    refine zok_bv (fun v8 e8 => ?_)
    subst e8
    exact hK _ _ _
  · refine zok_bv (fun v8 e8 => ?_)
    subst e8
    exact hK _ _ _
theorem q1_fLaw_1227 {kk h : Int} {k : Fin 3} {xs : Nat → Int32} {L : Nat} {kn : zSt → (Nat → Int64) → zSt → Int32 → Option Int32} {μ σ : zSt} {x4 : Int32} (hk : zHk kk h) (hM : zRM 0 0 kk 0 μ) (hC : zRC 0 h 0 σ) (hF : zFr k σ μ) (hz : ∀ j : Int32, 0 ≤ j.toInt → j.toInt ≤ 7 → zin (x4 + j) L = true) (hK : ∀ (μ1 : zSt) (o1 : Nat → Int64) (σ1 : zSt), zok (kn μ1 o1 σ1 (x4 + 8)) (fun r => r = 1)) : zok (fLaw_1227 xs L kn μ (fun _ => 0) σ x4) (fun r => r = 1) := by
  obtain ⟨_, G, iM, _⟩ := hM
  obtain ⟨H, iC, _⟩ := hC
  unfold fLaw_1227
  refine zok_ck (hz 1 (by decide) (by decide)) ?_
  refine zok_ck (hz 2 (by decide) (by decide)) ?_
  refine zok_bi (q_setC iC) (fun s3 _ p1 => ?_)
  refine zok_ck (hz 1 (by decide) (by decide)) ?_
  refine zok_ck (hz 2 (by decide) (by decide)) ?_
  refine zok_bu (q_setM iM) (fun s6 p4 => ?_)
  refine zok_thrown ?_
  refine zok_if (fun _ => ?_) (fun q => absurd (z_cmp p1.2 p4.2) q)
  refine zok_bv (fun v8 e8 => ?_)
  subst e8
  exact hK _ _ _
theorem q1_fLaw_1275 {kk h : Int} {k : Fin 3} {xs : Nat → Int32} {L : Nat} {kn : zSt → (Nat → Int64) → zSt → Int32 → Option Int32} {μ σ : zSt} {x4 : Int32} (hk : zHk kk h) (hM : zRM 0 0 kk 0 μ) (hC : zRC 0 h 0 σ) (hF : zFr k σ μ) (hz : ∀ j : Int32, 0 ≤ j.toInt → j.toInt ≤ 7 → zin (x4 + j) L = true) (hK : ∀ (μ1 : zSt) (o1 : Nat → Int64) (σ1 : zSt), zok (kn μ1 o1 σ1 (x4 + 8)) (fun r => r = 1)) : zok (fLaw_1275 xs L kn μ (fun _ => 0) σ x4) (fun r => r = 1) := by
  unfold fLaw_1275
  refine zok_ck (hz 1 (by decide) (by decide)) ?_
  refine zok_biE (c_peek hC) (fun s3 _ e2 p1 => ?_)
  refine zok_ck (hz 1 (by decide) (by decide)) ?_
  refine zok_biE (m_peek hM) (fun s6 _ e5 p4 => ?_)
  have R7 := v1_peek hF _ _ e2 e5
  refine zok_if (fun _ => ?_) (fun q => absurd R7 q)
  refine zok_bv (fun v8 e8 => ?_)
  subst e8
  exact hK _ _ _
theorem q1_fLaw_1300 {kk h : Int} {k : Fin 3} {xs : Nat → Int32} {L : Nat} {kn : zSt → (Nat → Int64) → zSt → Int32 → Option Int32} {μ σ : zSt} {x4 : Int32} (hk : zHk kk h) (hM : zRM 0 0 kk 0 μ) (hC : zRC 0 h 0 σ) (hF : zFr k σ μ) (hz : ∀ j : Int32, 0 ≤ j.toInt → j.toInt ≤ 7 → zin (x4 + j) L = true) (hK : ∀ (μ1 : zSt) (o1 : Nat → Int64) (σ1 : zSt), zok (kn μ1 o1 σ1 (x4 + 8)) (fun r => r = 1)) : zok (fLaw_1300 xs L kn μ (fun _ => 0) σ x4) (fun r => r = 1) := by
  unfold fLaw_1300
  refine zok_ck (hz 1 (by decide) (by decide)) ?_
  refine zok_ck (hz 2 (by decide) (by decide)) ?_
  refine zok_buE (c_poke hC) (fun s3 e2 p1 => ?_)
  refine zok_ck (hz 1 (by decide) (by decide)) ?_
  refine zok_ck (hz 2 (by decide) (by decide)) ?_
  refine zok_buE (m_poke hM) (fun s6 e5 p4 => ?_)
  refine zok_bv (fun v8 e8 => ?_)
  subst e8
  exact hK _ _ _
theorem q1_fLaw_1335 {kk h : Int} {k : Fin 3} {xs : Nat → Int32} {L : Nat} {kn : zSt → (Nat → Int64) → zSt → Int32 → Option Int32} {μ σ : zSt} {x4 : Int32} (hk : zHk kk h) (hM : zRM 0 0 kk 0 μ) (hC : zRC 0 h 0 σ) (hF : zFr k σ μ) (hz : ∀ j : Int32, 0 ≤ j.toInt → j.toInt ≤ 7 → zin (x4 + j) L = true) (hK : ∀ (μ1 : zSt) (o1 : Nat → Int64) (σ1 : zSt), zok (kn μ1 o1 σ1 (x4 + 8)) (fun r => r = 1)) : zok (fLaw_1335 xs L kn μ (fun _ => 0) σ x4) (fun r => r = 1) := by
  unfold fLaw_1335
  refine zok_ck (hz 1 (by decide) (by decide)) ?_
  refine zok_biE (c_in hC) (fun s3 _ e2 p1 => ?_)
  refine zok_ck (hz 1 (by decide) (by decide)) ?_
  refine zok_biE (m_in hM) (fun s6 _ e5 p4 => ?_)
  have R7 := v1_in hF _ _ e2 e5
  refine zok_if (fun _ => ?_) (fun q => absurd R7 q)
  refine zok_bv (fun v8 e8 => ?_)
  subst e8
  exact hK _ _ _
theorem q1_fLaw_1360 {kk h : Int} {k : Fin 3} {xs : Nat → Int32} {L : Nat} {kn : zSt → (Nat → Int64) → zSt → Int32 → Option Int32} {μ σ : zSt} {x4 : Int32} (hk : zHk kk h) (hM : zRM 0 0 kk 0 μ) (hC : zRC 0 h 0 σ) (hF : zFr k σ μ) (hz : ∀ j : Int32, 0 ≤ j.toInt → j.toInt ≤ 7 → zin (x4 + j) L = true) (hK : ∀ (μ1 : zSt) (o1 : Nat → Int64) (σ1 : zSt), zok (kn μ1 o1 σ1 (x4 + 8)) (fun r => r = 1)) : zok (fLaw_1360 xs L kn μ (fun _ => 0) σ x4) (fun r => r = 1) := by
  unfold fLaw_1360
  refine zok_ck (hz 1 (by decide) (by decide)) ?_
  refine zok_ck (hz 2 (by decide) (by decide)) ?_
  refine zok_buE (c_out hC) (fun s3 e2 p1 => ?_)
  refine zok_ck (hz 1 (by decide) (by decide)) ?_
  refine zok_ck (hz 2 (by decide) (by decide)) ?_
  refine zok_buE (m_out hM) (fun s6 e5 p4 => ?_)
  refine zok_bv (fun v8 e8 => ?_)
  subst e8
  exact hK _ _ _
theorem q1_fLaw_1395 {kk h : Int} {k : Fin 3} {xs : Nat → Int32} {L : Nat} {kn : zSt → (Nat → Int64) → zSt → Int32 → Option Int32} {μ σ : zSt} {x4 : Int32} (hk : zHk kk h) (hM : zRM 0 0 kk 0 μ) (hC : zRC 0 h 0 σ) (hF : zFr k σ μ) (hz : ∀ j : Int32, 0 ≤ j.toInt → j.toInt ≤ 7 → zin (x4 + j) L = true) (hK : ∀ (μ1 : zSt) (o1 : Nat → Int64) (σ1 : zSt), zok (kn μ1 o1 σ1 (x4 + 8)) (fun r => r = 1)) : zok (fLaw_1395 xs L kn μ (fun _ => 0) σ x4) (fun r => r = 1) := by
  unfold fLaw_1395
  refine zok_ck (hz 1 (by decide) (by decide)) ?_
  refine zok_bhE (l_battery hC) (fun o3 s4 _ e2 p1 => ?_)
  refine zok_ck (hz 1 (by decide) (by decide)) ?_
  refine zok_biE (m_battery hM) (fun s7 _ e6 p5 => ?_)
  have R8 := v1_battery hF _ _ e2 e6
  refine zok_thrown ?_
  refine zok_if (fun _ => ?_) (fun q => absurd R8.1 q)
  refine zok_if (fun q9 => ?_) (fun q9 => ?_)
  · refine zok_if (fun _ => ?_) (fun q => absurd (z_lgc (by rw [Int32.toInt_toInt64]; exact R8.2 q9)) q)
    refine zok_bv (fun v8 e8 => ?_)
    subst e8
    exact hK _ _ _
  · refine zok_bv (fun v8 e8 => ?_)
    subst e8
    exact hK _ _ _
theorem q1_fLaw_1451 {kk h : Int} {k : Fin 3} {xs : Nat → Int32} {L : Nat} {kn : zSt → (Nat → Int64) → zSt → Int32 → Option Int32} {μ σ : zSt} {x4 : Int32} (hk : zHk kk h) (hM : zRM 0 0 kk 0 μ) (hC : zRC 0 h 0 σ) (hF : zFr k σ μ) (hz : ∀ j : Int32, 0 ≤ j.toInt → j.toInt ≤ 7 → zin (x4 + j) L = true) (hK : ∀ (μ1 : zSt) (o1 : Nat → Int64) (σ1 : zSt), zok (kn μ1 o1 σ1 (x4 + 8)) (fun r => r = 1)) : zok (fLaw_1451 xs L kn μ (fun _ => 0) σ x4) (fun r => r = 1) := by
  unfold fLaw_1451
  refine zok_buE (c_wipe hC) (fun s3 e2 p1 => ?_)
  refine zok_buE (m_wipe hM) (fun s6 e5 p4 => ?_)
  refine zok_bv (fun v8 e8 => ?_)
  subst e8
  exact hK _ _ _
theorem q1_fLaw_1462 {kk h : Int} {k : Fin 3} {xs : Nat → Int32} {L : Nat} {kn : zSt → (Nat → Int64) → zSt → Int32 → Option Int32} {μ σ : zSt} {x4 : Int32} (hk : zHk kk h) (hM : zRM 0 0 kk 0 μ) (hC : zRC 0 h 0 σ) (hF : zFr k σ μ) (hz : ∀ j : Int32, 0 ≤ j.toInt → j.toInt ≤ 7 → zin (x4 + j) L = true) (hK : ∀ (μ1 : zSt) (o1 : Nat → Int64) (σ1 : zSt), zok (kn μ1 o1 σ1 (x4 + 8)) (fun r => r = 1)) : zok (fLaw_1462 xs L kn μ (fun _ => 0) σ x4) (fun r => r = 1) := by
  unfold fLaw_1462
  refine zok_ck (hz 1 (by decide) (by decide)) ?_
  refine zok_bllE (c_video hC) (fun s3 _ e2 p1 => ?_)
  refine zok_ck (hz 1 (by decide) (by decide)) ?_
  refine zok_bllE (m_video hM) (fun s6 _ e5 p4 => ?_)
  have R7 := v1_video hF _ _ e2 e5
  refine zok_if (fun _ => ?_) (fun q => absurd (z_lgc R7) q)
  refine zok_bv (fun v8 e8 => ?_)
  subst e8
  exact hK _ _ _
theorem q1_fLaw_1488 {kk h : Int} {k : Fin 3} {xs : Nat → Int32} {L : Nat} {kn : zSt → (Nat → Int64) → zSt → Int32 → Option Int32} {μ σ : zSt} {x4 : Int32} (hk : zHk kk h) (hM : zRM 0 0 kk 0 μ) (hC : zRC 0 h 0 σ) (hF : zFr k σ μ) (hz : ∀ j : Int32, 0 ≤ j.toInt → j.toInt ≤ 7 → zin (x4 + j) L = true) (hK : ∀ (μ1 : zSt) (o1 : Nat → Int64) (σ1 : zSt), zok (kn μ1 o1 σ1 (x4 + 8)) (fun r => r = 1)) : zok (fLaw_1488 xs L kn μ (fun _ => 0) σ x4) (fun r => r = 1) := by
  unfold fLaw_1488
  refine zok_ck (hz 1 (by decide) (by decide)) ?_
  refine zok_bhE (l_chip hC) (fun o3 s4 _ e2 p1 => ?_)
  refine zok_ck (hz 1 (by decide) (by decide)) ?_
  refine zok_biE (m_chip hM) (fun s7 _ e6 p5 => ?_)
  have R8 := v1_chip hF _ _ e2 e6
  refine zok_thrown ?_
  refine zok_if (fun _ => ?_) (fun q => absurd R8.1 q)
  refine zok_if (fun q9 => ?_) (fun q9 => ?_)
  · refine zok_if (fun _ => ?_) (fun q => absurd (z_lgc (by rw [Int32.toInt_toInt64]; exact R8.2 q9)) q)
    refine zok_bv (fun v8 e8 => ?_)
    subst e8
    exact hK _ _ _
  · refine zok_bv (fun v8 e8 => ?_)
    subst e8
    exact hK _ _ _
theorem q1_fLaw_1544 {kk h : Int} {k : Fin 3} {xs : Nat → Int32} {L : Nat} {kn : zSt → (Nat → Int64) → zSt → Int32 → Option Int32} {μ σ : zSt} {x4 : Int32} (hk : zHk kk h) (hM : zRM 0 0 kk 0 μ) (hC : zRC 0 h 0 σ) (hF : zFr k σ μ) (hz : ∀ j : Int32, 0 ≤ j.toInt → j.toInt ≤ 7 → zin (x4 + j) L = true) (hK : ∀ (μ1 : zSt) (o1 : Nat → Int64) (σ1 : zSt), zok (kn μ1 o1 σ1 (x4 + 8)) (fun r => r = 1)) : zok (fLaw_1544 xs L kn μ (fun _ => 0) σ x4) (fun r => r = 1) := by
  unfold fLaw_1544
  refine zok_ck (hz 1 (by decide) (by decide)) ?_
  refine zok_ck (hz 2 (by decide) (by decide)) ?_
  refine zok_bhE (l_dot hC) (fun o3 s4 _ e2 p1 => ?_)
  refine zok_ck (hz 1 (by decide) (by decide)) ?_
  refine zok_ck (hz 2 (by decide) (by decide)) ?_
  refine zok_biE (m_dot hM) (fun s7 _ e6 p5 => ?_)
  have R8 := v1_dot hF _ _ e2 e6
  refine zok_thrown ?_
  refine zok_if (fun _ => ?_) (fun q => absurd R8.1 q)
  refine zok_if (fun q9 => ?_) (fun q9 => ?_)
  · refine zok_if (fun _ => ?_) (fun q => absurd (z_lgc (by rw [Int32.toInt_toInt64]; exact R8.2 q9)) q)
    refine zok_bv (fun v8 e8 => ?_)
    subst e8
    exact hK _ _ _
  · refine zok_bv (fun v8 e8 => ?_)
    subst e8
    exact hK _ _ _
theorem q1_fLaw_1612 {kk h : Int} {k : Fin 3} {xs : Nat → Int32} {L : Nat} {kn : zSt → (Nat → Int64) → zSt → Int32 → Option Int32} {μ σ : zSt} {x4 : Int32} (hk : zHk kk h) (hM : zRM 0 0 kk 0 μ) (hC : zRC 0 h 0 σ) (hF : zFr k σ μ) (hz : ∀ j : Int32, 0 ≤ j.toInt → j.toInt ≤ 7 → zin (x4 + j) L = true) (hK : ∀ (μ1 : zSt) (o1 : Nat → Int64) (σ1 : zSt), zok (kn μ1 o1 σ1 (x4 + 8)) (fun r => r = 1)) : zok (fLaw_1612 xs L kn μ (fun _ => 0) σ x4) (fun r => r = 1) := by
  unfold fLaw_1612
  refine zok_ck (hz 1 (by decide) (by decide)) ?_
  refine zok_bhE (l_row hC) (fun o3 s4 _ e2 p1 => ?_)
  refine zok_ck (hz 1 (by decide) (by decide)) ?_
  refine zok_biE (m_row hM) (fun s7 _ e6 p5 => ?_)
  have R8 := v1_row hF _ _ e2 e6
  refine zok_thrown ?_
  refine zok_if (fun _ => ?_) (fun q => absurd R8.1 q)
  refine zok_if (fun q9 => ?_) (fun q9 => ?_)
  · refine zok_if (fun _ => ?_) (fun q => absurd (z_lgc (by rw [Int32.toInt_toInt64]; exact R8.2 q9)) q)
    refine zok_bv (fun v8 e8 => ?_)
    subst e8
    exact hK _ _ _
  · refine zok_bv (fun v8 e8 => ?_)
    subst e8
    exact hK _ _ _
theorem q1_fLaw_1668 {kk h : Int} {k : Fin 3} {xs : Nat → Int32} {L : Nat} {kn : zSt → (Nat → Int64) → zSt → Int32 → Option Int32} {μ σ : zSt} {x4 : Int32} (hk : zHk kk h) (hM : zRM 0 0 kk 0 μ) (hC : zRC 0 h 0 σ) (hF : zFr k σ μ) (hz : ∀ j : Int32, 0 ≤ j.toInt → j.toInt ≤ 7 → zin (x4 + j) L = true) (hK : ∀ (μ1 : zSt) (o1 : Nat → Int64) (σ1 : zSt), zok (kn μ1 o1 σ1 (x4 + 8)) (fun r => r = 1)) : zok (fLaw_1668 xs L kn μ (fun _ => 0) σ x4) (fun r => r = 1) := by
  unfold fLaw_1668
  refine zok_bhE (l_hear hC) (fun o3 s4 _ e2 p1 => ?_)
  refine zok_bllE (m_hear hM) (fun s7 _ e6 p5 => ?_)
  have R8 := v1_hear hF _ _ e2 e6
  refine zok_thrown ?_
  refine zok_if (fun _ => ?_) (fun q => absurd R8.1 q)
  refine zok_if (fun q9 => ?_) (fun q9 => ?_)
  · refine zok_if (fun _ => ?_) (fun q => absurd (z_lgc (R8.2 q9)) q)
    refine zok_bv (fun v8 e8 => ?_)
    subst e8
    exact hK _ _ _
  · refine zok_bv (fun v8 e8 => ?_)
    subst e8
    exact hK _ _ _
theorem q1_fLaw_1711 {kk h : Int} {k : Fin 3} {xs : Nat → Int32} {L : Nat} {kn : zSt → (Nat → Int64) → zSt → Int32 → Option Int32} {μ σ : zSt} {x4 : Int32} (hk : zHk kk h) (hM : zRM 0 0 kk 0 μ) (hC : zRC 0 h 0 σ) (hF : zFr k σ μ) (hz : ∀ j : Int32, 0 ≤ j.toInt → j.toInt ≤ 7 → zin (x4 + j) L = true) (hK : ∀ (μ1 : zSt) (o1 : Nat → Int64) (σ1 : zSt), zok (kn μ1 o1 σ1 (x4 + 8)) (fun r => r = 1)) : zok (fLaw_1711 xs L kn μ (fun _ => 0) σ x4) (fun r => r = 1) := by
  unfold fLaw_1711
  refine zok_bhE (l_mix hC) (fun o3 s4 _ e2 p1 => ?_)
  refine zok_bllE (m_mix hM) (fun s7 _ e6 p5 => ?_)
  have R8 := v1_mix hF _ _ e2 e6
  refine zok_thrown ?_
  refine zok_if (fun _ => ?_) (fun q => absurd R8.1 q)
  refine zok_if (fun q9 => ?_) (fun q9 => ?_)
  · refine zok_if (fun _ => ?_) (fun q => absurd (z_lgc (R8.2 q9)) q)
    refine zok_bv (fun v8 e8 => ?_)
    subst e8
    exact hK _ _ _
  · refine zok_bv (fun v8 e8 => ?_)
    subst e8
    exact hK _ _ _
theorem q1_fLaw_1754 {kk h : Int} {k : Fin 3} {xs : Nat → Int32} {L : Nat} {kn : zSt → (Nat → Int64) → zSt → Int32 → Option Int32} {μ σ : zSt} {x4 : Int32} (hk : zHk kk h) (hM : zRM 0 0 kk 0 μ) (hC : zRC 0 h 0 σ) (hF : zFr k σ μ) (hz : ∀ j : Int32, 0 ≤ j.toInt → j.toInt ≤ 7 → zin (x4 + j) L = true) (hK : ∀ (μ1 : zSt) (o1 : Nat → Int64) (σ1 : zSt), zok (kn μ1 o1 σ1 (x4 + 8)) (fun r => r = 1)) : zok (fLaw_1754 xs L kn μ (fun _ => 0) σ x4) (fun r => r = 1) := by
  unfold fLaw_1754
  refine zok_ck (hz 1 (by decide) (by decide)) ?_
  refine zok_bhE (l_wave hC) (fun o3 s4 _ e2 p1 => ?_)
  refine zok_ck (hz 1 (by decide) (by decide)) ?_
  refine zok_biE (m_wave hM) (fun s7 _ e6 p5 => ?_)
  have R8 := v1_wave hF _ _ e2 e6
  refine zok_thrown ?_
  refine zok_if (fun _ => ?_) (fun q => absurd R8.1 q)
  refine zok_if (fun q9 => ?_) (fun q9 => ?_)
  · refine zok_if (fun _ => ?_) (fun q => absurd (z_lgc (by rw [Int32.toInt_toInt64]; exact R8.2 q9)) q)
    refine zok_bv (fun v8 e8 => ?_)
    subst e8
    exact hK _ _ _
  · refine zok_bv (fun v8 e8 => ?_)
    subst e8
    exact hK _ _ _
theorem q1_fLaw_1810 {kk h : Int} {k : Fin 3} {xs : Nat → Int32} {L : Nat} {kn : zSt → (Nat → Int64) → zSt → Int32 → Option Int32} {μ σ : zSt} {x4 : Int32} (hk : zHk kk h) (hM : zRM 0 0 kk 0 μ) (hC : zRC 0 h 0 σ) (hF : zFr k σ μ) (hz : ∀ j : Int32, 0 ≤ j.toInt → j.toInt ≤ 7 → zin (x4 + j) L = true) (hK : ∀ (μ1 : zSt) (o1 : Nat → Int64) (σ1 : zSt), zok (kn μ1 o1 σ1 (x4 + 8)) (fun r => r = 1)) : zok (fLaw_1810 xs L kn μ (fun _ => 0) σ x4) (fun r => r = 1) := by
  unfold fLaw_1810
  refine zok_ck (hz 1 (by decide) (by decide)) ?_
  refine zok_bhE (l_sound hC) (fun o3 s4 _ e2 p1 => ?_)
  refine zok_ck (hz 1 (by decide) (by decide)) ?_
  refine zok_biE (m_sound hM) (fun s7 _ e6 p5 => ?_)
  have R8 := v1_sound hF _ _ e2 e6
  refine zok_thrown ?_
  refine zok_if (fun _ => ?_) (fun q => absurd R8.1 q)
  refine zok_if (fun q9 => ?_) (fun q9 => ?_)
  · refine zok_if (fun _ => ?_) (fun q => absurd (z_lgc (by rw [Int32.toInt_toInt64]; exact R8.2 q9)) q)
    refine zok_bv (fun v8 e8 => ?_)
    subst e8
    exact hK _ _ _
  · refine zok_bv (fun v8 e8 => ?_)
    subst e8
    exact hK _ _ _
theorem q1_fLaw_1866 {kk h : Int} {k : Fin 3} {xs : Nat → Int32} {L : Nat} {kn : zSt → (Nat → Int64) → zSt → Int32 → Option Int32} {μ σ : zSt} {x4 : Int32} (hk : zHk kk h) (hM : zRM 0 0 kk 0 μ) (hC : zRC 0 h 0 σ) (hF : zFr k σ μ) (hz : ∀ j : Int32, 0 ≤ j.toInt → j.toInt ≤ 7 → zin (x4 + j) L = true) (hK : ∀ (μ1 : zSt) (o1 : Nat → Int64) (σ1 : zSt), zok (kn μ1 o1 σ1 (x4 + 8)) (fun r => r = 1)) : zok (fLaw_1866 xs L kn μ (fun _ => 0) σ x4) (fun r => r = 1) := by
  unfold fLaw_1866
  refine zok_ck (hz 1 (by decide) (by decide)) ?_
  refine zok_biE (c_trace hC) (fun s3 _ e2 p1 => ?_)
  refine zok_ck (hz 1 (by decide) (by decide)) ?_
  refine zok_biE (m_trace hM) (fun s6 _ e5 p4 => ?_)
  have R7 := v1_trace hF _ _ e2 e5
  refine zok_if (fun _ => ?_) (fun q => absurd R7 q)
  refine zok_bv (fun v8 e8 => ?_)
  subst e8
  exact hK _ _ _
theorem q1_fLaw_1891 {kk h : Int} {k : Fin 3} {xs : Nat → Int32} {L : Nat} {kn : zSt → (Nat → Int64) → zSt → Int32 → Option Int32} {μ σ : zSt} {x4 : Int32} (hk : zHk kk h) (hM : zRM 0 0 kk 0 μ) (hC : zRC 0 h 0 σ) (hF : zFr k σ μ) (hz : ∀ j : Int32, 0 ≤ j.toInt → j.toInt ≤ 7 → zin (x4 + j) L = true) (hK : ∀ (μ1 : zSt) (o1 : Nat → Int64) (σ1 : zSt), zok (kn μ1 o1 σ1 (x4 + 8)) (fun r => r = 1)) : zok (fLaw_1891 xs L kn μ (fun _ => 0) σ x4) (fun r => r = 1) := by
  unfold fLaw_1891
  refine zok_ck (hz 1 (by decide) (by decide)) ?_
  refine zok_bhE (l_look hC) (fun o3 s4 _ e2 p1 => ?_)
  refine zok_ck (hz 1 (by decide) (by decide)) ?_
  refine zok_bllE (m_look hM) (fun s7 _ e6 p5 => ?_)
  have R8 := v1_look hF _ _ e2 e6
  refine zok_thrown ?_
  refine zok_if (fun _ => ?_) (fun q => absurd R8.1 q)
  refine zok_if (fun q9 => ?_) (fun q9 => ?_)
  · refine zok_if (fun _ => ?_) (fun q => absurd (z_lgc (R8.2 q9)) q)
    refine zok_bv (fun v8 e8 => ?_)
    subst e8
    exact hK _ _ _
  · refine zok_bv (fun v8 e8 => ?_)
    subst e8
    exact hK _ _ _
theorem q1_fLaw_1946 {kk h : Int} {k : Fin 3} {xs : Nat → Int32} {L : Nat} {kn : zSt → (Nat → Int64) → zSt → Int32 → Option Int32} {μ σ : zSt} {x4 : Int32} (hk : zHk kk h) (hM : zRM 0 0 kk 0 μ) (hC : zRC 0 h 0 σ) (hF : zFr k σ μ) (hz : ∀ j : Int32, 0 ≤ j.toInt → j.toInt ≤ 7 → zin (x4 + j) L = true) (hK : ∀ (μ1 : zSt) (o1 : Nat → Int64) (σ1 : zSt), zok (kn μ1 o1 σ1 (x4 + 8)) (fun r => r = 1)) : zok (fLaw_1946 xs L kn μ (fun _ => 0) σ x4) (fun r => r = 1) := by
  unfold fLaw_1946
  refine zok_bv (fun v8 e8 => ?_)
  subst e8
  exact hK _ _ _
theorem zKS_fresh {k : Int32} : zKS 0 (zG0 k) := by
  have v : ∀ i, ¬ i = 1 → zG0 k i = 0 := fun i h1 => by
    unfold zG0 zset
    split
    · rfl
    · split
      · rfl
      · first | rfl | rw [if_neg h1]
  have lb := zln_b (zG0 k)
  unfold zKS zJ
  rw [v 102 (by decide), v 105 (by decide), v 106 (by decide), v 6 (by decide), v 7 (by decide), v 8 (by decide)]
  omega
theorem z1_end (xs : Nat → Int32) (μ : zSt) (o : Nat → Int64) (σ : zSt) : zok (fLaw xs 9 1 μ o σ (1 + 8)) (fun r => r = 1) := by
  show zok (fLaw_body xs 9 (fLaw xs 9 0) μ o σ (1 + 8)) _
  unfold fLaw_body
  exact zok_if (fun _ => zok_some rfl) (fun q => absurd (by decide) q)
theorem z1_in : ∀ j : Fin 8, zin (1 + Int32.ofNat j.val) 9 = true := by decide
theorem z_owed1 {L : Nat} {xs : Nat → Int32} (hL : L ≤ 9) : zOwed L xs := by
  refine ⟨zN4, zN4_e, zN5, zN5_e, zN6, zN6_e, zN9, zN9_e, zFM (zKd (zCell L xs)), x_freshM _, 2, by decide, ?_⟩
  by_cases hs : L < 9
  · show fLaw_body xs L (fLaw xs L 1) _ _ _ 1 = some 1
    unfold fLaw_body
    rw [if_pos (z_short8 ⟨L, hs⟩)]
  have e9 : L = 9 := by omega
  subst e9
  obtain ⟨k, k1, k2⟩ := zKd3 (zCell 9 xs)
  have hM0 : zIM (zG0 (zKd (zCell 9 xs))) (zFM (zKd (zCell 9 xs))) := by
    obtain ⟨s, e, i⟩ := s_freshM (zKd_r (zCell 9 xs))
    rw [x_freshM] at e
    rw [Option.some.inj e]
    exact i
  have c4 : zIZ (fun _ => 0) zN4 := by
    obtain ⟨s, e, i⟩ := z_c4
    rw [zN4_e] at e
    rw [Option.some.inj e]
    exact i
  have c5 : zIZ (fun _ => 0) zN5 := by
    obtain ⟨s, e, i⟩ := z_c5
    rw [zN5_e] at e
    rw [Option.some.inj e]
    exact i
  have c6 : ∀ v, zIZ (fun _ => 0) (zN6 v) := fun v => by
    obtain ⟨s, e, i⟩ := z_c6 v
    rw [zN6_e] at e
    rw [Option.some.inj e]
    exact i
  have c9 : zIZ (fun _ => 0) zN9 := by
    obtain ⟨s, e, i⟩ := z_c9
    rw [zN9_e] at e
    rw [Option.some.inj e]
    exact i
  have hC0 : zIC (zH0 (zCell 9 xs)) (zFC (zCell 9 xs)) := s_freshC c4 c5 c6 c9
  have z0 : zG0 (zKd (zCell 9 xs)) 0 = 0 := by unfold zG0; rw [zset_ne (by decide), zset_ne (by decide), zset_ne (by decide)]
  have z2 : zG0 (zKd (zCell 9 xs)) 2 = 0 := by unfold zG0; rw [zset_ne (by decide), zset_ne (by decide), zset_ne (by decide)]
  have hM : zRM 0 0 (zG0 (zKd (zCell 9 xs)) 1) 0 (zFM (zKd (zCell 9 xs))) := ⟨by decide, _, hM0, zG0_J (zKd_r _), zKS_fresh, z0, rfl, z2⟩
  have hC : zRC 0 (zH0 (zCell 9 xs) 2) 0 (zFC (zCell 9 xs)) := ⟨_, hC0, rfl, rfl, rfl⟩
  have hk : zHk (zG0 (zKd (zCell 9 xs)) 1) (zH0 (zCell 9 xs) 2) := zHd_fresh (zCell 9 xs)
  have hF : zFr k (zFC (zCell 9 xs)) (zFM (zKd (zCell 9 xs))) := ⟨k2, by rw [k1]⟩
  have hz : ∀ j : Int32, 0 ≤ j.toInt → j.toInt ≤ 7 → zin (1 + j) 9 = true := fun j j1 j2 => by
    obtain ⟨i, e⟩ := z_finof (n := 8) (x := j) ⟨j1, j2⟩
    rw [e]
    exact z1_in i
  have fin : zok (fLaw xs 9 2 (zFM (zKd (zCell 9 xs))) (fun _ => 0) (zFC (zCell 9 xs)) 1) (fun r => r = 1) := by
    show zok (fLaw_body xs 9 (fLaw xs 9 1) _ _ _ 1) _
    unfold fLaw_body
    refine zok_if (fun _ => zok_some rfl) (fun _ => ?_)
    refine zok_ck (by decide) (zok_bv (fun t _ => ?_))
    refine zok_if (fun _ => q1_fLaw_208 hk hM hC hF hz (z1_end xs)) (fun _ => ?_)
    refine zok_if (fun _ => q1_fLaw_400 hk hM hC hF hz (z1_end xs)) (fun _ => ?_)
    refine zok_if (fun _ => q1_fLaw_456 hk hM hC hF hz (z1_end xs)) (fun _ => ?_)
    refine zok_if (fun _ => q1_fLaw_536 hk hM hC hF hz (z1_end xs)) (fun _ => ?_)
    refine zok_if (fun _ => q1_fLaw_549 hk hM hC hF hz (z1_end xs)) (fun _ => ?_)
    refine zok_if (fun _ => q1_fLaw_605 hk hM hC hF hz (z1_end xs)) (fun _ => ?_)
    refine zok_if (fun _ => q1_fLaw_661 hk hM hC hF hz (z1_end xs)) (fun _ => ?_)
    refine zok_if (fun _ => q1_fLaw_717 hk hM hC hF hz (z1_end xs)) (fun _ => ?_)
    refine zok_if (fun _ => q1_fLaw_728 hk hM hC hF hz (z1_end xs)) (fun _ => ?_)
    refine zok_if (fun _ => q1_fLaw_741 hk hM hC hF hz (z1_end xs)) (fun _ => ?_)
    refine zok_if (fun _ => q1_fLaw_789 hk hM hC hF hz (z1_end xs)) (fun _ => ?_)
    refine zok_if (fun _ => q1_fLaw_828 hk hM hC hF hz (z1_end xs)) (fun _ => ?_)
    refine zok_if (fun _ => q1_fLaw_892 hk hM hC hF hz (z1_end xs)) (fun _ => ?_)
    refine zok_if (fun _ => q1_fLaw_972 hk hM hC hF hz (z1_end xs)) (fun _ => ?_)
    refine zok_if (fun _ => q1_fLaw_997 hk hM hC hF hz (z1_end xs)) (fun _ => ?_)
    refine zok_if (fun _ => q1_fLaw_1052 hk hM hC hF hz (z1_end xs)) (fun _ => ?_)
    refine zok_if (fun _ => q1_fLaw_1136 hk hM hC hF hz (z1_end xs)) (fun _ => ?_)
    refine zok_if (fun _ => q1_fLaw_1147 hk hM hC hF hz (z1_end xs)) (fun _ => ?_)
    refine zok_if (fun _ => q1_fLaw_1171 hk hM hC hF hz (z1_end xs)) (fun _ => ?_)
    refine zok_if (fun _ => q1_fLaw_1227 hk hM hC hF hz (z1_end xs)) (fun _ => ?_)
    refine zok_if (fun _ => q1_fLaw_1275 hk hM hC hF hz (z1_end xs)) (fun _ => ?_)
    refine zok_if (fun _ => q1_fLaw_1300 hk hM hC hF hz (z1_end xs)) (fun _ => ?_)
    refine zok_if (fun _ => q1_fLaw_1335 hk hM hC hF hz (z1_end xs)) (fun _ => ?_)
    refine zok_if (fun _ => q1_fLaw_1360 hk hM hC hF hz (z1_end xs)) (fun _ => ?_)
    refine zok_if (fun _ => q1_fLaw_1395 hk hM hC hF hz (z1_end xs)) (fun _ => ?_)
    refine zok_if (fun _ => q1_fLaw_1451 hk hM hC hF hz (z1_end xs)) (fun _ => ?_)
    refine zok_if (fun _ => q1_fLaw_1462 hk hM hC hF hz (z1_end xs)) (fun _ => ?_)
    refine zok_if (fun _ => q1_fLaw_1488 hk hM hC hF hz (z1_end xs)) (fun _ => ?_)
    refine zok_if (fun _ => q1_fLaw_1544 hk hM hC hF hz (z1_end xs)) (fun _ => ?_)
    refine zok_if (fun _ => q1_fLaw_1612 hk hM hC hF hz (z1_end xs)) (fun _ => ?_)
    refine zok_if (fun _ => q1_fLaw_1668 hk hM hC hF hz (z1_end xs)) (fun _ => ?_)
    refine zok_if (fun _ => q1_fLaw_1711 hk hM hC hF hz (z1_end xs)) (fun _ => ?_)
    refine zok_if (fun _ => q1_fLaw_1754 hk hM hC hF hz (z1_end xs)) (fun _ => ?_)
    refine zok_if (fun _ => q1_fLaw_1810 hk hM hC hF hz (z1_end xs)) (fun _ => ?_)
    refine zok_if (fun _ => q1_fLaw_1866 hk hM hC hF hz (z1_end xs)) (fun _ => ?_)
    refine zok_if (fun _ => q1_fLaw_1891 hk hM hC hF hz (z1_end xs)) (fun _ => ?_)
    exact q1_fLaw_1946 hk hM hC hF hz (z1_end xs)
  obtain ⟨r, e, h⟩ := fin
  exact e.trans (by rw [h])

