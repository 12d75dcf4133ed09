/-! plan and stop on fresh states -/
section ZF5
variable {σ μ : zSt} {x y z : Int32} {k : Fin 3}
def zPn (x y z : Int32) : Prop := ¬ x < 0 ∧ zOkP y z
theorem pc_plan (h8 : σ.1 42 768 = 0) (h9 : σ.1 42 769 = 0) : zpc (fX11_plan σ x y z) (fun r => (zPn x y z ∧ ∃ s, r = Sum.inl (s, 1)) ∨ (¬ zPn x y z ∧ ∃ s, r = Sum.inr (s, 1))) := by
  unfold fX11_plan fX11_plan_19
  refine zpc_bi (P := fun r => r = (σ, 0)) ?_ (fun s v e => ?_)
  · unfold fX1_leastPlan fX1_leastPlan_34
    exact zpc_ck (zpc_if (fun _ => zpc_some rfl) (fun q => absurd h9 q))
  cases e
  refine zpc_if (fun q => zpc_some (Or.inr ⟨fun a => a.1 q, σ, rfl⟩)) (fun q => zpc_bi (zpc_of q_canPress) (fun s v e => ?_))
  obtain ⟨e1, e2⟩ := e
  have e1 : s = σ := e1
  subst e1
  have e2 : (zOkP y z ∧ v = 1) ∨ (¬ zOkP y z ∧ v = 0) := e2
  refine zpc_if (fun r => ?_) (fun r => ?_)
  · rcases e2 with ⟨_, e⟩ | ⟨n, _⟩
    · exact absurd (e.symm.trans r) (by decide)
    · exact zpc_some (Or.inr ⟨fun a => n a.2, s, rfl⟩)
  · rcases e2 with ⟨a, _⟩ | ⟨_, e⟩
    · refine zpc_bi (P := fun r => r = (s, 0)) ?_ (fun s2 v2 e3 => ?_)
      · unfold fX1_plansWaiting
        refine zpc_ck (zpc_some ?_)
        show (s, s.1 42 769) = _
        rw [h9]
      cases e3
      refine zpc_if (fun _ => ?_) (fun r => absurd (by decide) r)
      refine zpc_bi (P := fun r => r.2 = 1) ?_ (fun s3 v3 e4 => ?_)
      · unfold fX1_addPlan
        refine zpc_ck (zpc_bi (P := fun r => r = (s, 0)) ?_ (fun s3 v3 e3 => ?_))
        · unfold fX1_placeOfPlan
          refine zpc_ck (zpc_some ?_)
          show (s, 3 * ((s.1 42 768 + s.1 42 769) &&& 255)) = _
          rw [h8, h9]
          rfl
        · cases e3
          refine zpc_ck (zpc_bv (fun s4 e4 => zpc_ck (zpc_bv (fun s5 e5 => zpc_ck (zpc_bv (fun s6 e6 => zpc_ck (zpc_ck (zpc_bv (fun s7 e7 => zpc_ck (zpc_some ?_))))))))))
          subst e4
          subst e5
          subst e6
          subst e7
          show s.1 42 769 + 1 = 1
          rw [h9]
          rfl
      · have e4 : v3 = 1 := e4
        exact zpc_some (Or.inl ⟨⟨q, a⟩, s3, by rw [e4]⟩)
    · exact absurd e r
theorem pm_plan (h : μ.1 3 171 = 0) : zpc (fX12_plan μ x y z) (fun r => (zPn x y z ∧ r.2 = 1 ∧ zTh 0 r.1) ∨ (¬ zPn x y z ∧ zTh 1 r.1)) := by
  have no : ¬ zPn x y z → zpc (fX12_plan_71 μ x y z) (fun r => (zPn x y z ∧ r.2 = 1 ∧ zTh 0 r.1) ∨ (¬ zPn x y z ∧ zTh 1 r.1)) := fun n => by
    unfold fX12_plan_71 fX12_plan_76 fX12_plan_110
    exact zpc_fails1 (fun μ1 e1 => zpc_if (fun q => absurd q (by decide)) (fun _ => zpc_some (Or.inr ⟨n, by subst e1; exact zTh_own⟩)))
  unfold fX12_plan fX12_plan_36
  refine zpc_ck (zpc_if (fun _ => ?_) (fun q => absurd h q))
  refine zpc_if (fun q => no (fun a => a.1 q)) (fun q => zpc_if (fun q => no (fun a => a.1 q)) (fun _ => ?_))
  refine zpc_within (fun w1 w2 => ?_) (fun w => zpc_if (fun _ => no (fun a => ?_)) (fun r => absurd rfl r))
  · have hy := z_wir w1 w2 (zrl_c (lo := 0) (hi := 0) (by decide)) (zrl_c (lo := 1) (hi := 1) (by decide))
    refine zpc_if (fun r => absurd r (by decide)) (fun _ => ?_)
    refine zpc_within (fun w1 w2 => ?_) (fun w => zpc_if (fun _ => no (fun a => ?_)) (fun r => absurd rfl r))
    · have hz := z_wir w1 w2 (zrl_c (lo := 0) (hi := 0) (by decide)) (zrl_c (lo := 63) (hi := 63) (by decide))
      refine zpc_if (fun r => absurd r (by decide)) (fun _ => ?_)
      unfold fX12_plan_76
      refine zpc_fails0 (fun μ1 e1 => zpc_if (fun _ => zpc_ck ?_) (fun r => absurd rfl r))
      have m1 : μ1.1 3 171 = 0 := by subst e1; exact h
      refine zpc_if (fun r => absurd ((show μ1.1 3 171 = 256 from r).symm.trans m1) (by decide)) (fun _ => ?_)
      unfold fX12_plan_103
      refine zpc_fails0 (fun μ2 e2 => zpc_if (fun _ => zpc_ck (zpc_bv (fun v ev => ?_))) (fun r => absurd rfl r))
      have m2 : μ2.1 3 171 = 0 := by subst e2; exact m1
      have t2 : zTh 0 μ2 := by subst e2; exact zTh_own
      rw [show zgi μ2 3 (171 : Int32).toNatClampNeg = 0 from m2, show (280 : Int32) + 3 * 0 = 280 by decide] at ev
      subst ev
      refine zpc_ck (zpc_bv (fun s4 e4 => zpc_ck (zpc_bv (fun s5 e5 => zpc_ck (zpc_bv (fun s6 e6 => zpc_ck (zpc_ck (zpc_bv (fun s7 e7 => zpc_ck (zpc_some (Or.inl ⟨⟨q, hy, hz⟩, ?_, ?_⟩)))))))))))
      · subst e4
        subst e5
        subst e6
        subst e7
        show μ2.1 3 171 + 1 = 1
        rw [m2]
        rfl
      · subst e4
        subst e5
        subst e6
        subst e7
        exact t2
    · have := z_nin w (a := 0) (b := 63) rfl rfl
      have := a.2.2
      omega
  · have := z_nin w (a := 0) (b := 1) rfl rfl
    have := a.2.1
    omega
theorem v1_plan (h : zFr k σ μ) : zp2 (fL_plan (fun _ => 0) σ x y z) (fX12_plan μ x y z) zCv := by
  obtain ⟨e1, e2⟩ := h
  subst e1
  subst e2
  unfold fL_plan
  refine zAns.h2 (zp2_of (pc_plan rfl rfl) (pm_plan rfl) (fun a b p q => ?_))
  rcases p with ⟨p1, s, p2⟩ | ⟨p1, s, p2⟩ <;> rcases q with ⟨q1, q2, q3⟩ | ⟨q1, q2⟩
  · exact Or.inr ⟨s, by rw [p2, q2], q3⟩
  · exact absurd p1 q1
  · exact absurd q1 p1
  · exact Or.inl ⟨s, p2, q2⟩
theorem pc_stop (h : σ.1 40 8 = 0) : zpc (fX11_stop σ x y) (fun r => (zr 0 65535 x ∧ ∃ s, r = Sum.inl (s, if y = 0 then 0 else 1)) ∨ (¬ zr 0 65535 x ∧ ∃ s, r = Sum.inr (s, 1))) := by
  have c0 : (0 : Int32).toInt = 0 := rfl
  have c6 : (65535 : Int32).toInt = 65535 := rfl
  have pl : zpc (fX1_placeOfStop σ x) (fun r => r = (σ, -1)) := by
    have f : ∀ n : Nat, zpc (fX1_placeOfStop_2 (n + 1) σ x 0) (fun r => r = (σ, -1)) := fun n => by
      show zpc (fX1_placeOfStop_2_body (fX1_placeOfStop_2 n) σ x 0) _
      unfold fX1_placeOfStop_2_body fX1_placeOfStop_37
      refine zpc_if (fun _ => zpc_some rfl) (fun _ => zpc_ck (zpc_if (fun _ => zpc_some rfl) (fun q => ?_)))
      rw [show zgi σ 40 (8 : Int32).toNatClampNeg = 0 from h] at q
      exact absurd (by decide) q
    exact f 1999999
  unfold fX11_stop fX11_stop_10
  refine zpc_if (fun q => zpc_some (Or.inr ⟨fun a => ?_, σ, rfl⟩)) (fun q => zpc_if (fun q1 => ?_) (fun q1 => zpc_some (Or.inr ⟨fun a => ?_, σ, rfl⟩)))
  · have := Int32.lt_iff_toInt_lt.mp q; have := a.1; omega
  · have r1 := Int32.le_iff_toInt_le.mp (z_nlt q)
    have r2 := Int32.le_iff_toInt_le.mp q1
    have hx : zr 0 65535 x := ⟨by omega, by omega⟩
    refine zpc_bi (P := fun r => r = (σ, 0)) ?_ (fun s v e => ?_)
    · unfold fX1_stopsBeside fX1_stopsBeside_20 fX1_isStop fX1_isStop_13
      refine zpc_ck (zpc_bi (P := fun r => r = (σ, 0)) ?_ (fun s v e => ?_))
      · refine zpc_bi pl (fun s v e => ?_)
        cases e
        exact zpc_if (fun _ => zpc_ck (zpc_some rfl)) (fun r => absurd (by decide) r)
      · cases e
        refine zpc_if (fun _ => zpc_some ?_) (fun r => absurd rfl r)
        show (σ, σ.1 40 8 - 0) = _
        rw [h]
        rfl
    cases e
    refine zpc_if (fun _ => ?_) (fun r => absurd (by decide) r)
    refine zpc_bi (P := fun r => r.2 = if y = 0 then 0 else 1) ?_ (fun s v e => ?_)
    · unfold fX1_changeStop
      refine zpc_ck (zpc_bv (fun c ec => ?_))
      rw [show zgi σ 40 (8 : Int32).toNatClampNeg = 0 from h] at ec
      subst ec
      refine zpc_bi pl (fun s v e => ?_)
      cases e
      unfold fX1_changeStop_50 fX1_changeStop_87
      refine zpc_if (fun r => ?_) (fun r => ?_)
      · refine zpc_if (fun _ => zpc_if (fun _ => zpc_ck (zpc_some ?_)) (fun r => absurd (by decide) r)) (fun r2 => absurd r r2)
        show σ.1 40 8 = _
        rw [if_pos r, h]
      · refine zpc_if (fun r => absurd r (by decide)) (fun _ => zpc_if (fun r => absurd r (by decide)) (fun _ => ?_))
        refine zpc_ck (zpc_bv (fun s4 e4 => zpc_ck (zpc_bv (fun s5 e5 => zpc_ck (zpc_some ?_)))))
        subst e4
        subst e5
        show (0 : Int32) + 1 = _
        rw [if_neg r]
        rfl
    · have e : v = if y = 0 then 0 else 1 := e
      exact zpc_some (Or.inl ⟨hx, s, by rw [e]⟩)
  · have := Int32.lt_iff_toInt_lt.mp (z_nle q1); have := a.2; omega
theorem pm_stop (h : μ.1 3 89 = 0) : zpc (fX12_stop μ x y) (fun r => (zr 0 65535 x ∧ r.2 = (if y = 0 then 0 else 1) ∧ zTh 0 r.1) ∨ (¬ zr 0 65535 x ∧ zTh 1 r.1)) := by
  unfold fX12_stop
  refine zpc_bi (jm_isStop h) (fun s v e => ?_)
  cases e
  refine zpc_within (fun w1 w2 => ?_) (fun w => zpc_if (fun _ => ?_) (fun r => absurd rfl r))
  · have hx := z_wir w1 w2 (zrl_c (lo := 0) (hi := 0) (by decide)) (zrl_c (lo := 65535) (hi := 65535) (by decide))
    refine zpc_if (fun r => absurd r (by decide)) (fun _ => ?_)
    unfold fX12_stop_24
    refine zpc_fails0 (fun μ1 e1 => zpc_if (fun _ => ?_) (fun r => absurd rfl r))
    have m1 : μ1.1 3 89 = 0 := by subst e1; exact h
    have f56 : zpc (fX12_stop_56 μ1 x y 0) (fun r => (zr 0 65535 x ∧ r.2 = (if y = 0 then 0 else 1) ∧ zTh 0 r.1) ∨ (¬ zr 0 65535 x ∧ zTh 1 r.1)) := by
      unfold fX12_stop_56 fX12_stop_57 fX12_stop_101 fX12_stop_168
      refine zpc_fails0 (fun μ2 e2 => zpc_if (fun _ => ?_) (fun r => absurd rfl r))
      have m2 : μ2.1 3 89 = 0 := by subst e2; exact m1
      have t2 : zTh 0 μ2 := by subst e2; exact zTh_own
      refine zpc_if (fun r => ?_) (fun r => zpc_if (fun _ => ?_) (fun r => absurd rfl r))
      · refine zpc_if (fun _ => zpc_if (fun _ => zpc_ck (zpc_some (Or.inl ⟨hx, ?_, t2⟩))) (fun r => absurd rfl r)) (fun r2 => absurd r r2)
        show μ2.1 3 89 = _
        rw [if_pos r, m2]
      · refine zpc_ck (zpc_ck (zpc_bv (fun s4 e4 => zpc_ck (zpc_ck (zpc_bv (fun s5 e5 => zpc_if (fun r2 => absurd r2 r) (fun _ => zpc_ck (zpc_some (Or.inl ⟨hx, ?_, ?_⟩)))))))))
        · have i4 : zgi s4 3 (89 : Int32).toNatClampNeg = 1 := by
            subst e4
            show μ2.1 3 89 + 1 = 1
            rw [m2]
            rfl
          rw [i4, show ((89 : Int32) + 1).toNatClampNeg = 90 by decide] at e5
          subst e5
          show s4.1 3 89 = _
          rw [if_neg r]
          exact i4
        · have i4 : zgi s4 3 (89 : Int32).toNatClampNeg = 1 := by
            subst e4
            show μ2.1 3 89 + 1 = 1
            rw [m2]
            rfl
          rw [i4, show ((89 : Int32) + 1).toNatClampNeg = 90 by decide] at e5
          subst e5
          subst e4
          exact t2
    refine zpc_if (fun _ => f56) (fun _ => zpc_if (fun _ => zpc_ck (zpc_if (fun r => ?_) (fun _ => f56))) (fun r => absurd rfl r))
    exact absurd ((show μ1.1 3 89 = 8 from r).symm.trans m1) (by decide)
  · unfold fX12_stop_24 fX12_stop_64
    exact zpc_fails1 (fun μ1 e1 => zpc_if (fun q => absurd q (by decide)) (fun _ => zpc_some (Or.inr ⟨z_within w rfl rfl, by subst e1; exact zTh_own⟩)))
theorem v1_stop (h : zFr k σ μ) : zp2 (fL_stop (fun _ => 0) σ x y) (fX12_stop μ x y) zCv := by
  obtain ⟨e1, e2⟩ := h
  subst e1
  subst e2
  unfold fL_stop
  refine zAns.h2 (zp2_of (pc_stop rfl) (pm_stop rfl) (fun a b p q => ?_))
  rcases p with ⟨p1, s, p2⟩ | ⟨p1, s, p2⟩ <;> rcases q with ⟨q1, q2, q3⟩ | ⟨q1, q2⟩
  · exact Or.inr ⟨s, by rw [p2, q2], q3⟩
  · exact absurd p1 q1
  · exact absurd q1 p1
  · exact Or.inl ⟨s, p2, q2⟩
end ZF5
