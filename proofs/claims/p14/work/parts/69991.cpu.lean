/-! ANSWERS -/
section ZAV
variable {σ μ s t : zSt} {B : Int × Int × Int}
theorem zNow.cp (h : zNow B σ μ) : zCp σ μ := by
  obtain ⟨hT, hF, hW⟩ := h
  obtain ⟨c1, c2, c3, c4⟩ := hT.2.1
  refine ⟨fun j hj => ?_, c2.symm, c3.symm, fun j hj => (c4 j (by omega)).1 hj, fun j h1 h2 => (c4 j (by omega)).2.1 h1 h2, fun j h1 h2 => (c4 j (by omega)).2.2.1 h1 h2⟩
  by_cases q1 : j = 1
  · subst q1; exact hF.symm
  · by_cases q2 : j = 20
    · subst q2; exact hW.symm
    · exact (c1 j hj q1 q2).symm
theorem zck_in {α β : Type} {x : Int32} {n : Nat} {o : Option α} {p : Option β} {Q : α → β → Prop} (h : 0 ≤ x.toInt → x.toInt < n → zp2 o p Q) : zp2 o (zck (zin x n) p) Q := by
  by_cases q : 0 ≤ x.toInt ∧ x.toInt < n
  · exact zp2_ckr (h q.1 q.2)
  · have e : zin x n = false := by
      show (!(decide (x < 0) || decide (n ≤ x.toNatClampNeg))) = false
      by_cases y : x < 0
      · rw [decide_eq_true y]; rfl
      · have y1 := Int32.le_iff_toInt_le.mp (z_nlt y)
        rw [show (0 : Int32).toInt = 0 from rfl] at y1
        have k := z_clamp y1
        have l : n ≤ x.toNatClampNeg := by
          have : ¬ x.toInt < n := fun z => q ⟨y1, z⟩
          omega
        rw [decide_eq_true l, Bool.or_true]; rfl
    rw [e]
    exact zp2_nr
/-! video -/
theorem v_video6 (h : zVe σ μ) {x1 : Int32} : ∀ (n m : Nat) (x2 : Int64) (x4 : Int32), zp2 (fX9_eightFrom_6 n σ x1 x2 x4) (fX12_video_11 m μ x1 x2 x4) (fun r r' => r.2 = r'.2) := by
  intro n
  induction n with
  | zero => intro m x2 x4; exact zp2_nl
  | succ n ih =>
    intro m x2 x4
    cases m with
    | zero => exact zp2_nr
    | succ m =>
      show zp2 (fX9_eightFrom_6_body (fX9_eightFrom_6 n) σ x1 x2 x4) (fX12_video_11_body (fX12_video_11 m) μ x1 x2 x4) _
      unfold fX9_eightFrom_6_body fX12_video_11_body fX12_video8
      refine zp2_if (fun _ => zp2_some rfl) (fun _ => zp2_ckl ?_)
      have r14 := z_r14 (x1 + x4)
      have hj : ((x1 + x4) &&& 16383).toNatClampNeg < 16384 := by
        have := z_clamp r14.1
        have := r14.2
        omega
      refine zp2_bir (P := fun r => r = (μ, σ.1 21 ((x1 + x4) &&& 16383).toNatClampNeg)) (zpc_ck (zpc_some (by rw [← z_vr h.1 hj]; rfl))) (fun t1 v e => ?_)
      cases e
      refine zp2_bvl (fun v1 e1 => zp2_bvl (fun v2 e2 => zp2_bvr (fun w1 f1 => zp2_bvr (fun w2 f2 => ?_))))
      rw [e1, e2, f1, f2]
      exact ih m _ _
theorem v_video (h : zNow B σ μ) {x : Int32} : zp2 (fX11_video σ x) (fX12_video μ x) (fun r r' => r.2 = r'.2) := by
  unfold fX11_video fX12_video fX9_eightFrom
  refine zp2_bvr (fun t1 e1 => ?_)
  have h1 : zNow B σ t1 := by rw [e1]; exact h.th
  intro a b ea eb
  cases q : fX9_eightFrom_6 zfuel σ x 0 7 with
  | none => rw [q] at ea; cases ea
  | some r =>
    rw [q] at ea
    have z := v_video6 h1.ve zfuel zfuel 0 7 r b q eb
    have ea : some (r.1, r.2) = some a := ea
    cases ea
    exact z
/-! chip -/
theorem a_held {x : Int32} (hx : zr 0 95 x) : zpc (fX9_held σ x) (fun r => r = (σ, σ.1 23 x.toNatClampNeg)) := by
  unfold fX9_held fX9_held_20
  exact zpc_if (fun q => absurd q (zq_lt hx rfl (by decide))) (fun _ => zpc_if (fun q => absurd q (zq_gef hx rfl (by decide))) (fun _ => zpc_ck (zpc_some rfl)))
theorem p_vals (h : zVe σ μ) (e03 : μ.1 0 3 = μ.1 0 3) : ∃ a m hh hc vc : Int32, zpc (fX9_asks σ ) (fun r => r = (σ, a)) ∧ zpc (fX12_asks μ ) (fun r => r = (μ, a)) ∧ zpc (fX9_mode σ ) (fun r => r = (σ, m)) ∧ zpc (fX12_mode μ ) (fun r => r = (μ, m)) ∧ zpc (fX9_height σ ) (fun r => r = (σ, hh)) ∧ zpc (fX12_height μ ) (fun r => r = (μ, hh)) ∧ zpc (fX9_hCount σ ) (fun r => r = (σ, hc)) ∧ zpc (fX12_hCount μ ) (fun r => r = (μ, hc)) ∧ zpc (fX9_vCount σ ) (fun r => r = (σ, vc)) ∧ zpc (fX12_vCount μ ) (fun r => r = (μ, vc)) := by
  have m0 : zr 0 255 (μ.1 3 47) := by rw [h.e0]; exact h.r0
  have m1 : zr 0 255 (μ.1 3 48) := by rw [h.e1]; exact h.r1
  have m2 : zr 0 255 (μ.1 3 62) := by rw [h.e15]; exact h.2.1.at (k := 23) (j := 15) rfl
  have r20 := h.2.1.at (k := 23) (j := 20) rfl
  have ln : (σ.1 23 20).toInt < (σ.1 2 1).toInt := h.2.2.2
  have k5 : σ.1 2 1 = (if μ.1 0 3 = 1 then 313 else 262) := h.2.2.1.2.2.2.2.2
  have a2 := p_asksM m0 m1 m2
  rw [h.e0, h.e1, h.e15, h.e16] at a2
  have d2 := p_modeM m0 m1
  rw [h.e0, h.e1] at d2
  have f2 := p_heightM m0 m1
  rw [h.e0, h.e1] at f2
  have g2 := p_hCountM (μ := μ)
  rw [h.e21] at g2
  have i2 := p_vCountM (μ := μ) m0 m1 (by rw [h.e20]; exact r20) (fun n => by
    rw [h.e20]
    rw [k5, if_neg n, show (262 : Int32).toInt = 262 from rfl] at ln
    exact ⟨r20.1, by omega⟩)
  rw [h.e20, h.e0, h.e1] at i2
  exact ⟨_, _, _, _, _, p_asksC, a2, p_modeC, d2, p_heightC h.r0 h.r1, f2, p_hCountC, g2, p_vCountC h.r0 h.r1 k5, i2⟩
theorem v_chip (h : zNow B σ μ) {x : Int32} : zp2 (fX11_chip σ x) (fX12_chip μ x) (zAns 1) := by
  have no : ∀ v : Int32, ¬ (0 ≤ x.toInt ∧ x.toInt ≤ 25) → ¬ (32 ≤ x.toInt ∧ x.toInt ≤ 95) → v = 0 → zpc (fX9_has σ x) (fun r => r = (σ, v)) := fun v n1 n2 ev => by
    subst ev
    unfold fX9_has fX9_has_10 fX9_has_22 fX9_has_26 fX9_has_27
    have c0 : (0 : Int32).toInt = 0 := rfl
    have c25 : (25 : Int32).toInt = 25 := rfl
    have c32 : (32 : Int32).toInt = 32 := rfl
    have c96 : (96 : Int32).toInt = 96 := rfl
    have fin : zpc (if x < 32 then zck (zbo 0) (some (σ, (0 : Int32))) else if 96 ≤ x then zck (zbo 0) (some (σ, 0)) else zck (zbo 1) (some (σ, 1))) (fun r => r = (σ, 0)) := by
      refine zpc_if (fun _ => zpc_ck (zpc_some rfl)) (fun a => zpc_if (fun _ => zpc_ck (zpc_some rfl)) (fun b => ?_))
      have a1 := Int32.le_iff_toInt_le.mp (z_nlt a)
      have b1 := Int32.lt_iff_toInt_lt.mp (z_nle b)
      exact absurd ⟨by omega, by omega⟩ n2
    refine zpc_if (fun _ => fin) (fun a => zpc_if (fun b => ?_) (fun _ => fin))
    have a1 := Int32.le_iff_toInt_le.mp (z_nlt a)
    have b1 := Int32.le_iff_toInt_le.mp b
    exact absurd ⟨by omega, by omega⟩ n1
  have yes : (0 ≤ x.toInt ∧ x.toInt ≤ 25) ∨ (32 ≤ x.toInt ∧ x.toInt ≤ 95) → zpc (fX9_has σ x) (fun r => r = (σ, 1)) := fun hx => by
    unfold fX9_has fX9_has_10 fX9_has_22 fX9_has_26 fX9_has_27
    have c0 : (0 : Int32).toInt = 0 := rfl
    have c25 : (25 : Int32).toInt = 25 := rfl
    have c32 : (32 : Int32).toInt = 32 := rfl
    have c96 : (96 : Int32).toInt = 96 := rfl
    refine zpc_if (fun a => ?_) (fun a => zpc_if (fun b => zpc_ck (zpc_some rfl)) (fun b => zpc_if (fun d => ?_) (fun d => zpc_if (fun f => ?_) (fun f => zpc_ck (zpc_some rfl)))))
    · have := Int32.lt_iff_toInt_lt.mp a
      exfalso; omega
    · have := Int32.lt_iff_toInt_lt.mp d
      have := Int32.lt_iff_toInt_lt.mp (z_nle b)
      exfalso; omega
    · have := Int32.le_iff_toInt_le.mp f
      exfalso; omega
  -- what both say of a place that there is
  have good : (0 ≤ x.toInt ∧ x.toInt ≤ 25) ∨ (32 ≤ x.toInt ∧ x.toInt ≤ 95) → zp2 (fX11_chip σ x) (fX12_chip_32 μ x 0) (zAns 1) := fun hx => by
    unfold fX11_chip fX12_chip_32 fX12_chip_136
    refine zp2_bil (yes hx) (fun s1 v1 e1 => ?_)
    cases e1
    refine zp2_ifl (fun q => absurd q (by decide)) (fun _ => zp2_fails0 (fun t1 e1 => zp2_ifr (fun _ => ?_) (fun q => absurd rfl q)))
    have h1 : zNow B σ t1 := by rw [e1]; exact h.th
    have th : zTh 0 t1 := by rw [e1]; exact zTh_own
    have hv := h1.ve
    obtain ⟨a, m, hh, hc, vc, pa, qa, pm, qm, ph, qh, pc, qc, pv, qv⟩ := p_vals hv rfl
    have h95 : zr 0 95 x := ⟨by omega, by omega⟩
    have kx := z_clamp h95.1
    have fin : ∀ {f : Option (zSt × Int32)} {g : Option (zSt × Int32)} {v w : Int32}, zpc f (fun r => r = (σ, v)) → zpc g (fun r => r = (t1, w)) → v = w → zp2 (zbi f (fun s v => some (Sum.inl (s, v) : zRi))) g (zAns 1) := fun {f g v w} pf pg e => by
      refine zp2_bil pf (fun s1 v1 e1 => ?_)
      cases e1
      intro a b ea eb
      cases ea
      have := pg b eb
      subst this
      exact Or.inr ⟨σ, by rw [e], th⟩
    have rd : ∀ {f : Option (zSt × Int32)} {v : Int32}, zpc f (fun r => r = (t1, v)) → zpc (zbi f (fun s v => some (s, v))) (fun r => r = (t1, v)) := fun {f v} pf => zpc_bi pf (fun s1 v1 e1 => by cases e1; exact zpc_some rfl)
    have rc : ∀ {f : Option (zSt × Int32)} {v : Int32}, zpc f (fun r => r = (σ, v)) → zpc (zbi f (fun s v => some (s, v))) (fun r => r = (σ, v)) := fun {f v} pf => zpc_bi pf (fun s1 v1 e1 => by cases e1; exact zpc_some rfl)
    unfold fX9_value fX9_value_85 fX9_value_64
    have c31 : (31 : Int32).toInt = 31 := rfl
    have c17 : (17 : Int32).toInt = 17 := rfl
    have held : zpc (zbi (fX9_held σ x) (fun σ1 v2 => some (σ1, v2))) (fun r => r = (σ, σ.1 23 x.toNatClampNeg)) := rc (a_held h95)
    by_cases q17 : x = 17
    · subst q17
      refine zp2_ifr (fun _ => zp2_ifr (fun _ => zp2_ifr (fun _ => ?_) (fun z => absurd rfl z)) (fun z => absurd (by decide) z)) (fun z => absurd (by decide) z)
      rw [if_pos rfl]
      refine fin (v := if a = 0 then 0 else 1) (w := if a = 0 then 0 else 1) (zpc_bi pa (fun s1 v1 e1 => ?_)) (zpc_bi qa (fun s1 v1 e1 => ?_)) rfl
      · cases e1
        exact zpc_if (fun z => zpc_some (by rw [if_pos z])) (fun z => zpc_some (by rw [if_neg z]))
      · cases e1
        exact zpc_if (fun z => zpc_some (by rw [if_pos z])) (fun z => zpc_some (by rw [if_neg z]))
    rw [if_neg q17]
    by_cases q18 : x = 18
    · subst q18
      rw [if_pos rfl]
      refine zp2_ifr (fun _ => zp2_ifr (fun _ => zp2_ifr (fun z => absurd z (by decide)) (fun _ => ?_)) (fun z => absurd (by decide) z)) (fun z => absurd (by decide) z)
      refine zp2_ifr (fun _ => ?_) (fun z => absurd rfl z)
      exact fin held (zpc_ck (zpc_some rfl)) (hv.1.e (z_pn23_18 (d := 0) (by decide))).symm
    rw [if_neg q18]
    by_cases q19 : x = 19
    · subst q19
      rw [if_pos rfl]
      refine zp2_ifr (fun _ => zp2_ifr (fun _ => zp2_ifr (fun z => absurd z (by decide)) (fun _ => ?_)) (fun z => absurd (by decide) z)) (fun z => absurd (by decide) z)
      refine zp2_ifr (fun z => absurd z (by decide)) (fun _ => ?_)
      refine zp2_ifr (fun _ => ?_) (fun z => absurd rfl z)
      exact fin held (zpc_ck (zpc_some rfl)) (hv.1.e (z_pn23_18 (d := 1) (by decide))).symm
    rw [if_neg q19]
    by_cases q20 : x = 20
    · subst q20
      rw [if_pos rfl]
      refine zp2_ifr (fun _ => zp2_ifr (fun _ => zp2_ifr (fun z => absurd z (by decide)) (fun _ => ?_)) (fun z => absurd (by decide) z)) (fun z => absurd (by decide) z)
      refine zp2_ifr (fun z => absurd z (by decide)) (fun _ => ?_)
      refine zp2_ifr (fun z => absurd z (by decide)) (fun _ => ?_)
      refine zp2_ifr (fun _ => ?_) (fun z => absurd rfl z)
      exact fin held (zpc_ck (zpc_some rfl)) (hv.1.e (z_pn23_18 (d := 2) (by decide))).symm
    rw [if_neg q20]
    by_cases q21 : x = 21
    · subst q21
      rw [if_pos rfl]
      refine zp2_ifr (fun _ => zp2_ifr (fun _ => zp2_ifr (fun z => absurd z (by decide)) (fun _ => ?_)) (fun z => absurd (by decide) z)) (fun z => absurd (by decide) z)
      refine zp2_ifr (fun z => absurd z (by decide)) (fun _ => ?_)
      refine zp2_ifr (fun z => absurd z (by decide)) (fun _ => ?_)
      refine zp2_ifr (fun z => absurd z (by decide)) (fun _ => ?_)
      refine zp2_ifr (fun _ => ?_) (fun z => absurd rfl z)
      exact fin held (zpc_ck (zpc_some rfl)) (hv.1.e (z_pn23_18 (d := 3) (by decide))).symm
    rw [if_neg q21]
    by_cases q22 : x = 22
    · subst q22
      rw [if_pos rfl]
      refine zp2_ifr (fun _ => zp2_ifr (fun _ => zp2_ifr (fun z => absurd z (by decide)) (fun _ => ?_)) (fun z => absurd (by decide) z)) (fun z => absurd (by decide) z)
      refine zp2_ifr (fun z => absurd z (by decide)) (fun _ => ?_)
      refine zp2_ifr (fun z => absurd z (by decide)) (fun _ => ?_)
      refine zp2_ifr (fun z => absurd z (by decide)) (fun _ => ?_)
      refine zp2_ifr (fun z => absurd z (by decide)) (fun _ => ?_)
      refine zp2_ifr (fun _ => ?_) (fun z => absurd rfl z)
      exact fin (rc pm) (rd qm) rfl
    rw [if_neg q22]
    by_cases q23 : x = 23
    · subst q23
      rw [if_pos rfl]
      refine zp2_ifr (fun _ => zp2_ifr (fun _ => zp2_ifr (fun z => absurd z (by decide)) (fun _ => ?_)) (fun z => absurd (by decide) z)) (fun z => absurd (by decide) z)
      refine zp2_ifr (fun z => absurd z (by decide)) (fun _ => ?_)
      refine zp2_ifr (fun z => absurd z (by decide)) (fun _ => ?_)
      refine zp2_ifr (fun z => absurd z (by decide)) (fun _ => ?_)
      refine zp2_ifr (fun z => absurd z (by decide)) (fun _ => ?_)
      refine zp2_ifr (fun z => absurd z (by decide)) (fun _ => ?_)
      refine zp2_ifr (fun _ => ?_) (fun z => absurd rfl z)
      exact fin (rc ph) (rd qh) rfl
    rw [if_neg q23]
    by_cases q24 : x = 24
    · subst q24
      rw [if_pos rfl]
      refine zp2_ifr (fun _ => zp2_ifr (fun _ => zp2_ifr (fun z => absurd z (by decide)) (fun _ => ?_)) (fun z => absurd (by decide) z)) (fun z => absurd (by decide) z)
      refine zp2_ifr (fun z => absurd z (by decide)) (fun _ => ?_)
      refine zp2_ifr (fun z => absurd z (by decide)) (fun _ => ?_)
      refine zp2_ifr (fun z => absurd z (by decide)) (fun _ => ?_)
      refine zp2_ifr (fun z => absurd z (by decide)) (fun _ => ?_)
      refine zp2_ifr (fun z => absurd z (by decide)) (fun _ => ?_)
      refine zp2_ifr (fun z => absurd z (by decide)) (fun _ => ?_)
      refine zp2_ifr (fun _ => ?_) (fun z => absurd rfl z)
      exact fin (rc pc) (rd qc) rfl
    rw [if_neg q24]
    by_cases q25 : x = 25
    · subst q25
      rw [if_pos rfl]
      refine zp2_ifr (fun _ => zp2_ifr (fun _ => zp2_ifr (fun z => absurd z (by decide)) (fun _ => ?_)) (fun z => absurd (by decide) z)) (fun z => absurd (by decide) z)
      refine zp2_ifr (fun z => absurd z (by decide)) (fun _ => ?_)
      refine zp2_ifr (fun z => absurd z (by decide)) (fun _ => ?_)
      refine zp2_ifr (fun z => absurd z (by decide)) (fun _ => ?_)
      refine zp2_ifr (fun z => absurd z (by decide)) (fun _ => ?_)
      refine zp2_ifr (fun z => absurd z (by decide)) (fun _ => ?_)
      refine zp2_ifr (fun z => absurd z (by decide)) (fun _ => ?_)
      refine zp2_ifr (fun z => absurd z (by decide)) (fun _ => ?_)
      exact fin (rc pv) (rd qv) rfl
    rw [if_neg q25]
    have n : ∀ k : Int32, ¬ x = k → ¬ x.toInt = k.toInt := fun k hk z => hk (Int32.toInt_inj.mp z)
    have n17 := n 17 q17
    have n18 := n 18 q18
    have n19 := n 19 q19
    have n20 := n 20 q20
    have n21 := n 21 q21
    have n22 := n 22 q22
    have n23 := n 23 q23
    have n24 := n 24 q24
    have n25 := n 25 q25
    rw [show (17 : Int32).toInt = 17 from rfl] at n17
    rw [show (18 : Int32).toInt = 18 from rfl] at n18
    rw [show (19 : Int32).toInt = 19 from rfl] at n19
    rw [show (20 : Int32).toInt = 20 from rfl] at n20
    rw [show (21 : Int32).toInt = 21 from rfl] at n21
    rw [show (22 : Int32).toInt = 22 from rfl] at n22
    rw [show (23 : Int32).toInt = 23 from rfl] at n23
    rw [show (24 : Int32).toInt = 24 from rfl] at n24
    rw [show (25 : Int32).toInt = 25 from rfl] at n25
    refine zp2_ifr (fun a => zp2_ifr (fun b => ?_) (fun b => ?_)) (fun a => ?_)
    · have a1 := Int32.le_iff_toInt_le.mp a
      have b1 := Int32.le_iff_toInt_le.mp b
      exfalso; omega
    · have b1 := Int32.lt_iff_toInt_lt.mp (z_nle b)
      refine fin held (zpc_ck (zpc_some rfl)) ?_
      show _ = t1.1 3 (47 + x).toNatClampNeg
      rw [z_off h95 (k := 47) rfl (by decide)]
      have p := z_pn23_0 (d := x.toNatClampNeg) (by omega)
      rw [Nat.zero_add] at p
      exact (hv.1.e p).symm
    · have a1 := Int32.lt_iff_toInt_lt.mp (z_nle a)
      refine fin held (zpc_ck (zpc_some rfl)) ?_
      show _ = t1.1 8 (x - 32).toNatClampNeg &&& 255
      have ts : (x - 32).toInt = x.toInt - 32 := z_tsub (a := 0) (b := 95) h95 (zr_c (lo := 32) (hi := 32) (x := 32) (by decide)) (by decide)
      have ks := z_clamp (x := x - 32) (by omega)
      have p := z_pn23_32 (d := (x - 32).toNatClampNeg) (by omega)
      rw [Nat.zero_add, show 32 + (x - 32).toNatClampNeg = x.toNatClampNeg by omega] at p
      exact (hv.1.at p).symm
  unfold fX12_chip fX12_chip_31
  refine zp2_within (fun w1 w2 => ?_) (fun w => ?_)
  · have hx := z_wir w1 w2 (zrl_c (lo := 0) (hi := 0) (by decide)) (zrl_c (lo := 25) (hi := 25) (by decide))
    exact zp2_ifr (fun q => absurd q (by decide)) (fun _ => good (Or.inl hx))
  · have hn := z_nin w (a := 0) (b := 25) rfl rfl
    refine zp2_ifr (fun _ => ?_) (fun q => absurd rfl q)
    refine zp2_within (fun w1 w2 => ?_) (fun w' => ?_)
    · have hx := z_wir w1 w2 (zrl_c (lo := 32) (hi := 32) (by decide)) (zrl_c (lo := 95) (hi := 95) (by decide))
      exact zp2_ifr (fun q => absurd q (by decide)) (fun _ => good (Or.inr hx))
    · have hn' := z_nin w' (a := 32) (b := 95) rfl rfl
      refine zp2_ifr (fun _ => ?_) (fun q => absurd rfl q)
      unfold fX11_chip fX12_chip_32
      refine zp2_bil (no 0 (by omega) (by omega) rfl) (fun s1 v1 e1 => ?_)
      cases e1
      refine zp2_ifl (fun _ => zp2_fails1 (fun t1 e1 => zp2_ifr (fun q => absurd q (by decide)) (fun _ => zp2_some (Or.inl ⟨σ, rfl, by rw [e1]; exact zTh_own⟩)))) (fun q => absurd rfl q)
/-! trace -/
theorem a_31 (x : Int32) : x &&& 31 = (x + 32) &&& 31 := by
  refine Int32.toBitVec_inj.1 (BitVec.eq_of_toNat_eq ?_)
  rw [Int32.toBitVec_and, Int32.toBitVec_and, BitVec.toNat_and, BitVec.toNat_and, Int32.toBitVec_add, BitVec.toNat_add]
  rw [show (31 : Int32).toBitVec.toNat = 2 ^ 5 - 1 from rfl, show (32 : Int32).toBitVec.toNat = 32 from rfl, Nat.and_two_pow_sub_one_eq_mod, Nat.and_two_pow_sub_one_eq_mod]
  have := x.toBitVec.isLt
  omega
theorem z_tlsub' {x y : Int64} {a b c d : Int} (hx : zrl a b x) (hy : zrl c d y) (h : -9223372036854775808 ≤ a - d ∧ b - c ≤ 9223372036854775807) : (x - y).toInt = x.toInt - y.toInt := by
  obtain ⟨h1, h2⟩ := hx
  obtain ⟨h3, h4⟩ := hy
  rw [Int64.toInt_sub]; exact z_bml (by omega) (by omega)
theorem v_trace (h : zNow B σ μ) (hB : B.1 ≤ 1000000000000000) {x : Int32} : zp2 (fX11_trace σ x) (fX12_trace μ x) (fun r r' => r.2 = r'.2) := by
  obtain ⟨s1, s2, s3, s4, s5⟩ := h.1.2.2.2.2.2.1
  unfold fX11_trace fX12_trace fX1_stepBack fX1_stepBack_10 fX1_stepBack_30 fX12_trace_27 fX12_trace_50
  refine zp2_bvr (fun t1 e1 => ?_)
  have e30 : zgl t1 0 30 = μ.2 0 30 := by rw [e1]; rfl
  have e21 : t1.1 21 = μ.1 21 := by rw [e1]; exact zsi_ne (by decide)
  have c0 : (0 : Int32).toInt = 0 := rfl
  have c32 : (32 : Int32).toInt = 32 := rfl
  refine zp2_within (fun w1 w2 => ?_) (fun w => ?_)
  · have hx := z_wir w1 w2 (zrl_c (lo := 0) (hi := 0) (by decide)) (zrl_c (lo := 31) (hi := 31) (by decide))
    have x0 := hx.1
    have x1 := hx.2
    refine zp2_ifr (fun q => absurd q (by decide)) (fun _ => ?_)
    rw [e30]
    have t1' : (σ.1 9 5 - 1).toInt = (σ.1 9 5).toInt - 1 := z_tsub (a := 0) (b := 31) s3 (zr_c (lo := 1) (hi := 1) (x := 1) (by decide)) (by decide)
    have t2 : ((σ.1 9 5 - 1) - x).toInt = (σ.1 9 5).toInt - 1 - x.toInt := by
      rw [z_tsub (a := -1) (b := 30) (c := 0) (d := 31) ⟨by have := s3.1; omega, by have := s3.2; omega⟩ hx (by decide), t1']
    have key : (((σ.1 9 5 - 1) - x) &&& 31).toInt = ((μ.2 0 30).toInt - 1 - x.toInt) % 32 := by
      have z31 : ((σ.1 9 5 - 1) - x) &&& 31 = (((σ.1 9 5 - 1) - x) + 32) &&& 31 := a_31 _
      have t3 : (((σ.1 9 5 - 1) - x) + 32).toInt = (σ.1 9 5).toInt - 1 - x.toInt + 32 := by
        rw [z_tadd (a := -32) (b := 30) (c := 32) (d := 32) ⟨by have := s3.1; omega, by have := s3.2; omega⟩ (zr_c (by decide)) (by decide), t2, c32]
      rw [z31, z_mask (k := 5) (by have := s3.1; omega) rfl (by decide), t3]
      show ((σ.1 9 5).toInt - 1 - x.toInt + 32) % 32 = _
      omega
    have k0 := Int.emod_nonneg ((μ.2 0 30).toInt - 1 - x.toInt) (b := 32) (by decide)
    have k1 := Int.emod_lt_of_pos ((μ.2 0 30).toInt - 1 - x.toInt) (b := 32) (by decide)
    have kk := z_clamp (x := ((σ.1 9 5 - 1) - x) &&& 31) (by omega)
    have n0 : ¬ x < 0 := zq_lt hx rfl (by decide)
    have n1 : x < 32 := zq_ltt hx rfl (by decide)
    have s5' := s5 (((σ.1 9 5 - 1) - x) &&& 31).toNatClampNeg (by omega)
    refine zp2_bil (P := fun r => r = (σ, σ.1 44 (((σ.1 9 5 - 1) - x) &&& 31).toNatClampNeg)) (zpc_if (fun q => absurd q n0) (fun _ => zpc_if (fun _ => zpc_ck (zpc_some rfl)) (fun q => absurd n1 q))) (fun s1 v e => ?_)
    cases e
    refine zp2_ifr (fun q => ?_) (fun q => ?_)
    · have q1 := z_cmp_lt.mp q
      rw [Int32.toInt_toInt64] at q1
      have c1 : (1 : Int64).toInt = 1 := rfl
      have y1 : (μ.2 0 30 - 1).toInt = (μ.2 0 30).toInt - 1 := by
        rw [z_tlsub' (a := 0) (b := 1000000000000000) (c := 1) (d := 1) ⟨s1, by omega⟩ ⟨by rw [c1]; omega, by rw [c1]; omega⟩ (by decide), c1]
      have y2 : ((μ.2 0 30 - 1) - x.toInt64).toInt = (μ.2 0 30).toInt - 1 - x.toInt := by
        rw [z_tlsub' (a := -1) (b := 1000000000000000) (c := 0) (d := 31) ⟨by omega, by omega⟩ ⟨by rw [Int32.toInt_toInt64]; omega, by rw [Int32.toInt_toInt64]; omega⟩ (by decide), y1, Int32.toInt_toInt64]
      have y3 : (zreml ((μ.2 0 30 - 1) - x.toInt64) 32).toInt = ((μ.2 0 30).toInt - 1 - x.toInt) % 32 := by
        rw [z_tlrem (a := 0) (b := 1000000000000000) 32 rfl ⟨by omega, by omega⟩ (by decide), y2]
      have y4 : ((zreml ((μ.2 0 30 - 1) - x.toInt64) 32).toInt32).toInt = ((μ.2 0 30).toInt - 1 - x.toInt) % 32 := by
        rw [Int64.toInt_toInt32, y3]
        exact Int.bmod_eq_of_le (by omega) (by omega)
      have e : (zreml ((μ.2 0 30 - 1) - x.toInt64) 32).toInt32 = ((σ.1 9 5 - 1) - x) &&& 31 := Int32.toInt_inj.mp (by rw [y4, key])
      rw [e]
      refine zp2_ckr (zp2_ckr (zp2_some ?_))
      show σ.1 44 _ = t1.1 21 _
      rw [e21]
      refine s5'.1 ?_
      rw [kk, key]
      omega
    · have q1 : ¬ (x.toInt64.toInt < (μ.2 0 30).toInt) := fun z => q (z_cmp_lt.mpr z)
      rw [Int32.toInt_toInt64] at q1
      refine zp2_some ?_
      show σ.1 44 _ = -1
      refine s5'.2 ?_
      rw [kk, key]
      omega
  · have hn := z_nin w (a := 0) (b := 31) rfl rfl
    refine zp2_ifr (fun _ => ?_) (fun q => absurd rfl q)
    refine zp2_bil (P := fun r => r = (σ, -1)) (zpc_if (fun _ => zpc_some rfl) (fun q => zpc_if (fun q1 => ?_) (fun _ => zpc_some rfl))) (fun s1 v e => ?_)
    · have r1 := Int32.le_iff_toInt_le.mp (z_nlt q)
      have r2 := Int32.lt_iff_toInt_lt.mp q1
      exfalso; omega
    · cases e
      exact zp2_some rfl
/-! dot, row -/
theorem a_width : zpc (fX3_width σ ) (fun r => r = (σ, if σ.1 3 1 = 0 then 256 else 160)) := by
  unfold fX3_width fX3_width_16
  exact zpc_if (fun q => zpc_some (by rw [if_pos (show σ.1 3 1 = 0 from q)])) (fun q => zpc_some (by rw [if_neg (show ¬ σ.1 3 1 = 0 from q)]))
theorem a_pheight (h0 : zr 0 255 (σ.1 23 0)) (h1 : zr 0 255 (σ.1 23 1)) : zpc (fX3_height σ ) (fun r => r = (σ, if σ.1 3 1 = 0 then zht (σ.1 23 0) (σ.1 23 1) else 144)) := by
  unfold fX3_height fX3_height_20
  refine zpc_if (fun q => zpc_bi (p_heightC h0 h1) (fun s v e => ?_)) (fun q => zpc_some (by rw [if_neg (show ¬ σ.1 3 1 = 0 from q)]))
  cases e
  exact zpc_some (by rw [if_pos (show σ.1 3 1 = 0 from q)])
theorem zht_r2 (a b : Int32) : zr 192 240 (zht a b) := by
  unfold zht
  split
  · exact zr_c (by decide)
  · split
    · exact zr_c (by decide)
    · split
      · split
        · exact zr_c (by decide)
        · exact zr_c (by decide)
      · split
        · exact zr_c (by decide)
        · exact zr_c (by decide)
theorem v_dot (h : zNow B σ μ) {x y : Int32} : zp2 (fX11_dot σ x y) (fX12_dot μ x y) (zAns 3) := by
  have hv := h.ve
  have k3 : σ.1 3 1 = (if μ.1 0 3 = 2 then 1 else 0) := hv.2.2.1.2.2.2.1
  have no58 : ∀ {o : Option zRi} {s0 : Int32}, o = some (Sum.inr (σ, 3)) → zp2 o (fX12_dot_58 μ x y s0) (zAns 3) := fun {o s0} eo => by
    unfold fX12_dot_58 fX12_dot_63
    refine zp2_fails1 (fun t1 e1 => zp2_ifr (fun q => absurd q (by decide)) (fun _ => ?_))
    rw [eo]
    exact zp2_some (Or.inl ⟨σ, rfl, by rw [e1]; exact zTh_own⟩)
  -- the point itself
  have pt : ∀ {s0 p : Int32}, ((s0 = 0 ∧ σ.1 3 1 = 0) ∨ (¬ s0 = 0 ∧ ¬ σ.1 3 1 = 0)) → zp2 (zbi (fX3_dotAt σ x y) (fun σ5 v6 => some (Sum.inl (σ5, v6) : zRi))) (fX12_dot_63 μ x y s0 0) (zAns 3) := fun {s0 p} hs => by
    unfold fX12_dot_63 fX12_dot_103
    refine zp2_fails0 (fun t1 e1 => zp2_ifr (fun _ => ?_) (fun q => absurd rfl q))
    have th : zTh 0 t1 := by rw [e1]; exact zTh_own
    have e9 : t1.1 9 = μ.1 9 := by rw [e1]; exact zsi_ne (by decide)
    have go : ∀ p : Int32, zpc (fX3_placeOf σ y) (fun r => r.1 = σ ∧ r.2 + x = p) → zp2 (zbi (fX3_dotAt σ x y) (fun σ5 v6 => some (Sum.inl (σ5, v6) : zRi))) (zck (zin p 61440) (some (t1, zgi t1 9 p.toNatClampNeg))) (zAns 3) := fun p hp => by
      refine zck_in (fun p0 p1 => ?_)
      have rp : zr 0 61439 p := ⟨p0, by omega⟩
      unfold fX3_dotAt fX3_dotAt_30 fX3_dotAt_31
      refine zp2_bil (P := fun r => r = (σ, σ.1 25 p.toNatClampNeg)) (zpc_bi hp (fun s1 v1 e => ?_)) (fun s1 v1 e => ?_)
      · obtain ⟨ea, eb⟩ := e
        have ea : s1 = σ := ea
        have eb : v1 + x = p := eb
        subst ea
        rw [eb]
        refine zpc_bv (fun w ew => ?_)
        rw [ew]
        exact zpc_if (fun q => absurd q (zq_lt rp rfl (by decide))) (fun _ => zpc_if (fun q => absurd q (zq_gef rp rfl (by decide))) (fun _ => zpc_ck (zpc_some rfl)))
      · cases e
        refine zp2_some (Or.inr ⟨σ, ?_, th⟩)
        have kp := z_clamp p0
        have e := hv.1.e (z_pn25_0 (d := p.toNatClampNeg) (by omega))
        rw [Nat.zero_add] at e
        show Sum.inl (σ, σ.1 25 p.toNatClampNeg) = Sum.inl (σ, t1.1 9 p.toNatClampNeg)
        rw [e9, e]
    unfold fX3_placeOf fX3_placeOf_26 at go
    rcases hs with ⟨a, b⟩ | ⟨a, b⟩
    · refine zp2_ifr (fun _ => go _ (zpc_if (fun _ => zpc_some ⟨rfl, ?_⟩) (fun q => absurd b q))) (fun q => absurd a q)
      show y * 256 + x = 256 * y + x
      rw [Int32.mul_comm]
    · refine zp2_ifr (fun q => absurd q a) (fun _ => go _ (zpc_if (fun q => absurd q b) (fun _ => zpc_some ⟨rfl, ?_⟩)))
      show ((y + 24) * 256) + 48 + x = ((256 * (y + 24)) + x) + 48
      rw [Int32.mul_comm (y + 24) 256, Int32.add_assoc, Int32.add_comm 48 x, ← Int32.add_assoc]
  have all : ∀ (s0 w hh : Int32), ((s0 = 0 ∧ σ.1 3 1 = 0 ∧ w = 256 ∧ hh = zht (σ.1 23 0) (σ.1 23 1)) ∨ (¬ s0 = 0 ∧ ¬ σ.1 3 1 = 0 ∧ w = 160 ∧ hh = 144)) → zp2 (fX11_dot σ x y) (fX12_dot_13 μ x y s0) (zAns 3) := fun s0 w hh hs => by
    have ew : (if σ.1 3 1 = 0 then (256 : Int32) else 160) = w := by
      rcases hs with ⟨a, b, c, d⟩ | ⟨a, b, c, d⟩
      · rw [if_pos b, c]
      · rw [if_neg b, c]
    have eh : (if σ.1 3 1 = 0 then zht (σ.1 23 0) (σ.1 23 1) else 144) = hh := by
      rcases hs with ⟨a, b, c, d⟩ | ⟨a, b, c, d⟩
      · rw [if_pos b, d]
      · rw [if_neg b, d]
    have hs2 : (s0 = 0 ∧ σ.1 3 1 = 0) ∨ (¬ s0 = 0 ∧ ¬ σ.1 3 1 = 0) := by
      rcases hs with ⟨a, b, _⟩ | ⟨a, b, _⟩
      · exact Or.inl ⟨a, b⟩
      · exact Or.inr ⟨a, b⟩
    unfold fX11_dot fX11_dot_30 fX12_dot_13
    refine zp2_if (fun _ => no58 rfl) (fun x0 => ?_)
    refine zp2_bil a_width (fun s1 v1 e1 => ?_)
    cases e1
    rw [ew]
    have m37 : zp2 (if w ≤ x then some (Sum.inr (σ, 3)) else if y < 0 then some (Sum.inr (σ, 3)) else zbi (fX3_height σ ) (fun σ3 v4 => if y < v4 then zbi (fX3_dotAt σ3 x y) (fun σ5 v6 => some (Sum.inl (σ5, v6))) else some (Sum.inr (σ3, 3)))) (if y < 0 then fX12_dot_58 μ x y s0 else fX12_dot_37 μ x y s0 w x) (zAns 3) := by
      unfold fX12_dot_37 fX12_dot_55
      refine zp2_ifr (fun y0 => ?_) (fun y0 => ?_)
      · exact zp2_ifl (fun _ => no58 rfl) (fun _ => zp2_ifl (fun _ => no58 rfl) (fun q => absurd y0 q))
      · refine zp2_if (fun _ => no58 rfl) (fun _ => zp2_ifl (fun q => absurd q y0) (fun _ => ?_))
        refine zp2_bil (a_pheight hv.r0 hv.r1) (fun s1 v1 e1 => ?_)
        cases e1
        rw [eh]
        rcases hs with ⟨a, b, c, d⟩ | ⟨a, b, c, d⟩
        · refine zp2_ifr (fun _ => ?_) (fun q => absurd a q)
          have qh := p_heightM (μ := μ) (by rw [hv.e0]; exact hv.r0) (by rw [hv.e1]; exact hv.r1)
          rw [hv.e0, hv.e1, ← d] at qh
          refine zp2_bir qh (fun t1 v1 e1 => ?_)
          cases e1
          exact zp2_if (fun _ => pt (p := 0) hs2) (fun _ => no58 rfl)
        · refine zp2_ifr (fun q => absurd q a) (fun _ => ?_)
          rw [d]
          exact zp2_if (fun _ => pt (p := 0) hs2) (fun _ => no58 rfl)
    rcases hs with ⟨a, b, c, d⟩ | ⟨a, b, c, d⟩
    · rw [if_pos a, ← c]; exact m37
    · rw [if_neg a, ← c]; exact m37
  unfold fX12_dot
  by_cases q : μ.1 0 3 = 2
  · rw [if_pos q] at k3
    exact zp2_ifr (fun _ => all 1 160 144 (Or.inr ⟨by decide, by rw [k3]; decide, rfl, rfl⟩)) (fun z => absurd q z)
  · rw [if_neg q] at k3
    exact zp2_ifr (fun z => absurd z q) (fun _ => all 0 256 _ (Or.inl ⟨rfl, k3, rfl, rfl⟩))
/-- one line's sum -/
theorem a_sum (h : zVe σ μ) {x1 x2 pl w : Int32} (hp : zr 0 61440 pl) (hw : zr 0 256 w) (hpw : pl.toInt + w.toInt ≤ 61440) (hx : (x2 = 0 ∧ w = 256 ∧ pl = 256 * x1) ∨ (¬ x2 = 0 ∧ w = 160 ∧ pl = 256 * (x1 + 24) + 48)) : ∀ (n m i : Nat) (a : Int32), (i : Int) ≤ w.toInt → zp2 (fX3_sumOfLine_31 n σ a (pl + w) (pl + Int32.ofNat i)) (fX12_row_56 m μ x1 x2 a (Int32.ofNat i)) (fun r r' => r'.1 = μ ∧ r.2 = r'.2) := by
  have w1 := hw.2
  have p0 := hp.1
  intro n
  induction n with
  | zero => intro m i a _; exact zp2_nl
  | succ n ih =>
    intro m i a hi
    cases m with
    | zero => exact zp2_nr
    | succ m =>
      show zp2 (fX3_sumOfLine_31_body (fX3_sumOfLine_31 n) σ a (pl + w) (pl + Int32.ofNat i)) (fX12_row_56_body (fX12_row_56 m) μ x1 x2 a (Int32.ofNat i)) _
      unfold fX3_sumOfLine_31_body fX12_row_56_body fX12_row_71 fX12_row_111
      have ei := z_ofI (i := i) (by omega)
      have ri : zr 0 256 (Int32.ofNat i) := ⟨by omega, by omega⟩
      have ti : (pl + Int32.ofNat i).toInt = pl.toInt + i := by rw [z_tadd hp ri (by decide), ei]
      have tw : (pl + w).toInt = pl.toInt + w.toInt := z_tadd hp hw (by decide)
      have cond : (pl + w ≤ pl + Int32.ofNat i) ↔ (w ≤ Int32.ofNat i) := by
        rw [Int32.le_iff_toInt_le, Int32.le_iff_toInt_le, ti, tw, ei]
        omega
      have step : ∀ s0 : Int32, s0 = pl + Int32.ofNat i → zp2 (if pl + w ≤ pl + Int32.ofNat i then some (σ, a) else zck (zin (pl + Int32.ofNat i) 61440) (zbv (31 * a + zgi σ 25 (pl + Int32.ofNat i).toNatClampNeg) (fun v1 => zbv (pl + Int32.ofNat i + 1) (fun v2 => fX3_sumOfLine_31 n σ v1 (pl + w) v2)))) (if w ≤ Int32.ofNat i then some (μ, a) else zck (zin s0 61440) (zbv (31 * a + zgi μ 9 s0.toNatClampNeg) (fun v1 => zbv (Int32.ofNat i + 1) (fun v2 => fX12_row_56 m μ x1 x2 v1 v2)))) (fun r r' => r'.1 = μ ∧ r.2 = r'.2) := fun s0 es => by
        subst es
        refine zp2_iff cond (fun _ _ => zp2_some ⟨rfl, rfl⟩) (fun q _ => zp2_ckl (zp2_ckr (zp2_bvl (fun v1 f1 => zp2_bvl (fun v2 f2 => zp2_bvr (fun u1 g1 => zp2_bvr (fun u2 g2 => ?_)))))))
        have lt : (i : Int) < w.toInt := by
          have : ¬ w.toInt ≤ i := fun z => q (cond.mpr (Int32.le_iff_toInt_le.mpr (by rw [ei]; exact z)))
          omega
        have kt := z_clamp (x := pl + Int32.ofNat i) (by omega)
        have e := h.1.e (z_pn25_0 (d := (pl + Int32.ofNat i).toNatClampNeg) (by omega))
        rw [Nat.zero_add] at e
        have f1' : v1 = u1 := by
          rw [f1, g1]
          show 31 * a + σ.1 25 _ = 31 * a + μ.1 9 _
          rw [e]
        rw [f1', f2, g2, Int32.add_assoc, z_ofS (by omega)]
        exact ih m (i + 1) u1 (by omega)
      rcases hx with ⟨a1, a2, a3⟩ | ⟨a1, a2, a3⟩
      · refine zp2_ifr (fun _ => ?_) (fun q => absurd a1 q)
        subst a2
        rw [if_pos a1]
        exact step _ (by rw [a3])
      · refine zp2_ifr (fun q => absurd q a1) (fun _ => ?_)
        subst a2
        rw [if_neg a1]
        exact step _ (by rw [a3, Int32.add_assoc, Int32.add_assoc, Int32.add_comm (Int32.ofNat i) 48])
theorem v_rowL (h : zNow B σ μ) {x : Int32} : zp2 (fX11_row σ x) (fX12_row μ x) (zAns 3) := by
  have hv := h.ve
  have k3 : σ.1 3 1 = (if μ.1 0 3 = 2 then 1 else 0) := hv.2.2.1.2.2.2.1
  have no : ∀ {o : Option zRi} {s0 : Int32}, o = some (Sum.inr (σ, 3)) → zp2 o (fX12_row_37 μ x s0) (zAns 3) := fun {o s0} eo => by
    unfold fX12_row_37 fX12_row_42
    refine zp2_fails1 (fun t1 e1 => zp2_ifr (fun q => absurd q (by decide)) (fun _ => ?_))
    rw [eo]
    exact zp2_some (Or.inl ⟨σ, rfl, by rw [e1]; exact zTh_own⟩)
  have sum : ∀ {s0 hh : Int32}, ¬ x < 0 → x < hh → ((s0 = 0 ∧ σ.1 3 1 = 0 ∧ hh.toInt ≤ 240) ∨ (¬ s0 = 0 ∧ ¬ σ.1 3 1 = 0 ∧ hh = 144)) → zp2 (zbi (fX3_sumOfLine σ x) (fun σ3 v4 => some (Sum.inl (σ3, v4) : zRi))) (fX12_row_42 μ x s0 0) (zAns 3) := fun {s0 hh} x0 xl hs => by
    unfold fX12_row_42
    refine zp2_fails0 (fun t1 e1 => zp2_ifr (fun _ => ?_) (fun q => absurd rfl q))
    have th : zTh 0 t1 := by rw [e1]; exact zTh_own
    have h1 : zNow B σ t1 := by rw [e1]; exact h.th
    have x0' := Int32.le_iff_toInt_le.mp (z_nlt x0)
    rw [show (0 : Int32).toInt = 0 from rfl] at x0'
    have xl' := Int32.lt_iff_toInt_lt.mp xl
    have c256 : (256 : Int32).toInt = 256 := rfl
    have c48 : (48 : Int32).toInt = 48 := rfl
    have c24 : (24 : Int32).toInt = 24 := rfl
    have go : ∀ pl w : Int32, zr 0 61440 pl → zr 0 256 w → pl.toInt + w.toInt ≤ 61440 → ((s0 = 0 ∧ w = 256 ∧ pl = 256 * x) ∨ (¬ s0 = 0 ∧ w = 160 ∧ pl = 256 * (x + 24) + 48)) → zpc (fX3_placeOf σ x) (fun r => r = (σ, pl)) → zpc (fX3_width σ ) (fun r => r = (σ, w)) → zp2 (zbi (fX3_sumOfLine σ x) (fun σ3 v4 => some (Sum.inl (σ3, v4) : zRi))) (fX12_row_56 zfuel t1 x s0 0 0) (zAns 3) := fun pl w rp rw_ hpw hx pp pw => by
      unfold fX3_sumOfLine
      have tw : (pl + w).toInt = pl.toInt + w.toInt := z_tadd rp rw_ (by decide)
      have e1' : zmin (pl + w) 61440 = pl + w := by
        unfold zmin
        rw [if_neg (fun q => by have z := Int32.lt_iff_toInt_lt.mp q; rw [show (61440 : Int32).toInt = 61440 from rfl] at z; omega)]
      have e2' : zmax 0 pl = pl := by
        have r0 := rp.1
        unfold zmax
        by_cases q : (0 : Int32) < pl
        · rw [if_pos q]
        · rw [if_neg q]
          have z := Int32.le_iff_toInt_le.mp (z_nlt q)
          rw [show (0 : Int32).toInt = 0 from rfl] at z
          exact Int32.toInt_inj.mp (by rw [show (0 : Int32).toInt = 0 from rfl]; omega)
      refine zp2_bilp (P := fun r r' => r'.1 = t1 ∧ r.2 = r'.2) ?_ (fun s1 v1 b q => zp2_some (Or.inr ⟨s1, ?_, ?_⟩))
      · refine zp2_bil pp (fun s1 v1 e => ?_)
        cases e
        refine zp2_bil pw (fun s1 v1 e => ?_)
        cases e
        refine zp2_bvl (fun v7 f7 => zp2_bvl (fun v8 f8 => ?_))
        rw [f7, f8, e1', e2']
        have z := a_sum (a := 0) h1.ve rp rw_ hpw hx zfuel zfuel 0 (by have := rw_.1; omega)
        rw [show pl + Int32.ofNat 0 = pl from Int32.add_zero pl] at z
        exact z
      · have q2 : v1 = b.2 := q.2
        rw [q2]
      · have q1 : b.1 = t1 := q.1
        rw [q1]
        exact th
    unfold fX3_placeOf fX3_placeOf_26 at go
    rcases hs with ⟨a, b, c⟩ | ⟨a, b, c⟩
    · have t1' := z_tmul (x := (256 : Int32)) (y := x) (c := 0) (d := 239) (zr_c (lo := 256) (hi := 256) (by decide)) ⟨by omega, by omega⟩ (by decide)
      rw [c256] at t1'
      refine go (256 * x) 256 ⟨by omega, by omega⟩ (zr_c (by decide)) (by omega) (Or.inl ⟨a, rfl, rfl⟩) (zpc_if (fun _ => zpc_some (by rw [Int32.mul_comm])) (fun q => absurd b q)) ?_
      have z := a_width (σ := σ)
      rw [if_pos b] at z
      exact z
    · rw [c, show (144 : Int32).toInt = 144 from rfl] at xl'
      have t2' := z_tadd (x := x) (y := (24 : Int32)) (a := 0) (b := 143) ⟨by omega, by omega⟩ (zr_c (lo := 24) (hi := 24) (by decide)) (by decide)
      have t1' := z_tmul (x := (256 : Int32)) (y := x + 24) (c := 24) (d := 167) (zr_c (lo := 256) (hi := 256) (by decide)) ⟨by omega, by omega⟩ (by decide)
      rw [c24] at t2'
      rw [c256, t2'] at t1'
      have t3' := z_tadd (x := 256 * (x + 24)) (y := (48 : Int32)) (a := 0) (b := 50000) ⟨by omega, by omega⟩ (zr_c (lo := 48) (hi := 48) (by decide)) (by decide)
      rw [c48, t1'] at t3'
      refine go (256 * (x + 24) + 48) 160 ⟨by omega, by omega⟩ (zr_c (by decide)) (by rw [show (160 : Int32).toInt = 160 from rfl]; omega) (Or.inr ⟨a, rfl, rfl⟩) (zpc_if (fun q => absurd q b) (fun _ => zpc_some (by rw [Int32.mul_comm]))) ?_
      have z := a_width (σ := σ)
      rw [if_neg b] at z
      exact z
  have all : ∀ (s0 hh : Int32), ((s0 = 0 ∧ σ.1 3 1 = 0 ∧ hh = zht (σ.1 23 0) (σ.1 23 1)) ∨ (¬ s0 = 0 ∧ ¬ σ.1 3 1 = 0 ∧ hh = 144)) → zp2 (fX11_row σ x) (fX12_row_13 μ x s0) (zAns 3) := fun s0 hh hs => by
    unfold fX11_row fX11_row_15 fX12_row_13 fX12_row_34
    refine zp2_if (fun _ => no rfl) (fun x0 => ?_)
    refine zp2_bil (a_pheight hv.r0 hv.r1) (fun s1 v1 e1 => ?_)
    cases e1
    rcases hs with ⟨a, b, d⟩ | ⟨a, b, d⟩
    · rw [if_pos b]
      refine zp2_ifr (fun _ => ?_) (fun q => absurd a q)
      have qh := p_heightM (μ := μ) (by rw [hv.e0]; exact hv.r0) (by rw [hv.e1]; exact hv.r1)
      rw [hv.e0, hv.e1] at qh
      refine zp2_bir qh (fun t1 v1 e1 => ?_)
      cases e1
      exact zp2_if (fun q => sum x0 q (Or.inl ⟨a, b, (zht_r2 _ _).2⟩)) (fun _ => no rfl)
    · rw [if_neg b]
      refine zp2_ifr (fun q => absurd q a) (fun _ => ?_)
      exact zp2_if (fun q => sum x0 q (Or.inr ⟨a, b, rfl⟩)) (fun _ => no rfl)
  unfold fX12_row
  by_cases q : μ.1 0 3 = 2
  · rw [if_pos q] at k3
    exact zp2_ifr (fun _ => all 1 144 (Or.inr ⟨by decide, by rw [k3]; decide, rfl⟩)) (fun z => absurd q z)
  · rw [if_neg q] at k3
    exact zp2_ifr (fun z => absurd z q) (fun _ => all 0 _ (Or.inl ⟨rfl, k3, rfl⟩))
end ZAV
