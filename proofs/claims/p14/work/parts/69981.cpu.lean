/-! PLAN -/
section ZPA
variable {σ μ s t : zSt} {B : Int × Int × Int}
theorem zNow.pln (h : zNow B σ μ) (v : zPlr s t) (a : zQ [42] [] [] [] σ s) (b : zQ [] [(3, 171, 171), (3, 280, 1047)] [] [] μ t) : zNow B s t := by
  obtain ⟨hT, hF, hW⟩ := h
  have hI : zIa B s t := by
    refine ⟨hT.2.2.2.1.kp a b (by decide +kernel) (by decide +kernel), v, hT.2.2.2.2.2.1.kp a b rfl rfl rfl rfl, ?_, hT.2.2.2.2.2.2.2.kp b rfl rfl rfl⟩
    have zc := hT.2.2.2.2.2.2.1
    unfold zCt
    rw [a.rlo (k := 38) rfl, b.rlo (k := 4) rfl]
    exact zc
  obtain ⟨k1, k2⟩ := hT.kp hI a b rfl rfl
  exact ⟨k1, k2.f hF, k2.w hW⟩
theorem c_can {x y : Int32} : zpc (fX4_canPress s x y) (fun r => r.1 = s ∧ ((r.2 = 1 ∧ 0 ≤ x.toInt ∧ x.toInt ≤ 1 ∧ 0 ≤ y.toInt ∧ y.toInt ≤ 63) ∨ (r.2 = 0 ∧ ¬ (0 ≤ x.toInt ∧ x.toInt ≤ 1 ∧ 0 ≤ y.toInt ∧ y.toInt ≤ 63)))) := by
  have z0 : (0 : Int32).toInt = 0 := rfl
  have z1 : (1 : Int32).toInt = 1 := rfl
  have z63 : (63 : Int32).toInt = 63 := rfl
  unfold fX4_canPress fX4_canPress_23 fX4_canPress_24
  refine zpc_if (fun q => zpc_ck (zpc_some ⟨rfl, Or.inr ⟨rfl, ?_⟩⟩)) (fun q1 => zpc_if (fun q => zpc_ck (zpc_some ⟨rfl, Or.inr ⟨rfl, ?_⟩⟩)) (fun q2 => zpc_if (fun q => zpc_ck (zpc_some ⟨rfl, Or.inr ⟨rfl, ?_⟩⟩)) (fun q3 => zpc_if (fun q => zpc_ck (zpc_some ⟨rfl, Or.inr ⟨rfl, ?_⟩⟩)) (fun q4 => zpc_ck (zpc_some ⟨rfl, Or.inl ⟨rfl, ?_⟩⟩)))))
  · have := Int32.lt_iff_toInt_lt.mp q
    omega
  · have := Int32.lt_iff_toInt_lt.mp q
    omega
  · have := Int32.lt_iff_toInt_lt.mp q
    omega
  · have := Int32.lt_iff_toInt_lt.mp q
    omega
  · have a1 := Int32.le_iff_toInt_le.mp (z_nlt q1)
    have a2 := Int32.le_iff_toInt_le.mp (z_nlt q2)
    have a3 := Int32.le_iff_toInt_le.mp (z_nlt q3)
    have a4 := Int32.le_iff_toInt_le.mp (z_nlt q4)
    omega
theorem z_pp {a : Int32} {k : Nat} (h : zr 0 255 a) {c : Int32} (hc : c.toInt = k) (hk : k ≤ 256) : (3 * ((a + c) &&& 255)).toInt = 3 * ((a.toInt + k) % 256) ∧ zr 0 765 (3 * ((a + c) &&& 255)) := by
  have t1 : (a + c).toInt = a.toInt + c.toInt := z_tadd (c := 0) (d := 256) h ⟨by omega, by omega⟩ (by decide)
  have h0 := h.1
  have t2 : ((a + c) &&& 255).toInt = (a.toInt + k) % 256 := by
    rw [z_mask (k := 8) (by omega) rfl (by decide), t1, hc]
    rfl
  have t3 : (3 * ((a + c) &&& 255)).toInt = 3 * ((a + c) &&& 255).toInt := z_tmul (zr_c (lo := 3) (hi := 3) (x := 3) (by decide)) (z_r8 _) (by decide)
  refine ⟨by rw [t3, t2], zr_mul (zr_c (lo := 3) (hi := 3) (x := 3) (by decide)) (z_r8 _) (by decide)⟩
def zAn2 (r : zRi) (b : zSt × Int32) : Prop := (∃ s, r = Sum.inr (s, 1) ∧ zTh 1 b.1) ∨ (∃ s, r = Sum.inr (s, 2) ∧ zTh 2 b.1) ∨ (∃ s, r = Sum.inl (s, b.2) ∧ zTh 0 b.1)
def zPlA (B : Int × Int × Int) (r : zRi) (b : zSt × Int32) : Prop := zNow B (zRis r) b.1 ∧ zAn2 r b
theorem b_plan (h : zNow B s t) {x1 x2 x3 : Int32} : zp2 (fX11_plan s x1 x2 x3) (fX12_plan t x1 x2 x3) (zPlA B) := by
  obtain ⟨p1, p2, p3, p4, p5⟩ := h.1.2.2.2.2.1
  have c0 := p2.1
  have c1 := p2.2
  have s0 := p3.1
  have s1' := p3.2
  have kst := z_clamp p3.1
  have kc := z_clamp p2.1
  have z0 : (0 : Int32).toInt = 0 := rfl
  have e171 : zgi t 3 (171 : Int32).toNatClampNeg = s.1 42 769 := p1.symm
  rw [← p1] at c0 c1 kc
  -- the least time
  obtain ⟨lp, hl0, hlC, hlM⟩ : ∃ lp : Int32, 0 ≤ lp.toInt ∧ zpc (fX1_leastPlan s ) (fun r => r = (s, lp)) ∧ (∀ O : Option zRi, zp2 O (fX12_plan_36 t x1 x2 x3 lp) (zPlA B) → zp2 O (fX12_plan t x1 x2 x3) (zPlA B)) := by
    by_cases q : s.1 42 769 = 0
    · refine ⟨0, by rw [z0]; exact Int.le_refl _, ?_, fun O H => ?_⟩
      · unfold fX1_leastPlan fX1_leastPlan_34
        exact zpc_ck (zpc_if (fun _ => zpc_some rfl) (fun z => absurd q z))
      · unfold fX12_plan
        rw [e171]
        exact zp2_ckr (zp2_ifr (fun _ => H) (fun z => absurd q z))
    · have c2 : 1 ≤ (s.1 42 769).toInt := by
        have : ¬ (s.1 42 769).toInt = 0 := fun z => q (Int32.toInt_inj.mp z)
        omega
      have tq : (s.1 42 769 - 1).toInt = (s.1 42 769).toInt - 1 := z_tsub (a := 1) (b := 256) ⟨c2, c1⟩ (zr_c (lo := 1) (hi := 1) (x := 1) (by decide)) (by decide)
      have kq := z_clamp (x := s.1 42 769 - 1) (by omega)
      obtain ⟨w1, w2⟩ := z_pp (k := (s.1 42 769 - 1).toNatClampNeg) p3 (c := s.1 42 769 - 1) (by omega) (by omega)
      have kw := z_clamp w2.1
      have p4' := p4 (s.1 42 769 - 1).toNatClampNeg 0 (by rw [← p1]; omega) (by decide)
      have i1 : (3 * ((s.1 42 768 + (s.1 42 769 - 1)) &&& 255)).toNatClampNeg = 3 * (((s.1 42 768).toNatClampNeg + (s.1 42 769 - 1).toNatClampNeg) % 256) := by omega
      have t3 : (3 * (s.1 42 769 - 1)).toInt = 3 * (s.1 42 769 - 1).toInt := z_tmul (c := 0) (d := 255) (zr_c (lo := 3) (hi := 3) (x := 3) (by decide)) ⟨by omega, by omega⟩ (by decide)
      have i2 : (280 + (3 * (s.1 42 769 - 1))).toNatClampNeg = 280 + 3 * (s.1 42 769 - 1).toNatClampNeg := by
        have k3 := z_clamp (x := 3 * (s.1 42 769 - 1)) (by omega)
        rw [z_off (x := 3 * (s.1 42 769 - 1)) (c := 280) (k := 280) (a := 0) (b := 765) ⟨by omega, by omega⟩ rfl (by decide)]
        omega
      refine ⟨t.1 3 (280 + 3 * (s.1 42 769 - 1).toNatClampNeg), (p5 (s.1 42 769 - 1).toNatClampNeg (by rw [← p1]; omega)).2.2, ?_, fun O H => ?_⟩
      · unfold fX1_leastPlan fX1_leastPlan_34 fX1_placeOfPlan
        refine zpc_ck (zpc_if (fun z => absurd z q) (fun _ => zpc_ck (zpc_bi (P := fun r => r = (s, 3 * ((s.1 42 768 + (s.1 42 769 - 1)) &&& 255))) (zpc_ck (zpc_some rfl)) (fun s1 v e => zpc_ck (zpc_some ?_)))))
        cases e
        show (s, s.1 42 (3 * ((s.1 42 768 + (s.1 42 769 - 1)) &&& 255)).toNatClampNeg) = _
        rw [i1]
        have z := p4'
        rw [Nat.add_zero] at z
        rw [z]
        rfl
      · unfold fX12_plan
        rw [e171, i2]
        exact zp2_ckr (zp2_ifr (fun z => absurd z q) (fun _ => zp2_ckr (zp2_ckr H)))
  refine hlM _ ?_
  unfold fX11_plan fX11_plan_19
  refine zp2_bil hlC (fun s1 v e => ?_)
  cases e
  unfold fX12_plan_36 fX12_plan_71
  have no : ∀ O : Option zRi, O = some (Sum.inr (s, 1)) → zp2 O (fX12_plan_76 t x1 x2 x3 1) (zPlA B) := fun O eO => by
    unfold fX12_plan_76 fX12_plan_110
    refine zp2_fails1 (fun t1 e1 => zp2_ifr (fun z => absurd z (by decide)) (fun _ => ?_))
    rw [eO]
    refine zp2_some ⟨?_, Or.inl ⟨s, rfl, ?_⟩⟩
    · rw [e1]; exact h.th
    · rw [e1]; exact zTh_own
  refine zp2_if (fun _ => no _ rfl) (fun q => ?_)
  have ql := Int32.le_iff_toInt_le.mp (z_nlt q)
  have n0 : ¬ x1 < 0 := fun z => by have := Int32.lt_iff_toInt_lt.mp z; omega
  refine zp2_ifr (fun z => absurd z n0) (fun _ => ?_)
  refine zp2_bil c_can (fun s1 v e => ?_)
  obtain ⟨e1, e2⟩ := e
  have e1 : s1 = s := e1
  subst e1
  have e2 : (v = 1 ∧ 0 ≤ x2.toInt ∧ x2.toInt ≤ 1 ∧ 0 ≤ x3.toInt ∧ x3.toInt ≤ 63) ∨ (v = 0 ∧ ¬ (0 ≤ x2.toInt ∧ x2.toInt ≤ 1 ∧ 0 ≤ x3.toInt ∧ x3.toInt ≤ 63)) := e2
  refine zp2_within (fun w1 w2 => ?_) (fun w => ?_)
  · have hx := z_wir w1 w2 (zrl_c (lo := 0) (hi := 0) (by decide)) (zrl_c (lo := 1) (hi := 1) (by decide))
    refine zp2_ifr (fun z => absurd z (by decide)) (fun _ => zp2_within (fun v1 v2 => ?_) (fun v' => ?_))
    · have hy := z_wir v1 v2 (zrl_c (lo := 0) (hi := 0) (by decide)) (zrl_c (lo := 63) (hi := 63) (by decide))
      have ev : v = 1 := by
        rcases e2 with z | z
        · exact z.1
        · exact absurd ⟨hx.1, hx.2, hy.1, hy.2⟩ z.2
      refine zp2_ifr (fun z => absurd z (by decide)) (fun _ => zp2_ifl (fun z => absurd (ev.symm.trans z) (by decide)) (fun _ => ?_))
      unfold fX12_plan_76
      refine zp2_fails0 (fun t1 e1 => zp2_ifr (fun _ => zp2_ckr ?_) (fun z => absurd rfl z))
      have h1 : zNow B s1 t1 := by rw [e1]; exact h.th
      have f171 : zgi t1 3 (171 : Int32).toNatClampNeg = s1.1 42 769 := by rw [e1]; exact e171
      rw [f171]
      refine zp2_bil (P := fun r => r = (s1, s1.1 42 769)) (by unfold fX1_plansWaiting; exact zpc_ck (zpc_some rfl)) (fun s2 v2 e3 => ?_)
      cases e3
      have e256 : s1.1 42 769 < 256 ↔ ¬ s1.1 42 769 = 256 := by
        rw [Int32.lt_iff_toInt_lt, ← Int32.toInt_inj, show (256 : Int32).toInt = 256 from rfl]
        omega
      unfold fX12_plan_103 fX12_plan_110
      refine zp2_ifn e256 (fun lt _ => ?_) (fun _ _ => ?_)
      · have lt' := Int32.lt_iff_toInt_lt.mp lt
        rw [show (256 : Int32).toInt = 256 from rfl] at lt'
        refine zp2_fails0 (fun t2 e2' => zp2_ifr (fun _ => ?_) (fun z => absurd rfl z))
        have h2 : zNow B s1 t2 := by rw [e2']; exact h1.th
        obtain ⟨P1, P2, P3, P4, P5⟩ := h2.1.2.2.2.2.1
        have g171 : zgi t2 3 (171 : Int32).toNatClampNeg = s1.1 42 769 := P1.symm
        rw [g171]
        obtain ⟨n, en⟩ : ∃ n : Nat, (s1.1 42 769).toNatClampNeg = n := ⟨_, rfl⟩
        have hn : (s1.1 42 769).toInt = n := by omega
        obtain ⟨w1, w2⟩ := z_pp (k := n) P3 (c := s1.1 42 769) hn (by omega)
        obtain ⟨W, eW⟩ : ∃ W, W = 3 * ((s1.1 42 768 + s1.1 42 769) &&& 255) := ⟨_, rfl⟩
        rw [← eW] at w1 w2
        have kW := z_clamp w2.1
        have k68 := z_clamp P3.1
        have iW : W.toNatClampNeg = 3 * (((s1.1 42 768).toNatClampNeg + n) % 256) := by omega
        have W1 : (W + 1).toNatClampNeg = W.toNatClampNeg + 1 := by
          have ta := z_tadd w2 (zr_c (lo := 1) (hi := 1) (x := 1) (by decide)) (by decide)
          rw [show (1 : Int32).toInt = 1 from rfl] at ta
          have kk := z_clamp (x := W + 1) (by have := w2.1; omega)
          omega
        have W2 : (W + 2).toNatClampNeg = W.toNatClampNeg + 2 := by
          have ta := z_tadd w2 (zr_c (lo := 2) (hi := 2) (x := 2) (by decide)) (by decide)
          rw [show (2 : Int32).toInt = 2 from rfl] at ta
          have kk := z_clamp (x := W + 2) (by have := w2.1; omega)
          omega
        have t3 : (3 * s1.1 42 769).toInt = 3 * (s1.1 42 769).toInt := z_tmul (c := 0) (d := 255) (zr_c (lo := 3) (hi := 3) (x := 3) (by decide)) ⟨by omega, by omega⟩ (by decide)
        have r3 : zr 0 765 (3 * s1.1 42 769) := ⟨by omega, by omega⟩
        obtain ⟨V, eV⟩ : ∃ V, V = 280 + 3 * s1.1 42 769 := ⟨_, rfl⟩
        have rV : zr 280 1045 V := by rw [eV]; exact zr_add (zr_c (lo := 280) (hi := 280) (x := 280) (by decide)) r3 (by decide)
        have V0 : V.toNatClampNeg = 280 + 3 * n := by
          rw [eV, z_off r3 (k := 280) rfl (by decide)]
          have := z_clamp r3.1
          omega
        have kV := z_clamp (x := V) (by have := rV.1; omega)
        have V1 : (V + 1).toNatClampNeg = V.toNatClampNeg + 1 := by
          have ta := z_tadd rV (zr_c (lo := 1) (hi := 1) (x := 1) (by decide)) (by decide)
          rw [show (1 : Int32).toInt = 1 from rfl] at ta
          have kk := z_clamp (x := V + 1) (by have := rV.1; omega)
          omega
        have V2 : (V + 2).toNatClampNeg = V.toNatClampNeg + 2 := by
          have ta := z_tadd rV (zr_c (lo := 2) (hi := 2) (x := 2) (by decide)) (by decide)
          rw [show (2 : Int32).toInt = 2 from rfl] at ta
          have kk := z_clamp (x := V + 2) (by have := rV.1; omega)
          omega
        refine zp2_ckr (zp2_bvr (fun v3 ev3 => ?_))
        have ev3 : v3 = V := by rw [ev3, eV]
        subst ev3
        rw [V1, V2, V0]
        refine zp2_ckr (zp2_bvr (fun t4 g4 => zp2_ckr (zp2_bvr (fun t5 g5 => zp2_ckr (zp2_bvr (fun t6 g6 => zp2_ckr (zp2_ckr (zp2_bvr (fun t7 g7 => zp2_ckr ?_)))))))))
        have c171 : zgi t6 3 (171 : Int32).toNatClampNeg = s1.1 42 769 := by
          rw [g6, g5, g4]
          show (zsi (zsi (zsi t2 3 (280 + 3 * n) x1) 3 (280 + 3 * n + 1) x2) 3 (280 + 3 * n + 2) x3).1 3 171 = _
          rw [zsi_nj (by omega), zsi_nj (by omega), zsi_nj (by omega)]
          exact g171
        rw [c171] at g7
        have g7 : t7 = zsi (zsi (zsi (zsi t2 3 (280 + 3 * n) x1) 3 (280 + 3 * n + 1) x2) 3 (280 + 3 * n + 2) x3) 3 171 (s1.1 42 769 + 1) := by rw [g7, g6, g5, g4]; rfl
        refine zp2_bil (P := fun r => r.1 = zsi (zsi (zsi (zsi s1 42 W.toNatClampNeg x1) 42 (W.toNatClampNeg + 1) x2) 42 (W.toNatClampNeg + 2) x3) 42 769 (s1.1 42 769 + 1) ∧ r.2 = s1.1 42 769 + 1) ?_ (fun s8 v8 e8 => zp2_some ?_)
        · unfold fX1_addPlan fX1_placeOfPlan
          refine zpc_ck (zpc_bi (P := fun r => r = (s1, W)) (zpc_ck (zpc_some (by rw [eW]; rfl))) (fun s2 v2 e2 => ?_))
          cases e2
          rw [W1, W2]
          refine zpc_ck (zpc_bv (fun s3 f3 => zpc_ck (zpc_bv (fun s4 f4 => zpc_ck (zpc_bv (fun s5 f5 => zpc_ck (zpc_ck (zpc_bv (fun s6 f6 => zpc_ck (zpc_some ?_))))))))))
          have c769 : zgi s5 42 (769 : Int32).toNatClampNeg = s1.1 42 769 := by
            rw [f5, f4, f3]
            show (zsi (zsi (zsi s1 42 W.toNatClampNeg x1) 42 (W.toNatClampNeg + 1) x2) 42 (W.toNatClampNeg + 2) x3).1 42 769 = _
            rw [zsi_nj (by omega), zsi_nj (by omega), zsi_nj (by omega)]
          rw [c769] at f6
          refine ⟨?_, ?_⟩
          · show s6 = _
            rw [f6, f5, f4, f3]
            rfl
          · show s6.1 42 769 = _
            rw [f6]
            exact zsi_ej
        · obtain ⟨e8, e8v⟩ := e8
          have e8v : v8 = s1.1 42 769 + 1 := e8v
          have e8 : s8 = zsi (zsi (zsi (zsi s1 42 W.toNatClampNeg x1) 42 (W.toNatClampNeg + 1) x2) 42 (W.toNatClampNeg + 2) x3) 42 769 (s1.1 42 769 + 1) := e8
          have tc : (s1.1 42 769 + 1).toInt = (s1.1 42 769).toInt + 1 := z_tadd (a := 0) (b := 255) ⟨by omega, by omega⟩ (zr_c (lo := 1) (hi := 1) (x := 1) (by decide)) (by decide)
          have mt : ∀ j, t7.1 3 j = if j = 171 then s1.1 42 769 + 1 else if j = 280 + 3 * n + 2 then x3 else if j = 280 + 3 * n + 1 then x2 else if j = 280 + 3 * n then x1 else t2.1 3 j := fun j => by
            rw [g7]
            by_cases a1 : j = 171
            · rw [a1, zsi_ej, if_pos rfl]
            rw [zsi_nj a1, if_neg a1]
            by_cases a2 : j = 280 + 3 * n + 2
            · rw [a2, zsi_ej, if_pos rfl]
            rw [zsi_nj a2, if_neg a2]
            by_cases a3 : j = 280 + 3 * n + 1
            · rw [a3, zsi_ej, if_pos rfl]
            rw [zsi_nj a3, if_neg a3]
            by_cases a4 : j = 280 + 3 * n
            · rw [a4, zsi_ej, if_pos rfl]
            rw [zsi_nj a4, if_neg a4]
          have ct : ∀ j, s8.1 42 j = if j = 769 then s1.1 42 769 + 1 else if j = W.toNatClampNeg + 2 then x3 else if j = W.toNatClampNeg + 1 then x2 else if j = W.toNatClampNeg then x1 else s1.1 42 j := fun j => by
            rw [e8]
            by_cases a1 : j = 769
            · rw [a1, zsi_ej, if_pos rfl]
            rw [zsi_nj a1, if_neg a1]
            by_cases a2 : j = W.toNatClampNeg + 2
            · rw [a2, zsi_ej, if_pos rfl]
            rw [zsi_nj a2, if_neg a2]
            by_cases a3 : j = W.toNatClampNeg + 1
            · rw [a3, zsi_ej, if_pos rfl]
            rw [zsi_nj a3, if_neg a3]
            by_cases a4 : j = W.toNatClampNeg
            · rw [a4, zsi_ej, if_pos rfl]
            rw [zsi_nj a4, if_neg a4]
          have w765 := w2.2
          have t171 : t7.1 3 171 = s1.1 42 769 + 1 := by rw [mt, if_pos rfl]
          have c768 : s8.1 42 768 = s1.1 42 768 := by rw [ct, if_neg (by decide), if_neg (by omega), if_neg (by omega), if_neg (by omega)]
          have th2 : zTh 0 t2 := by rw [e2']; exact zTh_own
          refine ⟨?_, Or.inr (Or.inr ⟨s8, ?_, ?_⟩)⟩
          rotate_left
          · show Sum.inl (s8, v8) = Sum.inl (s8, t7.1 3 171)
            rw [e8v, t171]
          · show t7.1 0 0 = 0
            rw [g7, zsi_ne (by decide), zsi_ne (by decide), zsi_ne (by decide), zsi_ne (by decide)]
            exact th2
          show zNow B s8 t7
          refine h2.pln ⟨?_, ?_, ?_, fun k r hk hr => ?_, fun k hk => ?_⟩ (by rw [e8]; exact zQ.wi (zQ.wi (zQ.wi (zQ.wi zQ.rf rfl) rfl) rfl) rfl) (by rw [g7]; exact zQ.wi (zQ.wi (zQ.wi (zQ.wi zQ.rf (zcv_m (a := 280) (b := 1047) (by decide) (by omega) (by omega))) (zcv_m (a := 280) (b := 1047) (by decide) (by omega) (by omega))) (zcv_m (a := 280) (b := 1047) (by decide) (by omega) (by omega))) rfl)
          · rw [ct, if_pos rfl, t171]
          · rw [t171]; exact ⟨by omega, by omega⟩
          · rw [c768]; exact P3
          · rw [t171] at hk
            rw [c768, ct, mt]
            by_cases kn : k = n
            · subst kn
              rw [← iW]
              rcases (show r = 0 ∨ r = 1 ∨ r = 2 by omega) with z | z | z
              · subst z
                rw [if_neg (by omega), if_neg (by omega), if_neg (by omega), if_pos (by omega), if_neg (by omega), if_neg (by omega), if_neg (by omega), if_pos (by omega)]
              · subst z
                rw [if_neg (by omega), if_neg (by omega), if_pos (by omega), if_neg (by omega), if_neg (by omega), if_pos (by omega)]
              · subst z
                rw [if_neg (by omega), if_pos (by omega), if_neg (by omega), if_pos (by omega)]
            · have df : ¬ ((s1.1 42 768).toNatClampNeg + k) % 256 = ((s1.1 42 768).toNatClampNeg + n) % 256 := by omega
              rw [if_neg (by omega), if_neg (by omega), if_neg (by omega), if_neg (by omega), if_neg (by omega), if_neg (by omega), if_neg (by omega), if_neg (by omega)]
              exact P4 k r (by rw [← P1]; omega) hr
          · rw [t171] at hk
            rw [mt, mt, mt]
            by_cases kn : k = n
            · subst kn
              rw [if_neg (by omega), if_neg (by omega), if_pos (by omega), if_neg (by omega), if_pos (by omega), if_neg (by omega), if_neg (by omega), if_neg (by omega), if_pos (by omega)]
              exact ⟨hx, hy, by omega⟩
            · rw [if_neg (by omega), if_neg (by omega), if_neg (by omega), if_neg (by omega), if_neg (by omega), if_neg (by omega), if_neg (by omega), if_neg (by omega), if_neg (by omega), if_neg (by omega), if_neg (by omega), if_neg (by omega)]
              exact P5 k (by rw [← P1]; omega)
      · refine zp2_fails1 (fun t2 e2' => zp2_ifr (fun z => absurd z (by decide)) (fun _ => zp2_some ⟨?_, Or.inr (Or.inl ⟨s1, rfl, ?_⟩)⟩))
        · rw [e2']; exact h1.th
        · rw [e2']; exact zTh_own
    · have hn := z_nin v' (a := 0) (b := 63) rfl rfl
      have ev : v = 0 := by
        rcases e2 with z | z
        · omega
        · exact z.1
      refine zp2_ifr (fun _ => zp2_ifl (fun _ => no _ rfl) (fun z => absurd ev z)) (fun z => absurd rfl z)
  · have hn := z_nin w (a := 0) (b := 1) rfl rfl
    have ev : v = 0 := by
      rcases e2 with z | z
      · omega
      · exact z.1
    exact zp2_ifr (fun _ => zp2_ifl (fun _ => no _ rfl) (fun z => absurd ev z)) (fun z => absurd rfl z)
end ZPA
