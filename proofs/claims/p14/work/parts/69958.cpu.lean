/-! PLANS -/
theorem zg_347 : ∀ i : Fin 2, zGf 34 (7 + (Int32.ofNat i.val).toNatClampNeg) zGt = some (0, 63) := by decide +kernel
section ZPL
variable {σ μ s t : zSt} {B : Int × Int × Int}
/-- the reference's row of plans, moved down by one -/
theorem t_down {c : Int32} (hc : zr 0 255 c) {k0 : zSt → Option zSt} {O : Option zSt} {Q : zSt → zSt → Prop} {o : zSt} : ∀ (n : Nat) (μ : zSt) (x : Int32), zr 0 765 x → x.toInt ≤ 3 * c.toInt → μ.1 3 171 = c → (∀ k j : Nat, ¬ (k = 3 ∧ 280 ≤ j ∧ (j : Int) < 280 + x.toInt) → μ.1 k j = o.1 k j) → (∀ j : Nat, (j : Int) < x.toInt → μ.1 3 (280 + j) = o.1 3 (283 + j)) → μ.2 = o.2 → (∀ t : zSt, t.1 3 171 = c → (∀ k j : Nat, ¬ (k = 3 ∧ 280 ≤ j ∧ (j : Int) < 280 + 3 * c.toInt) → t.1 k j = o.1 k j) → (∀ j : Nat, (j : Int) < 3 * c.toInt → t.1 3 (280 + j) = o.1 3 (283 + j)) → t.2 = o.2 → zp2 O (k0 t) Q) → zp2 O (fX12_planned_68 k0 n μ x) Q := by
  intro n
  induction n with
  | zero => intro μ x _ _ _ _ _ _ _; exact zp2_nr
  | succ n ih =>
    intro μ x hx hx3 h171 hoff hin hl k
    show zp2 O (fX12_planned_68_body k0 (fX12_planned_68 k0 n) μ x) Q
    unfold fX12_planned_68_body
    have hc0 := hc.1
    have hc1 := hc.2
    have hx0 := hx.1
    have hx1 := hx.2
    have e171 : zgi μ 3 (171 : Int32).toNatClampNeg = c := h171
    rw [e171]
    have t3 : (3 * c).toInt = 3 * c.toInt := z_tmul (zr_c (lo := 3) (hi := 3) (x := 3) (by decide)) hc (by decide)
    refine zp2_ckr (zp2_ifr (fun q => ?_) (fun q => zp2_ckr (zp2_ckr (zp2_bvr (fun t e => zp2_bvr (fun v ev => ?_))))))
    · have q := Int32.le_iff_toInt_le.mp q
      rw [t3] at q
      have ex : x.toInt = 3 * c.toInt := by omega
      exact k μ h171 (fun kk j n => hoff kk j (by rw [ex]; exact n)) (fun j hj => hin j (by omega)) hl
    · have q := Int32.lt_iff_toInt_lt.mp (z_nle q)
      rw [t3] at q
      have kx := z_clamp hx.1
      have o1 : ((280 : Int32) + x).toNatClampNeg = 280 + x.toNatClampNeg := z_off hx (k := 280) rfl (by decide)
      have r1 : zr 280 1045 ((280 : Int32) + x) := zr_add (zr_c (lo := 280) (hi := 280) (x := 280) (by decide)) hx (by decide)
      have o2 : (((280 : Int32) + x) + 3).toNatClampNeg = 283 + x.toNatClampNeg := by
        have t1 := z_tadd (x := (280 : Int32)) (y := x) (zr_c (lo := 280) (hi := 280) (by decide)) hx (by decide)
        have t2 := z_tadd r1 (zr_c (lo := 3) (hi := 3) (x := 3) (by decide)) (by decide)
        have c3 : (3 : Int32).toInt = 3 := rfl
        have c280 : (280 : Int32).toInt = 280 := rfl
        have k1 := z_clamp (x := (280 : Int32) + x + 3) (by omega)
        omega
      rw [o1, o2] at e
      have ta : (x + 1).toInt = x.toInt + 1 := z_tadd hx (zr_c (lo := 1) (hi := 1) (x := 1) (by decide)) (by decide)
      subst ev
      have e : t = zsi μ 3 (280 + x.toNatClampNeg) (μ.1 3 (283 + x.toNatClampNeg)) := e
      refine ih t (x + 1) ⟨by omega, by omega⟩ (by omega) ?_ (fun kk j n => ?_) (fun j hj => ?_) ?_ k
      · rw [e, zsi_nj (by omega)]; exact h171
      · rw [e, zsi_at, if_neg (fun z => n ⟨z.1, by omega, by omega⟩)]
        exact hoff kk j (fun z => n ⟨z.1, z.2.1, by omega⟩)
      · rw [e]
        by_cases z : j = x.toNatClampNeg
        · subst z
          rw [zsi_ej]
          exact hoff 3 _ (fun z => by omega)
        · rw [zsi_nj (by omega)]
          exact hin j (by omega)
      · rw [e]; exact hl
theorem v_bit1 : ∀ i : Fin 2, Int32.ofNat i.val &&& 1 = Int32.ofNat i.val := by decide
/-- the ring's place -/
theorem z_ring {a : Int32} (h : zr 0 255 a) : (3 * ((a + 0) &&& 255)).toInt = 3 * a.toInt := by
  have e : a + 0 = a := Int32.add_zero a
  rw [e, z_m255 h]
  exact z_tmul (zr_c (lo := 3) (hi := 3) (x := 3) (by decide)) h (by decide)
theorem z_le0 {x : Int32} : x ≤ 0 ↔ ¬ 0 < x := ⟨fun q r => by have := Int32.le_iff_toInt_le.mp q; have := Int32.lt_iff_toInt_lt.mp r; omega, fun q => z_nlt q⟩
theorem t_plans {b : Int32} {v : Int64} : ∀ (n m : Nat) (σ μ : zSt) (x : Int32), zr 0 256 x → x.toInt + (μ.1 3 171).toInt ≤ 256 → v = μ.2 4 2 → zTT (zIb b B) σ μ → zF σ μ → zWzz σ μ → zp2 (fX1_carryOutPlans_3 n σ v x) (fX12_planned_0 m μ) (fun r r' => (zTT (zIb b B) r r' ∧ zF r r' ∧ zWzz r r') ∧ r'.1 3 66 = μ.1 3 66) := by
  intro n
  induction n with
  | zero => intro m σ μ x _ _ _ _ _ _; exact zp2_nl
  | succ n ih =>
    intro m σ μ x hx hc hv h hF hW
    cases m with
    | zero => exact zp2_nr
    | succ m =>
      show zp2 (fX1_carryOutPlans_3_body (fX1_carryOutPlans_3 n) σ v x) (fX12_planned_0_body (fX12_planned_0 m) μ) _
      unfold fX1_carryOutPlans_3_body fX12_planned_0_body fX1_carryOutPlans_107 fX12_planned_113
      obtain ⟨p1, p2, p3, p4, p5⟩ := h.2.2.2.2.1
      have hx0 := hx.1
      have hx1 := hx.2
      have c0 := p2.1
      have s0 := p3.1
      have s1 := p3.2
      have done : (zTT (zIb b B) σ μ ∧ zF σ μ ∧ zWzz σ μ) ∧ μ.1 3 66 = μ.1 3 66 := ⟨⟨h, hF, hW⟩, rfl⟩
      have e769 : zgi σ 42 (769 : Int32).toNatClampNeg = zgi μ 3 (171 : Int32).toNatClampNeg := p1
      have z0 : (0 : Int32).toInt = 0 := rfl
      by_cases cz : zgi μ 3 (171 : Int32).toNatClampNeg ≤ 0
      · refine zp2_ckr (zp2_ifr (fun _ => ?_) (fun q => absurd cz q))
        refine zp2_ifl (fun _ => zp2_some done) (fun _ => zp2_ckl ?_)
        rw [e769]
        exact zp2_ifl (fun _ => zp2_some done) (fun q => absurd cz q)
      · have cp : 1 ≤ (μ.1 3 171).toInt := by
          have : (0 : Int32).toInt < (μ.1 3 171).toInt := Int32.lt_iff_toInt_lt.mp (z_nle cz)
          omega
        have nx : ¬ 256 ≤ x := fun q => by
          have := Int32.le_iff_toInt_le.mp q
          have c : (256 : Int32).toInt = 256 := rfl
          omega
        refine zp2_ckr (zp2_ifr (fun q => absurd q cz) (fun _ => zp2_ckr (zp2_ckr ?_)))
        refine zp2_ifl (fun q => absurd q nx) (fun _ => zp2_ckl ?_)
        rw [e769]
        refine zp2_ifl (fun q => absurd q cz) (fun _ => ?_)
        have kst := z_clamp p3.1
        have tr : (3 * ((σ.1 42 768 + 0) &&& 255)).toInt = 3 * (σ.1 42 768).toInt := z_ring p3
        obtain ⟨w, ew⟩ : ∃ w, w = 3 * ((σ.1 42 768 + 0) &&& 255) := ⟨_, rfl⟩
        rw [← ew] at tr
        have rw0 : zr 0 765 w := ⟨by omega, by omega⟩
        have kw := z_clamp rw0.1
        have iw : w.toNatClampNeg = 3 * (σ.1 42 768).toNatClampNeg := by omega
        refine zp2_bil (P := fun r => r = (σ, w)) (by unfold fX1_placeOfPlan; exact zpc_ck (zpc_some (by rw [ew]; rfl))) (fun s2 v2 e2 => ?_)
        cases e2
        have w1 : (w + 1).toNatClampNeg = w.toNatClampNeg + 1 := by
          have ta := z_tadd rw0 (zr_c (lo := 1) (hi := 1) (x := 1) (by decide)) (by decide)
          have d1 : (1 : Int32).toInt = 1 := rfl
          have kk := z_clamp (x := w + 1) (by omega)
          omega
        have w2 : (w + 2).toNatClampNeg = w.toNatClampNeg + 2 := by
          have ta := z_tadd rw0 (zr_c (lo := 2) (hi := 2) (x := 2) (by decide)) (by decide)
          have d1 : (2 : Int32).toInt = 2 := rfl
          have kk := z_clamp (x := w + 2) (by omega)
          omega
        have md : ((σ.1 42 768).toNatClampNeg + 0) % 256 = (σ.1 42 768).toNatClampNeg := by omega
        have y0 : zgi σ 42 w.toNatClampNeg = zgi μ 3 (280 : Int32).toNatClampNeg := by
          have q := p4 0 0 (by omega) (by decide)
          rw [md] at q
          rw [iw]
          exact q
        have y1 : zgi σ 42 (w + 1).toNatClampNeg = zgi μ 3 (281 : Int32).toNatClampNeg := by
          have q := p4 0 1 (by omega) (by decide)
          rw [md] at q
          rw [w1, iw]
          exact q
        have y2 : zgi σ 42 (w + 2).toNatClampNeg = zgi μ 3 (282 : Int32).toNatClampNeg := by
          have q := p4 0 2 (by omega) (by decide)
          rw [md] at q
          rw [w2, iw]
          exact q
        obtain ⟨r1, r2, _⟩ := p5 0 (by omega)
        have r1 : zr 0 1 (zgi μ 3 (281 : Int32).toNatClampNeg) := r1
        have r2 : zr 0 63 (zgi μ 3 (282 : Int32).toNatClampNeg) := r2
        refine zp2_ckl ?_
        rw [y0, y1, y2]
        refine zp2_ifn (by rw [hv]; exact z_le0) (fun _ _ => ?_) (fun _ _ => zp2_some done)
        obtain ⟨P, eP⟩ : ∃ P, P = zgi μ 3 (281 : Int32).toNatClampNeg := ⟨_, rfl⟩
        obtain ⟨W, eW⟩ : ∃ W, W = zgi μ 3 (282 : Int32).toNatClampNeg := ⟨_, rfl⟩
        rw [← eP] at r1
        rw [← eW] at r2
        rw [← eP, ← eW]
        have mP : P &&& 1 = P := by
          obtain ⟨i, ei⟩ := z_F (m := 2) r1 (by decide)
          rw [ei]
          exact v_bit1 i
        have kP := z_clamp r1.1
        have P1 := r1.2
        have oC : (7 + (P &&& 1)).toNatClampNeg = 7 + P.toNatClampNeg := by rw [mP]; exact z_off r1 (k := 7) rfl (by decide)
        have oM : ((42 : Int32) + P).toNatClampNeg = 42 + P.toNatClampNeg := z_off r1 (k := 42) rfl (by decide)
        rw [oM]
        refine zp2_ckl (zp2_ckl (zp2_bul (P := fun r => r = zsi σ 34 (7 + P.toNatClampNeg) W) ?_ (fun s3 e3 => ?_)))
        · unfold fX4_holdButtons
          exact zpc_ck (zpc_bv (fun s4 e4 => zpc_some (by rw [e4, oC])))
        refine zp2_ckl (zp2_ckl (zp2_bvl (fun s4 e4 => zp2_ckl (zp2_ckl (zp2_bvl (fun s5 e5 => zp2_bvl (fun x6 e6 => ?_)))))))
        refine zp2_ckr (zp2_ckr (zp2_ckr (zp2_bvr (fun t3 g3 => zp2_ckr (zp2_ckr (zp2_bvr (fun t4 g4 => ?_)))))))
        subst e3
        have e4 : s4 = zsi (zsi σ 34 (7 + P.toNatClampNeg) W) 42 768 ((σ.1 42 768 + 1) &&& 255) := e4
        have e5 : s5 = zsi s4 42 769 (μ.1 3 171 - 1) := by rw [e5, show zgi s4 42 (769 : Int32).toNatClampNeg = μ.1 3 171 by rw [e4]; exact p1]; rfl
        have g4 : t4 = zsi (zsi μ 3 (42 + P.toNatClampNeg) W) 3 171 (μ.1 3 171 - 1) := by
          rw [g4, show zgi t3 3 (171 : Int32).toNatClampNeg = μ.1 3 171 by rw [g3]; show (zsi μ 3 (42 + P.toNatClampNeg) W).1 3 171 = _; rw [zsi_nj (by omega)], g3]
          rfl
        have c255 : zr 1 256 (μ.1 3 171) := ⟨cp, p2.2⟩
        have tc : (μ.1 3 171 - 1).toInt = (μ.1 3 171).toInt - 1 := z_tsub c255 (zr_c (lo := 1) (hi := 1) (x := 1) (by decide)) (by decide)
        have ts : (σ.1 42 768 + 1).toInt = (σ.1 42 768).toInt + 1 := z_tadd p3 (zr_c (lo := 1) (hi := 1) (x := 1) (by decide)) (by decide)
        have tm : ((σ.1 42 768 + 1) &&& 255).toInt = ((σ.1 42 768).toInt + 1) % 256 := by rw [z_mask (k := 8) (by omega) rfl (by decide), ts]; rfl
        have p2b := p2.2
        have tx : (x + 1).toInt = x.toInt + 1 := z_tadd hx (zr_c (lo := 1) (hi := 1) (x := 1) (by decide)) (by decide)
        subst e6
        refine t_down (c := μ.1 3 171 - 1) (o := t4) ⟨by omega, by omega⟩ zfuel t4 0 (zr_c (by decide)) (by rw [z0]; omega) (by rw [g4]; exact zsi_ej) (fun _ _ _ => rfl) (fun j hj => by rw [z0] at hj; omega) rfl (fun t q1 q2 q3 q4 => ?_)
        have a : zQ [34, 42] [] [] [] σ s5 := by rw [e5, e4]; exact zQ.wi (zQ.wi (zQ.wi zQ.rf rfl) rfl) rfl
        have a2 : zQ [42] [] [] [] (zsi σ 34 (7 + P.toNatClampNeg) W) s5 := by rw [e5, e4]; exact zQ.wi (zQ.wi zQ.rf rfl) rfl
        have sh : ∀ k j, zcv [] [(3, 171, 171), (3, 280, 1047)] k j = false → t.1 k j = t4.1 k j := fun k j z => by
          by_cases y : k = 3 ∧ 280 ≤ j ∧ (j : Int) < 280 + 3 * (μ.1 3 171 - 1).toInt
          · exfalso
            rw [y.1, zcv_m (a := 280) (b := 1047) (by decide) y.2.1 (by omega)] at z
            cases z
          · exact q2 k j y
        have b2 : zQ [] [(3, 171, 171), (3, 280, 1047)] [] [] (zsi μ 3 (42 + P.toNatClampNeg) W) t := by
          refine ⟨fun k j z => ?_, fun k j _ => by rw [q4, g4]; rfl⟩
          rw [sh k j z, g4, zsi_at, if_neg (fun y => ?_)]
          rw [y.1, y.2] at z
          exact absurd z (by decide)
        have bb : zQ [] [(3, 42, 43), (3, 171, 171), (3, 280, 1047)] [] [] μ t := (zQ.wi zQ.rf (zcv_m (a := 42) (b := 43) (by decide) (by omega) (by omega))).tr (b2.mono rfl rfl)
        have vv : zVe s5 t := by
          refine zVe.kp (h.2.2.2.1.w (z_pn34_7 (d := P.toNatClampNeg) (by omega)) rfl ?_ (by rw [z_an1])) a2 b2 (by decide +kernel) (by decide +kernel)
          obtain ⟨i, ei⟩ := z_F (m := 2) r1 (by decide)
          refine zGo.r (a := 0) (b := 63) ?_ r2
          rw [ei]
          exact zg_347 i
        have pl : zPlr s5 t := by
          have f768 : s5.1 42 768 = (σ.1 42 768 + 1) &&& 255 := by rw [e5, e4]; exact (zsi_nj (by decide)).trans zsi_ej
          have f171 : t.1 3 171 = μ.1 3 171 - 1 := q1
          have km := z_clamp (x := (σ.1 42 768 + 1) &&& 255) (by omega)
          have row : ∀ k r : Nat, (k : Int) < (μ.1 3 171 - 1).toInt → r < 3 → t.1 3 (280 + 3 * k + r) = μ.1 3 (280 + 3 * (k + 1) + r) := fun k r hk hr => by
            have z := q3 (3 * k + r) (by omega)
            rw [show 280 + 3 * k + r = 280 + (3 * k + r) by omega, z, g4, zsi_nj (by omega), zsi_nj (by omega), show 283 + (3 * k + r) = 280 + 3 * (k + 1) + r by omega]
          refine ⟨?_, ?_, ?_, fun k r hk hr => ?_, fun k hk => ?_⟩
          · rw [f171, e5]; exact zsi_ej
          · rw [f171]; exact ⟨by omega, by omega⟩
          · rw [f768]; exact z_r8 _
          · rw [f171] at hk
            rw [f768, row k r hk hr, e5, e4, zsi_nj (by omega), zsi_nj (by omega), zsi_ne (by decide), show ((((σ.1 42 768 + 1) &&& 255).toNatClampNeg + k) % 256) = (((σ.1 42 768).toNatClampNeg + (k + 1)) % 256) by omega]
            exact p4 (k + 1) r (by omega) hr
          · rw [f171] at hk
            rw [row k 1 hk (by decide), row k 2 hk (by decide), row k 0 hk (by decide)]
            exact p5 (k + 1) (by omega)
        have hI : zIb b B s5 t := by
          refine ⟨vv, pl, h.2.2.2.2.2.1.kp a bb rfl rfl rfl rfl, ?_, h.2.2.2.2.2.2.2.kp bb rfl rfl rfl⟩
          have zc := h.2.2.2.2.2.2.1
          unfold zCtb
          rw [a.rlo (k := 38) rfl, bb.rlo (k := 4) rfl]
          exact zc
        obtain ⟨k1, k2⟩ := h.kp hI a bb rfl rfl
        exact zp2_mono (ih m s5 t (x + 1) ⟨by omega, by omega⟩ (by rw [q1]; omega) (by rw [bb.rlo (k := 4) rfl]; exact hv) k1 (k2.f hF) (k2.w hW)) (fun r r' q => ⟨q.1, q.2.trans (bb.o (k := 3) (a := 66) (b := 66) rfl (by decide) (by decide))⟩)
end ZPL
