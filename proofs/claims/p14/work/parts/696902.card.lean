theorem zp2_within {α β : Type} {o : Option α} {σ : zSt} {a l h : Int64} {f : zSt → Int32 → Option β} {Q : α → β → Prop} (k1 : l.toInt ≤ a.toInt → a.toInt ≤ h.toInt → zp2 o (f σ 1) Q) (k0 : (a.toInt < l.toInt ∨ h.toInt < a.toInt) → zp2 o (f σ 0) Q) : zp2 o (zbi (fX12_within σ a l h) f) Q := by
  unfold fX12_within
  by_cases q1 : lg_cmp a l < 0
  · rw [if_pos q1]; exact k0 (Or.inl (z_cmp_lt.mp q1))
  · rw [if_neg q1]
    by_cases q2 : 0 < lg_cmp a h
    · rw [if_pos q2]; exact k0 (Or.inr (z_cmp_gt.mp q2))
    · rw [if_neg q2]
      exact k1 (Int.not_lt.mp (fun r => q1 (z_cmp_lt.mpr r))) (Int.not_lt.mp (fun r => q2 (z_cmp_gt.mpr r)))
theorem zp2_fails0 {α β : Type} {o : Option α} {σ : zSt} {c : Int32} {f : zSt → Int32 → Option β} {Q : α → β → Prop} (k : ∀ σ1, σ1 = zsi σ 0 0 0 → zp2 o (f σ1 0) Q) : zp2 o (zbi (fX12_fails σ 0 c) f) Q := by
  unfold fX12_fails
  rw [if_pos rfl]
  exact k _ rfl
theorem zp2_fails1 {α β : Type} {o : Option α} {σ : zSt} {c : Int32} {f : zSt → Int32 → Option β} {Q : α → β → Prop} (k : ∀ σ1, σ1 = zsi σ 0 0 c → zp2 o (f σ1 1) Q) : zp2 o (zbi (fX12_fails σ 1 c) f) Q := by
  unfold fX12_fails
  rw [if_neg (by decide)]
  exact k _ rfl
theorem zR6.thr {σ μ μ1 : zSt} {v : Int32} (h : zR6 σ μ) (e : μ1 = zsi μ 0 0 v) : zR6 σ μ1 := by
  subst e
  refine ⟨?_, ?_⟩
  · rw [zsi_nj (by decide)]; exact h.1
  · rw [zsi_nj (by decide)]; exact h.2.wM (by decide)
theorem z_c02 {μ μ1 : zSt} {v : Int32} (e : μ1 = zsi μ 0 0 v) : zgi μ1 0 2 = zgi μ 0 2 := by
  subst e
  show (zsi μ 0 0 _).1 0 2 = μ.1 0 2
  rw [zsi_off (by omega)]
theorem z2_feed {σ μ : zSt} {x1 : Int32} {x2 x4 x6 : Int64} (h : zR6 σ μ) (hr : zr 0 262656 (zgi μ 0 2)) : zp2 (fX11_feed σ x1 x2 x4 x6) (fX12_feed μ x1 x2 x4 x6) (fun r r' => zR6 (zRis r) r'.1) := by
  unfold fX11_feed fX11_feed_11 fX12_feed
  have c1 : (1 : Int32).toInt = 1 := rfl
  have c4 : (24 : Int32).toInt = 24 := rfl
  have c2 : (262656 : Int32).toInt = 262656 := rfl
  have c0 : (0 : Int32).toInt = 0 := rfl
  refine zp2_within (fun w1 w2 => ?_) (fun w3 => ?_)
  · have hx := z_wir w1 w2 (zrl_c (lo := 1) (hi := 1) (by decide)) (zrl_c (lo := 24) (hi := 24) (by decide))
    have hx1 := hx.1
    have hx2 := hx.2
    refine zp2_ifr (fun q => absurd q (by decide)) (fun _ => ?_)
    unfold fX12_feed_18
    refine zp2_fails0 (fun μ1 e1 => zp2_ifr (fun _ => ?_) (fun q => absurd rfl q))
    refine zp2_ifl (fun q => ?_) (fun _ => zp2_ifl (fun _ => ?_) (fun q => ?_))
    · have := Int32.lt_iff_toInt_lt.mp q; exfalso; omega
    · have R1 := h.thr e1
      have e : zgi μ1 0 2 = zgi σ 1 2 := (z_c02 e1).trans h.1.symm
      have t : (zgi μ 0 2 + x1).toInt = (zgi μ 0 2).toInt + x1.toInt := z_tadd hr hx (by decide)
      rw [e]
      refine zp2_if (fun q => ?_) (fun q => ?_)
      · have q1 := Int32.le_iff_toInt_le.mp q
        rw [show zgi σ 1 2 = zgi μ 0 2 from h.1, t, c2] at q1
        unfold fX12_feed_42
        refine zp2_fails0 (fun μ2 e2 => zp2_ifr (fun _ => ?_) (fun q => absurd rfl q))
        have e3 : μ2.1 0 2 = zgi μ 0 2 := (z_c02 e2).trans (z_c02 e1)
        have hr1 := hr.1
        exact z2_feed_48 hx _ _ _ _ 0 (R1.thr e2) (zr_c (by decide)) (by omega) (by rw [e3]; exact hr1) (by rw [e3, c0]; omega)
      · unfold fX12_feed_42 fX12_feed_49
        exact zp2_fails1 (fun μ2 e2 => zp2_ifr (fun q => absurd q (by decide)) (fun _ => zp2_some (R1.thr e2)))
    · have := Int32.lt_iff_toInt_lt.mp (z_nle q); exfalso; omega
  · have hn : ¬ zr 1 24 x1 := z_within w3 rfl rfl
    refine zp2_ifr (fun _ => ?_) (fun q => absurd rfl q)
    unfold fX12_feed_18 fX12_feed_49
    refine zp2_fails1 (fun μ1 e1 => zp2_ifr (fun q => absurd q (by decide)) (fun _ => ?_))
    refine zp2_ifl (fun _ => zp2_some (h.thr e1)) (fun q => zp2_ifl (fun q1 => ?_) (fun _ => zp2_some (h.thr e1)))
    have r := Int32.le_iff_toInt_le.mp (z_nlt q)
    have r1 := Int32.le_iff_toInt_le.mp q1
    exact absurd ⟨by omega, by omega⟩ hn
/-! grow -/
theorem z2_grow_15 {x2 x3 : Int32} (h2 : 0 < x2.toInt) (h3 : zr 0 262656 x3) : ∀ (n m : Nat) (σ μ : zSt) (x4 : Int32), x4 = zgi μ 0 2 → x2.toInt ≤ x4.toInt → x4.toInt ≤ x3.toInt → zR6L x4.toInt σ μ → (∀ j : Nat, (j : Int) < x4.toInt → σ.1 (ztp (σ.1 1 0)) j = σ.1 (ztp (σ.1 1 0)) (j % x2.toNatClampNeg)) → zp2 (fX2_repeatTape_15 n σ x2 x3 x4) (fX12_grow_54 m μ x3 x2) (fun r r' => zR6 r r'.1) := by
  intro n
  induction n with
  | zero => intro m σ μ x4 _ _ _ _ _; exact zp2_nl
  | succ n ih =>
    intro m σ μ x4 e4 hle hl3 hR hp
    cases m with
    | zero => exact zp2_nr
    | succ m =>
      show zp2 (fX2_repeatTape_15_body (fX2_repeatTape_15 n) σ x2 x3 x4) (fX12_grow_54_body (fX12_grow_54 m) μ x3 x2) _
      unfold fX2_repeatTape_15_body fX12_grow_54_body
      have b3 := h3.2
      have c0 : (0 : Int32).toInt = 0 := rfl
      rw [← e4]
      refine zp2_if (fun q => ?_) (fun q => ?_)
      · have q1 := Int32.le_iff_toInt_le.mp q
        have e34 : x3 = x4 := Int32.toInt_inj.mp (by omega)
        unfold fX2_repeatTape_47
        refine zp2_bvl (fun σ1 s1 => zp2_some ?_)
        have mx : zmax x2 x3 = x3 := by
          unfold zmax
          split
          · rfl
          · next r => exact Int32.toInt_inj.mp (by have := Int32.le_iff_toInt_le.mp (z_nlt r); omega)
        have l : μ.1 0 2 = x4 := e4.symm
        refine ⟨?_, ?_⟩
        · rw [s1, zsi_ej, mx, l, e34]
        · rw [s1, l]
          exact hR.lenC
      · have q1 := Int32.lt_iff_toInt_lt.mp (z_nle q)
        refine zp2_ifl (fun r => ?_) (fun _ => ?_)
        · have := Int32.le_iff_toInt_le.mp r; exfalso; omega
        · refine zp2_ckl (zp2_ckl (zp2_bvl (fun σ1 s1 => zp2_bvl (fun v v1 => zp2_ckr (zp2_ckr (zp2_ckr (zp2_bvr (fun μ1 m1 => zp2_bvr (fun μ2 m2 => ?_)))))))))
          have c1 : (1 : Int32).toInt = 1 := rfl
          have r1 : zr 1 1 (1 : Int32) := zr_c (by decide)
          have r4 : zr 0 262655 x4 := ⟨by omega, by omega⟩
          have r2 : zr 0 262655 x2 := ⟨by omega, by omega⟩
          have t4 : (x4 + 1).toInt = x4.toInt + (1 : Int32).toInt := z_tadd r4 r1 (by decide)
          have ts : (x4 - x2).toInt = x4.toInt - x2.toInt := z_tsub r4 r2 (by decide)
          have k4 := z_clamp (x := x4) (by omega)
          have k2 := z_clamp (x := x2) (by omega)
          have ks := z_clamp (x := x4 - x2) (by omega)
          have tr := z_trem (y := x2) x2.toInt rfl r4 ⟨by decide, h2⟩
          have m0 := Int.emod_nonneg x4.toInt (b := x2.toInt) (by omega)
          have m9 := Int.emod_lt_of_pos x4.toInt (b := x2.toInt) h2
          have kr := z_clamp (x := zrem x4 x2) (by omega)
          have er : (zrem x4 x2).toNatClampNeg = x4.toNatClampNeg % x2.toNatClampNeg := by
            have e5 : ((x4.toNatClampNeg % x2.toNatClampNeg : Nat) : Int) = (x4.toNatClampNeg : Int) % (x2.toNatClampNeg : Int) := Int.natCast_emod _ _
            rw [k4, k2] at e5
            omega
          have es : (x4 - x2).toNatClampNeg = x4.toNatClampNeg - x2.toNatClampNeg := by omega
          have lt : (x4.toNatClampNeg % x2.toNatClampNeg) < x2.toNatClampNeg := Nat.mod_lt _ (by omega)
          -- the byte
          have hb : σ.1 (ztp (σ.1 1 0)) (x4 - x2).toNatClampNeg = σ.1 (ztp (σ.1 1 0)) (x4.toNatClampNeg % x2.toNatClampNeg) := by
            rw [es, hp _ (by omega), ← Nat.mod_eq_sub_mod (by omega)]
          have hm : σ.1 (ztp (σ.1 1 0)) (x4.toNatClampNeg % x2.toNatClampNeg) = μ.1 1 (x4.toNatClampNeg % x2.toNatClampNeg) &&& 255 := hR.1 _ (by omega)
          have hy : σ.1 (ztp (σ.1 1 0)) (x4 - x2).toNatClampNeg = vp_nar .byte (μ.1 1 (zrem x4 x2).toNatClampNeg) &&& 255 := by rw [z_nar, er, hb]; exact hm
          have R1 : zR6L (x4.toInt + 1) σ1 μ1 := by
            rw [s1, m1]
            exact hR.set hy (fun j hj nj => by omega)
          have a2 : zgi μ1 0 2 = x4 := by
            rw [m1, e4]
            show (zsi μ 1 _ _).1 0 2 = μ.1 0 2
            rw [zsi_off (by omega)]
          have l2 : zgi μ2 0 2 = x4 + 1 := by
            rw [m2, a2]
            exact zsi_ej
          have ev : v = x4 + 1 := v1
          have w1 : σ1.1 1 0 = σ.1 1 0 := by
            rw [s1]
            exact zsi_off (fun r => z_tp1 _ r.1)
          rw [ev]
          refine ih m σ1 μ2 (x4 + 1) l2.symm (by omega) (by omega) ?_ (fun j hj => ?_)
          · rw [t4, c1, m2]
            exact R1.wM (by decide)
          · rw [w1]
            have at1 : ∀ i : Nat, σ1.1 (ztp (σ.1 1 0)) i = if i = x4.toNatClampNeg then σ.1 (ztp (σ.1 1 0)) (x4 - x2).toNatClampNeg else σ.1 (ztp (σ.1 1 0)) i := fun i => by
              rw [s1]
              show (zsi σ (ztp (σ.1 1 0)) _ _).1 (ztp (σ.1 1 0)) i = _
              by_cases q : i = x4.toNatClampNeg
              · rw [if_pos q, q, zsi_ej]; rfl
              · rw [if_neg q, zsi_nj q]
            have lj : j % x2.toNatClampNeg < x2.toNatClampNeg := Nat.mod_lt _ (by omega)
            rw [at1 j, at1 (j % x2.toNatClampNeg), if_neg (show ¬ j % x2.toNatClampNeg = x4.toNatClampNeg by omega)]
            by_cases q : j = x4.toNatClampNeg
            · rw [if_pos q, hb, q]
            · rw [if_neg q]
              exact hp j (by omega)
theorem z2_grow {σ μ : zSt} {x1 : Int32} (h : zR6 σ μ) (hr : zr 0 262656 (zgi μ 0 2)) : zp2 (fX11_grow σ x1) (fX12_grow μ x1) (fun r r' => zR6 (zRis r) r'.1) := by
  unfold fX11_grow fX11_grow_19 fX12_grow fX12_grow_15
  have c2 : (262656 : Int32).toInt = 262656 := rfl
  have c0 : (0 : Int32).toInt = 0 := rfl
  have e12 : zgi σ 1 2 = zgi μ 0 2 := h.1
  refine zp2_bvl (fun v1 e1 => ?_)
  rw [e12] at e1
  subst e1
  have no : zp2 (some (Sum.inr (σ, 1)) : Option zRi) (fX12_grow_20 μ x1 1) (fun r r' => zR6 (zRis r) r'.1) := by
    unfold fX12_grow_20 fX12_grow_47
    exact zp2_fails1 (fun μ1 e1 => zp2_ifr (fun q => absurd q (by decide)) (fun _ => zp2_some (h.thr e1)))
  refine zp2_if (fun _ => no) (fun q => zp2_if (fun q1 => ?_) (fun _ => no))
  have r := Int32.le_iff_toInt_le.mp (z_nlt q)
  have r1 := Int32.le_iff_toInt_le.mp q1
  rw [c2] at r1
  have hr1 := hr.1
  unfold fX12_grow_20
  refine zp2_fails0 (fun μ1 e1 => zp2_ifr (fun _ => ?_) (fun q => absurd rfl q))
  rw [z_c02 e1]
  have R1 := h.thr e1
  refine zp2_if (fun q2 => ?_) (fun q2 => ?_)
  · unfold fX12_grow_40 fX12_grow_47
    exact zp2_fails1 (fun μ2 e2 => zp2_ifr (fun q => absurd q (by decide)) (fun _ => zp2_some (R1.thr e2)))
  · unfold fX12_grow_40 fX2_repeatTape
    refine zp2_fails0 (fun μ2 e2 => zp2_ifr (fun _ => zp2_bvr (fun v5 e5 => ?_)) (fun q => absurd rfl q))
    have R2 := R1.thr e2
    have l2 : zgi μ2 0 2 = zgi μ 0 2 := (z_c02 e2).trans (z_c02 e1)
    have m1 : zmin x1 262656 = x1 := by
      unfold zmin
      rw [if_neg (fun h => by have := Int32.lt_iff_toInt_lt.mp h; omega)]
    have n0 : ¬ (zgi μ 0 2).toInt = 0 := fun z => q2 (Int32.toInt_inj.mp (z.trans c0.symm))
    have two : zp2 (fX2_repeatTape_15 zfuel σ (zgi μ 0 2) x1 (zgi μ 0 2)) (fX12_grow_54 zfuel μ2 x1 (zgi μ 0 2)) (fun r r' => zR6 r r'.1) := by
      refine z2_grow_15 (by omega) ⟨by omega, r1⟩ zfuel zfuel σ μ2 _ l2.symm (Int.le_refl _) r ?_ (fun j hj => ?_)
      · have z := R2.2
        rw [show μ2.1 0 2 = zgi μ 0 2 from l2] at z
        exact z
      · have k := z_clamp (x := zgi μ 0 2) (by omega)
        rw [Nat.mod_eq_of_lt (by omega)]
    rw [e5, l2]
    refine fun a b ea eb => ?_
    have eq : zbu (zbv (zgi σ 1 2) (fun v4 => zbv (zmin x1 262656) (fun v5 => fX2_repeatTape_15 zfuel σ v4 v5 v4))) (fun σ2 => (some (Sum.inl (σ2, zgi μ 0 2)) : Option zRi)) = some a := ea
    have eq2 : zbu (fX2_repeatTape_15 zfuel σ (zgi μ 0 2) x1 (zgi μ 0 2)) (fun σ2 => (some (Sum.inl (σ2, zgi μ 0 2)) : Option zRi)) = some a := by
      rw [← eq]
      show _ = zbu (fX2_repeatTape_15 zfuel σ (zgi σ 1 2) (zmin x1 262656) (zgi σ 1 2)) _
      rw [m1, e12]
    cases q9 : fX2_repeatTape_15 zfuel σ (zgi μ 0 2) x1 (zgi μ 0 2) with
    | none => rw [q9] at eq2; cases eq2
    | some s =>
      rw [q9] at eq2
      have ea2 : (some (Sum.inl (s, zgi μ 0 2)) : Option zRi) = some a := eq2
      cases ea2
      exact two s b q9 eb
/-! patch -/
theorem z2_patch_3 {x1 : Int32} {x2 : Int64} : ∀ (n m : Nat) (σ μ : zSt) (x4 : Int32), zR6 σ μ → zr 0 8 x4 → 0 ≤ x1.toInt → x1.toInt + 8 ≤ (zgi μ 0 2).toInt → (zgi μ 0 2).toInt ≤ 262656 → zp2 (fX2_changeTape_3 n σ x1 x2 x4) (fX12_patch_32 m μ x1 x2 x4) (fun r r' => zR6 r r') := by
  intro n
  induction n with
  | zero => intro m σ μ x4 _ _ _ _ _; exact zp2_nl
  | succ n ih =>
    intro m σ μ x4 hR h4 hx hl hm
    cases m with
    | zero => exact zp2_nr
    | succ m =>
      show zp2 (fX2_changeTape_3_body (fX2_changeTape_3 n) σ x1 x2 x4) (fX12_patch_32_body (fX12_patch_32 m) μ x1 x2 x4) _
      unfold fX2_changeTape_3_body fX12_patch_32_body fX2_changeTape_52
      have c8 : (8 : Int32).toInt = 8 := rfl
      have c0 : (0 : Int32).toInt = 0 := rfl
      have b4 := h4.1
      refine zp2_if (fun q => zp2_some hR) (fun q => ?_)
      have q1 := Int32.lt_iff_toInt_lt.mp (z_nle q)
      have t : (x1 + x4).toInt = x1.toInt + x4.toInt := z_tadd (a := 0) (b := 262656) (c := 0) (d := 8) ⟨hx, by omega⟩ h4 (by decide)
      have e12 : zgi σ 1 2 = zgi μ 0 2 := hR.1
      refine zp2_ifl (fun r => ?_) (fun _ => zp2_ifl (fun r => ?_) (fun _ => ?_))
      · have := Int32.lt_iff_toInt_lt.mp r; exfalso; omega
      · rw [e12] at r
        have := Int32.le_iff_toInt_le.mp r
        exfalso
        omega
      · refine zp2_ckl (zp2_bvl (fun σ1 s1 => zp2_bvl (fun v2 e2 => zp2_ckr (zp2_bvr (fun μ1 m1 => zp2_bvr (fun v3 e3 => ?_))))))
        have R1 : zR6L (μ.1 0 2).toInt σ1 μ1 := by
          rw [s1, m1]
          exact hR.2.set (z_patchb ⟨b4, by omega⟩) (fun j hj _ => hj)
        have l1 : zgi μ1 0 2 = zgi μ 0 2 := by
          rw [m1]
          show (zsi μ 1 _ _).1 0 2 = μ.1 0 2
          rw [zsi_off (by omega)]
        have l0 : σ1.1 1 2 = σ.1 1 2 := by
          rw [s1]
          exact zsi_off (fun r => z_tp1 _ r.1)
        have R2 : zR6 σ1 μ1 := ⟨by rw [l0]; exact hR.1.trans l1.symm, by rw [show μ1.1 0 2 = μ.1 0 2 from l1]; exact R1⟩
        have c1 : (1 : Int32).toInt = 1 := rfl
        have t4 : (x4 + 1).toInt = x4.toInt + (1 : Int32).toInt := z_tadd h4 (zr_c (lo := 1) (hi := 1) (by decide)) (by decide)
        rw [e2, e3]
        exact ih m σ1 μ1 (x4 + 1) R2 ⟨by omega, by omega⟩ hx (by rw [l1]; exact hl) (by rw [l1]; exact hm)
theorem z2_patch {σ μ : zSt} {x1 : Int32} {x2 : Int64} (h : zR6 σ μ) (hr : zr 0 262656 (zgi μ 0 2)) : zp2 (fX11_patch σ x1 x2) (fX12_patch μ x1 x2) (fun r r' => zR6 (zRus r) r') := by
  unfold fX11_patch fX11_patch_18 fX12_patch fX12_patch_16
  have c0 : (0 : Int32).toInt = 0 := rfl
  have c8 : (8 : Int32).toInt = 8 := rfl
  have e12 : zgi σ 1 2 = zgi μ 0 2 := h.1
  have no : zp2 (some (Sum.inr (σ, 1)) : Option zRu) (fX12_patch_21 μ x1 x2 1) (fun r r' => zR6 (zRus r) r') := by
    unfold fX12_patch_21
    exact zp2_fails1 (fun μ1 e1 => zp2_ifr (fun q => absurd q (by decide)) (fun _ => zp2_some (h.thr e1)))
  have t : (zgi μ 0 2 - 8).toInt = (zgi μ 0 2).toInt - (8 : Int32).toInt := z_tsub hr (zr_c (lo := 8) (hi := 8) (by decide)) (by decide)
  rw [e12]
  refine zp2_if (fun _ => no) (fun q => zp2_if (fun q1 => ?_) (fun _ => no))
  have r := Int32.le_iff_toInt_le.mp (z_nlt q)
  have r1 := Int32.le_iff_toInt_le.mp q1
  rw [t, c8] at r1
  unfold fX12_patch_21 fX2_changeTape
  refine zp2_fails0 (fun μ1 e1 => zp2_ifr (fun _ => ?_) (fun q => absurd rfl q))
  have l := z_c02 e1
  have hr2 := hr.2
  have two : zp2 (fX2_changeTape_3 zfuel σ x1 x2 0) (fX12_patch_32 zfuel μ1 x1 x2 0) (fun r r' => zR6 r r') := z2_patch_3 zfuel zfuel σ μ1 0 (h.thr e1) (zr_c (by decide)) (by omega) (by rw [l]; omega) (by rw [l]; exact hr2)
  refine fun a b ea eb => ?_
  cases q9 : fX2_changeTape_3 zfuel σ x1 x2 0 with
  | none => rw [q9] at ea; cases ea
  | some s =>
    rw [q9] at ea
    have ea2 : (some (Sum.inl s) : Option zRu) = some a := ea
    cases ea2
    exact two s b q9 eb
