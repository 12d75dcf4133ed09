/-! STOP, PLAN -/
section ZSP
variable {σ μ s t : zSt} {B : Int × Int × Int}
theorem zNow.stp (h : zNow B σ μ) (v : zVe s t) (a : zQ [40] [] [] [] σ s) (b : zQ [] [(3, 89, 97)] [] [] μ t) : zNow B s t := by
  obtain ⟨hT, hF, hW⟩ := h
  obtain ⟨k1, k2⟩ := hT.kp (J := zIa B) ⟨v, hT.2.2.2.2.kp a b rfl rfl⟩ a b rfl rfl
  exact ⟨k1, k2.f hF, k2.w hW⟩
theorem zVe.n8 (h : zVe s t) : t.1 3 89 = s.1 40 8 := h.1.e (z_pn40_8 (d := 0) (by decide))
theorem zVe.sj (h : zVe s t) {j : Nat} (hj : j < 8) : t.1 3 (90 + j) = s.1 40 j := by
  have p := z_pn40_0 (d := j) hj
  rw [Nat.zero_add] at p
  exact h.1.e p
theorem zVe.w40 (h : zVe s t) {j : Nat} (hj : j < 8) {v : Int32} : zVe (zsi s 40 j v) (zsi t 3 (90 + j) v) := by
  have p := z_pn40_0 (d := j) hj
  rw [Nat.zero_add] at p
  have g : ∀ i : Fin 8, zGf 40 i.val zGt = none := by decide +kernel
  exact h.w p rfl (zGo.n (g ⟨j, hj⟩)) (by rw [z_an1])
theorem zVe.w408 (h : zVe s t) {v : Int32} (r : zr 0 8 v) : zVe (zsi s 40 8 v) (zsi t 3 89 v) := h.w (z_pn40_8 (d := 0) (by decide)) rfl (zGo.r rfl r) (by rw [z_an1])
theorem m_isS (h : zVe s t) {x : Int32} : ∀ (n i : Nat), i ≤ 8 → (∀ j : Nat, j < i → ¬ s.1 40 j = x) → zpc (fX12_isStop_2 n t x (Int32.ofNat i)) (fun r => r.1 = t ∧ ((r.2 = 0 ∧ ∀ j : Nat, (j : Int) < (s.1 40 8).toInt → ¬ s.1 40 j = x) ∨ (r.2 = 1 ∧ ∃ p : Nat, (p : Int) < (s.1 40 8).toInt ∧ s.1 40 p = x ∧ ∀ j : Nat, j < p → ¬ s.1 40 j = x))) := by
  have r8 : zr 0 8 (s.1 40 8) := h.2.1.at (k := 40) (j := 8) rfl
  intro n
  induction n with
  | zero => intro i _ _; exact zpc_none
  | succ n ih =>
    intro i hi hin
    show zpc (fX12_isStop_2_body (fX12_isStop_2 n) t x (Int32.ofNat i)) _
    unfold fX12_isStop_2_body
    rw [show zgi t 3 (89 : Int32).toNatClampNeg = s.1 40 8 from h.n8]
    have ri : zr 0 8 (Int32.ofNat i) := z_ofr (by omega) (by omega)
    refine zpc_ck (zpc_if (fun p => zpc_ck (zpc_some ⟨rfl, Or.inl ⟨rfl, fun j hj => ?_⟩⟩)) (fun p => ?_))
    · have p := Int32.le_iff_toInt_le.mp p
      rw [z_ofI (by omega)] at p
      exact hin j (by omega)
    have p' := Int32.lt_iff_toInt_lt.mp (z_nle p)
    rw [z_ofI (by omega)] at p'
    have i8 : i < 8 := by have := r8.2; omega
    have ei : zgi t 3 (90 + Int32.ofNat i).toNatClampNeg = s.1 40 i := by
      rw [z_off ri (k := 90) rfl (by decide), z_ofC (by omega)]
      exact h.sj i8
    rw [ei]
    refine zpc_ck (zpc_if (fun y => zpc_ck (zpc_some ⟨rfl, Or.inr ⟨rfl, i, p', y, hin⟩⟩)) (fun y => zpc_bv (fun v ev => ?_)))
    rw [ev, z_ofS (by omega)]
    refine ih (i + 1) (by omega) (fun j hj => ?_)
    by_cases z : j = i
    · rw [z]; exact y
    · exact hin j (by omega)
/-- the reference takes a stop away -/
theorem m_112 (h : zVe s t) {x : Int32} {p : Nat} (hp : (p : Int) < (s.1 40 8).toInt) (ex : s.1 40 p = x) (hn : ∀ j : Nat, j < p → ¬ s.1 40 j = x) : ∀ (n i : Nat), i ≤ p → zpc (fX12_stop_112 n t x (Int32.ofNat (i + 1))) (fun r => r.1 = zsi (zsi t 3 (90 + p) (t.1 3 (89 + (s.1 40 8).toNatClampNeg))) 3 89 (s.1 40 8 - 1)) := by
  have r8 : zr 0 8 (s.1 40 8) := h.2.1.at (k := 40) (j := 8) rfl
  have k8 := z_clamp r8.1
  have r82 := r8.2
  intro n
  induction n with
  | zero => intro i _; exact zpc_none
  | succ n ih =>
    intro i hi
    show zpc (fX12_stop_112_body (fX12_stop_112 n) t x (Int32.ofNat (i + 1))) _
    unfold fX12_stop_112_body fX12_stop_168
    have ri : zr 0 8 (Int32.ofNat (i + 1)) := z_ofr (by omega) (by omega)
    have o1 : (89 + Int32.ofNat (i + 1)).toNatClampNeg = 90 + i := by rw [z_off ri (k := 89) rfl (by decide), z_ofC (by omega)]; omega
    have e8 : zgi t 3 (89 : Int32).toNatClampNeg = s.1 40 8 := h.n8
    rw [o1, e8, show zgi t 3 (90 + i) = s.1 40 i from h.sj (by omega)]
    refine zpc_ck (zpc_if (fun y => ?_) (fun y => zpc_bv (fun v ev => ?_)))
    · have ip : i = p := by
        refine Decidable.byContradiction (fun z => ?_)
        exact hn i (by omega) y
      subst ip
      rw [z_off r8 (k := 89) rfl (by decide)]
      refine zpc_ck (zpc_ck (zpc_ck (zpc_bv (fun t1 g1 => zpc_ck (zpc_ck (zpc_bv (fun t2 g2 => zpc_ck (zpc_some ?_))))))))
      have c89 : zgi t1 3 (89 : Int32).toNatClampNeg = s.1 40 8 := by
        rw [g1]
        show (zsi t 3 (90 + i) _).1 3 89 = _
        rw [zsi_nj (by omega)]
        exact h.n8
      rw [c89] at g2
      show t2 = _
      rw [g2, g1]
      rfl
    · have ip : ¬ i = p := fun z => y (by rw [z]; exact ex)
      rw [ev, z_ofS (by omega)]
      exact ih (i + 1) (by omega)
theorem b_stop (h : zNow B s t) {x y : Int32} : zp2 (fX11_stop s x y) (fX12_stop t x y) (fun r r' => zNow B (zRis r) r'.1) := by
  have hv0 := h.ve
  have r8 : zr 0 8 (s.1 40 8) := hv0.2.1.at (k := 40) (j := 8) rfl
  have k8 := z_clamp r8.1
  have r82 := r8.2
  have r80 := r8.1
  have c8 : (8 : Int32).toInt = 8 := rfl
  have cpl : zpc (fX1_placeOfStop s x) (fun r => r.1 = s ∧ zPs s x r.2) := by
    unfold fX1_placeOfStop
    exact c_place r8 zfuel 0 (by decide) (fun j hj => absurd hj (by omega))
  unfold fX11_stop fX12_stop fX11_stop_10
  refine zp2_bir (by unfold fX12_isStop; exact m_isS hv0 zfuel 0 (by decide) (fun j hj => absurd hj (by omega))) (fun t0 v11 q0 => ?_)
  obtain ⟨q0, qv⟩ := q0
  have q0 : t0 = t := q0
  subst q0
  have qv : (v11 = 0 ∧ ∀ j : Nat, (j : Int) < (s.1 40 8).toInt → ¬ s.1 40 j = x) ∨ (v11 = 1 ∧ ∃ p : Nat, (p : Int) < (s.1 40 8).toInt ∧ s.1 40 p = x ∧ ∀ j : Nat, j < p → ¬ s.1 40 j = x) := qv
  unfold fX12_stop_24 fX12_stop_64
  refine zp2_within (fun w1 w2 => ?_) (fun w => ?_)
  · have hx := z_wir w1 w2 (zrl_c (lo := 0) (hi := 0) (by decide)) (zrl_c (lo := 65535) (hi := 65535) (by decide))
    refine zp2_ifr (fun q => absurd q (by decide)) (fun _ => zp2_fails0 (fun t1 e1 => zp2_ifr (fun _ => ?_) (fun q => absurd rfl q)))
    have h1 : zNow B s t1 := by rw [e1]; exact h.th
    have hv := h1.ve
    have e89 : zgi t1 3 (89 : Int32).toNatClampNeg = s.1 40 8 := hv.n8
    refine zp2_ifl (fun q => absurd q (zq_lt hx rfl (by decide))) (fun _ => zp2_ifl (fun _ => ?_) (fun q => absurd (zq_le hx rfl (by decide)) q))
    unfold fX1_stopsBeside fX1_isStop fX1_isStop_13 fX1_stopsBeside_20
    -- what the class sees
    have cS : zpc (zbi (fX1_placeOfStop s x) (fun σ1 v2 => if v2 < 0 then zck (zbo 0) (some (σ1, (0 : Int32))) else zck (zbo 1) (some (σ1, (1 : Int32))))) (fun r => r = (s, v11)) := by
      refine zpc_bi cpl (fun s1 v q => ?_)
      obtain ⟨a1, a2⟩ := q
      have a1 : s1 = s := a1
      subst a1
      rcases a2 with ⟨b1, b2⟩ | ⟨p, b1, b2, b3, b4⟩
      · have b1 : v = -1 := b1
        rw [b1]
        refine zpc_if (fun _ => zpc_ck (zpc_some ?_)) (fun z => absurd (by decide) z)
        rcases qv with ⟨c1, c2⟩ | ⟨c1, p, c2, c3, c4⟩
        · rw [c1]
        · exact absurd c3 (b2 p c2)
      · have b1 : v = Int32.ofNat p := b1
        rw [b1]
        refine zpc_if (fun z => ?_) (fun _ => zpc_ck (zpc_some ?_))
        · exact absurd z (zq_lt (z_ofr (i := p) (b := 8) (by omega) (by omega)) rfl (by decide))
        · rcases qv with ⟨c1, c2⟩ | ⟨c1, c2⟩
          · exact absurd b3 (c2 p b2)
          · rw [c1]
    have sub0 : ∀ z : Int32, z - 0 = z := fun z => Int32.sub_zero z
    have same : zNow B s (zsi t1 0 0 0) := h1.th
    rcases qv with ⟨v0, none_⟩ | ⟨v1, p, p1, p2, p3⟩
    · -- x is no stop
      subst v0
      have pl : zpc (fX1_placeOfStop s x) (fun r => r = (s, -1)) := zpc_mono cpl (fun r q => by
        obtain ⟨a1, a2⟩ := q
        rcases a2 with ⟨b1, b2⟩ | ⟨p, b1, b2, b3, b4⟩
        · exact Prod.ext a1 b1
        · exact absurd b3 (none_ p b2))
      refine zp2_bil (P := fun r => r = (s, s.1 40 8 - 0)) (zpc_ck (zpc_bi cS (fun s1 v e => ?_))) (fun s1 v e => ?_)
      · cases e
        exact zpc_if (fun _ => zpc_some rfl) (fun z => absurd rfl z)
      cases e
      rw [sub0]
      by_cases y0 : y = 0
      · -- nothing to take away
        refine zp2_ifr (fun _ => ?_) (fun z => absurd y0 z)
        unfold fX12_stop_56 fX12_stop_57 fX12_stop_101 fX12_stop_168
        refine zp2_fails0 (fun t2 e2 => zp2_ifr (fun _ => zp2_ifr (fun _ => zp2_ifr (fun _ => zp2_ifr (fun _ => zp2_ckr ?_) (fun z => absurd rfl z)) (fun z => absurd y0 z)) (fun z => absurd y0 z)) (fun z => absurd rfl z))
        refine zp2_ifl (fun _ => ?_) (fun _ => zp2_some (by rw [e2]; exact same))
        refine zp2_bil (P := fun r => r.1 = s) ?_ (fun s1 v e => zp2_some ?_)
        · unfold fX1_changeStop fX1_changeStop_50 fX1_changeStop_87
          refine zpc_ck (zpc_bv (fun v3 e3 => zpc_bi pl (fun s1 v e => ?_)))
          cases e
          exact zpc_if (fun _ => zpc_if (fun _ => zpc_if (fun _ => zpc_ck (zpc_some rfl)) (fun z => absurd (by decide) z)) (fun z => absurd y0 z)) (fun z => absurd y0 z)
        · have e : s1 = s := e
          rw [e, e2]
          exact same
      · refine zp2_ifr (fun z => absurd z y0) (fun _ => zp2_ifr (fun _ => zp2_ckr ?_) (fun z => absurd rfl z))
        rw [e89]
        by_cases c : s.1 40 8 = 8
        · -- no room
          refine zp2_ifr (fun _ => ?_) (fun z => absurd c z)
          unfold fX12_stop_57 fX12_stop_64
          refine zp2_fails1 (fun t2 e2 => zp2_ifr (fun z => absurd z (by decide)) (fun _ => ?_))
          have nl : ¬ s.1 40 8 < 8 := by rw [c]; decide
          refine zp2_ifl (fun z => absurd z nl) (fun _ => zp2_some ?_)
          rw [e2]
          exact h1.th
        · refine zp2_ifr (fun z => absurd z c) (fun _ => ?_)
          have c' : ¬ (s.1 40 8).toInt = 8 := fun z => c (Int32.toInt_inj.mp z)
          have lt : s.1 40 8 < 8 := Int32.lt_iff_toInt_lt.mpr (by omega)
          have n8 : ¬ 8 ≤ s.1 40 8 := fun z => by have := Int32.le_iff_toInt_le.mp z; omega
          have tc : (s.1 40 8 + 1).toInt = (s.1 40 8).toInt + 1 := z_tadd r8 (zr_c (lo := 1) (hi := 1) (x := 1) (by decide)) (by decide)
          unfold fX12_stop_56 fX12_stop_57 fX12_stop_101 fX12_stop_168
          refine zp2_fails0 (fun t2 e2 => zp2_ifr (fun _ => zp2_ifr (fun z => absurd z y0) (fun _ => zp2_ifr (fun _ => zp2_ckr (zp2_ckr (zp2_bvr (fun t3 g3 => zp2_ckr (zp2_ckr (zp2_bvr (fun t4 g4 => zp2_ifr (fun z => absurd z y0) (fun _ => zp2_ckr ?_)))))))) (fun z => absurd rfl z))) (fun z => absurd rfl z))
          have hv2 : zVe s t2 := by rw [e2]; exact same.ve
          have g3 : t3 = zsi t2 3 89 (s.1 40 8 + 1) := by rw [g3, show zgi t2 3 (89 : Int32).toNatClampNeg = s.1 40 8 from hv2.n8]; rfl
          have d3 : zgi t3 3 (89 : Int32).toNatClampNeg = s.1 40 8 + 1 := by rw [g3]; exact zsi_ej
          have rc1 : zr 1 9 (s.1 40 8 + 1) := ⟨by omega, by omega⟩
          have kc := z_clamp (x := s.1 40 8 + 1) (by omega)
          have o1 : (89 + (s.1 40 8 + 1)).toNatClampNeg = 90 + (s.1 40 8).toNatClampNeg := by
            rw [z_off (x := s.1 40 8 + 1) (c := 89) (k := 89) (a := 0) (b := 9) (zr_w rc1 (by decide)) rfl (by decide)]
            omega
          rw [d3, o1] at g4
          refine zp2_ifl (fun _ => ?_) (fun z => absurd lt z)
          refine zp2_bil (P := fun r => r.1 = zsi (zsi s 40 (s.1 40 8).toNatClampNeg x) 40 8 (s.1 40 8 + 1)) ?_ (fun s1 v e => zp2_some ?_)
          · unfold fX1_changeStop fX1_changeStop_87
            refine zpc_ck (zpc_bv (fun v3 e3 => zpc_bi pl (fun s1 v e => ?_)))
            cases e
            have e3 : v3 = s.1 40 8 := e3
            subst e3
            refine zpc_if (fun z => absurd z y0) (fun _ => zpc_if (fun z => absurd z (by decide)) (fun _ => zpc_if (fun z => absurd z n8) (fun _ => zpc_ck (zpc_bv (fun s2 f2 => zpc_ck (zpc_bv (fun s3 f3 => zpc_ck (zpc_some ?_))))))))
            show s3 = _
            rw [f3, f2]
            rfl
          · have e : s1 = zsi (zsi s 40 (s.1 40 8).toNatClampNeg x) 40 8 (s.1 40 8 + 1) := e
            have et : t4 = zsi (zsi t2 3 (90 + (s.1 40 8).toNatClampNeg) x) 3 89 (s.1 40 8 + 1) := by
              rw [g4, g3]
              exact zsi_comm (by omega)
            show zNow B s1 t4
            rw [e, et]
            have h2 : zNow B s t2 := by rw [e2]; exact same
            exact h2.stp ((hv2.w40 (j := (s.1 40 8).toNatClampNeg) (by omega)).w408 ⟨by omega, by omega⟩) (zQ.wi (zQ.wi zQ.rf rfl) rfl) (zQ.wi (zQ.wi zQ.rf (zcv_m (a := 89) (b := 97) (by decide) (by omega) (by omega))) rfl)
    · -- x is a stop
      subst v1
      have pl : zpc (fX1_placeOfStop s x) (fun r => r = (s, Int32.ofNat p)) := zpc_mono cpl (fun r q => by
        obtain ⟨a1, a2⟩ := q
        rcases a2 with ⟨b1, b2⟩ | ⟨p', b1, b2, b3, b4⟩
        · exact absurd p2 (b2 p p1)
        · have ep : p' = p := by
            rcases Nat.lt_trichotomy p' p with z | z | z
            · exact absurd b3 (p3 p' z)
            · exact z
            · exact absurd p2 (b4 p z)
          rw [ep] at b1
          exact Prod.ext a1 b1)
      have ts : (s.1 40 8 - 1).toInt = (s.1 40 8).toInt - 1 := z_tsub (a := 1) (b := 8) ⟨by omega, r82⟩ (zr_c (lo := 1) (hi := 1) (x := 1) (by decide)) (by decide)
      refine zp2_bil (P := fun r => r = (s, s.1 40 8 - 1)) (zpc_ck (zpc_bi cS (fun s1 v e => ?_))) (fun s1 v e => ?_)
      · cases e
        exact zpc_if (fun z => absurd z (by decide)) (fun _ => zpc_some rfl)
      cases e
      have lt : s.1 40 8 - 1 < 8 := Int32.lt_iff_toInt_lt.mpr (by omega)
      have rp : zr 0 7 (Int32.ofNat p) := z_ofr (by omega) (by omega)
      have np : ¬ Int32.ofNat p < 0 := zq_lt rp rfl (by decide)
      have n56 : zp2 (zbi (fX1_changeStop s x y) (fun σ3 v4 => some (Sum.inl (σ3, v4) : zRi))) (fX12_stop_56 t1 x y 1) (fun r r' => zNow B (zRis r) r'.1) := by
        unfold fX12_stop_56 fX12_stop_57
        refine zp2_fails0 (fun t2 e2 => zp2_ifr (fun _ => ?_) (fun z => absurd rfl z))
        have h2 : zNow B s t2 := by rw [e2]; exact same
        have hv2 := h2.ve
        by_cases y0 : y = 0
        · refine zp2_ifr (fun _ => ?_) (fun z => absurd y0 z)
          unfold fX12_stop_101
          refine zp2_ifr (fun _ => zp2_ifr (fun z => absurd z (by decide)) (fun _ => ?_)) (fun z => absurd y0 z)
          have kq := z_clamp (x := s.1 40 8 - 1) (by omega)
          have m7 : (s.1 40 8 - 1) &&& 7 = s.1 40 8 - 1 := Int32.toInt_inj.mp (by
            rw [z_mask (k := 3) (by omega) rfl (by decide)]
            show (s.1 40 8 - 1).toInt % 8 = _
            omega)
          refine zp2_of (P := fun r => zRis r = zsi (zsi s 40 p (s.1 40 (s.1 40 8 - 1).toNatClampNeg)) 40 8 (s.1 40 8 - 1)) ?_ (m_112 hv2 p1 p2 p3 zfuel 0 (by omega)) (fun r r' q q' => ?_)
          · refine zpc_bi (P := fun r => r.1 = zsi (zsi s 40 p (s.1 40 (s.1 40 8 - 1).toNatClampNeg)) 40 8 (s.1 40 8 - 1)) ?_ (fun s1 v e => zpc_some e)
            unfold fX1_changeStop fX1_changeStop_50 fX1_changeStop_87
            refine zpc_ck (zpc_bv (fun v3 e3 => zpc_bi pl (fun s1 v e => ?_)))
            cases e
            have e3 : v3 = s.1 40 8 := e3
            subst e3
            rw [m7]
            refine zpc_if (fun _ => zpc_if (fun _ => zpc_if (fun z => absurd z np) (fun _ => zpc_ck (zpc_ck (zpc_bv (fun s2 f2 => zpc_ck (zpc_bv (fun s3 f3 => zpc_ck (zpc_some ?_)))))))) (fun z => absurd y0 z)) (fun z => absurd y0 z)
            rw [z_ofC (by omega)] at f2
            show s3 = _
            rw [f3, f2]
            rfl
          · rw [q, q']
            have ev : t2.1 3 (89 + (s.1 40 8).toNatClampNeg) = s.1 40 (s.1 40 8 - 1).toNatClampNeg := by
              have z := hv2.sj (j := (s.1 40 8 - 1).toNatClampNeg) (by omega)
              rw [← z, show 90 + (s.1 40 8 - 1).toNatClampNeg = 89 + (s.1 40 8).toNatClampNeg by omega]
            rw [ev]
            exact h2.stp ((hv2.w40 (j := p) (by omega)).w408 ⟨by omega, by omega⟩) (zQ.wi (zQ.wi zQ.rf rfl) rfl) (zQ.wi (zQ.wi zQ.rf (zcv_m (a := 89) (b := 97) (by decide) (by omega) (by omega))) rfl)
        · unfold fX12_stop_101 fX12_stop_168
          refine zp2_ifr (fun z => absurd z y0) (fun _ => zp2_ifr (fun z => absurd z (by decide)) (fun _ => zp2_ifr (fun z => absurd z y0) (fun _ => zp2_ckr ?_)))
          refine zp2_bil (P := fun r => r.1 = s) ?_ (fun s1 v e => zp2_some ?_)
          · unfold fX1_changeStop fX1_changeStop_50 fX1_changeStop_87
            refine zpc_ck (zpc_bv (fun v3 e3 => zpc_bi pl (fun s1 v e => ?_)))
            cases e
            exact zpc_if (fun z => absurd z y0) (fun _ => zpc_if (fun _ => zpc_if (fun z => absurd z y0) (fun _ => zpc_ck (zpc_some rfl))) (fun z => absurd (z_nlt np) z))
          · have e : s1 = s := e
            rw [e]
            exact h2
      refine zp2_ifl (fun _ => ?_) (fun z => absurd lt z)
      exact zp2_ifr (fun _ => n56) (fun _ => zp2_ifr (fun z => absurd z (by decide)) (fun _ => n56))
  · have hn := z_nin w (a := 0) (b := 65535) rfl rfl
    refine zp2_ifr (fun _ => zp2_fails1 (fun t1 e1 => ?_)) (fun q => absurd rfl q)
    refine zp2_ifr (fun q => absurd q (by decide)) (fun _ => ?_)
    have c0 : (0 : Int32).toInt = 0 := rfl
    have c1 : (65535 : Int32).toInt = 65535 := rfl
    have fin : zp2 (some (Sum.inr (s, 1) : zRi)) (some (t1, (0 : Int32))) (fun r r' => zNow B (zRis r) r'.1) := zp2_some (by rw [e1]; exact h.th)
    refine zp2_ifl (fun _ => fin) (fun q => zp2_ifl (fun q1 => ?_) (fun _ => fin))
    have r1 := Int32.le_iff_toInt_le.mp (z_nlt q)
    have r2 := Int32.le_iff_toInt_le.mp q1
    exfalso; omega
end ZSP
