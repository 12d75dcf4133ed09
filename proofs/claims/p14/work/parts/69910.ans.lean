/-! ANSWERS of both sides, from states whose cells belong together -/
theorem zq_lt {x c : Int32} {a b k : Int} (h : zr a b x) (hc : c.toInt = k) (l : k ≤ a) : ¬ x < c := fun q => by
  have := Int32.lt_iff_toInt_lt.mp q; have := h.1; omega
theorem zq_ltt {x c : Int32} {a b k : Int} (h : zr a b x) (hc : c.toInt = k) (l : b < k) : x < c := Int32.lt_iff_toInt_lt.mpr (by have := h.2; omega)
theorem zq_le {x c : Int32} {a b k : Int} (h : zr a b x) (hc : c.toInt = k) (l : b ≤ k) : x ≤ c := Int32.le_iff_toInt_le.mpr (by have := h.2; omega)
theorem zq_lef {x c : Int32} {a b k : Int} (h : zr a b x) (hc : c.toInt = k) (l : k < a) : ¬ x ≤ c := fun q => by
  have := Int32.le_iff_toInt_le.mp q; have := h.1; omega
theorem zq_ge {x c : Int32} {a b k : Int} (h : zr a b x) (hc : c.toInt = k) (l : k ≤ a) : c ≤ x := Int32.le_iff_toInt_le.mpr (by have := h.1; omega)
theorem zq_gef {x c : Int32} {a b k : Int} (h : zr a b x) (hc : c.toInt = k) (l : b < k) : ¬ c ≤ x := fun q => by
  have := Int32.le_iff_toInt_le.mp q; have := h.2; omega
theorem zq_ne {x c : Int32} {a b k : Int} (h : zr a b x) (hc : c.toInt = k) (l : k < a ∨ b < k) : ¬ x = c := fun q => by
  subst q; have := h.1; have := h.2; omega
theorem zr_lt {x c : Int32} {a b k : Int} (h : zr a b x) (hc : c.toInt = k) (q : x < c) : zr a (k - 1) x := ⟨h.1, by have := Int32.lt_iff_toInt_lt.mp q; omega⟩
theorem zr_nlt {x c : Int32} {a b k : Int} (h : zr a b x) (hc : c.toInt = k) (q : ¬ x < c) : zr k b x := ⟨by have := Int32.le_iff_toInt_le.mp (z_nlt q); omega, h.2⟩
theorem zr_le {x c : Int32} {a b k : Int} (h : zr a b x) (hc : c.toInt = k) (q : x ≤ c) : zr a k x := ⟨h.1, by have := Int32.le_iff_toInt_le.mp q; omega⟩
theorem zr_nle {x c : Int32} {a b k : Int} (h : zr a b x) (hc : c.toInt = k) (q : ¬ x ≤ c) : zr (k + 1) b x := ⟨by have := Int32.lt_iff_toInt_lt.mp (z_nle q); omega, h.2⟩
theorem zr_eqc {x c : Int32} {k : Int} (h : zr k k x) (hc : c.toInt = k) : x = c := Int32.toInt_inj.mp (by have := h.1; have := h.2; omega)
theorem z_nin {x : Int32} {a b : Int} {l h : Int64} (w : x.toInt64.toInt < l.toInt ∨ h.toInt < x.toInt64.toInt) (hl : l.toInt = a) (hh : h.toInt = b) : x.toInt < a ∨ b < x.toInt := by
  rw [Int32.toInt_toInt64, hl, hh] at w
  exact w
/-- a cell that lies behind another by a constant -/
theorem z_off {x c : Int32} {k : Nat} {a b : Int} (h : zr a b x) (hc : c.toInt = k) (l : 0 ≤ a ∧ b + k ≤ 2147483647) : (c + x).toNatClampNeg = k + x.toNatClampNeg := by
  have t := z_tadd (x := c) (y := x) (a := k) (b := k) ⟨by omega, by omega⟩ h ⟨by omega, by omega⟩
  have h1 := h.1
  have k1 := z_clamp (x := c + x) (by omega)
  have k2 := z_clamp (x := x) (by omega)
  omega
def zAns (K : Nat) (r : zRi) (b : zSt × Int32) : Prop := (∃ s, r = Sum.inr (s, K) ∧ zTh 1 b.1) ∨ (∃ s, r = Sum.inl (s, b.2) ∧ zTh 0 b.1)
def zAnl (K : Nat) (r : zRl) (b : zSt × Int64) : Prop := (∃ s, r = Sum.inr (s, K) ∧ zTh 1 b.1) ∨ (∃ s, r = Sum.inl (s, b.2) ∧ zTh 0 b.1)
def zCv (a : zHs × Int32) (b : zSt × Int32) : Prop := zgi b.1 0 0 = a.2 ∧ (a.2 = 0 → (a.1.1 0).toInt = b.2.toInt)
def zCl (a : zHs × Int32) (b : zSt × Int64) : Prop := zgi b.1 0 0 = a.2 ∧ (a.2 = 0 → (a.1.1 0).toInt = b.2.toInt)
theorem zAns.h {K : Nat} {o : Nat → Int64} {q : Option zRi} {p : Option (zSt × Int32)} (h : zp2 q p (zAns K)) : zp2 (zbr q (zhi o (zh1 K))) p zCv := by
  intro a c ea ec
  cases e : q with
  | none => rw [e] at ea; cases ea
  | some r =>
    have i := h r c e ec
    rw [e] at ea
    have ea : zhi o (zh1 K) r = some a := ea
    rcases i with ⟨s, e1, t⟩ | ⟨s, e1, t⟩
    · subst e1
      have ea : (if K = K then some ((o, s), (1 : Int32)) else none) = some a := ea
      rw [if_pos rfl] at ea
      cases ea
      exact ⟨t, fun z => absurd (show (1 : Int32) = 0 from z) (by decide)⟩
    · subst e1
      have ea : some ((vp_updL o 0 c.2.toInt64, s), (0 : Int32)) = some a := ea
      cases ea
      refine ⟨t, fun _ => ?_⟩
      show (if (0 : Nat) = 0 then c.2.toInt64 else o 0).toInt = _
      rw [if_pos rfl, Int32.toInt_toInt64]
theorem zAnl.h {K : Nat} {o : Nat → Int64} {q : Option zRl} {p : Option (zSt × Int64)} (h : zp2 q p (zAnl K)) : zp2 (zbr q (zhl o (zh1 K))) p zCl := by
  intro a c ea ec
  cases e : q with
  | none => rw [e] at ea; cases ea
  | some r =>
    have i := h r c e ec
    rw [e] at ea
    have ea : zhl o (zh1 K) r = some a := ea
    rcases i with ⟨s, e1, t⟩ | ⟨s, e1, t⟩
    · subst e1
      have ea : (if K = K then some ((o, s), (1 : Int32)) else none) = some a := ea
      rw [if_pos rfl] at ea
      cases ea
      exact ⟨t, fun z => absurd (show (1 : Int32) = 0 from z) (by decide)⟩
    · subst e1
      have ea : some ((vp_updL o 0 c.2, s), (0 : Int32)) = some a := ea
      cases ea
      exact ⟨t, fun _ => rfl⟩
/-! cells that belong together -/
def zRk (σ μ : zSt) : Prop := zr 0 2 (μ.1 0 3) ∧ σ.1 0 0 = (if μ.1 0 3 = 2 then 1 else 0) ∧ σ.1 2 0 = (if μ.1 0 3 = 2 then 1 else 0) ∧ σ.1 3 1 = (if μ.1 0 3 = 2 then 1 else 0) ∧ σ.1 6 0 = (if μ.1 0 3 = 2 then 1 else 0) ∧ σ.1 2 1 = (if μ.1 0 3 = 1 then 313 else 262)
def zRp (σ μ : zSt) : Prop := σ.1 34 0 = μ.1 3 33 ∧ (∀ j : Nat, 1 ≤ j → j ≤ 5 → σ.1 34 j = μ.1 3 (36 + j)) ∧ σ.1 34 6 = μ.1 3 35 ∧ (∀ j : Nat, j ≤ 4 → σ.1 34 (7 + j) = μ.1 3 (42 + j)) ∧ zr 0 255 (μ.1 3 33) ∧ (∀ j : Nat, j ≤ 1 → zr 0 63 (μ.1 3 (42 + j))) ∧ (∀ j : Nat, j ≤ 2 → zr 0 1 (μ.1 3 (44 + j)))
def zRv (σ μ : zSt) : Prop := (∀ j : Nat, j ≤ 16 → σ.1 23 j = μ.1 3 (47 + j)) ∧ (∀ j : Nat, j ≤ 3 → σ.1 23 (18 + j) = μ.1 3 (64 + j)) ∧ σ.1 23 26 = μ.1 3 68 ∧ (∀ j : Nat, j < 64 → σ.1 23 (32 + j) = μ.1 8 j &&& 255) ∧ (∀ j : Nat, j < 16384 → σ.1 21 j = μ.1 7 j &&& 255) ∧ (∀ j : Nat, j ≤ 10 → zr 0 255 (μ.1 3 (47 + j))) ∧ zr 0 255 (μ.1 3 62) ∧ zr 0 312 (μ.1 3 66) ∧ zr 0 227 (μ.1 3 67)
def zRs (σ μ : zSt) : Prop := (∀ j : Nat, j ≤ 17 → σ.1 30 j = μ.1 3 (69 + j)) ∧ σ.1 30 18 = μ.1 3 34
def zRw (σ μ : zSt) : Prop := (∀ j : Nat, j < 64 → σ.1 32 j = μ.1 3 (98 + j)) ∧ σ.1 32 68 = μ.1 3 162 ∧ σ.1 32 64 = μ.1 3 163 ∧ σ.1 32 65 = μ.1 3 164 ∧ σ.1 32 67 = μ.1 3 165 ∧ (σ.1 32 66).toInt = (μ.2 4 4).toInt ∧ 0 ≤ (μ.2 4 4).toInt ∧ (∀ q r : Nat, q < 18 → r < 6 → σ.1 32 (128 + 8 * q + r) = μ.1 3 (172 + 6 * q + r))
def zRg (o v a b w : Nat) (σ μ : zSt) : Prop := σ.1 o 2 = μ.1 3 a ∧ σ.1 o 3 = μ.1 3 b ∧ (∀ j : Nat, j < 4096 → σ.2 v j = μ.2 w j) ∧ zr 0 4095 (μ.1 3 a) ∧ zr 0 4096 (μ.1 3 b)
def zRc (σ μ : zSt) : Prop := (∀ j : Nat, j < 4 → σ.2 38 j = μ.2 4 j) ∧ (∀ j : Nat, j < 3 → (σ.2 38 (4 + j)).toInt = (μ.1 3 (166 + j)).toInt) ∧ zRg 11 46 88 87 10 σ μ ∧ zRg 12 48 170 169 11 σ μ
def zRt (σ μ : zSt) : Prop := 0 ≤ (μ.2 0 30).toInt ∧ (μ.2 0 30).toInt ≤ 1000000000000 ∧ (σ.1 9 5).toInt = (μ.2 0 30).toInt % 32 ∧ (∀ j : Nat, j < 32 → ((j : Int) < (μ.2 0 30).toInt → σ.1 44 j = μ.1 21 j) ∧ ((μ.2 0 30).toInt ≤ (j : Int) → σ.1 44 j = -1))
section ZANS
variable {σ μ : zSt} {o : Nat → Int64}
theorem v_register (h : zCp σ μ) {x : Int32} : zp2 (fX11_register σ x) (fX12_register μ x) (zAns 1) := by
  unfold fX11_register fX12_register fX11_register_10 fX12_register_18 fX12_register_35
  refine zp2_within (fun w1 w2 => ?_) (fun w => ?_)
  · have hx := z_wir w1 w2 (zrl_c (lo := 0) (hi := 0) (by decide)) (zrl_c (lo := 26) (hi := 26) (by decide))
    refine zp2_ifr (fun q => absurd q (by decide)) (fun _ => zp2_fails0 (fun μ1 e1 => ?_))
    refine zp2_ifr (fun _ => zp2_ckr ?_) (fun q => absurd rfl q)
    refine zp2_ifl (fun q => absurd q (zq_lt hx rfl (by decide))) (fun _ => zp2_ifl (fun _ => ?_) (fun q => absurd (zq_le hx rfl (by decide)) q))
    refine zp2_bil (P := fun r => r.1 = σ ∧ r.2 = σ.1 36 x.toNatClampNeg) ?_ (fun σ1 v q => ?_)
    · unfold fX5_value fX5_value_19 fX5_value_20
      exact zpc_if (fun q => absurd q (zq_lt hx rfl (by decide))) (fun _ => zpc_if (fun q => absurd q (zq_gef hx rfl (by decide))) (fun _ => zpc_ck (zpc_some ⟨rfl, rfl⟩)))
    · obtain ⟨q1, q2⟩ := q
      have q2 : v = σ.1 36 x.toNatClampNeg := q2
      refine zp2_some (Or.inr ⟨σ1, ?_, by rw [e1]; exact zTh_own⟩)
      have kx := z_clamp hx.1
      have h2 := hx.2
      rw [q2, h.1 _ (by omega), e1]
      show _ = Sum.inl (σ1, (zsi μ 0 0 0).1 3 x.toNatClampNeg)
      rw [zsi_ne (by decide)]
  · have hn := z_nin w (a := 0) (b := 26) rfl rfl
    refine zp2_ifr (fun _ => zp2_fails1 (fun μ1 e1 => ?_)) (fun q => absurd rfl q)
    refine zp2_ifr (fun q => absurd q (by decide)) (fun _ => ?_)
    have c26 : (26 : Int32).toInt = 26 := rfl
    have c0 : (0 : Int32).toInt = 0 := rfl
    refine zp2_ifl (fun _ => zp2_some (Or.inl ⟨σ, rfl, by rw [e1]; exact zTh_own⟩)) (fun q => zp2_ifl (fun q1 => ?_) (fun _ => zp2_some (Or.inl ⟨σ, rfl, by rw [e1]; exact zTh_own⟩)))
    have r1 := Int32.le_iff_toInt_le.mp (z_nlt q)
    have r2 := Int32.le_iff_toInt_le.mp q1
    exfalso; omega
theorem v_sound (h : zRs σ μ) {x : Int32} : zp2 (fX11_sound σ x) (fX12_sound μ x) (zAns 1) := by
  unfold fX11_sound fX12_sound fX11_sound_10 fX12_sound_18 fX12_sound_52
  refine zp2_within (fun w1 w2 => ?_) (fun w => ?_)
  · have hx := z_wir w1 w2 (zrl_c (lo := 0) (hi := 0) (by decide)) (zrl_c (lo := 18) (hi := 18) (by decide))
    refine zp2_ifr (fun q => absurd q (by decide)) (fun _ => zp2_fails0 (fun μ1 e1 => ?_))
    have t1 : zTh 0 μ1 := by rw [e1]; exact zTh_own
    have m3 : μ1.1 3 = μ.1 3 := by rw [e1]; exact zsi_ne (by decide)
    refine zp2_ifr (fun _ => ?_) (fun q => absurd rfl q)
    refine zp2_ifl (fun q => absurd q (zq_lt hx rfl (by decide))) (fun _ => zp2_ifl (fun _ => ?_) (fun q => absurd (zq_le hx rfl (by decide)) q))
    refine zp2_bil (P := fun r => r.1 = σ ∧ r.2 = σ.1 30 x.toNatClampNeg) ?_ (fun σ1 v q => ?_)
    · unfold fX7_value fX7_value_19 fX7_value_20
      exact zpc_if (fun q => absurd q (zq_lt hx rfl (by decide))) (fun _ => zpc_if (fun q => absurd q (zq_gef hx rfl (by decide))) (fun _ => zpc_ck (zpc_some ⟨rfl, rfl⟩)))
    · obtain ⟨q1, q2⟩ := q
      have q2 : v = σ.1 30 x.toNatClampNeg := q2
      have kx := z_clamp hx.1
      have h2 := hx.2
      refine zp2_ifr (fun e => zp2_ckr (zp2_some (Or.inr ⟨σ1, ?_, t1⟩))) (fun e => zp2_ckr (zp2_some (Or.inr ⟨σ1, ?_, t1⟩)))
      · subst e
        rw [q2]
        show Sum.inl (σ1, σ.1 30 18) = Sum.inl (σ1, μ1.1 3 34)
        rw [m3, h.2]
      · have ne : ¬ x.toInt = 18 := fun r => e (Int32.toInt_inj.mp r)
        rw [q2]
        show Sum.inl (σ1, σ.1 30 x.toNatClampNeg) = Sum.inl (σ1, μ1.1 3 (69 + x).toNatClampNeg)
        rw [m3, z_off hx (k := 69) rfl (by decide), h.1 _ (by omega)]
  · have hn := z_nin w (a := 0) (b := 18) rfl rfl
    refine zp2_ifr (fun _ => zp2_fails1 (fun μ1 e1 => ?_)) (fun q => absurd rfl q)
    refine zp2_ifr (fun q => absurd q (by decide)) (fun _ => ?_)
    have c18 : (18 : Int32).toInt = 18 := rfl
    have c0 : (0 : Int32).toInt = 0 := rfl
    refine zp2_ifl (fun _ => zp2_some (Or.inl ⟨σ, rfl, by rw [e1]; exact zTh_own⟩)) (fun q => zp2_ifl (fun q1 => ?_) (fun _ => zp2_some (Or.inl ⟨σ, rfl, by rw [e1]; exact zTh_own⟩)))
    have r1 := Int32.le_iff_toInt_le.mp (z_nlt q)
    have r2 := Int32.le_iff_toInt_le.mp q1
    exfalso; omega
theorem v_battery (h : zMe σ μ) {x : Int32} : zp2 (fX11_battery σ x) (fX12_battery μ x) (zAns 3) := by
  unfold fX11_battery fX12_battery fX11_battery_11 fX12_battery_18 fX12_battery_39
  refine zp2_within (fun w1 w2 => ?_) (fun w => ?_)
  · have hx := z_wir w1 w2 (zrl_c (lo := 0) (hi := 0) (by decide)) (zrl_c (lo := 32767) (hi := 32767) (by decide))
    refine zp2_ifr (fun q => absurd q (by decide)) (fun _ => zp2_fails0 (fun μ1 e1 => ?_))
    have t1 : zTh 0 μ1 := by rw [e1]; exact zTh_own
    have m6 : μ1.1 6 = μ.1 6 := by rw [e1]; exact zsi_ne (by decide)
    refine zp2_ifr (fun _ => zp2_ckr ?_) (fun q => absurd rfl q)
    refine zp2_ifl (fun q => absurd q (zq_lt hx rfl (by decide))) (fun _ => zp2_ifl (fun _ => ?_) (fun q => absurd (zq_ltt hx rfl (by decide)) q))
    refine zp2_bil (P := fun r => r.1 = σ ∧ r.2 = σ.1 17 x.toNatClampNeg) ?_ (fun σ1 v q => ?_)
    · unfold fX2_batteryByte
      have e : x &&& 32767 = x := Int32.toInt_inj.mp (by rw [z_mask (k := 15) hx.1 rfl (by decide)]; have := hx.1; have := hx.2; show x.toInt % 32768 = _; omega)
      rw [e]
      exact zpc_ck (zpc_some ⟨rfl, rfl⟩)
    · obtain ⟨q1, q2⟩ := q
      have q2 : v = σ.1 17 x.toNatClampNeg := q2
      have kx := z_clamp hx.1
      have h2 := hx.2
      refine zp2_some (Or.inr ⟨σ1, ?_, t1⟩)
      rw [q2]
      show Sum.inl (σ1, σ.1 17 x.toNatClampNeg) = Sum.inl (σ1, μ1.1 6 x.toNatClampNeg &&& 255)
      rw [m6, h.2.1 _ (by omega)]
  · have hn := z_nin w (a := 0) (b := 32767) rfl rfl
    refine zp2_ifr (fun _ => zp2_fails1 (fun μ1 e1 => ?_)) (fun q => absurd rfl q)
    refine zp2_ifr (fun q => absurd q (by decide)) (fun _ => ?_)
    have c18 : (32768 : Int32).toInt = 32768 := rfl
    have c0 : (0 : Int32).toInt = 0 := rfl
    refine zp2_ifl (fun _ => zp2_some (Or.inl ⟨σ, rfl, by rw [e1]; exact zTh_own⟩)) (fun q => zp2_ifl (fun q1 => ?_) (fun _ => zp2_some (Or.inl ⟨σ, rfl, by rw [e1]; exact zTh_own⟩)))
    have r1 := Int32.le_iff_toInt_le.mp (z_nlt q)
    have r2 := Int32.lt_iff_toInt_lt.mp q1
    exfalso; omega
/-- peek: no throw on either side -/
theorem v_peek (h : zMe σ μ) (hr : zMr σ μ) {x : Int32} : zp2 (fX11_peek σ x) (fX12_peek μ x) (fun r r' => r.2 = r'.2) := by
  unfold fX11_peek fX12_peek
  refine zp2_bvr (fun μ1 e1 => ?_)
  have h1 : zMe σ μ1 := by
    obtain ⟨a1, a2, a3, a4, a5, a6⟩ := h
    have m : ∀ k, ¬ k = 0 → μ1.1 k = μ.1 k := fun k hk => by rw [e1]; exact zsi_ne hk
    have m0 : ∀ j, ¬ j = 0 → μ1.1 0 j = μ.1 0 j := fun j hj => by rw [e1]; exact zsi_nj hj
    refine ⟨fun j hj => by rw [m 5 (by decide)]; exact a1 j hj, fun j hj => by rw [m 6 (by decide)]; exact a2 j hj, fun j hj => by rw [m 3 (by decide)]; exact a3 j hj, by rw [m 3 (by decide)]; exact a4, a5.keep (fun _ _ => rfl) rfl (fun j hj => m0 j (fun r => by subst r; revert hj; decide)) (m 2 (by decide)), ?_⟩
    unfold zFil
    rw [m 2 (by decide), m0 5 (by decide), m0 6 (by decide)]
    exact a6
  have hr1 : zMr σ μ1 := by
    obtain ⟨b1, b2, b3, b4, b5, b6⟩ := hr
    have m : ∀ k, ¬ k = 0 → μ1.1 k = μ.1 k := fun k hk => by rw [e1]; exact zsi_ne hk
    have m0 : ∀ j, ¬ j = 0 → μ1.1 0 j = μ.1 0 j := fun j hj => by rw [e1]; exact zsi_nj hj
    exact ⟨b1, b2, by rw [m0 6 (by decide)]; exact b3, by rw [m0 7 (by decide)]; exact b4, by rw [m0 7 (by decide), m0 6 (by decide)]; exact b5, fun j j1 j2 => by rw [m 3 (by decide)]; exact b6 j j1 j2⟩
  rw [z_rdc]
  exact zp2_bii (z2_read h1 hr1) (fun _ _ _ _ q => zp2_some q.2.2)
end ZANS
