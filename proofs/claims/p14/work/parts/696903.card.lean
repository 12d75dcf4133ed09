/-! what a cartridge's bytes say: the header's place, the paging -/
def zHm (b : Nat → Int32) (p : Nat) : Prop := ∀ i, i < 8 → b (p + i) = zt0 i
def zHp (z : Int32) (b : Nat → Int32) (p : Nat) : Prop := (p : Int) + 16 ≤ z.toInt ∧ zHm b p
/-- h is the place that both sides find -/
def zIsH (z : Int32) (b : Nat → Int32) (h : Int32) : Prop := (zHp z b 32752 ∧ h = 32752) ∨ (¬ zHp z b 32752 ∧ zHp z b 16368 ∧ h = 16368) ∨ (¬ zHp z b 32752 ∧ ¬ zHp z b 16368 ∧ zHp z b 8176 ∧ h = 8176) ∨ (¬ zHp z b 32752 ∧ ¬ zHp z b 16368 ∧ ¬ zHp z b 8176 ∧ h = -1)
theorem zIsH.one {z : Int32} {b : Nat → Int32} {h h' : Int32} (a : zIsH z b h) (c : zIsH z b h') : h = h' := by
  rcases a with ⟨a1, e⟩ | ⟨a1, a2, e⟩ | ⟨a1, a2, a3, e⟩ | ⟨a1, a2, a3, e⟩ <;> rcases c with ⟨c1, f⟩ | ⟨c1, c2, f⟩ | ⟨c1, c2, c3, f⟩ | ⟨c1, c2, c3, f⟩ <;> first | exact e.trans f.symm | exact absurd a1 c1 | exact absurd c1 a1 | exact absurd a2 c2 | exact absurd c2 a2 | exact absurd a3 c3 | exact absurd c3 a3
theorem zHp.cong {z : Int32} {b b' : Nat → Int32} {p : Nat} (e : ∀ j : Nat, (j : Int) < z.toInt → b j = b' j) (h : zHp z b p) : zHp z b' p := ⟨h.1, fun i hi => by rw [← e (p + i) (by have := h.1; omega)]; exact h.2 i hi⟩
theorem zHp_cong {z : Int32} {b b' : Nat → Int32} {p : Nat} (e : ∀ j : Nat, (j : Int) < z.toInt → b j = b' j) : zHp z b p ↔ zHp z b' p := ⟨zHp.cong e, zHp.cong (fun j hj => (e j hj).symm)⟩
theorem zIsH.cong {z : Int32} {b b' : Nat → Int32} {h : Int32} (e : ∀ j : Nat, (j : Int) < z.toInt → b j = b' j) (a : zIsH z b h) : zIsH z b' h := by
  unfold zIsH at a ⊢
  rw [← zHp_cong (p := 32752) e, ← zHp_cong (p := 16368) e, ← zHp_cong (p := 8176) e]
  exact a
def zWd (b : Nat → Int32) (p : Nat) : Int32 := b p + 256 * b (p + 1)
def zIsP (z : Int32) (b : Nat → Int32) (h v : Int32) : Prop := (¬ 49152 < z ∧ v = 0) ∨ (49152 < z ∧ zWd b 32742 + zWd b 32744 = 65536 ∧ v = 2) ∨ (49152 < z ∧ ¬ zWd b 32742 + zWd b 32744 = 65536 ∧ 0 ≤ h ∧ v = 1) ∨ (49152 < z ∧ ¬ zWd b 32742 + zWd b 32744 = 65536 ∧ ¬ 0 ≤ h ∧ v = 3)
theorem zIsP.one {z : Int32} {b : Nat → Int32} {h v v' : Int32} (a : zIsP z b h v) (c : zIsP z b h v') : v = v' := by
  rcases a with ⟨a1, e⟩ | ⟨a1, a2, e⟩ | ⟨a1, a2, a3, e⟩ | ⟨a1, a2, a3, e⟩ <;> rcases c with ⟨c1, f⟩ | ⟨c1, c2, f⟩ | ⟨c1, c2, c3, f⟩ | ⟨c1, c2, c3, f⟩ <;> first | exact e.trans f.symm | exact absurd a1 c1 | exact absurd c1 a1 | exact absurd a2 c2 | exact absurd c2 a2 | exact absurd a3 c3 | exact absurd c3 a3
theorem zIsP.cong {z : Int32} {b b' : Nat → Int32} {h v : Int32} (e : ∀ j : Nat, (j : Int) < z.toInt → b j = b' j) (a : zIsP z b h v) : zIsP z b' h v := by
  by_cases q : 49152 < z
  · have q1 := Int32.lt_iff_toInt_lt.mp q
    have c : (49152 : Int32).toInt = 49152 := rfl
    unfold zIsP zWd at a ⊢
    rw [← e 32742 (by omega), ← e (32742 + 1) (by omega), ← e 32744 (by omega), ← e (32744 + 1) (by omega)]
    exact a
  · rcases a with ⟨a1, e⟩ | ⟨a1, _⟩ | ⟨a1, _⟩ | ⟨a1, _⟩
    · exact Or.inl ⟨a1, e⟩
    · exact absurd a1 q
    · exact absurd a1 q
    · exact absurd a1 q
/-! the class: bytes of the cartridge -/
def zCb (σ : zSt) (j : Nat) : Int32 := σ.1 (ztp (σ.1 1 1)) ((σ.1 1 3).toNatClampNeg + j)
theorem p_romByte {σ : zSt} {x : Int32} (h0 : 0 ≤ x.toInt) (h1 : x.toInt < (σ.1 1 4).toInt) (hb : zr 0 512 (σ.1 1 3)) (hz : (σ.1 1 4).toInt ≤ 262144) : zpc (fX2_romByte σ x) (fun r => r.1 = σ ∧ r.2 = zCb σ x.toNatClampNeg) := by
  unfold fX2_romByte fX2_romByte_26 fX2_romByte_29
  have c0 : (0 : Int32).toInt = 0 := rfl
  refine zpc_if (fun q => ?_) (fun _ => zpc_if (fun q => ?_) (fun _ => zpc_ck (zpc_some ⟨rfl, ?_⟩)))
  · have := Int32.lt_iff_toInt_lt.mp q; exfalso; omega
  · have := Int32.le_iff_toInt_le.mp q
    have : (zgi σ 1 4).toInt = (σ.1 1 4).toInt := rfl
    exfalso
    omega
  · have t : (σ.1 1 3 + x).toInt = (σ.1 1 3).toInt + x.toInt := z_tadd (c := 0) (d := 262144) hb ⟨h0, by omega⟩ (by decide)
    have b1 := hb.1
    have k := z_clamp (x := σ.1 1 3 + x) (by omega)
    have k1 := z_clamp (x := σ.1 1 3) b1
    have k2 := z_clamp (x := x) h0
    show σ.1 (ztp (σ.1 1 1)) (σ.1 1 3 + x).toNatClampNeg = σ.1 (ztp (σ.1 1 1)) ((σ.1 1 3).toNatClampNeg + x.toNatClampNeg)
    rw [show (σ.1 1 3 + x).toNatClampNeg = (σ.1 1 3).toNatClampNeg + x.toNatClampNeg by omega]
section ZCARD
variable {σ : zSt}
theorem p_head_41 {k9 : zSt → Int32 → Int32 → Option (zSt × Int32)} {x2 x3 x4 : Int32} {Q : zSt × Int32 → Prop} (hb : zr 0 512 (σ.1 1 3)) (hz : zr 0 262144 (σ.1 1 4)) (h4 : 0 ≤ x4.toInt) (h5 : x4.toInt + 16 ≤ (σ.1 1 4).toInt) (yes : zHm (zCb σ) x4.toNatClampNeg → Q (σ, x4)) (no : ¬ zHm (zCb σ) x4.toNatClampNeg → zpc (k9 σ x2 (x3 + 1)) Q) : ∀ (n : Nat) (x5 x6 : Int32), zr 0 8 x6 → ((x5 = 1 ∧ ∀ i : Nat, (i : Int) < x6.toInt → zCb σ (x4.toNatClampNeg + i) = zt0 i) ∨ (x5 = 0 ∧ ¬ zHm (zCb σ) x4.toNatClampNeg)) → zpc (fX2_findHeader_41 k9 n σ x2 x3 x4 x5 x6) Q := by
  intro n
  induction n with
  | zero => intro x5 x6 _ _; exact zpc_none
  | succ n ih =>
    intro x5 x6 h6 hI
    show zpc (fX2_findHeader_41_body k9 (fX2_findHeader_41 k9 n) σ x2 x3 x4 x5 x6) _
    unfold fX2_findHeader_41_body
    have c8 : (8 : Int32).toInt = 8 := rfl
    have b6 := h6.1
    have b62 := h6.2
    have hz2 := hz.2
    have k4 := z_clamp h4
    have k6 := z_clamp b6
    have out : ((x5 = 1 ∧ zHm (zCb σ) x4.toNatClampNeg) ∨ (x5 = 0 ∧ ¬ zHm (zCb σ) x4.toNatClampNeg)) → zpc (fX2_findHeader_84 k9 σ x2 x3 x4 x5) Q := fun a => by
      unfold fX2_findHeader_84
      refine zpc_if (fun q => ?_) (fun q => ?_)
      · rcases a with ⟨a1, _⟩ | ⟨_, a2⟩
        · rw [a1] at q; exact absurd q (by decide)
        · exact zpc_bv (fun v e => by subst e; exact no a2)
      · rcases a with ⟨_, a2⟩ | ⟨a1, _⟩
        · exact zpc_some (yes a2)
        · exact absurd a1 q
    refine zpc_if (fun q => ?_) (fun q => zpc_if (fun q1 => ?_) (fun q1 => ?_))
    · have q2 := Int32.le_iff_toInt_le.mp q
      rcases hI with ⟨a1, a2⟩ | a
      · exact out (Or.inl ⟨a1, fun i hi => a2 i (by omega)⟩)
      · exact out (Or.inr a)
    · rcases hI with ⟨a1, _⟩ | a
      · rw [a1] at q1; exact absurd q1 (by decide)
      · exact out (Or.inr a)
    · have q2 := Int32.lt_iff_toInt_lt.mp (z_nle q)
      rcases hI with ⟨a1, a2⟩ | a
      · have t : (x4 + x6).toInt = x4.toInt + x6.toInt := z_tadd (a := 0) (b := 262144) (c := 0) (d := 8) ⟨h4, by omega⟩ h6 (by decide)
        have ks := z_clamp (x := x4 + x6) (by omega)
        refine zpc_bi (p_romByte (x := x4 + x6) (by omega) (by omega) hb hz2) (fun σ1 v4 p => ?_)
        obtain ⟨p1, p2⟩ := p
        have p1 : σ1 = σ := p1
        have p2 : v4 = zCb σ (x4 + x6).toNatClampNeg := p2
        subst p1
        rw [show (x4 + x6).toNatClampNeg = x4.toNatClampNeg + x6.toNatClampNeg by omega] at p2
        have c1 : (1 : Int32).toInt = 1 := rfl
        have t6 : (x6 + 1).toInt = x6.toInt + (1 : Int32).toInt := z_tadd h6 (zr_c (lo := 1) (hi := 1) (by decide)) (by decide)
        unfold fX2_findHeader_76
        refine zpc_ck (zpc_if (fun r => zpc_bv (fun v e => ?_)) (fun r => zpc_bv (fun v e => ?_)))
        · subst e
          refine ih 1 (x6 + 1) ⟨by omega, by omega⟩ (Or.inl ⟨rfl, fun i hi => ?_⟩)
          by_cases qi : i = x6.toNatClampNeg
          · rw [qi, ← p2]; exact r
          · exact a2 i (by omega)
        · subst e
          refine ih 0 (x6 + 1) ⟨by omega, by omega⟩ (Or.inr ⟨rfl, fun m => r ?_⟩)
          rw [p2]
          exact m _ (by omega)
      · exact absurd a.1 q1
theorem p_head_9 {x3 : Int32} {Q : zSt × Int32 → Prop} (hb : zr 0 512 (σ.1 1 3)) (hz : zr 0 262144 (σ.1 1 4)) {i : Nat} (h3 : x3 = Int32.ofNat i) (hi : i < 3) {n : Nat} (yes : zHp (σ.1 1 4) (zCb σ) (zt1 i).toNatClampNeg → Q (σ, zt1 i)) (no : ¬ zHp (σ.1 1 4) (zCb σ) (zt1 i).toNatClampNeg → zpc (fX2_findHeader_9 n σ 3 (x3 + 1)) Q) : zpc (fX2_findHeader_9 (n + 1) σ 3 x3) Q := by
  show zpc (fX2_findHeader_9_body (fX2_findHeader_9 n) σ 3 x3) _
  unfold fX2_findHeader_9_body fX2_findHeader_36
  have l3 : ∀ i : Fin 3, ¬ (3 : Int32) ≤ Int32.ofNat i.val ∧ (Int32.ofNat i.val).toNatClampNeg = i.val ∧ 0 ≤ (zt1 i.val).toInt ∧ (zt1 i.val).toInt ≤ 32752 := by decide +kernel
  obtain ⟨l1, l2, l4, l5⟩ := l3 ⟨i, hi⟩
  have l1 : ¬ (3 : Int32) ≤ x3 := by rw [h3]; exact l1
  have l2 : x3.toNatClampNeg = i := by rw [h3]; exact l2
  have l4 : 0 ≤ (zt1 i).toInt := l4
  have l5 : (zt1 i).toInt ≤ 32752 := l5
  refine zpc_if (fun q => absurd q l1) (fun _ => zpc_ck (zpc_bv (fun v5 e5 => ?_)))
  rw [l2] at e5
  subst e5
  have c6 : (16 : Int32).toInt = 16 := rfl
  have t : (zt1 i + 16).toInt = (zt1 i).toInt + (16 : Int32).toInt := z_tadd (a := 0) (b := 32752) ⟨l4, l5⟩ (zr_c (lo := 16) (hi := 16) (by decide)) (by decide)
  have k := z_clamp l4
  refine zpc_if (fun q => ?_) (fun q => ?_)
  · have q1 := Int32.lt_iff_toInt_lt.mp q
    have g : (zgi σ 1 4).toInt = (σ.1 1 4).toInt := rfl
    have nh : ¬ zHp (σ.1 1 4) (zCb σ) (zt1 i).toNatClampNeg := fun r => by have := r.1; omega
    -- the places are too far: 0 at once
    obtain ⟨m, hm⟩ : ∃ m, zfuel = m + 1 := ⟨1999999, rfl⟩
    rw [hm]
    show zpc (fX2_findHeader_41_body (fX2_findHeader_9 n) (fX2_findHeader_41 (fX2_findHeader_9 n) m) σ 3 x3 (zt1 i) 0 0) Q
    unfold fX2_findHeader_41_body fX2_findHeader_84
    refine zpc_if (fun r => absurd r (by decide)) (fun _ => zpc_if (fun _ => zpc_if (fun _ => zpc_bv (fun v e => ?_)) (fun r => absurd rfl r)) (fun r => absurd rfl r))
    subst e
    exact no nh
  · have q1 := Int32.le_iff_toInt_le.mp (z_nlt q)
    have g : (zgi σ 1 4).toInt = (σ.1 1 4).toInt := rfl
    refine p_head_41 hb hz l4 (by omega) (fun m => yes ⟨by omega, m⟩) (fun m => no (fun r => m r.2)) zfuel 1 0 (zr_c (by decide)) (Or.inl ⟨rfl, fun i hi => ?_⟩)
    have : (0 : Int32).toInt = 0 := rfl
    exfalso
    omega
theorem p_header (hb : zr 0 512 (σ.1 1 3)) (hz : zr 0 262144 (σ.1 1 4)) : zpc (fX2_findHeader σ ) (fun r => r.1 = σ ∧ zIsH (σ.1 1 4) (zCb σ) r.2) := by
  unfold fX2_findHeader
  obtain ⟨m, hm⟩ : ∃ m, zfuel = m + 1 + 1 + 1 + 1 := ⟨1999996, rfl⟩
  rw [hm]
  refine p_head_9 (i := 0) hb hz rfl (by decide) (fun y => ⟨rfl, Or.inl ⟨y, rfl⟩⟩) (fun n0 => ?_)
  refine p_head_9 (i := 1) hb hz (by decide) (by decide) (fun y => ⟨rfl, Or.inr (Or.inl ⟨n0, y, rfl⟩)⟩) (fun n1 => ?_)
  refine p_head_9 (i := 2) hb hz (by decide) (by decide) (fun y => ⟨rfl, Or.inr (Or.inr (Or.inl ⟨n0, n1, y, rfl⟩))⟩) (fun n2 => ?_)
  show zpc (fX2_findHeader_9_body (fX2_findHeader_9 m) σ 3 (0 + 1 + 1 + 1)) _
  unfold fX2_findHeader_9_body
  exact zpc_if (fun _ => zpc_some ⟨rfl, Or.inr (Or.inr (Or.inr ⟨n0, n1, n2, rfl⟩))⟩) (fun r => absurd (by decide) r)
theorem p_romWord {x : Int32} (h0 : 0 ≤ x.toInt) (h1 : x.toInt + 1 < (σ.1 1 4).toInt) (hb : zr 0 512 (σ.1 1 3)) (hz : zr 0 262144 (σ.1 1 4)) : zpc (fX2_romWord σ x) (fun r => r.1 = σ ∧ r.2 = zWd (zCb σ) x.toNatClampNeg) := by
  unfold fX2_romWord
  have hz2 := hz.2
  refine zpc_bi (p_romByte h0 (by omega) hb hz2) (fun σ1 v2 p => ?_)
  obtain ⟨p1, p2⟩ := p
  have p1 : σ1 = σ := p1
  subst p1
  have c1 : (1 : Int32).toInt = 1 := rfl
  have t : (x + 1).toInt = x.toInt + (1 : Int32).toInt := z_tadd (a := 0) (b := 262144) ⟨h0, by omega⟩ (zr_c (lo := 1) (hi := 1) (by decide)) (by decide)
  have k := z_clamp h0
  have k1 := z_clamp (x := x + 1) (by omega)
  refine zpc_bi (p_romByte (x := x + 1) (by omega) (by omega) hb hz2) (fun σ3 v4 p => ?_)
  obtain ⟨r1, r2⟩ := p
  have r1 : σ3 = σ1 := r1
  subst r1
  have p2 : v2 = zCb σ3 x.toNatClampNeg := p2
  have r2 : v4 = zCb σ3 (x + 1).toNatClampNeg := r2
  refine zpc_some ⟨rfl, ?_⟩
  show v2 + (256 * v4) = zCb σ3 x.toNatClampNeg + 256 * zCb σ3 (x.toNatClampNeg + 1)
  rw [p2, r2, show (x + 1).toNatClampNeg = x.toNatClampNeg + 1 by omega]
theorem p_paging (hb : zr 0 512 (σ.1 1 3)) (hz : zr 0 262144 (σ.1 1 4)) : zpc (fX2_findPaging σ ) (fun r => r.1 = σ ∧ zIsP (σ.1 1 4) (zCb σ) (σ.1 1 7) r.2) := by
  unfold fX2_findPaging fX2_findPaging_45
  refine zpc_if (fun q => ?_) (fun q => zpc_some ⟨rfl, Or.inl ⟨q, rfl⟩⟩)
  have q1 := Int32.lt_iff_toInt_lt.mp q
  have c : (49152 : Int32).toInt = 49152 := rfl
  have g : (zgi σ 1 4).toInt = (σ.1 1 4).toInt := rfl
  have c1 : (32742 : Int32).toInt = 32742 := rfl
  have c2 : (32744 : Int32).toInt = 32744 := rfl
  refine zpc_bi (p_romWord (x := 32742) (by omega) (by omega) hb hz) (fun σ1 v2 p => ?_)
  obtain ⟨p1, p2⟩ := p
  have p1 : σ1 = σ := p1
  subst p1
  refine zpc_bi (p_romWord (x := 32744) (by omega) (by omega) hb hz) (fun σ3 v4 p => ?_)
  obtain ⟨r1, r2⟩ := p
  have r1 : σ3 = σ1 := r1
  subst r1
  have p2 : v2 = zWd (zCb σ3) 32742 := p2
  have r2 : v4 = zWd (zCb σ3) 32744 := r2
  rw [p2, r2]
  refine zpc_if (fun s => zpc_some ⟨rfl, Or.inr (Or.inl ⟨q, s, rfl⟩)⟩) (fun s => zpc_if (fun u => zpc_some ⟨rfl, Or.inr (Or.inr (Or.inl ⟨q, s, u, rfl⟩))⟩) (fun u => zpc_some ⟨rfl, Or.inr (Or.inr (Or.inr ⟨q, s, u, rfl⟩))⟩))
end ZCARD
