/-! THE PAINTER, 9: OLD MODES -/
/-- a dot: bits, pair of colours, place -/
def gDo (b p x : Int32) : Int32 := if (b >>> ((7 - x) &&& 31)) &&& 1 = 0 then p &&& 15 else p >>> ((4 : Int32) &&& 31)
theorem v_p4 : ∀ c : Fin 256, 0 ≤ (Int32.ofNat c.val >>> ((4 : Int32) &&& 31)).toInt ∧ (Int32.ofNat c.val >>> ((4 : Int32) &&& 31)).toInt ≤ 15 := by decide +kernel
theorem gDo_r {b p x : Int32} (hp : zr 0 255 p) : zr 0 15 (gDo b p x) := by
  unfold gDo
  by_cases q : (b >>> ((7 - x) &&& 31)) &&& 1 = 0
  · rw [if_pos q]; exact z_r15m _
  · rw [if_neg q]
    obtain ⟨c, e⟩ := z_byteF hp
    rw [e]
    exact v_p4 c
section ZT9
variable {σ μ s t : zSt}
/-- eight dots -/
theorem c_pat {b p : Int32} {c : Nat} {o : zSt} (hc : c < 32) : ∀ (n i : Nat) (s : zSt), i ≤ 8 → zdC σ s → s.1 25 = o.1 25 → s.1 23 = o.1 23 → (∀ j : Nat, 8 * c ≤ j → j < 8 * c + i → s.1 27 j = gDo b p (Int32.ofNat (j % 8))) → (∀ j : Nat, (j < 8 * c ∨ 8 * c + i ≤ j) → s.1 27 j = o.1 27 j) → zpc (fX3_drawPattern_3 n s (8 * Int32.ofNat c) b p (Int32.ofNat i)) (fun r => zdC σ r ∧ r.1 25 = o.1 25 ∧ r.1 23 = o.1 23 ∧ (∀ j : Nat, 8 * c ≤ j → j < 8 * c + 8 → r.1 27 j = gDo b p (Int32.ofNat (j % 8))) ∧ ∀ j : Nat, (j < 8 * c ∨ 8 * c + 8 ≤ j) → r.1 27 j = o.1 27 j) := by
  intro n
  induction n with
  | zero => intro i s _ _ _ _ _ _; exact zpc_none
  | succ n ih =>
    intro i s hi hd e25 e23 hin hout
    show zpc (fX3_drawPattern_3_body (fX3_drawPattern_3 n) s (8 * Int32.ofNat c) b p (Int32.ofNat i)) _
    unfold fX3_drawPattern_3_body fX3_drawPattern_57
    refine zpc_if (fun q => zpc_some ?_) (fun q => ?_)
    · have := (z_ofL (k := 8) (by omega) rfl).mp q
      exact ⟨hd, e25, e23, fun j h1 h2 => hin j h1 (by omega), fun j h1 => hout j (by omega)⟩
    have hi2 : i < 8 := by
      have : ¬ 8 ≤ i := fun z => q ((z_ofL (c := 8) (k := 8) (i := i) (by omega) rfl).mpr z)
      omega
    have r8 : zr 0 248 (8 * Int32.ofNat c) := zr_mul (zr_c (lo := 8) (hi := 8) (x := 8) (by decide)) (z_ofr (b := 31) (by omega) (by omega)) (by decide)
    have t8 : (8 * Int32.ofNat c).toInt = 8 * (Int32.ofNat c).toInt := z_tmul (zr_c (lo := 8) (hi := 8) (x := 8) (by decide)) (z_ofr (b := 31) (by omega) (by omega)) (by decide)
    rw [z_ofI (by omega)] at t8
    have ri : zr 0 7 (Int32.ofNat i) := z_ofr (by omega) (by omega)
    have ta : (8 * Int32.ofNat c + Int32.ofNat i).toInt = (8 * Int32.ofNat c).toInt + (Int32.ofNat i).toInt := z_tadd r8 ri (by decide)
    rw [t8, z_ofI (by omega)] at ta
    have ka := z_clamp (x := 8 * Int32.ofNat c + Int32.ofNat i) (by omega)
    have ia : (8 * Int32.ofNat c + Int32.ofNat i).toNatClampNeg = 8 * c + i := by omega
    have nl : ¬ 256 ≤ 8 * Int32.ofNat c + Int32.ofNat i := fun z => by
      have := Int32.le_iff_toInt_le.mp z
      rw [show (256 : Int32).toInt = 256 from rfl] at this
      omega
    have nx : ∀ v, v = gDo b p (Int32.ofNat i) → zpc (fX3_drawPattern_50 (fX3_drawPattern_3 n) s (8 * Int32.ofNat c) b p (Int32.ofNat i) v (8 * Int32.ofNat c + Int32.ofNat i)) (fun r => zdC σ r ∧ r.1 25 = o.1 25 ∧ r.1 23 = o.1 23 ∧ (∀ j : Nat, 8 * c ≤ j → j < 8 * c + 8 → r.1 27 j = gDo b p (Int32.ofNat (j % 8))) ∧ ∀ j : Nat, (j < 8 * c ∨ 8 * c + 8 ≤ j) → r.1 27 j = o.1 27 j) := fun v ev => by
      unfold fX3_drawPattern_50
      rw [ia, z_ofS (by omega)]
      refine zpc_ck (zpc_bv (fun s1 g1 => zpc_bv (fun x ex => ?_)))
      subst ex
      refine ih (i + 1) s1 (by omega) (by rw [g1]; exact zQ.wi hd rfl) (by rw [g1, zsi_ne (by decide)]; exact e25) (by rw [g1, zsi_ne (by decide)]; exact e23) (fun j h1 h2 => ?_) (fun j h1 => by rw [g1, zsi_nj (by omega)]; exact hout j (by omega))
      by_cases z : j = 8 * c + i
      · rw [z, g1, zsi_ej, ev, show (8 * c + i) % 8 = i by omega]
      · rw [g1, zsi_nj z]; exact hin j h1 (by omega)
    refine zpc_if (fun z => absurd z nl) (fun _ => zpc_if (fun z => nx _ ?_) (fun z => nx _ ?_))
    · unfold gDo; rw [if_pos z]
    · unfold gDo; rw [if_neg z]
/-! what bits and which pair -/
def oNa (σ : zSt) : Int32 := 1024 * (σ.1 23 2 &&& 15)
def oPg (σ : zSt) : Int32 := 2048 * (σ.1 23 4 &&& 7)
def oTi (σ : zSt) (L c : Int32) : Int32 := vb σ ((oNa σ + (32 * (L >>> ((3 : Int32) &&& 31)))) + c)
def oT2 (σ : zSt) (L c : Int32) : Int32 := oTi σ L c + (256 * (L >>> ((6 : Int32) &&& 31)))
def oBt (σ : zSt) (m L c : Int32) : Int32 := if m = 0 then vb σ ((oPg σ + (8 * oTi σ L c)) + (L &&& 7)) else if m = 2 then vb σ (((8192 * ((σ.1 23 4 >>> ((2 : Int32) &&& 31)) &&& 1)) + (8 * (oT2 σ L c &&& ((256 * (σ.1 23 4 &&& 3)) + 255)))) + (L &&& 7)) else 240
def oPr (σ : zSt) (m L c : Int32) : Int32 := if m = 0 then vb σ ((64 * σ.1 23 3) + (oTi σ L c >>> ((3 : Int32) &&& 31))) else if m = 2 then vb σ (((8192 * (σ.1 23 3 >>> ((7 : Int32) &&& 31))) + (8 * (oT2 σ L c &&& ((8 * (σ.1 23 3 &&& 127)) + 7)))) + (L &&& 7)) else vb σ (((oPg σ + (8 * oTi σ L c)) + (2 * ((L >>> ((3 : Int32) &&& 31)) &&& 3))) + ((L >>> ((2 : Int32) &&& 31)) &&& 1))
theorem c_drawPat {b p : Int32} {c : Nat} (hc : c < 32) (hd : zdC σ s) : zpc (fX3_drawPattern s (8 * Int32.ofNat c) b p) (fun r => zdC σ r ∧ r.1 25 = s.1 25 ∧ r.1 23 = s.1 23 ∧ (∀ j : Nat, 8 * c ≤ j → j < 8 * c + 8 → r.1 27 j = gDo b p (Int32.ofNat (j % 8))) ∧ ∀ j : Nat, (j < 8 * c ∨ 8 * c + 8 ≤ j) → r.1 27 j = s.1 27 j) := by
  unfold fX3_drawPattern
  exact c_pat hc zfuel 0 s (by decide) hd rfl rfl (fun j h1 h2 => by omega) (fun _ _ => rfl)
/-- the class's columns -/
theorem c_31 {m L : Int32} {o : zSt} : ∀ (n i : Nat) (s : zSt), i ≤ 32 → zdC σ s → s.1 25 = o.1 25 → s.1 23 = o.1 23 → (∀ j : Nat, j < 8 * i → s.1 27 j = gDo (oBt σ m L (Int32.ofNat (j / 8))) (oPr σ m L (Int32.ofNat (j / 8))) (Int32.ofNat (j % 8))) → zpc (fX3_drawOld_31 n s m L (oNa σ) (Int32.ofNat i)) (fun r => zdC σ r ∧ r.1 25 = o.1 25 ∧ r.1 23 = o.1 23 ∧ ∀ j : Nat, j < 256 → r.1 27 j = gDo (oBt σ m L (Int32.ofNat (j / 8))) (oPr σ m L (Int32.ofNat (j / 8))) (Int32.ofNat (j % 8))) := by
  intro n
  induction n with
  | zero => intro i s _ _ _ _ _; exact zpc_none
  | succ n ih =>
    intro i s hi hd e25 e23 hin
    show zpc (fX3_drawOld_31_body (fX3_drawOld_31 n) s m L (oNa σ) (Int32.ofNat i)) _
    unfold fX3_drawOld_31_body
    refine zpc_if (fun q => zpc_some ?_) (fun q => ?_)
    · have := (z_ofL (k := 32) (by omega) rfl).mp q
      exact ⟨hd, e25, e23, fun j hj => hin j (by omega)⟩
    have hi2 : i < 32 := by
      have : ¬ 32 ≤ i := fun z => q ((z_ofL (c := 32) (k := 32) (i := i) (by omega) rfl).mpr z)
      omega
    have v := hd.v
    have g3 : s.1 23 (3 : Int32).toNatClampNeg = σ.1 23 3 := hd.r (j := 3) (by decide)
    have g4 : s.1 23 (4 : Int32).toNatClampNeg = σ.1 23 4 := hd.r (j := 4) (by decide)
    have nx : ∀ s1 : zSt, zdC σ s1 ∧ s1.1 25 = s.1 25 ∧ s1.1 23 = s.1 23 ∧ (∀ j : Nat, 8 * i ≤ j → j < 8 * i + 8 → s1.1 27 j = gDo (oBt σ m L (Int32.ofNat i)) (oPr σ m L (Int32.ofNat i)) (Int32.ofNat (j % 8))) ∧ (∀ j : Nat, (j < 8 * i ∨ 8 * i + 8 ≤ j) → s1.1 27 j = s.1 27 j) → zpc (fX3_drawOld_165 (fX3_drawOld_31 n) s1 m L (oNa σ) (Int32.ofNat i)) (fun r => zdC σ r ∧ r.1 25 = o.1 25 ∧ r.1 23 = o.1 23 ∧ ∀ j : Nat, j < 256 → r.1 27 j = gDo (oBt σ m L (Int32.ofNat (j / 8))) (oPr σ m L (Int32.ofNat (j / 8))) (Int32.ofNat (j % 8))) := fun s1 q => by
      obtain ⟨q1, q2, q3, q4, q5⟩ := q
      unfold fX3_drawOld_165
      rw [z_ofS (by omega)]
      refine zpc_bv (fun x ex => ?_)
      subst ex
      refine ih (i + 1) s1 (by omega) q1 (q2.trans e25) (q3.trans e23) (fun j hj => ?_)
      by_cases z : j < 8 * i
      · rw [q5 j (Or.inl z)]; exact hin j z
      · have ej : j / 8 = i := by omega
        rw [ej]
        exact q4 j (by omega) (by omega)
    refine zpc_bi p_vb (fun s1 w1 e1 => ?_)
    cases e1
    rw [vb_of v]
    have eT : vb σ ((oNa σ + (32 * (L >>> ((3 : Int32) &&& 31)))) + Int32.ofNat i) = oTi σ L (Int32.ofNat i) := rfl
    rw [eT]
    refine zpc_if (fun m0 => ?_) (fun m0 => zpc_if (fun m2 => ?_) (fun m2 => ?_))
    · -- mode 0
      unfold fX3_patternAt
      refine zpc_bi (P := fun r => r = (s, oBt σ m L (Int32.ofNat i))) ?_ (fun s1 w1 e1 => ?_)
      · refine zpc_bi (p_held (x := 4) (zr_c (by decide))) (fun s1 w1 e1 => ?_)
        cases e1
        refine zpc_bi p_vb (fun s1 w1 e1 => zpc_some ?_)
        cases e1
        rw [g4, vb_of v]
        unfold oBt
        rw [if_pos m0]
        rfl
      cases e1
      refine zpc_bi (p_held (x := 3) (zr_c (by decide))) (fun s1 w1 e1 => ?_)
      cases e1
      refine zpc_bi p_vb (fun s1 w1 e1 => ?_)
      cases e1
      rw [g3, vb_of v, show vb σ ((64 * σ.1 23 3) + (oTi σ L (Int32.ofNat i) >>> ((3 : Int32) &&& 31))) = oPr σ m L (Int32.ofNat i) by unfold oPr; rw [if_pos m0]]
      exact zpc_bu (c_drawPat hi2 hd) (fun s1 q => nx s1 q)
    · -- mode 2
      unfold fX3_drawThird
      refine zpc_bu (P := fun s1 => zdC σ s1 ∧ s1.1 25 = s.1 25 ∧ s1.1 23 = s.1 23 ∧ (∀ j : Nat, 8 * i ≤ j → j < 8 * i + 8 → s1.1 27 j = gDo (oBt σ m L (Int32.ofNat i)) (oPr σ m L (Int32.ofNat i)) (Int32.ofNat (j % 8))) ∧ (∀ j : Nat, (j < 8 * i ∨ 8 * i + 8 ≤ j) → s1.1 27 j = s.1 27 j)) ?_ (fun s1 q => nx s1 q)
      refine zpc_bi (p_held (x := 3) (zr_c (by decide))) (fun s1 w1 e1 => ?_)
      cases e1
      refine zpc_bi (p_held (x := 4) (zr_c (by decide))) (fun s1 w1 e1 => ?_)
      cases e1
      rw [g3, g4]
      refine zpc_bv (fun v5 e5 => zpc_bv (fun v6 e6 => zpc_bi p_vb (fun s1 w1 e1 => ?_)))
      cases e1
      refine zpc_bi p_vb (fun s1 w1 e1 => ?_)
      cases e1
      rw [vb_of v, vb_of v, e5, e6]
      have eB : vb σ (((8192 * ((σ.1 23 4 >>> ((2 : Int32) &&& 31)) &&& 1)) + (8 * ((oTi σ L (Int32.ofNat i) + (256 * (L >>> ((6 : Int32) &&& 31)))) &&& ((256 * (σ.1 23 4 &&& 3)) + 255)))) + (L &&& 7)) = oBt σ m L (Int32.ofNat i) := by
        unfold oBt
        rw [if_neg m0, if_pos m2]
        rfl
      have eP : vb σ (((8192 * (σ.1 23 3 >>> ((7 : Int32) &&& 31))) + (8 * ((oTi σ L (Int32.ofNat i) + (256 * (L >>> ((6 : Int32) &&& 31)))) &&& ((8 * (σ.1 23 3 &&& 127)) + 7)))) + (L &&& 7)) = oPr σ m L (Int32.ofNat i) := by
        unfold oPr
        rw [if_neg m0, if_pos m2]
        rfl
      rw [eB, eP]
      exact zpc_bu (c_drawPat hi2 hd) (fun s1 q => zpc_some q)
    · -- mode 3
      unfold fX3_drawBlocks
      refine zpc_bu (P := fun s1 => zdC σ s1 ∧ s1.1 25 = s.1 25 ∧ s1.1 23 = s.1 23 ∧ (∀ j : Nat, 8 * i ≤ j → j < 8 * i + 8 → s1.1 27 j = gDo (oBt σ m L (Int32.ofNat i)) (oPr σ m L (Int32.ofNat i)) (Int32.ofNat (j % 8))) ∧ (∀ j : Nat, (j < 8 * i ∨ 8 * i + 8 ≤ j) → s1.1 27 j = s.1 27 j)) ?_ (fun s1 q => nx s1 q)
      refine zpc_bi (p_held (x := 4) (zr_c (by decide))) (fun s1 w1 e1 => ?_)
      cases e1
      rw [g4]
      refine zpc_bv (fun v3 e3 => zpc_bi p_vb (fun s1 w1 e1 => ?_))
      cases e1
      rw [vb_of v, e3]
      have eP : vb σ ((((2048 * (σ.1 23 4 &&& 7)) + (8 * oTi σ L (Int32.ofNat i))) + (2 * ((L >>> ((3 : Int32) &&& 31)) &&& 3))) + ((L >>> ((2 : Int32) &&& 31)) &&& 1)) = oPr σ m L (Int32.ofNat i) := by
        unfold oPr
        rw [if_neg m0, if_neg m2]
        rfl
      have eB : (240 : Int32) = oBt σ m L (Int32.ofNat i) := by
        unfold oBt
        rw [if_neg m0, if_neg m2]
      rw [eP, eB]
      exact zpc_bu (c_drawPat hi2 hd) (fun s1 q => zpc_some q)
/-! text -/
def oTx (σ : zSt) (L c : Int32) : Int32 := vb σ ((oPg σ + (8 * vb σ ((oNa σ + (40 * (L >>> ((3 : Int32) &&& 31)))) + c))) + (L &&& 7))
def oTd (σ : zSt) (L : Int32) (j : Nat) : Int32 := if 8 ≤ j ∧ j < 248 then gDo (oTx σ L (Int32.ofNat ((j - 8) / 6))) (σ.1 23 7) (Int32.ofNat ((j - 8) % 6)) else 0
theorem c_56 {L ink bi : Int32} {k21 : zSt → Int32 → Int32 → Int32 → Int32 → Option zSt} {nm : Int32} {c : Nat} {o : zSt} {Q : zSt → Prop} (hc : c < 40) (K : ∀ s : zSt, zdC σ s → s.1 25 = o.1 25 → s.1 23 = o.1 23 → (∀ j : Nat, 8 + 6 * c ≤ j → j < 8 + 6 * c + 6 → s.1 27 j = gDo bi ink (Int32.ofNat ((j - 8) % 6))) → (∀ j : Nat, (j < 8 + 6 * c ∨ 8 + 6 * c + 6 ≤ j) → s.1 27 j = o.1 27 j) → zpc (k21 s nm L ink (Int32.ofNat (c + 1))) Q) : ∀ (n i : Nat) (s : zSt), i ≤ 6 → zdC σ s → s.1 25 = o.1 25 → s.1 23 = o.1 23 → (∀ j : Nat, 8 + 6 * c ≤ j → j < 8 + 6 * c + i → s.1 27 j = gDo bi ink (Int32.ofNat ((j - 8) % 6))) → (∀ j : Nat, (j < 8 + 6 * c ∨ 8 + 6 * c + i ≤ j) → s.1 27 j = o.1 27 j) → zpc (fX3_drawText_56 k21 n s nm L ink (Int32.ofNat c) bi (Int32.ofNat i)) Q := by
  intro n
  induction n with
  | zero => intro i s _ _ _ _ _ _; exact zpc_none
  | succ n ih =>
    intro i s hi hd e25 e23 hin hout
    show zpc (fX3_drawText_56_body k21 (fX3_drawText_56 k21 n) s nm L ink (Int32.ofNat c) bi (Int32.ofNat i)) Q
    unfold fX3_drawText_56_body
    refine zpc_if (fun q => zpc_bv (fun x ex => ?_)) (fun q => ?_)
    · have := (z_ofL (k := 6) (by omega) rfl).mp q
      rw [ex, z_ofS (by omega)]
      exact K s hd e25 e23 (fun j h1 h2 => hin j h1 (by omega)) (fun j h1 => hout j (by omega))
    have hi2 : i < 6 := by
      have : ¬ 6 ≤ i := fun z => q ((z_ofL (c := 6) (k := 6) (i := i) (by omega) rfl).mpr z)
      omega
    have rc : zr 0 39 (Int32.ofNat c) := z_ofr (by omega) (by omega)
    have r6 : zr 0 234 (6 * Int32.ofNat c) := zr_mul (zr_c (lo := 6) (hi := 6) (x := 6) (by decide)) rc (by decide)
    have t6 : (6 * Int32.ofNat c).toInt = 6 * (Int32.ofNat c).toInt := z_tmul (zr_c (lo := 6) (hi := 6) (x := 6) (by decide)) rc (by decide)
    rw [z_ofI (by omega)] at t6
    have r8 : zr 8 242 (8 + 6 * Int32.ofNat c) := zr_add (zr_c (lo := 8) (hi := 8) (x := 8) (by decide)) r6 (by decide)
    have t8 := z_tadd (x := 8) (y := 6 * Int32.ofNat c) (zr_c (lo := 8) (hi := 8) (by decide)) r6 (by decide)
    rw [t6, show (8 : Int32).toInt = 8 from rfl] at t8
    have ta := z_tadd r8 (z_ofr (i := i) (b := 5) (by omega) (by omega)) (by decide)
    rw [t8, z_ofI (by omega)] at ta
    have ka := z_clamp (x := 8 + 6 * Int32.ofNat c + Int32.ofNat i) (by omega)
    have ia : (8 + 6 * Int32.ofNat c + Int32.ofNat i).toNatClampNeg = 8 + 6 * c + i := by omega
    have nx : ∀ v, v = gDo bi ink (Int32.ofNat i) → zpc (fX3_drawText_101 k21 (fX3_drawText_56 k21 n) s nm L ink (Int32.ofNat c) bi (Int32.ofNat i) v (8 + 6 * Int32.ofNat c + Int32.ofNat i)) Q := fun v ev => by
      unfold fX3_drawText_101
      rw [ia, z_ofS (by omega)]
      refine zpc_ck (zpc_bv (fun s1 g1 => zpc_bv (fun x ex => ?_)))
      subst ex
      refine ih (i + 1) s1 (by omega) (by rw [g1]; exact zQ.wi hd rfl) (by rw [g1, zsi_ne (by decide)]; exact e25) (by rw [g1, zsi_ne (by decide)]; exact e23) (fun j h1 h2 => ?_) (fun j h1 => by rw [g1, zsi_nj (by omega)]; exact hout j (by omega))
      by_cases z : j = 8 + 6 * c + i
      · rw [z, g1, zsi_ej, ev, show (8 + 6 * c + i - 8) % 6 = i by omega]
      · rw [g1, zsi_nj z]; exact hin j h1 (by omega)
    refine zpc_if (fun z => nx _ ?_) (fun z => nx _ ?_)
    · unfold gDo; rw [if_pos z]
    · unfold gDo; rw [if_neg z]
theorem c_21 {L : Int32} {o : zSt} : ∀ (n i : Nat) (s : zSt), i ≤ 40 → zdC σ s → s.1 25 = o.1 25 → s.1 23 = o.1 23 → (∀ j : Nat, j < 8 + 6 * i → s.1 27 j = oTd σ L j) → (∀ j : Nat, 8 + 6 * i ≤ j → j < 256 → s.1 27 j = 0) → zpc (fX3_drawText_21 n s (oNa σ) L (σ.1 23 7) (Int32.ofNat i)) (fun r => zdC σ r ∧ r.1 25 = o.1 25 ∧ r.1 23 = o.1 23 ∧ ∀ j : Nat, j < 256 → r.1 27 j = oTd σ L j) := by
  intro n
  induction n with
  | zero => intro i s _ _ _ _ _ _; exact zpc_none
  | succ n ih =>
    intro i s hi hd e25 e23 hin hout
    show zpc (fX3_drawText_21_body (fX3_drawText_21 n) s (oNa σ) L (σ.1 23 7) (Int32.ofNat i)) _
    unfold fX3_drawText_21_body
    refine zpc_if (fun q => zpc_some ?_) (fun q => ?_)
    · have := (z_ofL (k := 40) (by omega) rfl).mp q
      refine ⟨hd, e25, e23, fun j hj => ?_⟩
      by_cases z : j < 8 + 6 * i
      · exact hin j z
      · rw [hout j (by omega) hj]
        unfold oTd
        rw [if_neg (fun y => by omega)]
    have hi2 : i < 40 := by
      have : ¬ 40 ≤ i := fun z => q ((z_ofL (c := 40) (k := 40) (i := i) (by omega) rfl).mpr z)
      omega
    have v := hd.v
    have g4 : s.1 23 (4 : Int32).toNatClampNeg = σ.1 23 4 := hd.r (j := 4) (by decide)
    refine zpc_bi p_vb (fun s1 w1 e1 => ?_)
    cases e1
    unfold fX3_patternAt
    refine zpc_bi (P := fun r => r = (s, oTx σ L (Int32.ofNat i))) ?_ (fun s1 w1 e1 => ?_)
    · refine zpc_bi (p_held (x := 4) (zr_c (by decide))) (fun s1 w1 e1 => ?_)
      cases e1
      refine zpc_bi p_vb (fun s1 w1 e1 => zpc_some ?_)
      cases e1
      rw [g4, vb_of v, vb_of v]
      rfl
    cases e1
    refine c_56 (σ := σ) (o := s) hi2 (fun s1 q1 q2 q3 q4 q5 => ?_) zfuel 0 s (by decide) hd rfl rfl (fun j h1 h2 => by omega) (fun _ _ => rfl)
    refine ih (i + 1) s1 (by omega) q1 (q2.trans e25) (q3.trans e23) (fun j hj => ?_) (fun j h1 h2 => ?_)
    · by_cases z : j < 8 + 6 * i
      · rw [q5 j (Or.inl z)]; exact hin j z
      · rw [q4 j (by omega) (by omega)]
        unfold oTd
        rw [if_pos ⟨by omega, by omega⟩, show (j - 8) / 6 = i by omega]
    · rw [q5 j (Or.inr (by omega))]
      exact hout j (by omega) h2
end ZT9
