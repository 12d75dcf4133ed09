/-! THE PAINTER, 12: ALL SPRITES OF AN OLD MODE'S LINE -/
section ZTC
variable {σ μ s t s0 t0 : zSt}
theorem c_117 {o : zSt} : ∀ (n i : Nat) (s : zSt), i ≤ 256 → zdC σ s → s.1 28 = o.1 28 → s.1 23 = o.1 23 → s.1 25 = o.1 25 → (∀ j : Nat, j < i → s.1 27 j = if o.1 28 j &&& 15 ≤ 0 then o.1 27 j else o.1 28 j &&& 15) → (∀ j : Nat, i ≤ j → s.1 27 j = o.1 27 j) → zpc (fX3_drawOldSprites_117 n s (Int32.ofNat i)) (fun r => zdC σ r ∧ r.1 23 = o.1 23 ∧ r.1 25 = o.1 25 ∧ ∀ j : Nat, j < 256 → r.1 27 j = if o.1 28 j &&& 15 ≤ 0 then o.1 27 j else o.1 28 j &&& 15) := by
  intro n
  induction n with
  | zero => intro i s _ _ _ _ _ _ _; exact zpc_none
  | succ n ih =>
    intro i s hi hd e28 e23 e25 hin hout
    show zpc (fX3_drawOldSprites_117_body (fX3_drawOldSprites_117 n) s (Int32.ofNat i)) _
    unfold fX3_drawOldSprites_117_body fX3_drawOldSprites_155
    refine zpc_if (fun q => zpc_some ?_) (fun q => ?_)
    · have := (z_ofL (k := 256) (by omega) rfl).mp q
      exact ⟨hd, e23, e25, fun j hj => hin j (by omega)⟩
    have hi2 : i < 256 := by
      have : ¬ 256 ≤ i := fun z => q ((z_ofL (c := 256) (k := 256) (i := i) (by omega) rfl).mpr z)
      omega
    rw [z_ofC (by omega), z_ofS (by omega)]
    have c28 : zgi s 28 i = o.1 28 i := by show s.1 28 i = _; rw [e28]
    rw [c28]
    refine zpc_ck (zpc_if (fun p => zpc_bv (fun v ev => ?_)) (fun p => zpc_ck (zpc_ck (zpc_bv (fun s1 g1 => zpc_bv (fun v ev => ?_))))))
    · subst ev
      refine ih (i + 1) s (by omega) hd e28 e23 e25 (fun j hj => ?_) (fun j hj => hout j (by omega))
      by_cases z : j = i
      · rw [z, if_pos p]; exact hout i (by omega)
      · exact hin j (by omega)
    · subst ev
      refine ih (i + 1) s1 (by omega) (by rw [g1]; exact zQ.wi hd rfl) (by rw [g1, zsi_ne (by decide)]; exact e28) (by rw [g1, zsi_ne (by decide)]; exact e23) (by rw [g1, zsi_ne (by decide)]; exact e25) (fun j hj => ?_) (fun j hj => by rw [g1, zsi_nj (by omega)]; exact hout j (by omega))
      by_cases z : j = i
      · rw [z, g1, zsi_ej, if_neg p]
      · rw [g1, zsi_nj z]
        exact hin j (by omega)
def zOe (σ μ s0 t0 r t : zSt) : Prop := zdC σ r ∧ zdM μ t ∧ r.1 25 = s0.1 25 ∧ t.1 22 = t0.1 22 ∧ t.1 9 = t0.1 9 ∧ zStt r t ∧ ∀ j : Nat, j < 256 → zr 0 15 (t.1 24 j) ∧ r.1 27 j = (if t.1 24 j ≤ 0 then s0.1 27 j else t.1 24 j)
theorem t_114 (h : zOi σ μ s0 t0 s t) : zp2 (fX3_drawOldSprites_114 s ) (some t) (zOe σ μ s0 t0) := by
  obtain ⟨h1, h2, h3, h4, h5, h7, h8, h9⟩ := h
  unfold fX3_drawOldSprites_114
  refine zp2_of (c_117 (σ := σ) (o := s) zfuel 0 s (by decide) h1 rfl rfl rfl (fun j hj => absurd hj (by omega)) (fun _ _ => rfl)) (zpc_some (Q := fun r => r = t) rfl) (fun r t' q e => ?_)
  obtain ⟨q1, q2, q3, q4⟩ := q
  subst e
  refine ⟨q1, h2, q3.trans h4, h5, h7, ?_, fun j hj => ?_⟩
  · unfold zStt
    rw [q2]
    exact h9
  · have e15 : s.1 28 j &&& 15 = t'.1 24 j ∧ zr 0 15 (t'.1 24 j) := by
      rcases h8 j hj with ⟨a1, a2, a3⟩ | ⟨c, a1, a2, a3⟩
      · rw [a1, a3]; exact ⟨by decide, zr_c (by decide)⟩
      · rw [a1, a3]
        exact ⟨(v_256 c).1, z_ofr (by omega) (by have := c.isLt; omega)⟩
    refine ⟨e15.2, ?_⟩
    rw [q4 j hj, e15.1, h3]
def gOl (σ : zSt) (x : Int32) : Int32 := vb σ (x + 1) - (if vb σ (x + 3) &&& 128 = 0 then 0 else 32)
def gOp (σ : zSt) (x : Int32) : Int32 := if σ.1 23 1 &&& 2 = 0 then vb σ (x + 2) else vb σ (x + 2) &&& (-4)
def gLg (sh : Int32) : Int32 := if sh &&& 2 = 0 then 0 else 1
theorem c_osprite (h : zVe σ μ) (hs : zdC σ s) {x row : Int32} : zpc (fX3_drawOldSprite s x row) (fun r => fX3_drawOldSprite_158 zfuel s (vb σ (x + 3)) (gOl σ x) (σ.1 23 1 &&& 1) (gLg (σ.1 23 1)) ((vb σ (((2048 * (σ.1 23 6 &&& 7)) + (8 * gOp σ x)) + row) <<< ((8 : Int32) &&& 31)) ||| (if gLg (σ.1 23 1) = 0 then 0 else vb σ ((((2048 * (σ.1 23 6 &&& 7)) + (8 * gOp σ x)) + row) + 16))) 0 = some r) := by
  have v := hs.v
  have g1 : s.1 23 (1 : Int32).toNatClampNeg = σ.1 23 1 := hs.r (j := 1) (by decide)
  have g6 : s.1 23 (6 : Int32).toNatClampNeg = σ.1 23 6 := hs.r (j := 6) (by decide)
  obtain ⟨A, eA⟩ : ∃ A, A = ((2048 * (σ.1 23 6 &&& 7)) + (8 * gOp σ x)) + row := ⟨_, rfl⟩
  rw [← eA]
  have l113 : ∀ y lg : Int32, y = gOp σ x → lg = gLg (σ.1 23 1) → zpc (fX3_drawOldSprite_113 s row (vb σ (x + 3)) (gOl σ x) (σ.1 23 1 &&& 1) lg y 8 (2048 * (σ.1 23 6 &&& 7))) (fun r => fX3_drawOldSprite_158 zfuel s (vb σ (x + 3)) (gOl σ x) (σ.1 23 1 &&& 1) (gLg (σ.1 23 1)) ((vb σ A <<< ((8 : Int32) &&& 31)) ||| (if gLg (σ.1 23 1) = 0 then 0 else vb σ (A + 16))) 0 = some r) := fun y lg ey el => by
    unfold fX3_drawOldSprite_113 fX3_drawOldSprite_152
    refine zpc_bv (fun v5 e5 => zpc_bi p_vb (fun s1 w e => ?_))
    cases e
    rw [ey, ← eA] at e5
    subst e5
    rw [vb_of v, el]
    refine zpc_if (fun q => zpc_bv (fun v4 e4 => ?_)) (fun q => zpc_bi p_vb (fun s1 w e => zpc_bv (fun v4 e4 => ?_)))
    · rw [e4, if_pos q]
      exact fun r er => er
    · cases e
      rw [e4, if_neg q, vb_of v]
      exact fun r er => er
  have l78 : ∀ lg : Int32, lg = gLg (σ.1 23 1) → zpc (fX3_drawOldSprite_78 s row (vb σ (x + 3)) (gOl σ x) (vb σ (x + 2)) (σ.1 23 1 &&& 1) lg) (fun r => fX3_drawOldSprite_158 zfuel s (vb σ (x + 3)) (gOl σ x) (σ.1 23 1 &&& 1) (gLg (σ.1 23 1)) ((vb σ A <<< ((8 : Int32) &&& 31)) ||| (if gLg (σ.1 23 1) = 0 then 0 else vb σ (A + 16))) 0 = some r) := fun lg el => by
    unfold fX3_drawOldSprite_78
    refine zpc_bi (p_held (x := 6) (zr_c (by decide))) (fun s1 w e => ?_)
    cases e
    rw [g6]
    refine zpc_if (fun q => l113 _ lg ?_ el) (fun q => l113 _ lg ?_ el)
    · rw [el] at q
      unfold gOp
      unfold gLg at q
      by_cases z : σ.1 23 1 &&& 2 = 0
      · rw [if_pos z]
      · rw [if_neg z] at q; exact absurd q (by decide)
    · rw [el] at q
      unfold gOp
      unfold gLg at q
      by_cases z : σ.1 23 1 &&& 2 = 0
      · rw [if_pos z] at q; exact absurd rfl q
      · rw [if_neg z]
  have l35 : ∀ y : Int32, vb σ (x + 1) - y = gOl σ x → zpc (fX3_drawOldSprite_35 s x row (vb σ (x + 3)) y (vb σ (x + 1))) (fun r => fX3_drawOldSprite_158 zfuel s (vb σ (x + 3)) (gOl σ x) (σ.1 23 1 &&& 1) (gLg (σ.1 23 1)) ((vb σ A <<< ((8 : Int32) &&& 31)) ||| (if gLg (σ.1 23 1) = 0 then 0 else vb σ (A + 16))) 0 = some r) := fun y ey => by
    unfold fX3_drawOldSprite_35
    refine zpc_bv (fun v12 e12 => zpc_bi p_vb (fun s1 w e => ?_))
    cases e
    refine zpc_bi (p_held (x := 1) (zr_c (by decide))) (fun s1 w e => zpc_bv (fun v17 e17 => ?_))
    cases e
    rw [ey] at e12
    rw [g1] at e17
    rw [g1, e12, e17, vb_of v]
    refine zpc_if (fun q => l78 0 ?_) (fun q => l78 1 ?_)
    · unfold gLg; rw [if_pos q]
    · unfold gLg; rw [if_neg q]
  unfold fX3_drawOldSprite
  refine zpc_bi p_vb (fun s1 w e => ?_)
  cases e
  refine zpc_bi p_vb (fun s1 w e => ?_)
  cases e
  rw [vb_of v, vb_of v]
  refine zpc_if (fun q => l35 _ ?_) (fun q => l35 _ ?_)
  · unfold gOl; rw [if_pos q]
  · unfold gOl; rw [if_neg q]
theorem v_252 : ∀ c : Fin 256, Int32.ofNat c.val &&& 252 = Int32.ofNat c.val &&& (-4) := by decide +kernel
theorem v_fif : ∀ c : Fin 256, Int32.ofNat c.val &&& 64 = 0 → Int32.ofNat c.val &&& 160 = Int32.ofNat c.val &&& 224 := by decide +kernel
theorem v_n31 : ∀ i : Fin 32, Int32.ofNat i.val &&& 31 = Int32.ofNat i.val := by decide +kernel
theorem v_128t : ∀ c : Fin 256, 128 * (zrem (Int32.ofNat c.val) 128) = 128 * (Int32.ofNat c.val &&& 127) := by decide +kernel
/-- the reference: a sprite up to its dots -/
theorem m_osprite (h : zVe σ μ) (hd : zdM μ t) {k40 : zK6} {L f nn x w : Int32} {d : Fin 16} (hd15 : vb σ (x + 3) &&& 15 = Int32.ofNat d.val) {y : Int32} : zpc (fX12_oldSprites_183 k40 t L (gZm (σ.1 23 1)) (gHg (σ.1 23 1)) f nn x w y) (fun r => fX12_oldSprites_231 k40 zfuel t L (gZm (σ.1 23 1)) (gHg (σ.1 23 1)) f nn w y (Int32.ofNat d.val) (gOl σ x) 0 = some r) := by
  unfold fX12_oldSprites_183 fX12_oldSprites_225
  refine zpc_bi (p_v8 h.1 hd.v) (fun t1 v e => zpc_bv (fun v16 e16 => ?_))
  cases e
  rw [hd15] at e16
  refine zpc_bi (p_v8 h.1 hd.v) (fun t1 v e => ?_)
  cases e
  refine zpc_bi (p_v8 h.1 hd.v) (fun t1 v e => ?_)
  cases e
  have s7 := z_s7 (vb_r h.1 (x + 3))
  have le127 : vb σ (x + 3) ≤ 127 ↔ vb σ (x + 3) &&& 128 = 0 := by
    constructor
    · intro z
      refine Decidable.byContradiction (fun q => ?_)
      have y := s7.mpr q
      have := Int32.le_iff_toInt_le.mp z
      have := Int32.lt_iff_toInt_lt.mp y
      omega
    · intro z
      exact Decidable.byContradiction (fun q => (s7.mp (z_nle q)) z)
  rw [e16]
  refine zpc_if (fun q => zpc_bv (fun v13 e13 => ?_)) (fun q => zpc_bv (fun v13 e13 => ?_))
  · rw [e13, show vb σ (x + 1) - 0 = gOl σ x by unfold gOl; rw [if_pos (le127.mp q)]]
    exact fun r er => er
  · rw [e13, show vb σ (x + 1) - 32 = gOl σ x by unfold gOl; rw [if_neg (fun z => q (le127.mpr z))]]
    exact fun r er => er
/-- all of them -/
theorem t_29 (h : zVe σ μ) {L : Int32} : ∀ (n m i : Nat) (s t : zSt) (f : Int32), i ≤ 32 → zr 0 4 f → zOi σ μ s0 t0 s t → zp2 (fX3_drawOldSprites_29 n s L (128 * (σ.1 23 5 &&& 127)) f (Int32.ofNat i)) (fX12_oldSprites_40 m t L (gZm (σ.1 23 1)) (gHg (σ.1 23 1)) f (Int32.ofNat i)) (zOe σ μ s0 t0) := by
  intro n
  induction n with
  | zero => intro m i s t f _ _ _; exact zp2_nl
  | succ n ih =>
    intro m i s t f hi hf hS
    cases m with
    | zero => exact zp2_nr
    | succ m =>
      show zp2 (fX3_drawOldSprites_29_body (fX3_drawOldSprites_29 n) s L (128 * (σ.1 23 5 &&& 127)) f (Int32.ofNat i)) (fX12_oldSprites_40_body (fX12_oldSprites_40 m) t L (gZm (σ.1 23 1)) (gHg (σ.1 23 1)) f (Int32.ofNat i)) _
      unfold fX3_drawOldSprites_29_body fX12_oldSprites_40_body
      have hs := hS.1
      have hd := hS.2.1
      refine zp2_if (fun _ => t_114 hS) (fun q => ?_)
      have hi2 : i < 32 := by
        have : ¬ 32 ≤ i := fun z => q ((z_ofL (c := 32) (k := 32) (i := i) (by omega) rfl).mpr z)
        omega
      have f5 : t.1 3 (47 + (5 : Int32)).toNatClampNeg = σ.1 23 5 := h.ej hd (j := 5) (by decide)
      have g1 : s.1 23 1 = σ.1 23 1 := hs.r (by decide)
      have r15 : zr 0 255 (s.1 23 15) := hS.2.2.2.2.2.2.2.2
      have e62 : zgi t 3 (62 : Int32).toNatClampNeg = s.1 23 15 := hS.2.2.2.2.2.2.2.1
      refine zp2_bvl (fun X eX => zp2_bil p_vb (fun s1 u e1 => ?_))
      cases e1
      refine zp2_bir p_reg (fun t1 w e1 => zp2_ckr (zp2_bvr (fun X' eX' => ?_)))
      cases e1
      rw [f5] at eX'
      have eX' : X' = X := by
        rw [eX', eX]
        obtain ⟨c, ec⟩ := z_byteF (h.rj (j := 5) (by decide))
        rw [ec, v_128t c]
      subst eX'
      refine zp2_bir (p_v8 h.1 hd.v) (fun t1 w e1 => ?_)
      cases e1
      rw [vb_of hs.v]
      obtain ⟨u, eu⟩ : ∃ u, u = vb σ X' := ⟨_, rfl⟩
      rw [← eu]
      refine zp2_if (fun _ => t_114 hS) (fun _ => ?_)
      have next : ∀ (s t : zSt) (f : Int32), zr 0 4 f → zOi σ μ s0 t0 s t → zp2 (fX3_drawOldSprites_108 (fX3_drawOldSprites_29 n) s L (128 * (σ.1 23 5 &&& 127)) f (Int32.ofNat i)) (fX12_oldSprites_388 (fX12_oldSprites_40 m) t L (gZm (σ.1 23 1)) (gHg (σ.1 23 1)) f (Int32.ofNat i)) (zOe σ μ s0 t0) := fun s t f a b => by
        unfold fX3_drawOldSprites_108 fX12_oldSprites_388
        rw [z_ofS (by omega)]
        exact zp2_bvl (fun v ev => zp2_bvr (fun w ew => by rw [ev, ew]; exact ih m (i + 1) s t f (by omega) a b))
      obtain ⟨z1, z2, z3⟩ := z_row (sh := σ.1 23 1) (L := L) (u := u)
      refine zp2_bil p_row (fun s1 v1 e1 => zp2_bvr (fun v14 e14 => ?_))
      cases e1
      rw [g1]
      subst e14
      by_cases p : gHg (σ.1 23 1) ≤ gRow (σ.1 23 1) L u
      · rw [if_pos p]
        exact zp2_ifl (fun _ => zp2_ifr (fun z => absurd z (z1.mp p)) (fun _ => next s t f hf hS)) (fun z => absurd (by decide) z)
      rw [if_neg p]
      have lt : (((L - u) - 1) &&& 255) < gHg (σ.1 23 1) * gZm (σ.1 23 1) := Decidable.byContradiction (fun z => p (z1.mpr z))
      refine zp2_ifl (fun z => absurd z (zq_lt z3 rfl (by decide))) (fun _ => zp2_ifr (fun _ => ?_) (fun z => absurd lt z))
      refine zp2_bvl (fun v9 e9 => ?_)
      have tf : (f + 1).toInt = f.toInt + 1 := z_tadd hf (zr_c (lo := 1) (hi := 1) (x := 1) (by decide)) (by decide)
      have f0 := hf.1
      have f4 := hf.2
      have e4 : v9 ≤ 4 ↔ ¬ f = 4 := by
        rw [e9, Int32.le_iff_toInt_le, ← Int32.toInt_inj, tf, show (4 : Int32).toInt = 4 from rfl]
        omega
      refine zp2_ifn e4 (fun _ c4 => ?_) (fun _ c4 => ?_)
      · have rf : zr 0 4 (f + 1) := ⟨by omega, by have : ¬ f.toInt = 4 := fun z => c4 (Int32.toInt_inj.mp z); omega⟩
        subst e9
        refine zp2_bvr (fun v15 e15 => ?_)
        subst e15
        have hz : zZm (σ.1 23 1 &&& 1) (gZm (σ.1 23 1)) := by
          unfold gZm
          obtain ⟨c, ec⟩ := z_byteF h.r1
          rcases v_and1 c with z | z
          · rw [← ec] at z
            rw [if_pos z]
            exact Or.inl ⟨z, rfl⟩
          · rw [← ec] at z
            rw [if_neg (by rw [z]; decide)]
            exact Or.inr ⟨z, rfl⟩
        have hl : zLg (gLg (σ.1 23 1)) (gHg (σ.1 23 1)) := by
          unfold gLg gHg
          by_cases z : σ.1 23 1 &&& 2 = 0
          · rw [if_pos z, if_pos z]; exact Or.inl ⟨rfl, rfl⟩
          · rw [if_neg z, if_neg z]; exact Or.inr ⟨rfl, rfl⟩
        obtain ⟨d, hd15⟩ := z_r15 (vb σ (X' + 3))
        have go : ∀ y, y = gOp σ X' → zp2 (zbu (fX3_drawOldSprite s X' (gRow (σ.1 23 1) L u)) (fun σ10 => fX3_drawOldSprites_108 (fX3_drawOldSprites_29 n) σ10 L (128 * (σ.1 23 5 &&& 127)) (f + 1) (Int32.ofNat i))) (fX12_oldSprites_183 (fX12_oldSprites_40 m) t L (gZm (σ.1 23 1)) (gHg (σ.1 23 1)) (f + 1) (Int32.ofNat i) X' (((L - u) - 1) &&& 255) y) (zOe σ μ s0 t0) := fun y ey => by
          refine zp2_subr (m_osprite h hd hd15) (zp2_usub (c_osprite h hs) ?_)
          exact t_158 h hz hl (by rw [ey, z2]) hd15 (fun s' t' q' => next s' t' (f + 1) rf q') zfuel zfuel 0 s t (by decide) hS
        by_cases z : gHg (σ.1 23 1) = 16
        · refine zp2_ifr (fun _ => zp2_bir (p_v8 h.1 hd.v) (fun t1 w e1 => ?_)) (fun y => absurd z y)
          cases e1
          refine go _ ?_
          obtain ⟨c, ec⟩ := z_byteF (vb_r h.1 (X' + 2))
          have nz : ¬ σ.1 23 1 &&& 2 = 0 := fun y => by unfold gHg at z; rw [if_pos y] at z; exact absurd z (by decide)
          unfold gOp
          rw [if_neg nz, ec, v_252 c]
        · refine zp2_ifr (fun y => absurd y z) (fun _ => zp2_bir (p_v8 h.1 hd.v) (fun t1 w e1 => ?_))
          cases e1
          refine go _ ?_
          have nz : σ.1 23 1 &&& 2 = 0 := Decidable.byContradiction (fun y => z (by unfold gHg; rw [if_neg y]))
          unfold gOp
          rw [if_pos nz]
      · -- the fifth one
        unfold fX12_oldSprites_150
        rw [e62]
        by_cases z : s.1 23 15 &&& 64 = 0
        · refine zp2_bul (P := fun r => r = zsi s 23 15 (((s.1 23 15 &&& 160) ||| 64) ||| (Int32.ofNat i &&& 31))) ?_ (fun s1 f1 => ?_)
          · unfold fX9_markFifth fX9_markFifth_39
            exact zpc_ck (zpc_if (fun _ => zpc_ck (zpc_ck (zpc_bv (fun s1 f1 => zpc_some f1)))) (fun y => absurd z y))
          refine zp2_ckr (zp2_ifr (fun _ => zp2_ckr (zp2_ckr (zp2_bvr (fun t1 g1 => ?_)))) (fun y => absurd z y))
          obtain ⟨c, ec⟩ := z_byteF r15
          have n31 : Int32.ofNat i &&& 31 = Int32.ofNat i := v_n31 ⟨i, hi2⟩
          have k1 : s.1 23 15 &&& 160 = s.1 23 15 &&& 224 := by
            rw [ec] at z ⊢
            exact v_fif c z
          rw [n31, k1] at f1
          rw [f1, g1]
          refine t_114 (hS.st (zr_or (lo := 0) (hi := 255) 8 (zr_or (lo := 0) (hi := 255) 8 (zr_andr (lo := 0) (hi := 224) (zr_c (lo := 224) (hi := 224) (by decide)) (by decide)) (zr_c (lo := 64) (hi := 64) (x := 64) (by decide)) (by decide)) (z_ofr (b := 31) (by omega) (by omega)) (by decide)))
        · refine zp2_bul (P := fun r => r = s) ?_ (fun s1 f1 => ?_)
          · unfold fX9_markFifth fX9_markFifth_39
            exact zpc_ck (zpc_if (fun y => absurd y z) (fun _ => zpc_some rfl))
          rw [f1]
          exact zp2_ckr (zp2_ifr (fun y => absurd y z) (fun _ => t_114 hS))
theorem t_osprites (h : zVe σ μ) (hs : zdC σ s) (hd : zdM μ t) (hst : zStt s t) (h24 : ∀ j : Nat, j < 256 → t.1 24 j = 0 ∧ t.1 25 j = 0) {L : Int32} : zp2 (fX3_drawOldSprites s L) (fX12_oldSprites t L) (zOe σ μ s t) := by
  have f1 : t.1 3 48 = σ.1 23 1 := h.ej hd (j := 1) (by decide)
  have b0 := p_bit_1_0 (μ := t) (by rw [f1]; exact h.r1)
  have b1 := p_bit_1_1 (μ := t) (by rw [f1]; exact h.r1)
  rw [f1] at b0 b1
  unfold fX3_drawOldSprites fX12_oldSprites fJ7_fill_53178_k28
  refine zp2_bul (c_fill28 (σ := σ) (s0 := s) (v := 0) zfuel 0 s (by decide) hs rfl rfl rfl (fun j hj => absurd hj (by omega))) (fun s1 q => ?_)
  obtain ⟨q1, q2, q3, q4, q5⟩ := q
  have g5 : s1.1 23 (5 : Int32).toNatClampNeg = σ.1 23 5 := q1.r (j := 5) (by decide)
  refine zp2_bil (p_held (x := 5) (zr_c (by decide))) (fun s2 v2 e2 => zp2_bvl (fun tb etb => ?_))
  cases e2
  rw [g5] at etb
  subst etb
  have hS : zOi σ μ s t s1 t := by
    refine ⟨q1, hd, q2, q3, rfl, rfl, fun j hj => Or.inl ⟨q5 j hj, (h24 j hj).2, (h24 j hj).1⟩, ?_⟩
    unfold zStt
    rw [q4]
    exact hst
  have fin : ∀ y z : Int32, z = gZm (σ.1 23 1) → y = gHg (σ.1 23 1) → zp2 (fX3_drawOldSprites_29 zfuel s1 L (128 * (σ.1 23 5 &&& 127)) 0 0) (fX12_oldSprites_33 t L z y) (zOe σ μ s t) := fun y z ez ey => by
    unfold fX12_oldSprites_33
    rw [ez, ey]
    exact t_29 h zfuel zfuel 0 s1 t 0 (by decide) (zr_c (by decide)) hS
  have l15 : ∀ z : Int32, z = gZm (σ.1 23 1) → zp2 (fX3_drawOldSprites_29 zfuel s1 L (128 * (σ.1 23 5 &&& 127)) 0 0) (fX12_oldSprites_15 t L z) (zOe σ μ s t) := fun z ez => by
    unfold fX12_oldSprites_15
    refine zp2_bir b1 (fun t2 v2 e2 => ?_)
    cases e2
    by_cases q : σ.1 23 1 &&& 2 = 0
    · rw [if_pos q]
      exact zp2_ifr (fun z => absurd z (by decide)) (fun _ => fin 8 z ez (by unfold gHg; rw [if_pos q]))
    · rw [if_neg q]
      exact zp2_ifr (fun _ => fin 16 z ez (by unfold gHg; rw [if_neg q])) (fun z => absurd rfl z)
  refine zp2_bir b0 (fun t2 v2 e2 => ?_)
  cases e2
  by_cases q : σ.1 23 1 &&& 1 = 0
  · rw [if_pos q]
    exact zp2_ifr (fun z => absurd z (by decide)) (fun _ => l15 1 (by unfold gZm; rw [if_pos q]))
  · rw [if_neg q]
    exact zp2_ifr (fun _ => l15 2 (by unfold gZm; rw [if_neg q])) (fun z => absurd rfl z)
end ZTC
