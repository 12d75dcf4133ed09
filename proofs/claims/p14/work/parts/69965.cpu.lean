/-! THE PAINTER, 6: ALL SPRITES OF A LINE -/
theorem zp2_usub {o o' : Option zSt} {C0 : zSt → Option zSt} {p : Option zSt} {Q : zSt → zSt → Prop} (hs : zpc o (fun r => o' = some r)) (h : zp2 (zbu o' C0) p Q) : zp2 (zbu o C0) p Q := by
  cases e : o with
  | none => exact zp2_nl
  | some r =>
    have z := hs r e
    rw [z] at h
    exact h
section ZT6
variable {σ μ s t s0 t0 : zSt}
def zSe (σ μ s0 t0 r t : zSt) : Prop := zdC σ r ∧ zdM μ t ∧ r.1 25 = s0.1 25 ∧ t.1 22 = t0.1 22 ∧ t.1 23 = t0.1 23 ∧ t.1 9 = t0.1 9 ∧ zStt r t ∧ ∀ j : Nat, j < 256 → zr 0 31 (t.1 24 j) ∧ r.1 27 j = (if t.1 24 j ≤ 0 then s0.1 27 j else if s0.1 27 j &&& 256 = 0 then t.1 24 j else s0.1 27 j)
theorem t_144 (h : zSi σ μ s0 t0 s t) : zp2 (fX3_drawSprites_144 s ) (some t) (zSe σ μ s0 t0) := by
  obtain ⟨h1, h2, h3, h4, h5, h6, h7, h8, h9⟩ := h
  unfold fX3_drawSprites_144
  refine zp2_of (c_147 (σ := σ) (o := s) zfuel 0 s (by decide) h1 rfl rfl rfl (fun j hj => absurd hj (by omega)) (fun _ _ => rfl)) (zpc_some (Q := fun r => r = t) rfl) (fun r t' q e => ?_)
  obtain ⟨q1, q2, q3, q4⟩ := q
  subst e
  refine ⟨q1, h2, q3.trans h4, h5, h6, h7, ?_, fun j hj => ?_⟩
  · unfold zStt
    rw [q2]
    exact h9
  · obtain ⟨r8, e8⟩ := h8 j hj
    rw [q4 j hj, e8, h3]
    by_cases z : s.1 28 j ≤ 0
    · rw [if_pos z, if_pos z, if_pos (by decide)]
      exact ⟨zr_c (by decide), rfl⟩
    · have z2 : ¬ (16 + s.1 28 j) ≤ 0 := zq_lef (zr_add (lo := 16) (hi := 31) (zr_c (lo := 16) (hi := 16) (x := 16) (by decide)) r8 (by decide)) rfl (by decide)
      rw [if_neg z, if_neg z, if_neg z2]
      exact ⟨zr_add (zr_c (lo := 16) (hi := 16) (x := 16) (by decide)) r8 (by decide), rfl⟩
/-- which row of a sprite lies on the line -/
def gRow (sh L u : Int32) : Int32 := if sh &&& 1 = 0 then ((L - u) - 1) &&& 255 else (((L - u) - 1) &&& 255) >>> ((1 : Int32) &&& 31)
def gHg (sh : Int32) : Int32 := if sh &&& 2 = 0 then 8 else 16
def gZm (sh : Int32) : Int32 := if sh &&& 1 = 0 then 1 else 2
theorem p_row {L u : Int32} : zpc (fX3_rowOfSprite s L u) (fun r => r = (s, if gHg (s.1 23 1) ≤ gRow (s.1 23 1) L u then -1 else gRow (s.1 23 1) L u)) := by
  unfold fX3_rowOfSprite
  refine zpc_bi (p_held (x := 1) (zr_c (by decide))) (fun s1 v e => zpc_bv (fun v3 e3 => ?_))
  cases e
  rw [show s.1 23 (1 : Int32).toNatClampNeg = s.1 23 1 from rfl]
  have go : ∀ w, w = gRow (s.1 23 1) L u → zpc (fX3_rowOfSprite_32 s (s.1 23 1) w) (fun r => r = (s, if gHg (s.1 23 1) ≤ gRow (s.1 23 1) L u then -1 else gRow (s.1 23 1) L u)) := fun w ew => by
    unfold fX3_rowOfSprite_32 fX3_rowOfSprite_47 fX3_rowOfSprite_56 gHg
    rw [ew]
    refine zpc_if (fun q => zpc_if (fun q2 => zpc_some ?_) (fun q2 => zpc_some ?_)) (fun q => zpc_if (fun q2 => zpc_some ?_) (fun q2 => zpc_some ?_))
    · rw [if_pos q, if_pos q2]
    · rw [if_pos q, if_neg q2]
    · rw [if_neg q, if_pos q2]
    · rw [if_neg q, if_neg q2]
  refine zpc_if (fun q => go _ ?_) (fun q => zpc_bv (fun v4 e4 => go _ ?_))
  · unfold gRow; rw [if_pos q, e3]
  · unfold gRow; rw [if_neg q, e4, e3]
/-- the reference's comparison is the same; its row, divided by the zoom, too -/
theorem v_row : ∀ c : Fin 256, ((8 ≤ Int32.ofNat c.val ↔ ¬ Int32.ofNat c.val < 8 * 1) ∧ (16 ≤ Int32.ofNat c.val ↔ ¬ Int32.ofNat c.val < 16 * 1) ∧ Int32.ofNat c.val / 1 = Int32.ofNat c.val) ∧ ((8 ≤ Int32.ofNat c.val >>> ((1 : Int32) &&& 31) ↔ ¬ Int32.ofNat c.val < 8 * 2) ∧ (16 ≤ Int32.ofNat c.val >>> ((1 : Int32) &&& 31) ↔ ¬ Int32.ofNat c.val < 16 * 2) ∧ Int32.ofNat c.val / 2 = Int32.ofNat c.val >>> ((1 : Int32) &&& 31)) ∧ (0 ≤ (Int32.ofNat c.val >>> ((1 : Int32) &&& 31)).toInt) := by decide +kernel
theorem z_row {sh L u : Int32} : (gHg sh ≤ gRow sh L u ↔ ¬ (((L - u) - 1) &&& 255) < gHg sh * gZm sh) ∧ (((L - u) - 1) &&& 255) / gZm sh = gRow sh L u ∧ zr 0 255 (gRow sh L u) := by
  have r : zr 0 255 (((L - u) - 1) &&& 255) := z_r8 _
  obtain ⟨c, ec⟩ := z_byteF r
  obtain ⟨⟨a1, a2, a3⟩, ⟨b1, b2, b3⟩, b4⟩ := v_row c
  unfold gHg gRow gZm
  rw [ec]
  by_cases q : sh &&& 1 = 0
  · rw [if_pos q, if_pos q]
    rw [ec] at r
    by_cases p : sh &&& 2 = 0
    · rw [if_pos p]; exact ⟨a1, a3, r⟩
    · rw [if_neg p]; exact ⟨a2, a3, r⟩
  · rw [if_neg q, if_neg q]
    have r2 : zr 0 255 (Int32.ofNat c.val >>> ((1 : Int32) &&& 31)) := ⟨b4, by
      have z := b3
      have h1 := z_quo (x := Int32.ofNat c.val) (s := (1 : Int32) &&& 31) (k := 1) (by rw [z_ofI (by omega)]; omega) rfl
      rw [h1, z_ofI (by omega)]
      omega⟩
    by_cases p : sh &&& 2 = 0
    · rw [if_pos p]; exact ⟨b1, b3, r2⟩
    · rw [if_neg p]; exact ⟨b2, b3, r2⟩
def gLe (σ : zSt) (x : Int32) : Int32 := vb σ x - (if σ.1 23 0 &&& 8 = 0 then 0 else 8)
def gTi (σ : zSt) (x : Int32) : Int32 := vb σ (x + 1) + (if σ.1 23 6 &&& 4 = 0 then 0 else 256)
def gTe (σ : zSt) (x : Int32) : Int32 := if σ.1 23 1 &&& 2 = 0 then gTi σ x else gTi σ x &&& (-2)
theorem v_and1 : ∀ c : Fin 256, (Int32.ofNat c.val &&& 1 = 0 ∨ Int32.ofNat c.val &&& 1 = 1) := by decide +kernel
/-- the class: a sprite up to its dots -/
theorem c_sprite (h : zVe σ μ) (hs : zdC σ s) {x row : Int32} : zpc (fX3_drawSprite s x row) (fun r => fX3_drawSprite_111 zfuel (zsi s 3 7 (gPl σ ((32 * gTe σ x) + (4 * row)))) (gLe σ x) (σ.1 23 1 &&& 1) 0 = some r) := by
  have v := hs.v
  have g0 : s.1 23 (0 : Int32).toNatClampNeg = σ.1 23 0 := hs.r (j := 0) (by decide)
  have g1 : s.1 23 (1 : Int32).toNatClampNeg = σ.1 23 1 := hs.r (j := 1) (by decide)
  have g6 : s.1 23 (6 : Int32).toNatClampNeg = σ.1 23 6 := hs.r (j := 6) (by decide)
  have l100 : ∀ y, y = gTe σ x → zpc (fX3_drawSprite_100 s row (gLe σ x) (σ.1 23 1 &&& 1) y 32) (fun r => fX3_drawSprite_111 zfuel (zsi s 3 7 (gPl σ ((32 * gTe σ x) + (4 * row)))) (gLe σ x) (σ.1 23 1 &&& 1) 0 = some r) := fun y ey => by
    unfold fX3_drawSprite_100
    rw [ey]
    refine zpc_bu p_planes (fun s1 e1 => ?_)
    rw [e1, show gPl s ((32 * gTe σ x) + (4 * row)) = gPl σ ((32 * gTe σ x) + (4 * row)) by unfold gPl; rw [vb_of v, vb_of v, vb_of v, vb_of v]]
    exact fun r er => er
  have l61 : ∀ y z, z + y = gTi σ x → zpc (fX3_drawSprite_61 s row (gLe σ x) y z) (fun r => fX3_drawSprite_111 zfuel (zsi s 3 7 (gPl σ ((32 * gTe σ x) + (4 * row)))) (gLe σ x) (σ.1 23 1 &&& 1) 0 = some r) := fun y z e => by
    unfold fX3_drawSprite_61
    refine zpc_bv (fun v8 e8 => zpc_bi (p_held (x := 1) (zr_c (by decide))) (fun s1 v1 e1 => zpc_bv (fun v11 e11 => ?_)))
    cases e1
    rw [e] at e8
    rw [g1] at e11
    rw [g1, e11, e8]
    refine zpc_if (fun q => l100 _ ?_) (fun q => l100 _ ?_)
    · unfold gTe; rw [if_pos q]
    · unfold gTe; rw [if_neg q]
  have l28 : ∀ y, vb σ x - y = gLe σ x → zpc (fX3_drawSprite_28 s x row y (vb σ x)) (fun r => fX3_drawSprite_111 zfuel (zsi s 3 7 (gPl σ ((32 * gTe σ x) + (4 * row)))) (gLe σ x) (σ.1 23 1 &&& 1) 0 = some r) := fun y e => by
    unfold fX3_drawSprite_28
    refine zpc_bv (fun v12 e12 => zpc_bi p_vb (fun s1 v1 e1 => ?_))
    cases e1
    refine zpc_bi (p_held (x := 6) (zr_c (by decide))) (fun s1 v1 e1 => ?_)
    cases e1
    rw [e] at e12
    rw [g6, e12, vb_of v]
    refine zpc_if (fun q => l61 _ _ ?_) (fun q => l61 _ _ ?_)
    · unfold gTi; rw [if_pos q]
    · unfold gTi; rw [if_neg q]
  unfold fX3_drawSprite
  refine zpc_bi p_vb (fun s1 v1 e1 => ?_)
  cases e1
  refine zpc_bi (p_held (x := 0) (zr_c (by decide))) (fun s1 v1 e1 => ?_)
  cases e1
  rw [g0, vb_of v]
  refine zpc_if (fun q => l28 _ ?_) (fun q => l28 _ ?_)
  · unfold gLe; rw [if_pos q]
  · unfold gLe; rw [if_neg q]
theorem v_r16 : ∀ c : Fin 16, 32 * (Int32.ofNat c.val / 8) + 4 * (zrem (Int32.ofNat c.val) 8) = 4 * Int32.ofNat c.val := by decide +kernel
theorem v_r8 : ∀ c : Fin 8, zrem (Int32.ofNat c.val) 8 = Int32.ofNat c.val := by decide +kernel
theorem v_512 : ∀ c : Fin 512, Int32.ofNat c.val &&& 510 = Int32.ofNat c.val &&& (-2) := by decide +kernel
theorem gTi_r (h : zVe σ μ) {x : Int32} : zr 0 511 (gTi σ x) := by
  unfold gTi
  by_cases q : σ.1 23 6 &&& 4 = 0
  · rw [if_pos q]; exact zr_add (vb_r h.1 _) (zr_c (lo := 0) (hi := 0) (x := 0) (by decide)) (by decide)
  · rw [if_neg q]; exact zr_add (vb_r h.1 _) (zr_c (lo := 256) (hi := 256) (x := 256) (by decide)) (by decide)
/-- the reference: a sprite up to its dots -/
theorem m_sprite (h : zVe σ μ) (hd : zdM μ t) {k73 : zK8} {L tb f e nn u : Int32} (hlt : ¬ gHg (σ.1 23 1) ≤ gRow (σ.1 23 1) L u) : ∃ ti : Int32, (32 * gTe σ ((tb + 128) + (2 * nn))) + (4 * gRow (σ.1 23 1) L u) = (32 * ti) + (4 * (zrem ((((L - u) - 1) &&& 255) / gZm (σ.1 23 1)) 8)) ∧ zpc (zbi (fX12_video8 t ((tb + 129) + (2 * nn))) (fun σ16 v17 => zbi (fX12_bit σ16 6 2) (fun σ18 v19 => if v19 = 1 then fX12_sprites_183 k73 σ18 L tb (gZm (σ.1 23 1)) (gHg (σ.1 23 1)) f e nn (((L - u) - 1) &&& 255) 256 v17 else fX12_sprites_183 k73 σ18 L tb (gZm (σ.1 23 1)) (gHg (σ.1 23 1)) f e nn (((L - u) - 1) &&& 255) 0 v17))) (fun r => fX12_sprites_250 k73 zfuel t L tb (gZm (σ.1 23 1)) (gHg (σ.1 23 1)) f e nn (((L - u) - 1) &&& 255) ti (gLe σ ((tb + 128) + (2 * nn))) 0 = some r) := by
  obtain ⟨X, eX⟩ : ∃ X, X = (tb + 128) + (2 * nn) := ⟨_, rfl⟩
  obtain ⟨Y, eY⟩ : ∃ Y, Y = ((L - u) - 1) &&& 255 := ⟨_, rfl⟩
  have ea : (tb + 129) + (2 * nn) = X + 1 := by
    rw [eX, Int32.add_assoc (tb + 128), Int32.add_comm (2 * nn) 1, ← Int32.add_assoc (tb + 128), Int32.add_assoc tb 128 1]
    rfl
  obtain ⟨z1, z2, z3⟩ := z_row (sh := σ.1 23 1) (L := L) (u := u)
  rw [← eY] at z1 z2
  rw [← eX, ← eY, ea, z2]
  have f0 : t.1 3 47 = σ.1 23 0 := h.ej hd (j := 0) (by decide)
  have f6 : t.1 3 53 = σ.1 23 6 := h.ej hd (j := 6) (by decide)
  have b3 := p_bit_0_3 (μ := t) (by rw [f0]; exact h.r0)
  have b62 := p_bit_6_2 (μ := t) (by rw [f6]; exact h.rj (j := 6) (by decide))
  rw [f0] at b3
  rw [f6] at b62
  have l212 : ∀ y, zpc (fX12_sprites_212 k73 t L tb (gZm (σ.1 23 1)) (gHg (σ.1 23 1)) f e nn Y y) (fun r => fX12_sprites_250 k73 zfuel t L tb (gZm (σ.1 23 1)) (gHg (σ.1 23 1)) f e nn Y y (gLe σ X) 0 = some r) := fun y => by
    unfold fX12_sprites_212 fX12_sprites_244
    rw [← eX]
    refine zpc_bi (p_v8 h.1 hd.v) (fun t1 v1 e1 => ?_)
    cases e1
    refine zpc_bit b3 (fun q => zpc_if (fun z => absurd z (by decide)) (fun _ => zpc_bv (fun v8 e8 => ?_))) (fun q => zpc_if (fun _ => zpc_bv (fun v8 e8 => ?_)) (fun z => absurd rfl z))
    · rw [e8, show vb σ X - 0 = gLe σ X by unfold gLe; rw [if_pos q]]
      exact fun r er => er
    · rw [e8, show vb σ X - 8 = gLe σ X by unfold gLe; rw [if_neg q]]
      exact fun r er => er
  have low : ∀ ti, (∀ y z, z + y = gTi σ X → zpc (fX12_sprites_183 k73 t L tb (gZm (σ.1 23 1)) (gHg (σ.1 23 1)) f e nn Y y z) (fun r => fX12_sprites_250 k73 zfuel t L tb (gZm (σ.1 23 1)) (gHg (σ.1 23 1)) f e nn Y ti (gLe σ X) 0 = some r)) → zpc (zbi (fX12_video8 t (X + 1)) (fun σ16 v17 => zbi (fX12_bit σ16 6 2) (fun σ18 v19 => if v19 = 1 then fX12_sprites_183 k73 σ18 L tb (gZm (σ.1 23 1)) (gHg (σ.1 23 1)) f e nn Y 256 v17 else fX12_sprites_183 k73 σ18 L tb (gZm (σ.1 23 1)) (gHg (σ.1 23 1)) f e nn Y 0 v17))) (fun r => fX12_sprites_250 k73 zfuel t L tb (gZm (σ.1 23 1)) (gHg (σ.1 23 1)) f e nn Y ti (gLe σ X) 0 = some r) := fun ti H => by
    refine zpc_bi (p_v8 h.1 hd.v) (fun t1 v1 e1 => ?_)
    cases e1
    refine zpc_bit b62 (fun q => zpc_if (fun z => absurd z (by decide)) (fun _ => H _ _ ?_)) (fun q => zpc_if (fun _ => H _ _ ?_) (fun z => absurd rfl z))
    · unfold gTi; rw [if_pos q]
    · unfold gTi; rw [if_neg q]
  have rT := gTi_r h (x := X)
  have hl : (gRow (σ.1 23 1) L u).toInt < (gHg (σ.1 23 1)).toInt := Int32.lt_iff_toInt_lt.mp (z_nle hlt)
  by_cases p : σ.1 23 1 &&& 2 = 0
  · have eH : gHg (σ.1 23 1) = 8 := by unfold gHg; rw [if_pos p]
    rw [eH, show (8 : Int32).toInt = 8 from rfl] at hl
    obtain ⟨c, ec⟩ := z_F (m := 8) (b := 7) (x := gRow (σ.1 23 1) L u) ⟨z3.1, by omega⟩ (by decide)
    refine ⟨gTi σ X, ?_, low _ (fun y z eyz => ?_)⟩
    · unfold gTe
      rw [if_pos p, ec, v_r8 c]
    · unfold fX12_sprites_183
      refine zpc_bv (fun v13 e13 => ?_)
      rw [eyz] at e13
      rw [e13, eH]
      refine zpc_if (fun z => absurd z (by decide)) (fun _ => ?_)
      have z := l212 (gTi σ X)
      rw [eH] at z
      exact z
  · have eH : gHg (σ.1 23 1) = 16 := by unfold gHg; rw [if_neg p]
    rw [eH, show (16 : Int32).toInt = 16 from rfl] at hl
    obtain ⟨c, ec⟩ := z_F (m := 16) (b := 15) (x := gRow (σ.1 23 1) L u) ⟨z3.1, by omega⟩ (by decide)
    obtain ⟨d, ed⟩ := z_F (m := 512) (b := 511) (x := gTi σ X) rT (by decide)
    refine ⟨(gTi σ X &&& 510) + ((gRow (σ.1 23 1) L u) / 8), ?_, low _ (fun y z eyz => ?_)⟩
    · unfold gTe
      rw [if_neg p, show gTi σ X &&& 510 = gTi σ X &&& (-2) by rw [ed]; exact v_512 d, Int32.mul_add, Int32.add_assoc, ec, v_r16 c]
    · unfold fX12_sprites_183
      refine zpc_bv (fun v13 e13 => ?_)
      rw [eyz] at e13
      rw [e13, eH, z2]
      refine zpc_if (fun _ => zpc_ck (zpc_ck ?_)) (fun z => absurd rfl z)
      have z := l212 ((gTi σ X &&& 510) + ((gRow (σ.1 23 1) L u) / 8))
      rw [eH] at z
      exact z
/-- all sprites -/
theorem t_51 (h : zVe σ μ) {L tb e : Int32} : ∀ (n m i : Nat) (s t : zSt) (f : Int32), i ≤ 64 → zr 0 8 f → zSi σ μ s0 t0 s t → zp2 (fX3_drawSprites_51 n s L tb e f (Int32.ofNat i)) (fX12_sprites_73 m t L tb (gZm (σ.1 23 1)) (gHg (σ.1 23 1)) f e (Int32.ofNat i)) (zSe σ μ s0 t0) := by
  intro n
  induction n with
  | zero => intro m i s t f _ _ _; exact zp2_nl
  | succ n ih =>
    intro m i s t f hi hf hS
    cases m with
    | zero => exact zp2_nr
    | succ m =>
      show zp2 (fX3_drawSprites_51_body (fX3_drawSprites_51 n) s L tb e f (Int32.ofNat i)) (fX12_sprites_73_body (fX12_sprites_73 m) t L tb (gZm (σ.1 23 1)) (gHg (σ.1 23 1)) f e (Int32.ofNat i)) _
      unfold fX3_drawSprites_51_body fX12_sprites_73_body
      have hs := hS.1
      have hd := hS.2.1
      refine zp2_if (fun _ => t_144 hS) (fun q => ?_)
      have hi2 : i < 64 := by
        have : ¬ 64 ≤ i := fun z => q ((z_ofL (c := 64) (k := 64) (i := i) (by omega) rfl).mpr z)
        omega
      refine zp2_bil p_vb (fun s1 u e1 => ?_)
      cases e1
      refine zp2_bir (p_v8 h.1 hd.v) (fun t1 u e1 => ?_)
      cases e1
      rw [vb_of hs.v]
      obtain ⟨u, eu⟩ : ∃ u, u = vb σ (tb + Int32.ofNat i) := ⟨_, rfl⟩
      rw [← eu]
      have g1 : s.1 23 1 = σ.1 23 1 := hs.r (by decide)
      have next : ∀ (s t : zSt) (f : Int32), zr 0 8 f → zSi σ μ s0 t0 s t → zp2 (fX3_drawSprites_138 (fX3_drawSprites_51 n) s L tb e f (Int32.ofNat i)) (fX12_sprites_349 (fX12_sprites_73 m) t L tb (gZm (σ.1 23 1)) (gHg (σ.1 23 1)) f e (Int32.ofNat i)) (zSe σ μ s0 t0) := fun s t f a b => by
        unfold fX3_drawSprites_138 fX12_sprites_349
        rw [z_ofS (by omega)]
        exact zp2_bvl (fun v ev => zp2_bvr (fun w ew => by rw [ev, ew]; exact ih m (i + 1) s t f (by omega) a b))
      have main : zp2 (fX3_drawSprites_86 (fX3_drawSprites_51 n) s L tb e f (Int32.ofNat i) u) (fX12_sprites_104 (fX12_sprites_73 m) t L tb (gZm (σ.1 23 1)) (gHg (σ.1 23 1)) f e (Int32.ofNat i) u) (zSe σ μ s0 t0) := by
        obtain ⟨z1, z2, z3⟩ := z_row (sh := σ.1 23 1) (L := L) (u := u)
        unfold fX3_drawSprites_86 fX12_sprites_104
        refine zp2_bil p_row (fun s1 v1 e1 => zp2_bvr (fun v14 e14 => ?_))
        cases e1
        rw [g1]
        subst e14
        by_cases p : gHg (σ.1 23 1) ≤ gRow (σ.1 23 1) L u
        · rw [if_pos p]
          refine zp2_ifl (fun _ => zp2_ifr (fun z => absurd z (z1.mp p)) (fun _ => next s t f hf hS)) (fun z => absurd (by decide) z)
        rw [if_neg p]
        have lt : (((L - u) - 1) &&& 255) < gHg (σ.1 23 1) * gZm (σ.1 23 1) := Decidable.byContradiction (fun z => p (z1.mpr z))
        refine zp2_ifl (fun z => absurd z (zq_lt z3 rfl (by decide))) (fun _ => zp2_ifr (fun _ => ?_) (fun z => absurd lt z))
        refine zp2_bvl (fun v6 e6 => ?_)
        have tf : (f + 1).toInt = f.toInt + 1 := z_tadd hf (zr_c (lo := 1) (hi := 1) (x := 1) (by decide)) (by decide)
        have f0 := hf.1
        have f8 := hf.2
        have e8 : v6 ≤ 8 ↔ ¬ f = 8 := by
          rw [e6, Int32.le_iff_toInt_le, ← Int32.toInt_inj, tf, show (8 : Int32).toInt = 8 from rfl]
          omega
        refine zp2_ifn e8 (fun _ c8 => ?_) (fun _ c8 => ?_)
        · have rf : zr 0 8 (f + 1) := ⟨by omega, by have : ¬ f.toInt = 8 := fun z => c8 (Int32.toInt_inj.mp z); omega⟩
          subst e6
          refine zp2_bvr (fun v15 e15 => ?_)
          subst e15
          obtain ⟨ti, eA, pM⟩ := m_sprite h hd (k73 := fX12_sprites_73 m) (tb := tb) (f := f + 1) (e := e) (nn := Int32.ofNat i) p
          refine zp2_subr pM (zp2_usub (c_sprite h hs) ?_)
          have hz : zZm (σ.1 23 1 &&& 1) (gZm (σ.1 23 1)) := by
            unfold gZm
            obtain ⟨c, ec⟩ := z_byteF h.r1
            rcases v_and1 c with z | z
            · rw [← ec] at z
              rw [if_pos z]
              exact Or.inl ⟨z, rfl⟩
            · rw [← ec] at z
              rw [if_neg (by rw [z]; decide)]
              exact Or.inr ⟨z, rfl⟩
          exact t_111 h hz eA (fun s' t' q' => next s' t' (f + 1) rf q') zfuel zfuel 0 _ t (by decide) hS.pl zsi_ej
        · have r15 : zr 0 255 (s.1 23 15) := hS.2.2.2.2.2.2.2.2.2
          have e62 : zgi t 3 (62 : Int32).toNatClampNeg = s.1 23 15 := hS.2.2.2.2.2.2.2.2.1
          refine zp2_bul (P := fun r => r = zsi s 23 15 (s.1 23 15 ||| 64)) (by unfold fX9_mark; exact zpc_ck (zpc_ck (zpc_bv (fun s1 f1 => zpc_some f1)))) (fun s1 f1 => zp2_ckr (zp2_ckr (zp2_bvr (fun t1 g1 => ?_))))
          rw [e62] at g1
          rw [f1, g1]
          exact t_144 (hS.st (zr_or (lo := 0) (hi := 255) 8 r15 (zr_c (lo := 64) (hi := 64) (x := 64) (by decide)) (by decide)))
      exact zp2_if (fun _ => main) (fun _ => zp2_if (fun _ => t_144 hS) (fun _ => main))
theorem v_tab : ∀ c : Fin 256, 256 * (zrem (Int32.ofNat c.val / 2) 64) = 256 * ((Int32.ofNat c.val >>> ((1 : Int32) &&& 31)) &&& 63) := by decide +kernel
/-- sprites over tiles, both sides -/
theorem t_sprites (h : zVe σ μ) (hs : zdC σ s) (hd : zdM μ t) (hst : zStt s t) (h24 : ∀ j : Nat, j < 256 → t.1 24 j = 0) {L : Int32} : zp2 (fX3_drawSprites s L) (fX12_sprites t L) (zSe σ μ s t) := by
  have f0 : t.1 3 47 = σ.1 23 0 := h.ej hd (j := 0) (by decide)
  have f1 : t.1 3 48 = σ.1 23 1 := h.ej hd (j := 1) (by decide)
  have f5 : t.1 3 (47 + (5 : Int32)).toNatClampNeg = σ.1 23 5 := h.ej hd (j := 5) (by decide)
  have pM := p_heightM (μ := t) (by rw [f0]; exact h.r0) (by rw [f1]; exact h.r1)
  rw [f0, f1] at pM
  have b0 := p_bit_1_0 (μ := t) (by rw [f1]; exact h.r1)
  have b1 := p_bit_1_1 (μ := t) (by rw [f1]; exact h.r1)
  rw [f1] at b0 b1
  unfold fX3_drawSprites fX12_sprites
  unfold fJ7_fill_53178_k28
  refine zp2_bul (c_fill28 (σ := σ) (s0 := s) (v := 0) zfuel 0 s (by decide) hs rfl rfl rfl (fun j hj => absurd hj (by omega))) (fun s1 q => ?_)
  obtain ⟨q1, q2, q3, q4, q5⟩ := q
  have g0 : s1.1 23 0 = σ.1 23 0 := q1.r (by decide)
  have g1 : s1.1 23 1 = σ.1 23 1 := q1.r (by decide)
  have g5 : s1.1 23 (5 : Int32).toNatClampNeg = σ.1 23 5 := q1.r (j := 5) (by decide)
  have pC := p_heightC (σ := s1) (by rw [g0]; exact h.r0) (by rw [g1]; exact h.r1)
  rw [g0, g1] at pC
  refine zp2_bil (p_held (x := 5) (zr_c (by decide))) (fun s2 v2 e2 => zp2_bvl (fun tb etb => ?_))
  cases e2
  rw [g5] at etb
  refine zp2_bil pC (fun s2 v2 e2 => ?_)
  cases e2
  refine zp2_bir p_reg (fun t2 v2 e2 => zp2_ckr (zp2_ckr (zp2_bvr (fun tb' etb' => ?_))))
  cases e2
  rw [f5] at etb'
  have etb' : tb' = tb := by
    rw [etb', etb]
    obtain ⟨c, ec⟩ := z_byteF (h.rj (j := 5) (by decide))
    rw [ec]
    exact v_tab c
  subst etb'
  have hS : zSi σ μ s t s1 t := by
    refine ⟨q1, hd, q2, q3, rfl, rfl, rfl, fun j hj => ?_, ?_⟩
    · rw [q5 j hj, h24 j hj]
      exact ⟨zr_c (by decide), by rw [if_pos (by decide)]⟩
    · unfold zStt
      rw [q4]
      exact hst
  have fin : ∀ y z e e' : Int32, z = gZm (σ.1 23 1) → y = gHg (σ.1 23 1) → e = e' → zp2 (fX3_drawSprites_44 s1 L tb' e) (fX12_sprites_68 t L tb' z y 0 e') (zSe σ μ s t) := fun y z e e' ez ey ee => by
    unfold fX3_drawSprites_44 fX12_sprites_68
    rw [ez, ey, ee]
    exact t_51 h zfuel zfuel 0 s1 t 0 (by decide) (zr_c (by decide)) hS
  have l48 : ∀ y z : Int32, z = gZm (σ.1 23 1) → y = gHg (σ.1 23 1) → zp2 (if zht (σ.1 23 0) (σ.1 23 1) = 192 then fX3_drawSprites_44 s1 L tb' 1 else fX3_drawSprites_44 s1 L tb' 0) (fX12_sprites_48 t L tb' z y) (zSe σ μ s t) := fun y z ez ey => by
    unfold fX12_sprites_48
    refine zp2_bir pM (fun t2 v2 e2 => ?_)
    cases e2
    exact zp2_if (fun _ => fin y z 1 1 ez ey rfl) (fun _ => fin y z 0 0 ez ey rfl)
  have l30 : ∀ z : Int32, z = gZm (σ.1 23 1) → zp2 (if zht (σ.1 23 0) (σ.1 23 1) = 192 then fX3_drawSprites_44 s1 L tb' 1 else fX3_drawSprites_44 s1 L tb' 0) (fX12_sprites_30 t L tb' z) (zSe σ μ s t) := fun z ez => by
    unfold fX12_sprites_30
    refine zp2_bir b1 (fun t2 v2 e2 => ?_)
    cases e2
    by_cases q : σ.1 23 1 &&& 2 = 0
    · rw [if_pos q]
      exact zp2_ifr (fun z => absurd z (by decide)) (fun _ => l48 8 z ez (by unfold gHg; rw [if_pos q]))
    · rw [if_neg q]
      exact zp2_ifr (fun _ => l48 16 z ez (by unfold gHg; rw [if_neg q])) (fun z => absurd rfl z)
  refine zp2_bir b0 (fun t2 v2 e2 => ?_)
  cases e2
  by_cases q : σ.1 23 1 &&& 1 = 0
  · rw [if_pos q]
    exact zp2_ifr (fun z => absurd z (by decide)) (fun _ => l30 1 (by unfold gZm; rw [if_pos q]))
  · rw [if_neg q]
    exact zp2_ifr (fun _ => l30 2 (by unfold gZm; rw [if_neg q])) (fun z => absurd rfl z)
end ZT6
