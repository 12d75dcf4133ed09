/-! THE PAINTER, 3: THE REFERENCE'S TILES -/
def tNm (σ : zSt) : Int32 := if zht (σ.1 23 0) (σ.1 23 1) = 192 then 1024 * (σ.1 23 2 &&& 14) else (4096 * ((σ.1 23 2 >>> ((2 : Int32) &&& 31)) &&& 3)) + 1792
def tAc (σ : zSt) (L : Int32) : Int32 := if 16 ≤ L then σ.1 23 8 else if σ.1 23 0 &&& 64 = 0 then σ.1 23 8 else 0
def tDn (σ : zSt) (L : Int32) : Int32 := zrem (L + σ.1 23 19) (if zht (σ.1 23 0) (σ.1 23 1) = 192 then 224 else 256)
def tSt (σ : zSt) : Int32 := if σ.1 23 0 &&& 128 = 0 then 0 else 1
theorem v_d8 : ∀ c : Fin 256, Int32.ofNat c.val / 8 = Int32.ofNat c.val >>> ((3 : Int32) &&& 31) ∧ zrem (Int32.ofNat c.val) 8 = Int32.ofNat c.val &&& 7 := by decide +kernel
theorem z_d8 {x : Int32} (h : zr 0 255 x) : x / 8 = x >>> ((3 : Int32) &&& 31) ∧ zrem x 8 = x &&& 7 := by
  obtain ⟨c, e⟩ := z_byteF h
  rw [e]
  exact v_d8 c
theorem v_nm : ∀ c : Fin 256, 1024 * ((zrem (Int32.ofNat c.val) 16) &&& 14) = 1024 * (Int32.ofNat c.val &&& 14) ∧ (4096 * (zrem (Int32.ofNat c.val / 4) 4)) + 1792 = (4096 * ((Int32.ofNat c.val >>> ((2 : Int32) &&& 31)) &&& 3)) + 1792 := by decide +kernel
theorem z_nm {x : Int32} (h : zr 0 255 x) : 1024 * ((zrem x 16) &&& 14) = 1024 * (x &&& 14) ∧ (4096 * (zrem (x / 4) 4)) + 1792 = (4096 * ((x >>> ((2 : Int32) &&& 31)) &&& 3)) + 1792 := by
  obtain ⟨c, e⟩ := z_byteF h
  rw [e]
  exact v_nm c
section ZT3
variable {σ μ s t : zSt}
theorem zVe.rj (h : zVe σ μ) {j : Nat} (hj : j ≤ 10) : zr 0 255 (σ.1 23 j) := h.2.1.at (zg_23r ⟨j, by omega⟩)
theorem zVe.ej (h : zVe σ μ) (hd : zdM μ t) {j : Nat} (hj : j ≤ 14) : t.1 3 (47 + j) = σ.1 23 j := by
  have p := z_pn23_0 (d := j) (by omega)
  rw [Nat.zero_add] at p
  rw [hd.r (by omega)]
  exact h.1.e p
theorem zVe.e19 (h : zVe σ μ) : μ.1 3 65 = σ.1 23 19 := h.1.e (z_pn23_18 (d := 1) (by decide))
theorem tDn_r (h : zVe σ μ) {L : Int32} (hL : zr 0 239 L) : zr 0 255 (tDn σ L) := by
  have r19 : zr 0 255 (σ.1 23 19) := h.2.1.at (k := 23) (j := 19) rfl
  have ra : zr 0 494 (L + σ.1 23 19) := zr_add hL r19 (by decide)
  unfold tDn
  by_cases q : zht (σ.1 23 0) (σ.1 23 1) = 192
  · rw [if_pos q]
    have e := z_trem 224 (y := 224) rfl ra (by decide)
    exact ⟨by rw [e]; exact Int.emod_nonneg _ (by decide), by rw [e]; have := Int.emod_lt_of_pos (L + σ.1 23 19).toInt (b := 224) (by decide); omega⟩
  · rw [if_neg q]
    have e := z_trem 256 (y := 256) rfl ra (by decide)
    exact ⟨by rw [e]; exact Int.emod_nonneg _ (by decide), by rw [e]; have := Int.emod_lt_of_pos (L + σ.1 23 19).toInt (b := 256) (by decide); omega⟩
theorem tRo_r {st d L i : Int32} (hd : zr 0 255 d) (hL : zr 0 239 L) : zr 0 255 (tRo st d L i) := by
  unfold tRo
  by_cases q : st = 0
  · rw [if_pos q]; exact hd
  · rw [if_neg q]
    by_cases p : i < 192
    · rw [if_pos p]; exact hd
    · rw [if_neg p]; exact zr_w hL (by decide)
/-- the reference's dot of a tile's row -/
theorem m_141 (h : zVe σ μ) (hd : zdM μ t) {x nm c R : Int32} (rc : zr 0 255 c) (rR : zr 0 255 R) : zpc (fX12_tile_141 t x nm c R) (fun r => r = zsi (zsi t 22 x.toNatClampNeg (gTd σ (tAd (gTb σ ((nm + (2 * (c >>> ((3 : Int32) &&& 31)))) + (64 * (R >>> ((3 : Int32) &&& 31))))) R) (tPc (gTb σ ((nm + (2 * (c >>> ((3 : Int32) &&& 31)))) + (64 * (R >>> ((3 : Int32) &&& 31))))) c) + o16 (gTb σ ((nm + (2 * (c >>> ((3 : Int32) &&& 31)))) + (64 * (R >>> ((3 : Int32) &&& 31))))))) 23 x.toNatClampNeg (oAh (gTd σ (tAd (gTb σ ((nm + (2 * (c >>> ((3 : Int32) &&& 31)))) + (64 * (R >>> ((3 : Int32) &&& 31))))) R) (tPc (gTb σ ((nm + (2 * (c >>> ((3 : Int32) &&& 31)))) + (64 * (R >>> ((3 : Int32) &&& 31))))) c)) (gTb σ ((nm + (2 * (c >>> ((3 : Int32) &&& 31)))) + (64 * (R >>> ((3 : Int32) &&& 31))))))) := by
  obtain ⟨A, eA⟩ : ∃ A, A = (nm + (2 * (c >>> ((3 : Int32) &&& 31)))) + (64 * (R >>> ((3 : Int32) &&& 31))) := ⟨_, rfl⟩
  rw [← eA]
  obtain ⟨w, ew⟩ : ∃ w, w = gTb σ A := ⟨_, rfl⟩
  rw [← ew]
  unfold fX12_tile_141
  rw [(z_d8 rc).1, (z_d8 rc).2, (z_d8 rR).1, show (nm + (64 * (R >>> ((3 : Int32) &&& 31)))) + (2 * (c >>> ((3 : Int32) &&& 31))) = A by rw [eA, Int32.add_assoc, Int32.add_assoc, Int32.add_comm (64 * (R >>> ((3 : Int32) &&& 31)))]]
  refine zpc_ck (zpc_ck (zpc_bv (fun v5 e5 => zpc_bi (p_v8 h.1 hd.v) (fun t1 v e => ?_))))
  cases e
  subst e5
  refine zpc_bi (p_v8 h.1 hd.v) (fun t1 v e => zpc_bv (fun v10 e10 => ?_))
  cases e
  have e10 : v10 = w := by rw [e10, ew]; rfl
  subst e10
  obtain ⟨N, eN⟩ : ∃ N, N = gTd σ (tAd v10 R) (tPc v10 c) := ⟨_, rfl⟩
  rw [← eN]
  have l302 : ∀ y : Int32, ∀ t1 : zSt, vp_nar .boolean y = oAh N v10 → t1 = zsi t 22 x.toNatClampNeg (N + o16 v10) → zpc (fX12_tile_302 t1 y x) (fun r => r = zsi (zsi t 22 x.toNatClampNeg (N + o16 v10)) 23 x.toNatClampNeg (oAh N v10)) := fun y t1 e1 e2 => by
    unfold fX12_tile_302
    exact zpc_ck (zpc_bv (fun t2 g2 => zpc_some (by rw [g2, e1, e2])))
  have l276 : ∀ y : Int32, y = o16 v10 → zpc (fX12_tile_276 t x v10 N y N x) (fun r => r = zsi (zsi t 22 x.toNatClampNeg (N + o16 v10)) 23 x.toNatClampNeg (oAh N v10)) := fun y ey => by
    unfold fX12_tile_276 fX12_tile_301
    refine zpc_ck (zpc_bv (fun t1 g1 => ?_))
    rw [ey] at g1
    refine zpc_if (fun q => l302 0 t1 ?_ g1) (fun q => zpc_if (fun q2 => l302 0 t1 ?_ g1) (fun q2 => l302 1 t1 ?_ g1))
    · unfold oAh; rw [if_pos q]; rfl
    · unfold oAh; rw [if_neg q, if_pos q2]; rfl
    · unfold oAh; rw [if_neg q, if_neg q2]; rfl
  have l236 : ∀ y z : Int32, y = tPc v10 c → z = tRw v10 R → zpc (fX12_tile_236 t x v10 y z) (fun r => r = zsi (zsi t 22 x.toNatClampNeg (N + o16 v10)) 23 x.toNatClampNeg (oAh N v10)) := fun y z ey ez => by
    unfold fX12_tile_236
    refine zpc_bi (p_tdot h.1 hd.v) (fun t1 v e => ?_)
    cases e
    rw [show gTd σ ((32 * (v10 &&& 511)) + (4 * z)) y = N by rw [eN, ey, ez]; rfl]
    refine zpc_if (fun q => l276 0 ?_) (fun q => l276 16 ?_)
    · unfold o16; rw [if_pos q]
    · unfold o16; rw [if_neg q]
  have l209 : ∀ y : Int32, y = tPc v10 c → zpc (fX12_tile_209 t x R v10 y) (fun r => r = zsi (zsi t 22 x.toNatClampNeg (N + o16 v10)) 23 x.toNatClampNeg (oAh N v10)) := fun y ey => by
    unfold fX12_tile_209
    rw [(z_d8 rR).2]
    refine zpc_if (fun q => zpc_ck (l236 _ _ ey ?_)) (fun q => zpc_ck (l236 _ _ ey ?_))
    · unfold tRw; rw [if_pos q]
    · unfold tRw; rw [if_neg q]
  refine zpc_if (fun q => zpc_ck (l209 _ ?_)) (fun q => zpc_ck (l209 _ ?_))
  · unfold tPc; rw [if_pos q]
  · unfold tPc; rw [if_neg q]
/-- the reference's dot -/
theorem m_tile (h : zVe σ μ) (hd : zdM μ t) {L x : Int32} (hL : zr 0 239 L) : zpc (fX12_tile t L x) (fun r => r = zsi (zsi t 22 x.toNatClampNeg (tNu σ (tNm σ) (tAc σ L) (tSt σ) (tDn σ L) L x + o16 (tBi σ (tNm σ) (tAc σ L) (tSt σ) (tDn σ L) L x))) 23 x.toNatClampNeg (oAh (tNu σ (tNm σ) (tAc σ L) (tSt σ) (tDn σ L) L x) (tBi σ (tNm σ) (tAc σ L) (tSt σ) (tDn σ L) L x))) := by
  have f0 : t.1 3 47 = σ.1 23 0 := h.ej hd (j := 0) (by decide)
  have f1 : t.1 3 48 = σ.1 23 1 := h.ej hd (j := 1) (by decide)
  have f2 : t.1 3 (47 + (2 : Int32)).toNatClampNeg = σ.1 23 2 := h.ej hd (j := 2) (by decide)
  have f8 : t.1 3 (47 + (8 : Int32)).toNatClampNeg = σ.1 23 8 := h.ej hd (j := 8) (by decide)
  have f19 : zgi t 3 (65 : Int32).toNatClampNeg = σ.1 23 19 := by
    show t.1 3 65 = _
    rw [hd.r2 (by decide) (by decide)]
    exact h.e19
  have pM := p_heightM (μ := t) (by rw [f0]; exact h.r0) (by rw [f1]; exact h.r1)
  rw [f0, f1] at pM
  have b6 := p_bit_0_6 (μ := t) (by rw [f0]; exact h.r0)
  have b7 := p_bit_0_7 (μ := t) (by rw [f0]; exact h.r0)
  rw [f0] at b6 b7
  have rd := tDn_r h hL
  have fin : ∀ R : Int32, R = tRo (tSt σ) (tDn σ L) L x → zpc (fX12_tile_141 t x (tNm σ) (tCo (tAc σ L) x) R) (fun r => r = zsi (zsi t 22 x.toNatClampNeg (tNu σ (tNm σ) (tAc σ L) (tSt σ) (tDn σ L) L x + o16 (tBi σ (tNm σ) (tAc σ L) (tSt σ) (tDn σ L) L x))) 23 x.toNatClampNeg (oAh (tNu σ (tNm σ) (tAc σ L) (tSt σ) (tDn σ L) L x) (tBi σ (tNm σ) (tAc σ L) (tSt σ) (tDn σ L) L x))) := fun R eR => by
    rw [eR]
    exact m_141 h hd (z_r8 _) (tRo_r rd hL)
  have l118 : ∀ y : Int32, (y = 0 ↔ ¬ zht (σ.1 23 0) (σ.1 23 1) = 192) → tRo (tSt σ) (tDn σ L) L x = tDn σ L → zpc (fX12_tile_118 t L x y (tNm σ) (tCo (tAc σ L) x)) (fun r => r = zsi (zsi t 22 x.toNatClampNeg (tNu σ (tNm σ) (tAc σ L) (tSt σ) (tDn σ L) L x + o16 (tBi σ (tNm σ) (tAc σ L) (tSt σ) (tDn σ L) L x))) 23 x.toNatClampNeg (oAh (tNu σ (tNm σ) (tAc σ L) (tSt σ) (tDn σ L) L x) (tBi σ (tNm σ) (tAc σ L) (tSt σ) (tDn σ L) L x))) := fun y ey er => by
    unfold fX12_tile_118 fX12_tile_140
    rw [f19]
    refine zpc_ck (zpc_if (fun q => zpc_ck (fin _ ?_)) (fun q => zpc_ck (fin _ ?_)))
    · rw [er]; unfold tDn; rw [if_neg (ey.mp q)]
    · rw [er]; unfold tDn; rw [if_pos (Decidable.byContradiction (fun z => q (ey.mpr z)))]
  have l84 : ∀ y a : Int32, (y = 0 ↔ ¬ zht (σ.1 23 0) (σ.1 23 1) = 192) → a = tAc σ L → zpc (fX12_tile_84 t L x y (tNm σ) a) (fun r => r = zsi (zsi t 22 x.toNatClampNeg (tNu σ (tNm σ) (tAc σ L) (tSt σ) (tDn σ L) L x + o16 (tBi σ (tNm σ) (tAc σ L) (tSt σ) (tDn σ L) L x))) 23 x.toNatClampNeg (oAh (tNu σ (tNm σ) (tAc σ L) (tSt σ) (tDn σ L) L x) (tBi σ (tNm σ) (tAc σ L) (tSt σ) (tDn σ L) L x))) := fun y a ey ea => by
    unfold fX12_tile_84
    refine zpc_bv (fun v ev => ?_)
    rw [ea] at ev
    have ev : v = tCo (tAc σ L) x := ev
    subst ev
    have e191 : x ≤ 191 ↔ x < 192 := by
      rw [Int32.le_iff_toInt_le, Int32.lt_iff_toInt_lt, show (191 : Int32).toInt = 191 from rfl, show (192 : Int32).toInt = 192 from rfl]
      omega
    refine zpc_if (fun q => l118 y ey ?_) (fun q => zpc_bit b7 (fun q7 => zpc_if (fun z => absurd z (by decide)) (fun _ => l118 y ey ?_)) (fun q7 => zpc_if (fun _ => fin _ ?_) (fun z => absurd rfl z)))
    · unfold tRo
      by_cases z : tSt σ = 0
      · rw [if_pos z]
      · rw [if_neg z, if_pos (e191.mp q)]
    · unfold tRo tSt
      rw [if_pos q7, if_pos rfl]
    · unfold tRo tSt
      rw [if_neg q7, if_neg (by decide), if_neg (fun z => q (e191.mpr z))]
  have l55 : ∀ y : Int32, (y = 0 ↔ ¬ zht (σ.1 23 0) (σ.1 23 1) = 192) → zpc (fX12_tile_55 t L x y (tNm σ)) (fun r => r = zsi (zsi t 22 x.toNatClampNeg (tNu σ (tNm σ) (tAc σ L) (tSt σ) (tDn σ L) L x + o16 (tBi σ (tNm σ) (tAc σ L) (tSt σ) (tDn σ L) L x))) 23 x.toNatClampNeg (oAh (tNu σ (tNm σ) (tAc σ L) (tSt σ) (tDn σ L) L x) (tBi σ (tNm σ) (tAc σ L) (tSt σ) (tDn σ L) L x))) := fun y ey => by
    unfold fX12_tile_55 fX12_tile_78
    refine zpc_if (fun q => ?_) (fun q => zpc_bit b6 (fun q6 => zpc_if (fun z => absurd z (by decide)) (fun _ => ?_)) (fun q6 => zpc_if (fun _ => l84 y 0 ey ?_) (fun z => absurd rfl z)))
    · refine zpc_bi p_reg (fun t1 v e => ?_)
      cases e
      exact l84 y _ ey (by rw [f8]; unfold tAc; rw [if_pos q])
    · refine zpc_bi p_reg (fun t1 v e => ?_)
      cases e
      exact l84 y _ ey (by rw [f8]; unfold tAc; rw [if_neg q, if_pos q6])
    · unfold tAc
      rw [if_neg q, if_neg q6]
  unfold fX12_tile
  refine zpc_bi pM (fun t1 v e => ?_)
  cases e
  unfold fX12_tile_15
  refine zpc_if (fun q => zpc_if (fun z => absurd z (by decide)) (fun _ => ?_)) (fun q => zpc_if (fun _ => ?_) (fun z => absurd rfl z))
  · refine zpc_bi p_reg (fun t1 v e => zpc_ck ?_)
    cases e
    have z := l55 1 ⟨fun z => absurd z (by decide), fun z => absurd q z⟩
    rw [f2, (z_nm (h.rj (j := 2) (by decide))).1, show 1024 * (σ.1 23 2 &&& 14) = tNm σ by unfold tNm; rw [if_pos q]]
    exact z
  · refine zpc_bi p_reg (fun t1 v e => zpc_ck (zpc_ck ?_))
    cases e
    have z := l55 0 ⟨fun _ => q, fun _ => rfl⟩
    rw [f2, (z_nm (h.rj (j := 2) (by decide))).2, show (4096 * ((σ.1 23 2 >>> ((2 : Int32) &&& 31)) &&& 3)) + 1792 = tNm σ by unfold tNm; rw [if_neg q]]
    exact z
/-- the class: the same parameters -/
theorem c_tiles (h : zVe σ μ) (hs : zdC σ s) {L : Int32} : zpc (fX3_drawTiles s L) (fun r => (zdC σ r ∧ r.1 25 = s.1 25 ∧ r.1 23 = s.1 23) ∧ ∀ j : Nat, j < 256 → r.1 27 j = oC (tNu σ (tNm σ) (tAc σ L) (tSt σ) (tDn σ L) L (Int32.ofNat j)) (tBi σ (tNm σ) (tAc σ L) (tSt σ) (tDn σ L) L (Int32.ofNat j))) := by
  have g0 : s.1 23 0 = σ.1 23 0 := hs.r (by decide)
  have g1 : s.1 23 1 = σ.1 23 1 := hs.r (by decide)
  have g2 : s.1 23 2 = σ.1 23 2 := hs.r (by decide)
  have g8 : s.1 23 8 = σ.1 23 8 := hs.r (by decide)
  have g19 : s.1 23 19 = σ.1 23 19 := hs.r2 (by decide) (by decide)
  have pC := p_heightC (σ := s) (by rw [g0]; exact h.r0) (by rw [g1]; exact h.r1)
  rw [g0, g1] at pC
  have hld : ∀ j : Int32, zr 0 95 j → zpc (fX9_held s j) (fun r => r = (s, s.1 23 j.toNatClampNeg)) := fun j hj => p_held hj
  have l138 : ∀ y nm a d : Int32, y = tSt σ → nm = tNm σ → a = tAc σ L → d = tDn σ L → zpc (fX3_drawTiles_138 s L nm a d y) (fun r => (zdC σ r ∧ r.1 25 = s.1 25 ∧ r.1 23 = s.1 23) ∧ ∀ j : Nat, j < 256 → r.1 27 j = oC (tNu σ (tNm σ) (tAc σ L) (tSt σ) (tDn σ L) L (Int32.ofNat j)) (tBi σ (tNm σ) (tAc σ L) (tSt σ) (tDn σ L) L (Int32.ofNat j))) := fun y nm a d e1 e2 e3 e4 => by
    unfold fX3_drawTiles_138
    rw [e1, e2, e3, e4]
    exact c_143 h.1 zfuel 0 s (by decide) hs rfl rfl (fun j hj => absurd hj (by omega)) (fun hj => absurd hj (by decide))
  have l96 : ∀ y nm a : Int32, (y = 0 ↔ zht (σ.1 23 0) (σ.1 23 1) = 192) → nm = tNm σ → a = tAc σ L → zpc (fX3_drawTiles_96 s L y (s.1 23 0) nm a) (fun r => (zdC σ r ∧ r.1 25 = s.1 25 ∧ r.1 23 = s.1 23) ∧ ∀ j : Nat, j < 256 → r.1 27 j = oC (tNu σ (tNm σ) (tAc σ L) (tSt σ) (tDn σ L) L (Int32.ofNat j)) (tBi σ (tNm σ) (tAc σ L) (tSt σ) (tDn σ L) L (Int32.ofNat j))) := fun y nm a ey e2 e3 => by
    unfold fX3_drawTiles_96 fX3_drawTiles_122
    refine zpc_bi (hld 19 (zr_c (by decide))) (fun s1 v e => ?_)
    cases e
    rw [show s.1 23 (19 : Int32).toNatClampNeg = σ.1 23 19 from g19, g0]
    refine zpc_if (fun q => zpc_ck (zpc_bv (fun v7 e7 => zpc_if (fun q2 => l138 _ _ _ _ ?_ e2 e3 ?_) (fun q2 => l138 _ _ _ _ ?_ e2 e3 ?_)))) (fun q => zpc_ck (zpc_bv (fun v7 e7 => zpc_if (fun q2 => l138 _ _ _ _ ?_ e2 e3 ?_) (fun q2 => l138 _ _ _ _ ?_ e2 e3 ?_))))
    · unfold tSt; rw [if_pos q2]
    · rw [e7]; unfold tDn; rw [if_pos (ey.mp q)]
    · unfold tSt; rw [if_neg q2]
    · rw [e7]; unfold tDn; rw [if_pos (ey.mp q)]
    · unfold tSt; rw [if_pos q2]
    · rw [e7]; unfold tDn; rw [if_neg (fun z => q (ey.mpr z))]
    · unfold tSt; rw [if_neg q2]
    · rw [e7]; unfold tDn; rw [if_neg (fun z => q (ey.mpr z))]
  have l68 : ∀ y nm : Int32, (y = 0 ↔ zht (σ.1 23 0) (σ.1 23 1) = 192) → nm = tNm σ → zpc (fX3_drawTiles_68 s L y (s.1 23 0) nm) (fun r => (zdC σ r ∧ r.1 25 = s.1 25 ∧ r.1 23 = s.1 23) ∧ ∀ j : Nat, j < 256 → r.1 27 j = oC (tNu σ (tNm σ) (tAc σ L) (tSt σ) (tDn σ L) L (Int32.ofNat j)) (tBi σ (tNm σ) (tAc σ L) (tSt σ) (tDn σ L) L (Int32.ofNat j))) := fun y nm ey e2 => by
    unfold fX3_drawTiles_68 fX3_drawTiles_87
    refine zpc_if (fun q => zpc_bi (hld 8 (zr_c (by decide))) (fun s1 v e => ?_)) (fun q => zpc_if (fun q2 => zpc_bi (hld 8 (zr_c (by decide))) (fun s1 v e => ?_)) (fun q2 => l96 y nm 0 ey e2 ?_))
    · cases e
      exact l96 y nm _ ey e2 (by rw [show s.1 23 (8 : Int32).toNatClampNeg = σ.1 23 8 from g8]; unfold tAc; rw [if_pos q])
    · cases e
      rw [g0] at q2
      exact l96 y nm _ ey e2 (by rw [show s.1 23 (8 : Int32).toNatClampNeg = σ.1 23 8 from g8]; unfold tAc; rw [if_neg q, if_pos q2])
    · rw [g0] at q2
      unfold tAc
      rw [if_neg q, if_neg q2]
  unfold fX3_drawTiles
  refine zpc_bi pC (fun s1 v e => ?_)
  cases e
  unfold fX3_drawTiles_18
  refine zpc_if (fun q => ?_) (fun q => ?_)
  · refine zpc_bi (hld 0 (zr_c (by decide))) (fun s1 v e => ?_)
    cases e
    refine zpc_bi (hld 2 (zr_c (by decide))) (fun s1 v e => ?_)
    cases e
    refine zpc_if (fun _ => l68 0 _ ⟨fun _ => q, fun _ => rfl⟩ ?_) (fun z => absurd rfl z)
    rw [show s.1 23 (2 : Int32).toNatClampNeg = σ.1 23 2 from g2]
    unfold tNm
    rw [if_pos q]
  · refine zpc_bi (hld 0 (zr_c (by decide))) (fun s1 v e => ?_)
    cases e
    refine zpc_bi (hld 2 (zr_c (by decide))) (fun s1 v e => ?_)
    cases e
    refine zpc_if (fun z => absurd z (by decide)) (fun _ => l68 1 _ ⟨fun z => absurd z (by decide), fun z => absurd z q⟩ ?_)
    rw [show s.1 23 (2 : Int32).toNatClampNeg = σ.1 23 2 from g2]
    unfold tNm
    rw [if_neg q]
end ZT3
