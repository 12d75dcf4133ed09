/-! THE PAINTER, 2: TILES -/
theorem z_ofI {i : Nat} (h : i < 100000) : (Int32.ofNat i).toInt = i := Int32.toInt_ofNat_of_lt (by omega)
theorem z_ofC {i : Nat} (h : i < 100000) : (Int32.ofNat i).toNatClampNeg = i := by
  have e := z_ofI h
  have k := z_clamp (x := Int32.ofNat i) (by omega)
  omega
theorem z_ofS {i : Nat} (h : i < 100000) : Int32.ofNat i + 1 = Int32.ofNat (i + 1) := by
  have e := z_ofI h
  refine z_ofN ?_
  have t := z_tadd (x := Int32.ofNat i) (y := 1) (a := 0) (b := 100000) (c := 1) (d := 1) ⟨by omega, by omega⟩ (zr_c (by decide)) (by decide)
  rw [t, e, show (1 : Int32).toInt = 1 from rfl]
  omega
theorem z_ofL {i : Nat} {c : Int32} {k : Nat} (h : i < 100000) (hc : c.toInt = k) : c ≤ Int32.ofNat i ↔ k ≤ i := by
  rw [Int32.le_iff_toInt_le, z_ofI h, hc]
  omega
theorem z_ofr {i : Nat} {b : Int} (h : i < 100000) (hb : (i : Int) ≤ b) : zr 0 b (Int32.ofNat i) := ⟨by rw [z_ofI h]; omega, by rw [z_ofI h]; exact hb⟩
section ZT2
variable {σ μ s t : zSt}
theorem p_held {x : Int32} (hx : zr 0 95 x) : zpc (fX9_held s x) (fun r => r = (s, s.1 23 x.toNatClampNeg)) := by
  unfold fX9_held fX9_held_20
  exact zpc_if (fun q => absurd q (zq_lt hx rfl (by decide))) (fun _ => zpc_if (fun q => absurd q (zq_gef hx rfl (by decide))) (fun _ => zpc_ck (zpc_some rfl)))
theorem p_reg {x : Int32} : zpc (fX12_reg t x) (fun r => r = (t, t.1 3 (47 + x).toNatClampNeg)) := by
  unfold fX12_reg
  exact zpc_ck (zpc_some rfl)
/-- what the painter may touch -/
def zdC (σ s : zSt) : Prop := zQ [25, 27, 28, 29] [(3, 7, 8), (23, 15, 15)] [] [] σ s
def zdM (μ t : zSt) : Prop := zQ [22, 23, 24, 25, 9] [(3, 62, 62)] [] [] μ t
theorem zdC.v (h : zdC σ s) : s.1 21 = σ.1 21 := zQ.ro h (k := 21) rfl
theorem zdC.r (h : zdC σ s) {j : Nat} (hj : j ≤ 14) : s.1 23 j = σ.1 23 j := zQ.o h (k := 23) (a := 0) (b := 14) rfl (by omega) hj
theorem zdC.r2 (h : zdC σ s) {j : Nat} (h1 : 16 ≤ j) (h2 : j ≤ 95) : s.1 23 j = σ.1 23 j := zQ.o h (k := 23) (a := 16) (b := 95) rfl h1 h2
theorem zdM.v (h : zdM μ t) : t.1 7 = μ.1 7 := zQ.ro h (k := 7) rfl
theorem zdM.r (h : zdM μ t) {j : Nat} (hj : j ≤ 61) : t.1 3 j = μ.1 3 j := zQ.o h (k := 3) (a := 0) (b := 61) rfl (by omega) hj
theorem zdM.r2 (h : zdM μ t) {j : Nat} (h1 : 63 ≤ j) (h2 : j ≤ 1047) : t.1 3 j = μ.1 3 j := zQ.o h (k := 3) (a := 63) (b := 1047) rfl h1 h2
/-- a tile's word -/
def gTb (σ : zSt) (x : Int32) : Int32 := vb σ x ||| (vb σ (x + 1) <<< ((8 : Int32) &&& 31))
def tRw (w row : Int32) : Int32 := if w &&& 1024 = 0 then row &&& 7 else 7 - (row &&& 7)
def tAd (w row : Int32) : Int32 := (32 * (w &&& 511)) + (4 * tRw w row)
def tPc (w col : Int32) : Int32 := if w &&& 512 = 0 then col &&& 7 else 7 - (col &&& 7)
def tCo (a i : Int32) : Int32 := (i - a) &&& 255
def tRo (st d L i : Int32) : Int32 := if st = 0 then d else if i < 192 then d else L
def tBi (σ : zSt) (nm a st d L i : Int32) : Int32 := gTb σ ((nm + (2 * ((tCo a i) >>> ((3 : Int32) &&& 31)))) + (64 * ((tRo st d L i) >>> ((3 : Int32) &&& 31))))
def tNu (σ : zSt) (nm a st d L i : Int32) : Int32 := gTd σ (tAd (tBi σ nm a st d L i) (tRo st d L i)) (tPc (tBi σ nm a st d L i) (tCo a i))
def o16 (w : Int32) : Int32 := if w &&& 2048 = 0 then 0 else 16
def oAh (n w : Int32) : Int32 := if n ≤ 0 then 0 else if w &&& 4096 = 0 then 0 else 1
def oC (n w : Int32) : Int32 := (n + o16 w) + (if oAh n w = 0 then 0 else 256)
theorem p_take {x1 x2 : Int32} : zpc (fX3_takeTile s x1 x2) (fun r => r = zsi (zsi s 3 8 (gTb s (x1 + (64 * (x2 >>> ((3 : Int32) &&& 31)))))) 3 7 (gPl s (tAd (gTb s (x1 + (64 * (x2 >>> ((3 : Int32) &&& 31))))) x2))) := by
  unfold fX3_takeTile
  refine zpc_bv (fun v2 e2 => zpc_bi p_vb (fun s1 v e => ?_))
  cases e
  refine zpc_bi p_vb (fun s1 v e => zpc_bv (fun s7 e7 => ?_))
  cases e
  subst e2
  have e7 : s7 = zsi s 3 8 (gTb s (x1 + (64 * (x2 >>> ((3 : Int32) &&& 31))))) := e7
  obtain ⟨w, ew⟩ : ∃ w, w = gTb s (x1 + (64 * (x2 >>> ((3 : Int32) &&& 31)))) := ⟨_, rfl⟩
  rw [← ew] at e7
  rw [← ew]
  have c8 : zgi s7 3 8 = w := by rw [e7]; exact zsi_ej
  rw [c8]
  have go : ∀ y, y = tRw w x2 → zpc (fX3_takeTile_60 s7 y) (fun r => r = zsi (zsi s 3 8 w) 3 7 (gPl s (tAd w x2))) := fun y ey => by
    unfold fX3_takeTile_60
    rw [c8]
    refine zpc_bu p_planes (fun s8 e8 => zpc_some ?_)
    rw [e8, ey, e7]
    rfl
  refine zpc_if (fun q => go _ ?_) (fun q => go _ ?_)
  · unfold tRw; rw [if_pos q]
  · unfold tRw; rw [if_neg q]
abbrev zK7 := zSt → Int32 → Int32 → Int32 → Int32 → Int32 → Int32 → Option zSt
/-- the class: one dot, its tile at hand -/
theorem c_215 {k : zK7} {Q : zSt → Prop} {L nm a d st i v w row : Int32} (h : zE σ μ) (hw : s.1 3 8 = w) (hp : s.1 3 7 = gPl σ (tAd w row)) (K : zpc (k (zsi s 27 i.toNatClampNeg (oC (gTd σ (tAd w row) (tPc w v)) w)) L nm a d st (i + 1)) Q) : zpc (fX3_drawTiles_215 k s L nm a d st i v) Q := by
  have l316 : ∀ x y : Int32, y + x = oC (gTd σ (tAd w row) (tPc w v)) w → zpc (fX3_drawTiles_316 k s L nm a d st i x y i) Q := fun x y e => by
    unfold fX3_drawTiles_316
    refine zpc_ck (zpc_bv (fun s1 e1 => zpc_bv (fun v1 ev => ?_)))
    rw [ev, e1, e]
    exact K
  have rp : zr 0 7 (tPc w v) := by
    have r7 : zr 0 7 (v &&& 7) := zr_andr (lo := 0) (hi := 7) (zr_c (lo := 7) (hi := 7) (by decide)) (by decide)
    unfold tPc
    by_cases q : w &&& 512 = 0
    · rw [if_pos q]; exact r7
    · rw [if_neg q]; exact zr_sub (lo := 0) (hi := 7) (zr_c (lo := 7) (hi := 7) (x := 7) (by decide)) r7 (by decide)
  obtain ⟨N, eN⟩ : ∃ N, N = gTd σ (tAd w row) (tPc w v) := ⟨_, rfl⟩
  rw [← eN] at l316
  have l303 : ∀ x13, x13 = oAh N w → zpc (fX3_drawTiles_276 k s L nm a d st i N x13) Q := fun x13 e => by
    unfold fX3_drawTiles_276 fX3_drawTiles_303
    rw [show zgi s 3 8 = w from hw]
    unfold oC at l316
    refine zpc_if (fun q => zpc_if (fun q2 => l316 _ _ ?_) (fun q2 => l316 _ _ ?_)) (fun q => zpc_if (fun q2 => l316 _ _ ?_) (fun q2 => l316 _ _ ?_))
    · rw [e] at q2; rw [if_pos q2]; unfold o16; rw [if_pos q]
    · rw [e] at q2; rw [if_neg q2]; unfold o16; rw [if_pos q]
    · rw [e] at q2; rw [if_pos q2]; unfold o16; rw [if_neg q]
    · rw [e] at q2; rw [if_neg q2]; unfold o16; rw [if_neg q]
  have l242 : ∀ y, y = tPc w v → zpc (fX3_drawTiles_242 k s L nm a d st i y) Q := fun y e => by
    unfold fX3_drawTiles_242 fX3_drawTiles_275
    refine zpc_bi p_numC (fun s1 v1 e1 => ?_)
    cases e1
    have en : nIn (zgi s 3 7) y = N := by
      rw [show zgi s 3 7 = gPl σ (tAd w row) from hp, e, eN]
      exact (z_gnum h rp).1
    rw [en, show zgi s 3 8 = w from hw]
    refine zpc_if (fun q => l303 0 ?_) (fun q => zpc_if (fun q2 => l303 0 ?_) (fun q2 => l303 1 ?_))
    · unfold oAh; rw [if_pos q]
    · unfold oAh; rw [if_neg q, if_pos q2]
    · unfold oAh; rw [if_neg q, if_neg q2]
  unfold fX3_drawTiles_215
  rw [show zgi s 3 8 = w from hw]
  refine zpc_if (fun q => l242 _ ?_) (fun q => l242 _ ?_)
  · unfold tPc; rw [if_pos q]
  · unfold tPc; rw [if_neg q]
theorem v_col : ∀ c : Fin 256, ¬ ((Int32.ofNat c.val + 1) &&& 255) &&& 7 = 0 → ((Int32.ofNat c.val + 1) &&& 255) >>> ((3 : Int32) &&& 31) = (Int32.ofNat c.val) >>> ((3 : Int32) &&& 31) := by decide +kernel
theorem z_and8 {x y : Int32} : ((x &&& 255) + y) &&& 255 = (x + y) &&& 255 := by
  refine z_and255 (fun i hi => ?_)
  have Z : ∀ X Y : Nat, (X % 2 ^ 8 + Y) % 2 ^ 32 / 2 ^ i % 2 = (X + Y) % 2 ^ 32 / 2 ^ i % 2 := fun X Y => by
    rcases (show i = 0 ∨ i = 1 ∨ i = 2 ∨ i = 3 ∨ i = 4 ∨ i = 5 ∨ i = 6 ∨ i = 7 by omega) with h | h | h | h | h | h | h | h <;> subst h <;> omega
  rw [Int32.toBitVec_add, Int32.toBitVec_add, Int32.toBitVec_and, ← BitVec.testBit_toNat, ← BitVec.testBit_toNat, BitVec.toNat_add, BitVec.toNat_add, BitVec.toNat_and]
  have e : (255 : Int32).toBitVec.toNat = 2 ^ 8 - 1 := rfl
  rw [e, Nat.and_two_pow_sub_one_eq_mod, Nat.testBit_eq_decide_div_mod_eq, Nat.testBit_eq_decide_div_mod_eq, Z]
/-- the next dot lies in the same tile -/
theorem z_same {a i : Int32} (q : ¬ (tCo a (i + 1)) &&& 7 = 0) : (tCo a (i + 1)) >>> ((3 : Int32) &&& 31) = (tCo a i) >>> ((3 : Int32) &&& 31) := by
  have e0 : (i - a) + 1 = (i + 1) - a := by rw [Int32.sub_eq_add_neg, Int32.sub_eq_add_neg, Int32.add_assoc, Int32.add_assoc, Int32.add_comm (-a) 1]
  have e : tCo a (i + 1) = ((tCo a i) + 1) &&& 255 := by
    unfold tCo
    rw [z_and8, e0]
  have r : zr 0 255 (tCo a i) := z_r8 _
  obtain ⟨c, ec⟩ := z_byteF r
  rw [e, ec] at q ⊢
  exact v_col c q
/-- the class's loop over a line's tiles -/
theorem c_143 {L nm a d st : Int32} {o : zSt} (h : zE σ μ) : ∀ (n i : Nat) (s : zSt), i ≤ 256 → zdC σ s → s.1 25 = o.1 25 → s.1 23 = o.1 23 → (∀ j : Nat, j < i → s.1 27 j = oC (tNu σ nm a st d L (Int32.ofNat j)) (tBi σ nm a st d L (Int32.ofNat j))) → (1 ≤ i → s.1 3 8 = tBi σ nm a st d L (Int32.ofNat (i - 1)) ∧ s.1 3 7 = gPl σ (tAd (tBi σ nm a st d L (Int32.ofNat (i - 1))) (tRo st d L (Int32.ofNat (i - 1))))) → zpc (fX3_drawTiles_143 n s L nm a d st (Int32.ofNat i)) (fun r => (zdC σ r ∧ r.1 25 = o.1 25 ∧ r.1 23 = o.1 23) ∧ ∀ j : Nat, j < 256 → r.1 27 j = oC (tNu σ nm a st d L (Int32.ofNat j)) (tBi σ nm a st d L (Int32.ofNat j))) := by
  intro n
  induction n with
  | zero => intro i s _ _ _ _ _ _; exact zpc_none
  | succ n ih =>
    intro i s hi hd e25 e23 hin hca
    show zpc (fX3_drawTiles_143_body (fX3_drawTiles_143 n) s L nm a d st (Int32.ofNat i)) _
    unfold fX3_drawTiles_143_body
    refine zpc_if (fun q => zpc_some ?_) (fun q => ?_)
    · have := (z_ofL (k := 256) (by omega) rfl).mp q
      exact ⟨⟨hd, e25, e23⟩, fun j hj => hin j (by omega)⟩
    have hi2 : i < 256 := by
      have : ¬ 256 ≤ i := fun z => q ((z_ofL (c := 256) (k := 256) (i := i) (by omega) rfl).mpr z)
      omega
    obtain ⟨w, ew⟩ : ∃ w, w = tBi σ nm a st d L (Int32.ofNat i) := ⟨_, rfl⟩
    have fin : ∀ s1 : zSt, zdC σ s1 → s1.1 27 = s.1 27 → s1.1 25 = s.1 25 → s1.1 23 = s.1 23 → s1.1 3 8 = w → s1.1 3 7 = gPl σ (tAd w (tRo st d L (Int32.ofNat i))) → zpc (fX3_drawTiles_215 (fX3_drawTiles_143 n) s1 L nm a d st (Int32.ofNat i) (tCo a (Int32.ofNat i))) (fun r => (zdC σ r ∧ r.1 25 = o.1 25 ∧ r.1 23 = o.1 23) ∧ ∀ j : Nat, j < 256 → r.1 27 j = oC (tNu σ nm a st d L (Int32.ofNat j)) (tBi σ nm a st d L (Int32.ofNat j))) := fun s1 q1 q2 qa qb q3 q4 => by
      refine c_215 h q3 q4 ?_
      rw [z_ofS (by omega), z_ofC (by omega)]
      refine ih (i + 1) _ (by omega) (zQ.wi q1 rfl) (by rw [zsi_ne (by decide), qa]; exact e25) (by rw [zsi_ne (by decide), qb]; exact e23) (fun j hj => ?_) (fun _ => ?_)
      · by_cases z : j = i
        · subst z
          rw [zsi_ej, ew]
          rfl
        · rw [zsi_nj z, q2]
          exact hin j (by omega)
      · rw [show i + 1 - 1 = i by omega, zsi_ne (by decide), q3, q4, ew]
        exact ⟨rfl, rfl⟩
    have take : zpc (fX3_drawTiles_183 (fX3_drawTiles_143 n) s L nm a d st (Int32.ofNat i) (tCo a (Int32.ofNat i))) (fun r => (zdC σ r ∧ r.1 25 = o.1 25 ∧ r.1 23 = o.1 23) ∧ ∀ j : Nat, j < 256 → r.1 27 j = oC (tNu σ nm a st d L (Int32.ofNat j)) (tBi σ nm a st d L (Int32.ofNat j))) := by
      have g : ∀ y, y = tRo st d L (Int32.ofNat i) → zpc (fX3_drawTiles_212 (fX3_drawTiles_143 n) s L nm a d st (Int32.ofNat i) (tCo a (Int32.ofNat i)) y (nm + (2 * ((tCo a (Int32.ofNat i)) >>> ((3 : Int32) &&& 31))))) (fun r => (zdC σ r ∧ r.1 25 = o.1 25 ∧ r.1 23 = o.1 23) ∧ ∀ j : Nat, j < 256 → r.1 27 j = oC (tNu σ nm a st d L (Int32.ofNat j)) (tBi σ nm a st d L (Int32.ofNat j))) := fun y ey => by
        unfold fX3_drawTiles_212
        refine zpc_bu p_take (fun s1 e1 => ?_)
        have v := hd.v
        have eT : ∀ x, gTb s x = gTb σ x := fun x => by unfold gTb; rw [vb_of v, vb_of v]
        have eP : ∀ x, gPl s x = gPl σ x := fun x => by unfold gPl; rw [vb_of v, vb_of v, vb_of v, vb_of v]
        rw [eT, eP, ey] at e1
        have e1 : s1 = zsi (zsi s 3 8 w) 3 7 (gPl σ (tAd w (tRo st d L (Int32.ofNat i)))) := by rw [e1, ew]; rfl
        refine fin s1 ?_ ?_ ?_ ?_ ?_ ?_
        · rw [e1]; exact zQ.wi (zQ.wi hd rfl) rfl
        · rw [e1, zsi_ne (by decide), zsi_ne (by decide)]
        · rw [e1, zsi_ne (by decide), zsi_ne (by decide)]
        · rw [e1, zsi_ne (by decide), zsi_ne (by decide)]
        · rw [e1, zsi_nj (by decide)]; exact zsi_ej
        · rw [e1]; exact zsi_ej
      unfold fX3_drawTiles_183 fX3_drawTiles_210
      refine zpc_if (fun z => g _ ?_) (fun z => zpc_if (fun y => g _ ?_) (fun y => g _ ?_))
      · unfold tRo; rw [if_pos z]
      · unfold tRo; rw [if_neg z, if_pos y]
      · unfold tRo; rw [if_neg z, if_neg y]
    refine zpc_bv (fun v6 e6 => ?_)
    have e6 : v6 = tCo a (Int32.ofNat i) := e6
    subst e6
    refine zpc_if (fun _ => take) (fun n0 => zpc_if (fun _ => take) (fun n192 => zpc_if (fun _ => take) (fun n7 => ?_)))
    have hi0 : 1 ≤ i := by
      have : ¬ i = 0 := fun z => n0 (by rw [z]; rfl)
      omega
    have hi1 : ¬ i = 192 := fun z => n192 (by rw [z]; rfl)
    obtain ⟨j, ej⟩ : ∃ j, i = j + 1 := ⟨i - 1, by omega⟩
    subst ej
    obtain ⟨c1, c2⟩ := hca hi0
    rw [show j + 1 - 1 = j by omega] at c1 c2
    have er : tRo st d L (Int32.ofNat (j + 1)) = tRo st d L (Int32.ofNat j) := by
      unfold tRo
      have z : Int32.ofNat (j + 1) < 192 ↔ Int32.ofNat j < 192 := by
        rw [Int32.lt_iff_toInt_lt, Int32.lt_iff_toInt_lt, z_ofI (by omega), z_ofI (by omega), show (192 : Int32).toInt = 192 from rfl]
        omega
      by_cases y : st = 0
      · rw [if_pos y, if_pos y]
      · rw [if_neg y, if_neg y]
        by_cases x : Int32.ofNat j < 192
        · rw [if_pos x, if_pos (z.mpr x)]
        · rw [if_neg x, if_neg (fun r => x (z.mp r))]
    have ec : (tCo a (Int32.ofNat (j + 1))) >>> ((3 : Int32) &&& 31) = (tCo a (Int32.ofNat j)) >>> ((3 : Int32) &&& 31) := by
      rw [← z_ofS (by omega)] at n7 ⊢
      exact z_same n7
    have eb : w = tBi σ nm a st d L (Int32.ofNat j) := by
      rw [ew]
      unfold tBi
      rw [er, ec]
    refine fin s hd rfl rfl rfl (c1.trans eb.symm) ?_
    rw [c2, eb, er]
end ZT2
