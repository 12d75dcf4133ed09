section ZJN0
/-! THE PAINTER, 1 -/
theorem zbt_l2 : ∀ i, i < 32 → ((4 : Int32).toBitVec.getLsbD i = decide (i = 2)) := by decide
theorem zbt_m2 {x : Int32} : x &&& 4 = bif zbt 2 x then 4 else 0 := by
  refine Int32.toBitVec_inj.1 (BitVec.eq_of_getLsbD_eq (fun i hi => ?_))
  rw [Int32.toBitVec_and, BitVec.getLsbD_and, zbt_l2 i hi]
  unfold zbt
  by_cases q : i = 2
  · subst q
    cases h : x.toBitVec.getLsbD 2 <;> rfl
  · rw [decide_eq_false q, Bool.and_false]
    cases h : x.toBitVec.getLsbD 2
    · exact (BitVec.getLsbD_zero (w := 32)).symm
    · exact ((zbt_l2 i hi).trans (decide_eq_false q)).symm
theorem zbt_or {k : Nat} {x y : Int32} : zbt k (x ||| y) = (zbt k x || zbt k y) := by
  unfold zbt
  rw [Int32.toBitVec_or, BitVec.getLsbD_or]
theorem zbt_shl {i n : Nat} {x s : Int32} (hs : (s.toBitVec.smod 32).toNat = n) (hi : i < 32) : zbt i (x <<< s) = (!decide (i < n) && zbt (i - n) x) := by
  unfold zbt
  have e : (x <<< s).toBitVec = x.toBitVec <<< (s.toBitVec.smod 32).toNat := rfl
  rw [e, hs, BitVec.getLsbD_shiftLeft, decide_eq_true hi, Bool.true_and]
theorem zbt_ush {k n : Nat} {x s : Int32} (hs : (UInt32.mod (s.toUInt32 &&& Int32.toUInt32 31) 32).toBitVec.toNat = n) : zbt k (zush x s) = zbt (n + k) x := by
  unfold zbt
  have e : (zush x s).toBitVec = x.toBitVec >>> (UInt32.mod (s.toUInt32 &&& Int32.toUInt32 31) 32).toBitVec.toNat := rfl
  rw [e, hs, BitVec.getLsbD_ushiftRight]
theorem zbt_by {b : Int32} (h : zr 0 255 b) {i : Nat} (h8 : 8 ≤ i) (hi : i < 32) : zbt i b = false := by
  have e : b = b &&& 255 := (z_m255 h).symm
  rw [e, zbt_and]
  have z : zbt i 255 = decide (i < 8) := v_255 i hi
  rw [z, decide_eq_false (by omega), Bool.and_false]
noncomputable def pl4 (a b c d : Int32) : Int32 := ((a ||| (b <<< ((8 : Int32) &&& 31))) ||| (c <<< ((16 : Int32) &&& 31))) ||| (d <<< ((24 : Int32) &&& 31))
section ZPB
variable {a b c d p : Int32}
theorem zbt_pl (ha : zr 0 255 a) (hb : zr 0 255 b) (hc : zr 0 255 c) (hd : zr 0 255 d) {q : Nat} (hq : q < 8) : zbt q (pl4 a b c d) = zbt q a ∧ zbt (q + 8) (pl4 a b c d) = zbt q b ∧ zbt (q + 16) (pl4 a b c d) = zbt q c ∧ zbt (q + 24) (pl4 a b c d) = zbt q d := by
  have sh : ∀ (x : Int32) (k : Nat), q + k < 32 → zbt (q + k) (x <<< ((8 : Int32) &&& 31)) = (!decide (q + k < 8) && zbt (q + k - 8) x) ∧ zbt (q + k) (x <<< ((16 : Int32) &&& 31)) = (!decide (q + k < 16) && zbt (q + k - 16) x) ∧ zbt (q + k) (x <<< ((24 : Int32) &&& 31)) = (!decide (q + k < 24) && zbt (q + k - 24) x) := fun x k hk => ⟨zbt_shl rfl hk, zbt_shl rfl hk, zbt_shl rfl hk⟩
  have or4 : ∀ i, zbt i (pl4 a b c d) = (((zbt i a || zbt i (b <<< ((8 : Int32) &&& 31))) || zbt i (c <<< ((16 : Int32) &&& 31))) || zbt i (d <<< ((24 : Int32) &&& 31))) := fun i => by
    unfold pl4
    rw [zbt_or, zbt_or, zbt_or]
  have T : ∀ k, k < q + 1 → ¬ q + 8 < k := fun k hk => by omega
  refine ⟨?_, ?_, ?_, ?_⟩
  · have s0 := sh b 0 (by omega)
    have s1 := sh c 0 (by omega)
    have s2 := sh d 0 (by omega)
    rw [Nat.add_zero] at s0 s1 s2
    rw [or4, s0.1, s1.2.1, s2.2.2, decide_eq_true (by omega), decide_eq_true (by omega), decide_eq_true (by omega)]
    cases zbt q a <;> rfl
  · rw [or4, (sh b 8 (by omega)).1, (sh c 8 (by omega)).2.1, (sh d 8 (by omega)).2.2, zbt_by ha (by omega) (by omega), decide_eq_false (show ¬ q + 8 < 8 by omega), decide_eq_true (show q + 8 < 16 by omega), decide_eq_true (show q + 8 < 24 by omega), show q + 8 - 8 = q by omega]
    cases zbt q b <;> rfl
  · rw [or4, (sh b 16 (by omega)).1, (sh c 16 (by omega)).2.1, (sh d 16 (by omega)).2.2, zbt_by ha (by omega) (by omega), decide_eq_false (show ¬ q + 16 < 8 by omega), decide_eq_false (show ¬ q + 16 < 16 by omega), decide_eq_true (show q + 16 < 24 by omega), show q + 16 - 16 = q by omega, zbt_by hb (i := q + 16 - 8) (by omega) (by omega)]
    cases zbt q c <;> rfl
  · rw [or4, (sh b 24 (by omega)).1, (sh c 24 (by omega)).2.1, (sh d 24 (by omega)).2.2, zbt_by ha (by omega) (by omega), decide_eq_false (show ¬ q + 24 < 8 by omega), decide_eq_false (show ¬ q + 24 < 16 by omega), decide_eq_false (show ¬ q + 24 < 24 by omega), show q + 24 - 24 = q by omega, zbt_by hb (i := q + 24 - 8) (by omega) (by omega), zbt_by hc (i := q + 24 - 16) (by omega) (by omega)]
    cases zbt q d <;> rfl
/-- the class's number -/
noncomputable def nIn (x p : Int32) : Int32 := (((((zush x (7 - p)) &&& 16843009) &&& 1) ||| ((((zush x (7 - p)) &&& 16843009) >>> ((7 : Int32) &&& 31)) &&& 2)) ||| ((((zush x (7 - p)) &&& 16843009) >>> ((14 : Int32) &&& 31)) &&& 4)) ||| ((((zush x (7 - p)) &&& 16843009) >>> ((21 : Int32) &&& 31)) &&& 8)
/-- the reference's -/
noncomputable def bIn (x p : Int32) : Int32 := (x >>> ((7 - p) &&& 31)) &&& 1
noncomputable def tIn (a b c d p : Int32) : Int32 := (((0 ||| ((bIn a p) <<< ((0 : Int32) &&& 31))) ||| ((bIn b p) <<< ((0 + 1 : Int32) &&& 31))) ||| ((bIn c p) <<< ((0 + 1 + 1 : Int32) &&& 31))) ||| ((bIn d p) <<< ((0 + 1 + 1 + 1 : Int32) &&& 31))
theorem v_s7u : ∀ i : Fin 8, (UInt32.mod ((7 - Int32.ofNat i.val).toUInt32 &&& Int32.toUInt32 31) 32).toBitVec.toNat = 7 - i.val := by decide +kernel
theorem v_s7s : ∀ i : Fin 8, (((7 - Int32.ofNat i.val) &&& 31).toBitVec.smod 32).toNat = 7 - i.val := by decide +kernel
noncomputable def fb4 (x y z w : Bool) : Int32 := (((bif x then 1 else 0) ||| (bif y then 2 else 0)) ||| (bif z then 4 else 0)) ||| (bif w then 8 else 0)
theorem z_nIn (ha : zr 0 255 a) (hb : zr 0 255 b) (hc : zr 0 255 c) (hd : zr 0 255 d) (hp : zr 0 7 p) : nIn (pl4 a b c d) p = tIn a b c d p ∧ zr 0 15 (tIn a b c d p) := by
  obtain ⟨i, ei⟩ := z_F (m := 8) hp (by decide)
  obtain ⟨q, hq8, hqu, hqs⟩ : ∃ q : Nat, q < 8 ∧ (UInt32.mod ((7 - p).toUInt32 &&& Int32.toUInt32 31) 32).toBitVec.toNat = q ∧ (((7 - p) &&& 31).toBitVec.smod 32).toNat = q := ⟨7 - i.val, by omega, by rw [ei]; exact v_s7u i, by rw [ei]; exact v_s7s i⟩
  obtain ⟨z0, z1, z2, z3⟩ := zbt_pl ha hb hc hd hq8
  have bb : ∀ x : Int32, bIn x p = bif zbt q x then 1 else 0 := fun x => by
    unfold bIn
    rw [zbt_m0, zbt_sar hqs (by omega), Nat.add_zero]
  have hR : tIn a b c d p = fb4 (zbt q a) (zbt q b) (zbt q c) (zbt q d) := by
    unfold tIn
    rw [bb, bb, bb, bb]
    cases zbt q a <;> cases zbt q b <;> cases zbt q c <;> cases zbt q d <;> rfl
  have hL : nIn (pl4 a b c d) p = fb4 (zbt q a) (zbt q b) (zbt q c) (zbt q d) := by
    unfold nIn
    rw [zbt_m0, zbt_m1, zbt_m2, zbt_m3, zbt_sar (n := 7) rfl (by decide), zbt_sar (n := 14) rfl (by decide), zbt_sar (n := 21) rfl (by decide), zbt_and, zbt_and, zbt_and, zbt_and, zbt_ush hqu, zbt_ush hqu, zbt_ush hqu, zbt_ush hqu, show zbt 0 16843009 = true from rfl, show zbt (7 + 1) 16843009 = true from rfl, show zbt (14 + 2) 16843009 = true from rfl, show zbt (21 + 3) 16843009 = true from rfl, Bool.and_true, Bool.and_true, Bool.and_true, Bool.and_true, Nat.add_zero, z0]
    have y1 : zbt (q + (7 + 1)) (pl4 a b c d) = zbt q b := z1
    have y2 : zbt (q + (14 + 2)) (pl4 a b c d) = zbt q c := z2
    have y3 : zbt (q + (21 + 3)) (pl4 a b c d) = zbt q d := z3
    rw [y1, y2, y3]
    rfl
  refine ⟨hL.trans hR.symm, ?_⟩
  rw [hR]
  cases zbt q a <;> cases zbt q b <;> cases zbt q c <;> cases zbt q d <;> exact zr_c (by decide)
end ZPB
/-! bytes of the video memory -/
noncomputable def vb (σ : zSt) (x : Int32) : Int32 := σ.1 21 (x &&& 16383).toNatClampNeg
section ZVB
variable {σ μ s t : zSt}
theorem p_vb {x : Int32} : zpc (fX9_vramByte σ x) (fun r => r = (σ, vb σ x)) := by
  unfold fX9_vramByte
  exact zpc_ck (zpc_some rfl)
theorem z_v14 (x : Int32) : (x &&& 16383).toNatClampNeg < 16384 := by
  have r := z_r14 x
  have := z_clamp r.1
  have := r.2
  omega
theorem p_v8 (h : zE σ μ) (e : t.1 7 = μ.1 7) {x : Int32} : zpc (fX12_video8 t x) (fun r => r = (t, vb σ x)) := by
  unfold fX12_video8
  refine zpc_ck (zpc_some ?_)
  show (t, t.1 7 (x &&& 16383).toNatClampNeg &&& 255) = _
  rw [e, z_vr h (z_v14 x)]
  rfl
theorem vb_r (h : zE σ μ) (x : Int32) : zr 0 255 (vb σ x) := by
  unfold vb
  rw [← z_vr h (z_v14 x)]
  exact z_r8 _
theorem vb_of (e : s.1 21 = σ.1 21) (x : Int32) : vb s x = vb σ x := by
  unfold vb
  rw [e]
theorem p_numC {x p : Int32} : zpc (fX3_numberIn σ x p) (fun r => r = (σ, nIn x p)) := by
  unfold fX3_numberIn
  exact zpc_bv (fun v e => zpc_some (by rw [e]; rfl))
/-- four bytes -/
noncomputable def gPl (σ : zSt) (x : Int32) : Int32 := pl4 (vb σ x) (vb σ (x + 1)) (vb σ (x + 2)) (vb σ (x + 3))
noncomputable def gTd (σ : zSt) (x p : Int32) : Int32 := tIn (vb σ x) (vb σ (x + 1)) (vb σ (x + 2)) (vb σ (x + 3)) p
theorem z_gnum (h : zE σ μ) {x p : Int32} (hp : zr 0 7 p) : nIn (gPl σ x) p = gTd σ x p ∧ zr 0 15 (gTd σ x p) := z_nIn (vb_r h _) (vb_r h _) (vb_r h _) (vb_r h _) hp
theorem p_planes {x : Int32} : zpc (fX3_takePlanes σ x) (fun r => r = zsi σ 3 7 (gPl σ x)) := by
  unfold fX3_takePlanes
  refine zpc_bi p_vb (fun s v e => ?_)
  cases e
  refine zpc_bi p_vb (fun s v e => ?_)
  cases e
  refine zpc_bi p_vb (fun s v e => ?_)
  cases e
  refine zpc_bi p_vb (fun s v e => ?_)
  cases e
  exact zpc_bv (fun s e => zpc_some (by rw [e]; rfl))
/-- a dot of a tile -/
theorem p_tdot (h : zE σ μ) (e : t.1 7 = μ.1 7) {x1 x2 x3 : Int32} : zpc (fX12_tileDot t x1 x2 x3) (fun r => r = (t, gTd σ ((32 * x1) + (4 * x3)) x2)) := by
  unfold fX12_tileDot
  show zpc (fX12_tileDot_6_body (fX12_tileDot_6 1999999) t x1 x2 x3 0 0) _
  unfold fX12_tileDot_6_body
  refine zpc_if (fun q => absurd q (by decide)) (fun _ => zpc_bi (p_v8 h e) (fun s v es => zpc_bv (fun v3 e3 => zpc_bv (fun v4 e4 => ?_))))
  cases es
  subst e4
  show zpc (fX12_tileDot_6_body (fX12_tileDot_6 1999998) t x1 x2 x3 v3 (0 + 1)) _
  unfold fX12_tileDot_6_body
  refine zpc_if (fun q => absurd q (by decide)) (fun _ => zpc_bi (p_v8 h e) (fun s v es => zpc_bv (fun w3 f3 => zpc_bv (fun v4 e4 => ?_))))
  cases es
  subst e4
  show zpc (fX12_tileDot_6_body (fX12_tileDot_6 1999997) t x1 x2 x3 w3 (0 + 1 + 1)) _
  unfold fX12_tileDot_6_body
  refine zpc_if (fun q => absurd q (by decide)) (fun _ => zpc_bi (p_v8 h e) (fun s v es => zpc_bv (fun y3 g3 => zpc_bv (fun v4 e4 => ?_))))
  cases es
  subst e4
  show zpc (fX12_tileDot_6_body (fX12_tileDot_6 1999996) t x1 x2 x3 y3 (0 + 1 + 1 + 1)) _
  unfold fX12_tileDot_6_body
  refine zpc_if (fun q => absurd q (by decide)) (fun _ => zpc_bi (p_v8 h e) (fun s v es => zpc_bv (fun z3 h3 => zpc_bv (fun v4 e4 => ?_))))
  cases es
  subst e4
  show zpc (fX12_tileDot_6_body (fX12_tileDot_6 1999995) t x1 x2 x3 z3 (0 + 1 + 1 + 1 + 1)) _
  unfold fX12_tileDot_6_body
  refine zpc_if (fun _ => zpc_some ?_) (fun q => absurd (by decide) q)
  rw [h3, g3, f3, e3]
  have a0 : (32 * x1 + 4 * x3) + 0 = 32 * x1 + 4 * x3 := Int32.add_zero _
  rw [a0]
  rfl
end ZVB
end ZJN0
section ZJN1
/-! THE PAINTER, 2: TILES -/
theorem z_ofI {i : Nat} (h : i < 100000) : (Int32.ofNat i).toInt = i := Int32.toInt_ofNat_of_lt (by omega)
theorem z_ofC {i : Nat} (h : i < 100000) : (Int32.ofNat i).toNatClampNeg = i := by
  have e := z_ofI h
  have k := z_clamp (x := Int32.ofNat i) (by omega)
  omega
theorem z_ofS {i : Nat} (h : i < 100000) : Int32.ofNat i + 1 = Int32.ofNat (i + 1) := by
  have e := z_ofI h
  refine z_ofN ?_
  have t := z_tadd (x := Int32.ofNat i) (y := 1) (a := 0) (b := 100000) (c := 1) (d := 1) ⟨by omega, by omega⟩ (zr_c (by decide)) (by decide)
  rw [t, e, show (1 : Int32).toInt = 1 from rfl]
  omega
theorem z_ofL {i : Nat} {c : Int32} {k : Nat} (h : i < 100000) (hc : c.toInt = k) : c ≤ Int32.ofNat i ↔ k ≤ i := by
  rw [Int32.le_iff_toInt_le, z_ofI h, hc]
  omega
theorem z_ofr {i : Nat} {b : Int} (h : i < 100000) (hb : (i : Int) ≤ b) : zr 0 b (Int32.ofNat i) := ⟨by rw [z_ofI h]; omega, by rw [z_ofI h]; exact hb⟩
section ZT2
variable {σ μ s t : zSt}
theorem p_held {x : Int32} (hx : zr 0 95 x) : zpc (fX9_held s x) (fun r => r = (s, s.1 23 x.toNatClampNeg)) := by
  unfold fX9_held fX9_held_20
  exact zpc_if (fun q => absurd q (zq_lt hx rfl (by decide))) (fun _ => zpc_if (fun q => absurd q (zq_gef hx rfl (by decide))) (fun _ => zpc_ck (zpc_some rfl)))
theorem p_reg {x : Int32} : zpc (fX12_reg t x) (fun r => r = (t, t.1 3 (47 + x).toNatClampNeg)) := by
  unfold fX12_reg
  exact zpc_ck (zpc_some rfl)
/-- what the painter may touch -/
noncomputable def zdC (σ s : zSt) : Prop := zQ [25, 27, 28, 29] [(3, 7, 8), (23, 15, 15)] [] [] σ s
noncomputable def zdM (μ t : zSt) : Prop := zQ [22, 23, 24, 25, 9] [(3, 62, 62)] [] [] μ t
theorem zdC.v (h : zdC σ s) : s.1 21 = σ.1 21 := zQ.ro h (k := 21) rfl
theorem zdC.r (h : zdC σ s) {j : Nat} (hj : j ≤ 14) : s.1 23 j = σ.1 23 j := zQ.o h (k := 23) (a := 0) (b := 14) rfl (by omega) hj
theorem zdC.r2 (h : zdC σ s) {j : Nat} (h1 : 16 ≤ j) (h2 : j ≤ 95) : s.1 23 j = σ.1 23 j := zQ.o h (k := 23) (a := 16) (b := 95) rfl h1 h2
theorem zdM.v (h : zdM μ t) : t.1 7 = μ.1 7 := zQ.ro h (k := 7) rfl
theorem zdM.r (h : zdM μ t) {j : Nat} (hj : j ≤ 61) : t.1 3 j = μ.1 3 j := zQ.o h (k := 3) (a := 0) (b := 61) rfl (by omega) hj
theorem zdM.r2 (h : zdM μ t) {j : Nat} (h1 : 63 ≤ j) (h2 : j ≤ 1047) : t.1 3 j = μ.1 3 j := zQ.o h (k := 3) (a := 63) (b := 1047) rfl h1 h2
/-- a tile's word -/
noncomputable def gTb (σ : zSt) (x : Int32) : Int32 := vb σ x ||| (vb σ (x + 1) <<< ((8 : Int32) &&& 31))
noncomputable def tRw (w row : Int32) : Int32 := if w &&& 1024 = 0 then row &&& 7 else 7 - (row &&& 7)
noncomputable def tAd (w row : Int32) : Int32 := (32 * (w &&& 511)) + (4 * tRw w row)
noncomputable def tPc (w col : Int32) : Int32 := if w &&& 512 = 0 then col &&& 7 else 7 - (col &&& 7)
noncomputable def tCo (a i : Int32) : Int32 := (i - a) &&& 255
noncomputable def tRo (st d L i : Int32) : Int32 := if st = 0 then d else if i < 192 then d else L
noncomputable def tBi (σ : zSt) (nm a st d L i : Int32) : Int32 := gTb σ ((nm + (2 * ((tCo a i) >>> ((3 : Int32) &&& 31)))) + (64 * ((tRo st d L i) >>> ((3 : Int32) &&& 31))))
noncomputable def tNu (σ : zSt) (nm a st d L i : Int32) : Int32 := gTd σ (tAd (tBi σ nm a st d L i) (tRo st d L i)) (tPc (tBi σ nm a st d L i) (tCo a i))
noncomputable def o16 (w : Int32) : Int32 := if w &&& 2048 = 0 then 0 else 16
noncomputable def oAh (n w : Int32) : Int32 := if n ≤ 0 then 0 else if w &&& 4096 = 0 then 0 else 1
noncomputable def oC (n w : Int32) : Int32 := (n + o16 w) + (if oAh n w = 0 then 0 else 256)
theorem p_take {x1 x2 : Int32} : zpc (fX3_takeTile s x1 x2) (fun r => r = zsi (zsi s 3 8 (gTb s (x1 + (64 * (x2 >>> ((3 : Int32) &&& 31)))))) 3 7 (gPl s (tAd (gTb s (x1 + (64 * (x2 >>> ((3 : Int32) &&& 31))))) x2))) := by
  unfold fX3_takeTile
  refine zpc_bv (fun v2 e2 => zpc_bi p_vb (fun s1 v e => ?_))
  cases e
  refine zpc_bi p_vb (fun s1 v e => zpc_bv (fun s7 e7 => ?_))
  cases e
  subst e2
  have e7 : s7 = zsi s 3 8 (gTb s (x1 + (64 * (x2 >>> ((3 : Int32) &&& 31))))) := e7
  obtain ⟨w, ew⟩ : ∃ w, w = gTb s (x1 + (64 * (x2 >>> ((3 : Int32) &&& 31)))) := ⟨_, rfl⟩
  rw [← ew] at e7
  rw [← ew]
  have c8 : zgi s7 3 8 = w := by rw [e7]; exact zsi_ej
  rw [c8]
  have go : ∀ y, y = tRw w x2 → zpc (fX3_takeTile_60 s7 y) (fun r => r = zsi (zsi s 3 8 w) 3 7 (gPl s (tAd w x2))) := fun y ey => by
    unfold fX3_takeTile_60
    rw [c8]
    refine zpc_bu p_planes (fun s8 e8 => zpc_some ?_)
    rw [e8, ey, e7]
    rfl
  refine zpc_if (fun q => go _ ?_) (fun q => go _ ?_)
  · unfold tRw; rw [if_pos q]
  · unfold tRw; rw [if_neg q]
noncomputable abbrev zK7 := zSt → Int32 → Int32 → Int32 → Int32 → Int32 → Int32 → Option zSt
/-- the class: one dot, its tile at hand -/
theorem c_215 {k : zK7} {Q : zSt → Prop} {L nm a d st i v w row : Int32} (h : zE σ μ) (hw : s.1 3 8 = w) (hp : s.1 3 7 = gPl σ (tAd w row)) (K : zpc (k (zsi s 27 i.toNatClampNeg (oC (gTd σ (tAd w row) (tPc w v)) w)) L nm a d st (i + 1)) Q) : zpc (fX3_drawTiles_215 k s L nm a d st i v) Q := by
  have l316 : ∀ x y : Int32, y + x = oC (gTd σ (tAd w row) (tPc w v)) w → zpc (fX3_drawTiles_316 k s L nm a d st i x y i) Q := fun x y e => by
    unfold fX3_drawTiles_316
    refine zpc_ck (zpc_bv (fun s1 e1 => zpc_bv (fun v1 ev => ?_)))
    rw [ev, e1, e]
    exact K
  have rp : zr 0 7 (tPc w v) := by
    have r7 : zr 0 7 (v &&& 7) := zr_andr (lo := 0) (hi := 7) (zr_c (lo := 7) (hi := 7) (by decide)) (by decide)
    unfold tPc
    by_cases q : w &&& 512 = 0
    · rw [if_pos q]; exact r7
    · rw [if_neg q]; exact zr_sub (lo := 0) (hi := 7) (zr_c (lo := 7) (hi := 7) (x := 7) (by decide)) r7 (by decide)
  obtain ⟨N, eN⟩ : ∃ N, N = gTd σ (tAd w row) (tPc w v) := ⟨_, rfl⟩
  rw [← eN] at l316
  have l303 : ∀ x13, x13 = oAh N w → zpc (fX3_drawTiles_276 k s L nm a d st i N x13) Q := fun x13 e => by
    unfold fX3_drawTiles_276 fX3_drawTiles_303
    rw [show zgi s 3 8 = w from hw]
    unfold oC at l316
    refine zpc_if (fun q => zpc_if (fun q2 => l316 _ _ ?_) (fun q2 => l316 _ _ ?_)) (fun q => zpc_if (fun q2 => l316 _ _ ?_) (fun q2 => l316 _ _ ?_))
    · rw [e] at q2; rw [if_pos q2]; unfold o16; rw [if_pos q]
    · rw [e] at q2; rw [if_neg q2]; unfold o16; rw [if_pos q]
    · rw [e] at q2; rw [if_pos q2]; unfold o16; rw [if_neg q]
    · rw [e] at q2; rw [if_neg q2]; unfold o16; rw [if_neg q]
  have l242 : ∀ y, y = tPc w v → zpc (fX3_drawTiles_242 k s L nm a d st i y) Q := fun y e => by
    unfold fX3_drawTiles_242 fX3_drawTiles_275
    refine zpc_bi p_numC (fun s1 v1 e1 => ?_)
    cases e1
    have en : nIn (zgi s 3 7) y = N := by
      rw [show zgi s 3 7 = gPl σ (tAd w row) from hp, e, eN]
      exact (z_gnum h rp).1
    rw [en, show zgi s 3 8 = w from hw]
    refine zpc_if (fun q => l303 0 ?_) (fun q => zpc_if (fun q2 => l303 0 ?_) (fun q2 => l303 1 ?_))
    · unfold oAh; rw [if_pos q]
    · unfold oAh; rw [if_neg q, if_pos q2]
    · unfold oAh; rw [if_neg q, if_neg q2]
  unfold fX3_drawTiles_215
  rw [show zgi s 3 8 = w from hw]
  refine zpc_if (fun q => l242 _ ?_) (fun q => l242 _ ?_)
  · unfold tPc; rw [if_pos q]
  · unfold tPc; rw [if_neg q]
theorem v_col : ∀ c : Fin 256, ¬ ((Int32.ofNat c.val + 1) &&& 255) &&& 7 = 0 → ((Int32.ofNat c.val + 1) &&& 255) >>> ((3 : Int32) &&& 31) = (Int32.ofNat c.val) >>> ((3 : Int32) &&& 31) := by decide +kernel
theorem z_and8 {x y : Int32} : ((x &&& 255) + y) &&& 255 = (x + y) &&& 255 := by
  refine z_and255 (fun i hi => ?_)
  have Z : ∀ X Y : Nat, (X % 2 ^ 8 + Y) % 2 ^ 32 / 2 ^ i % 2 = (X + Y) % 2 ^ 32 / 2 ^ i % 2 := fun X Y => by
    rcases (show i = 0 ∨ i = 1 ∨ i = 2 ∨ i = 3 ∨ i = 4 ∨ i = 5 ∨ i = 6 ∨ i = 7 by omega) with h | h | h | h | h | h | h | h <;> subst h <;> omega
  rw [Int32.toBitVec_add, Int32.toBitVec_add, Int32.toBitVec_and, ← BitVec.testBit_toNat, ← BitVec.testBit_toNat, BitVec.toNat_add, BitVec.toNat_add, BitVec.toNat_and]
  have e : (255 : Int32).toBitVec.toNat = 2 ^ 8 - 1 := rfl
  rw [e, Nat.and_two_pow_sub_one_eq_mod, Nat.testBit_eq_decide_div_mod_eq, Nat.testBit_eq_decide_div_mod_eq, Z]
/-- the next dot lies in the same tile -/
theorem z_same {a i : Int32} (q : ¬ (tCo a (i + 1)) &&& 7 = 0) : (tCo a (i + 1)) >>> ((3 : Int32) &&& 31) = (tCo a i) >>> ((3 : Int32) &&& 31) := by
  have e0 : (i - a) + 1 = (i + 1) - a := by rw [Int32.sub_eq_add_neg, Int32.sub_eq_add_neg, Int32.add_assoc, Int32.add_assoc, Int32.add_comm (-a) 1]
  have e : tCo a (i + 1) = ((tCo a i) + 1) &&& 255 := by
    unfold tCo
    rw [z_and8, e0]
  have r : zr 0 255 (tCo a i) := z_r8 _
  obtain ⟨c, ec⟩ := z_byteF r
  rw [e, ec] at q ⊢
  exact v_col c q
/-- the class's loop over a line's tiles -/
theorem c_143 {L nm a d st : Int32} {o : zSt} (h : zE σ μ) : ∀ (n i : Nat) (s : zSt), i ≤ 256 → zdC σ s → s.1 25 = o.1 25 → s.1 23 = o.1 23 → (∀ j : Nat, j < i → s.1 27 j = oC (tNu σ nm a st d L (Int32.ofNat j)) (tBi σ nm a st d L (Int32.ofNat j))) → (1 ≤ i → s.1 3 8 = tBi σ nm a st d L (Int32.ofNat (i - 1)) ∧ s.1 3 7 = gPl σ (tAd (tBi σ nm a st d L (Int32.ofNat (i - 1))) (tRo st d L (Int32.ofNat (i - 1))))) → zpc (fX3_drawTiles_143 n s L nm a d st (Int32.ofNat i)) (fun r => (zdC σ r ∧ r.1 25 = o.1 25 ∧ r.1 23 = o.1 23) ∧ ∀ j : Nat, j < 256 → r.1 27 j = oC (tNu σ nm a st d L (Int32.ofNat j)) (tBi σ nm a st d L (Int32.ofNat j))) := by
  intro n
  induction n with
  | zero => intro i s _ _ _ _ _ _; exact zpc_none
  | succ n ih =>
    intro i s hi hd e25 e23 hin hca
    show zpc (fX3_drawTiles_143_body (fX3_drawTiles_143 n) s L nm a d st (Int32.ofNat i)) _
    unfold fX3_drawTiles_143_body
    refine zpc_if (fun q => zpc_some ?_) (fun q => ?_)
    · have := (z_ofL (k := 256) (by omega) rfl).mp q
      exact ⟨⟨hd, e25, e23⟩, fun j hj => hin j (by omega)⟩
    have hi2 : i < 256 := by
      have : ¬ 256 ≤ i := fun z => q ((z_ofL (c := 256) (k := 256) (i := i) (by omega) rfl).mpr z)
      omega
    obtain ⟨w, ew⟩ : ∃ w, w = tBi σ nm a st d L (Int32.ofNat i) := ⟨_, rfl⟩
    have fin : ∀ s1 : zSt, zdC σ s1 → s1.1 27 = s.1 27 → s1.1 25 = s.1 25 → s1.1 23 = s.1 23 → s1.1 3 8 = w → s1.1 3 7 = gPl σ (tAd w (tRo st d L (Int32.ofNat i))) → zpc (fX3_drawTiles_215 (fX3_drawTiles_143 n) s1 L nm a d st (Int32.ofNat i) (tCo a (Int32.ofNat i))) (fun r => (zdC σ r ∧ r.1 25 = o.1 25 ∧ r.1 23 = o.1 23) ∧ ∀ j : Nat, j < 256 → r.1 27 j = oC (tNu σ nm a st d L (Int32.ofNat j)) (tBi σ nm a st d L (Int32.ofNat j))) := fun s1 q1 q2 qa qb q3 q4 => by
      refine c_215 h q3 q4 ?_
      rw [z_ofS (by omega), z_ofC (by omega)]
      refine ih (i + 1) _ (by omega) (zQ.wi q1 rfl) (by rw [zsi_ne (by decide), qa]; exact e25) (by rw [zsi_ne (by decide), qb]; exact e23) (fun j hj => ?_) (fun _ => ?_)
      · by_cases z : j = i
        · subst z
          rw [zsi_ej, ew]
          rfl
        · rw [zsi_nj z, q2]
          exact hin j (by omega)
      · rw [show i + 1 - 1 = i by omega, zsi_ne (by decide), q3, q4, ew]
        exact ⟨rfl, rfl⟩
    have take : zpc (fX3_drawTiles_183 (fX3_drawTiles_143 n) s L nm a d st (Int32.ofNat i) (tCo a (Int32.ofNat i))) (fun r => (zdC σ r ∧ r.1 25 = o.1 25 ∧ r.1 23 = o.1 23) ∧ ∀ j : Nat, j < 256 → r.1 27 j = oC (tNu σ nm a st d L (Int32.ofNat j)) (tBi σ nm a st d L (Int32.ofNat j))) := by
      have g : ∀ y, y = tRo st d L (Int32.ofNat i) → zpc (fX3_drawTiles_212 (fX3_drawTiles_143 n) s L nm a d st (Int32.ofNat i) (tCo a (Int32.ofNat i)) y (nm + (2 * ((tCo a (Int32.ofNat i)) >>> ((3 : Int32) &&& 31))))) (fun r => (zdC σ r ∧ r.1 25 = o.1 25 ∧ r.1 23 = o.1 23) ∧ ∀ j : Nat, j < 256 → r.1 27 j = oC (tNu σ nm a st d L (Int32.ofNat j)) (tBi σ nm a st d L (Int32.ofNat j))) := fun y ey => by
        unfold fX3_drawTiles_212
        refine zpc_bu p_take (fun s1 e1 => ?_)
        have v := hd.v
        have eT : ∀ x, gTb s x = gTb σ x := fun x => by unfold gTb; rw [vb_of v, vb_of v]
        have eP : ∀ x, gPl s x = gPl σ x := fun x => by unfold gPl; rw [vb_of v, vb_of v, vb_of v, vb_of v]
        rw [eT, eP, ey] at e1
        have e1 : s1 = zsi (zsi s 3 8 w) 3 7 (gPl σ (tAd w (tRo st d L (Int32.ofNat i)))) := by rw [e1, ew]; rfl
        refine fin s1 ?_ ?_ ?_ ?_ ?_ ?_
        · rw [e1]; exact zQ.wi (zQ.wi hd rfl) rfl
        · rw [e1, zsi_ne (by decide), zsi_ne (by decide)]
        · rw [e1, zsi_ne (by decide), zsi_ne (by decide)]
        · rw [e1, zsi_ne (by decide), zsi_ne (by decide)]
        · rw [e1, zsi_nj (by decide)]; exact zsi_ej
        · rw [e1]; exact zsi_ej
      unfold fX3_drawTiles_183 fX3_drawTiles_210
      refine zpc_if (fun z => g _ ?_) (fun z => zpc_if (fun y => g _ ?_) (fun y => g _ ?_))
      · unfold tRo; rw [if_pos z]
      · unfold tRo; rw [if_neg z, if_pos y]
      · unfold tRo; rw [if_neg z, if_neg y]
    refine zpc_bv (fun v6 e6 => ?_)
    have e6 : v6 = tCo a (Int32.ofNat i) := e6
    subst e6
    refine zpc_if (fun _ => take) (fun n0 => zpc_if (fun _ => take) (fun n192 => zpc_if (fun _ => take) (fun n7 => ?_)))
    have hi0 : 1 ≤ i := by
      have : ¬ i = 0 := fun z => n0 (by rw [z]; rfl)
      omega
    have hi1 : ¬ i = 192 := fun z => n192 (by rw [z]; rfl)
    obtain ⟨j, ej⟩ : ∃ j, i = j + 1 := ⟨i - 1, by omega⟩
    subst ej
    obtain ⟨c1, c2⟩ := hca hi0
    rw [show j + 1 - 1 = j by omega] at c1 c2
    have er : tRo st d L (Int32.ofNat (j + 1)) = tRo st d L (Int32.ofNat j) := by
      unfold tRo
      have z : Int32.ofNat (j + 1) < 192 ↔ Int32.ofNat j < 192 := by
        rw [Int32.lt_iff_toInt_lt, Int32.lt_iff_toInt_lt, z_ofI (by omega), z_ofI (by omega), show (192 : Int32).toInt = 192 from rfl]
        omega
      by_cases y : st = 0
      · rw [if_pos y, if_pos y]
      · rw [if_neg y, if_neg y]
        by_cases x : Int32.ofNat j < 192
        · rw [if_pos x, if_pos (z.mpr x)]
        · rw [if_neg x, if_neg (fun r => x (z.mp r))]
    have ec : (tCo a (Int32.ofNat (j + 1))) >>> ((3 : Int32) &&& 31) = (tCo a (Int32.ofNat j)) >>> ((3 : Int32) &&& 31) := by
      rw [← z_ofS (by omega)] at n7 ⊢
      exact z_same n7
    have eb : w = tBi σ nm a st d L (Int32.ofNat j) := by
      rw [ew]
      unfold tBi
      rw [er, ec]
    refine fin s hd rfl rfl rfl (c1.trans eb.symm) ?_
    rw [c2, eb, er]
end ZT2
end ZJN1
section ZJN2
/-! THE PAINTER, 3: THE REFERENCE'S TILES -/
noncomputable def tNm (σ : zSt) : Int32 := if zht (σ.1 23 0) (σ.1 23 1) = 192 then 1024 * (σ.1 23 2 &&& 14) else (4096 * ((σ.1 23 2 >>> ((2 : Int32) &&& 31)) &&& 3)) + 1792
noncomputable def tAc (σ : zSt) (L : Int32) : Int32 := if 16 ≤ L then σ.1 23 8 else if σ.1 23 0 &&& 64 = 0 then σ.1 23 8 else 0
noncomputable def tDn (σ : zSt) (L : Int32) : Int32 := zrem (L + σ.1 23 19) (if zht (σ.1 23 0) (σ.1 23 1) = 192 then 224 else 256)
noncomputable def tSt (σ : zSt) : Int32 := if σ.1 23 0 &&& 128 = 0 then 0 else 1
theorem v_d8 : ∀ c : Fin 256, Int32.ofNat c.val / 8 = Int32.ofNat c.val >>> ((3 : Int32) &&& 31) ∧ zrem (Int32.ofNat c.val) 8 = Int32.ofNat c.val &&& 7 := by decide +kernel
theorem z_d8 {x : Int32} (h : zr 0 255 x) : x / 8 = x >>> ((3 : Int32) &&& 31) ∧ zrem x 8 = x &&& 7 := by
  obtain ⟨c, e⟩ := z_byteF h
  rw [e]
  exact v_d8 c
theorem v_nm : ∀ c : Fin 256, 1024 * ((zrem (Int32.ofNat c.val) 16) &&& 14) = 1024 * (Int32.ofNat c.val &&& 14) ∧ (4096 * (zrem (Int32.ofNat c.val / 4) 4)) + 1792 = (4096 * ((Int32.ofNat c.val >>> ((2 : Int32) &&& 31)) &&& 3)) + 1792 := by decide +kernel
theorem z_nm {x : Int32} (h : zr 0 255 x) : 1024 * ((zrem x 16) &&& 14) = 1024 * (x &&& 14) ∧ (4096 * (zrem (x / 4) 4)) + 1792 = (4096 * ((x >>> ((2 : Int32) &&& 31)) &&& 3)) + 1792 := by
  obtain ⟨c, e⟩ := z_byteF h
  rw [e]
  exact v_nm c
section ZT3
variable {σ μ s t : zSt}
theorem zVe.rj (h : zVe σ μ) {j : Nat} (hj : j ≤ 10) : zr 0 255 (σ.1 23 j) := h.2.1.at (zg_23r ⟨j, by omega⟩)
theorem zVe.ej (h : zVe σ μ) (hd : zdM μ t) {j : Nat} (hj : j ≤ 14) : t.1 3 (47 + j) = σ.1 23 j := by
  have p := z_pn23_0 (d := j) (by omega)
  rw [Nat.zero_add] at p
  rw [hd.r (by omega)]
  exact h.1.e p
theorem zVe.e19 (h : zVe σ μ) : μ.1 3 65 = σ.1 23 19 := h.1.e (z_pn23_18 (d := 1) (by decide))
theorem tDn_r (h : zVe σ μ) {L : Int32} (hL : zr 0 239 L) : zr 0 255 (tDn σ L) := by
  have r19 : zr 0 255 (σ.1 23 19) := h.2.1.at (k := 23) (j := 19) rfl
  have ra : zr 0 494 (L + σ.1 23 19) := zr_add hL r19 (by decide)
  unfold tDn
  by_cases q : zht (σ.1 23 0) (σ.1 23 1) = 192
  · rw [if_pos q]
    have e := z_trem 224 (y := 224) rfl ra (by decide)
    exact ⟨by rw [e]; exact Int.emod_nonneg _ (by decide), by rw [e]; have := Int.emod_lt_of_pos (L + σ.1 23 19).toInt (b := 224) (by decide); omega⟩
  · rw [if_neg q]
    have e := z_trem 256 (y := 256) rfl ra (by decide)
    exact ⟨by rw [e]; exact Int.emod_nonneg _ (by decide), by rw [e]; have := Int.emod_lt_of_pos (L + σ.1 23 19).toInt (b := 256) (by decide); omega⟩
theorem tRo_r {st d L i : Int32} (hd : zr 0 255 d) (hL : zr 0 239 L) : zr 0 255 (tRo st d L i) := by
  unfold tRo
  by_cases q : st = 0
  · rw [if_pos q]; exact hd
  · rw [if_neg q]
    by_cases p : i < 192
    · rw [if_pos p]; exact hd
    · rw [if_neg p]; exact zr_w hL (by decide)
/-- the reference's dot of a tile's row -/
theorem m_141 (h : zVe σ μ) (hd : zdM μ t) {x nm c R : Int32} (rc : zr 0 255 c) (rR : zr 0 255 R) : zpc (fX12_tile_141 t x nm c R) (fun r => r = zsi (zsi t 22 x.toNatClampNeg (gTd σ (tAd (gTb σ ((nm + (2 * (c >>> ((3 : Int32) &&& 31)))) + (64 * (R >>> ((3 : Int32) &&& 31))))) R) (tPc (gTb σ ((nm + (2 * (c >>> ((3 : Int32) &&& 31)))) + (64 * (R >>> ((3 : Int32) &&& 31))))) c) + o16 (gTb σ ((nm + (2 * (c >>> ((3 : Int32) &&& 31)))) + (64 * (R >>> ((3 : Int32) &&& 31))))))) 23 x.toNatClampNeg (oAh (gTd σ (tAd (gTb σ ((nm + (2 * (c >>> ((3 : Int32) &&& 31)))) + (64 * (R >>> ((3 : Int32) &&& 31))))) R) (tPc (gTb σ ((nm + (2 * (c >>> ((3 : Int32) &&& 31)))) + (64 * (R >>> ((3 : Int32) &&& 31))))) c)) (gTb σ ((nm + (2 * (c >>> ((3 : Int32) &&& 31)))) + (64 * (R >>> ((3 : Int32) &&& 31))))))) := by
  obtain ⟨A, eA⟩ : ∃ A, A = (nm + (2 * (c >>> ((3 : Int32) &&& 31)))) + (64 * (R >>> ((3 : Int32) &&& 31))) := ⟨_, rfl⟩
  rw [← eA]
  obtain ⟨w, ew⟩ : ∃ w, w = gTb σ A := ⟨_, rfl⟩
  rw [← ew]
  unfold fX12_tile_141
  rw [(z_d8 rc).1, (z_d8 rc).2, (z_d8 rR).1, show (nm + (64 * (R >>> ((3 : Int32) &&& 31)))) + (2 * (c >>> ((3 : Int32) &&& 31))) = A by rw [eA, Int32.add_assoc, Int32.add_assoc, Int32.add_comm (64 * (R >>> ((3 : Int32) &&& 31)))]]
  refine zpc_ck (zpc_ck (zpc_bv (fun v5 e5 => zpc_bi (p_v8 h.1 hd.v) (fun t1 v e => ?_))))
  cases e
  subst e5
  refine zpc_bi (p_v8 h.1 hd.v) (fun t1 v e => zpc_bv (fun v10 e10 => ?_))
  cases e
  have e10 : v10 = w := by rw [e10, ew]; rfl
  subst e10
  obtain ⟨N, eN⟩ : ∃ N, N = gTd σ (tAd v10 R) (tPc v10 c) := ⟨_, rfl⟩
  rw [← eN]
  have l302 : ∀ y : Int32, ∀ t1 : zSt, vp_nar .boolean y = oAh N v10 → t1 = zsi t 22 x.toNatClampNeg (N + o16 v10) → zpc (fX12_tile_302 t1 y x) (fun r => r = zsi (zsi t 22 x.toNatClampNeg (N + o16 v10)) 23 x.toNatClampNeg (oAh N v10)) := fun y t1 e1 e2 => by
    unfold fX12_tile_302
    exact zpc_ck (zpc_bv (fun t2 g2 => zpc_some (by rw [g2, e1, e2])))
  have l276 : ∀ y : Int32, y = o16 v10 → zpc (fX12_tile_276 t x v10 N y N x) (fun r => r = zsi (zsi t 22 x.toNatClampNeg (N + o16 v10)) 23 x.toNatClampNeg (oAh N v10)) := fun y ey => by
    unfold fX12_tile_276 fX12_tile_301
    refine zpc_ck (zpc_bv (fun t1 g1 => ?_))
    rw [ey] at g1
    refine zpc_if (fun q => l302 0 t1 ?_ g1) (fun q => zpc_if (fun q2 => l302 0 t1 ?_ g1) (fun q2 => l302 1 t1 ?_ g1))
    · unfold oAh; rw [if_pos q]; rfl
    · unfold oAh; rw [if_neg q, if_pos q2]; rfl
    · unfold oAh; rw [if_neg q, if_neg q2]; rfl
  have l236 : ∀ y z : Int32, y = tPc v10 c → z = tRw v10 R → zpc (fX12_tile_236 t x v10 y z) (fun r => r = zsi (zsi t 22 x.toNatClampNeg (N + o16 v10)) 23 x.toNatClampNeg (oAh N v10)) := fun y z ey ez => by
    unfold fX12_tile_236
    refine zpc_bi (p_tdot h.1 hd.v) (fun t1 v e => ?_)
    cases e
    rw [show gTd σ ((32 * (v10 &&& 511)) + (4 * z)) y = N by rw [eN, ey, ez]; rfl]
    refine zpc_if (fun q => l276 0 ?_) (fun q => l276 16 ?_)
    · unfold o16; rw [if_pos q]
    · unfold o16; rw [if_neg q]
  have l209 : ∀ y : Int32, y = tPc v10 c → zpc (fX12_tile_209 t x R v10 y) (fun r => r = zsi (zsi t 22 x.toNatClampNeg (N + o16 v10)) 23 x.toNatClampNeg (oAh N v10)) := fun y ey => by
    unfold fX12_tile_209
    rw [(z_d8 rR).2]
    refine zpc_if (fun q => zpc_ck (l236 _ _ ey ?_)) (fun q => zpc_ck (l236 _ _ ey ?_))
    · unfold tRw; rw [if_pos q]
    · unfold tRw; rw [if_neg q]
  refine zpc_if (fun q => zpc_ck (l209 _ ?_)) (fun q => zpc_ck (l209 _ ?_))
  · unfold tPc; rw [if_pos q]
  · unfold tPc; rw [if_neg q]
/-- the reference's dot -/
theorem m_tile (h : zVe σ μ) (hd : zdM μ t) {L x : Int32} (hL : zr 0 239 L) : zpc (fX12_tile t L x) (fun r => r = zsi (zsi t 22 x.toNatClampNeg (tNu σ (tNm σ) (tAc σ L) (tSt σ) (tDn σ L) L x + o16 (tBi σ (tNm σ) (tAc σ L) (tSt σ) (tDn σ L) L x))) 23 x.toNatClampNeg (oAh (tNu σ (tNm σ) (tAc σ L) (tSt σ) (tDn σ L) L x) (tBi σ (tNm σ) (tAc σ L) (tSt σ) (tDn σ L) L x))) := by
  have f0 : t.1 3 47 = σ.1 23 0 := h.ej hd (j := 0) (by decide)
  have f1 : t.1 3 48 = σ.1 23 1 := h.ej hd (j := 1) (by decide)
  have f2 : t.1 3 (47 + (2 : Int32)).toNatClampNeg = σ.1 23 2 := h.ej hd (j := 2) (by decide)
  have f8 : t.1 3 (47 + (8 : Int32)).toNatClampNeg = σ.1 23 8 := h.ej hd (j := 8) (by decide)
  have f19 : zgi t 3 (65 : Int32).toNatClampNeg = σ.1 23 19 := by
    show t.1 3 65 = _
    rw [hd.r2 (by decide) (by decide)]
    exact h.e19
  have pM := p_heightM (μ := t) (by rw [f0]; exact h.r0) (by rw [f1]; exact h.r1)
  rw [f0, f1] at pM
  have b6 := p_bit_0_6 (μ := t) (by rw [f0]; exact h.r0)
  have b7 := p_bit_0_7 (μ := t) (by rw [f0]; exact h.r0)
  rw [f0] at b6 b7
  have rd := tDn_r h hL
  have fin : ∀ R : Int32, R = tRo (tSt σ) (tDn σ L) L x → zpc (fX12_tile_141 t x (tNm σ) (tCo (tAc σ L) x) R) (fun r => r = zsi (zsi t 22 x.toNatClampNeg (tNu σ (tNm σ) (tAc σ L) (tSt σ) (tDn σ L) L x + o16 (tBi σ (tNm σ) (tAc σ L) (tSt σ) (tDn σ L) L x))) 23 x.toNatClampNeg (oAh (tNu σ (tNm σ) (tAc σ L) (tSt σ) (tDn σ L) L x) (tBi σ (tNm σ) (tAc σ L) (tSt σ) (tDn σ L) L x))) := fun R eR => by
    rw [eR]
    exact m_141 h hd (z_r8 _) (tRo_r rd hL)
  have l118 : ∀ y : Int32, (y = 0 ↔ ¬ zht (σ.1 23 0) (σ.1 23 1) = 192) → tRo (tSt σ) (tDn σ L) L x = tDn σ L → zpc (fX12_tile_118 t L x y (tNm σ) (tCo (tAc σ L) x)) (fun r => r = zsi (zsi t 22 x.toNatClampNeg (tNu σ (tNm σ) (tAc σ L) (tSt σ) (tDn σ L) L x + o16 (tBi σ (tNm σ) (tAc σ L) (tSt σ) (tDn σ L) L x))) 23 x.toNatClampNeg (oAh (tNu σ (tNm σ) (tAc σ L) (tSt σ) (tDn σ L) L x) (tBi σ (tNm σ) (tAc σ L) (tSt σ) (tDn σ L) L x))) := fun y ey er => by
    unfold fX12_tile_118 fX12_tile_140
    rw [f19]
    refine zpc_ck (zpc_if (fun q => zpc_ck (fin _ ?_)) (fun q => zpc_ck (fin _ ?_)))
    · rw [er]; unfold tDn; rw [if_neg (ey.mp q)]
    · rw [er]; unfold tDn; rw [if_pos (Decidable.byContradiction (fun z => q (ey.mpr z)))]
  have l84 : ∀ y a : Int32, (y = 0 ↔ ¬ zht (σ.1 23 0) (σ.1 23 1) = 192) → a = tAc σ L → zpc (fX12_tile_84 t L x y (tNm σ) a) (fun r => r = zsi (zsi t 22 x.toNatClampNeg (tNu σ (tNm σ) (tAc σ L) (tSt σ) (tDn σ L) L x + o16 (tBi σ (tNm σ) (tAc σ L) (tSt σ) (tDn σ L) L x))) 23 x.toNatClampNeg (oAh (tNu σ (tNm σ) (tAc σ L) (tSt σ) (tDn σ L) L x) (tBi σ (tNm σ) (tAc σ L) (tSt σ) (tDn σ L) L x))) := fun y a ey ea => by
    unfold fX12_tile_84
    refine zpc_bv (fun v ev => ?_)
    rw [ea] at ev
    have ev : v = tCo (tAc σ L) x := ev
    subst ev
    have e191 : x ≤ 191 ↔ x < 192 := by
      rw [Int32.le_iff_toInt_le, Int32.lt_iff_toInt_lt, show (191 : Int32).toInt = 191 from rfl, show (192 : Int32).toInt = 192 from rfl]
      omega
    refine zpc_if (fun q => l118 y ey ?_) (fun q => zpc_bit b7 (fun q7 => zpc_if (fun z => absurd z (by decide)) (fun _ => l118 y ey ?_)) (fun q7 => zpc_if (fun _ => fin _ ?_) (fun z => absurd rfl z)))
    · unfold tRo
      by_cases z : tSt σ = 0
      · rw [if_pos z]
      · rw [if_neg z, if_pos (e191.mp q)]
    · unfold tRo tSt
      rw [if_pos q7, if_pos rfl]
    · unfold tRo tSt
      rw [if_neg q7, if_neg (by decide), if_neg (fun z => q (e191.mpr z))]
  have l55 : ∀ y : Int32, (y = 0 ↔ ¬ zht (σ.1 23 0) (σ.1 23 1) = 192) → zpc (fX12_tile_55 t L x y (tNm σ)) (fun r => r = zsi (zsi t 22 x.toNatClampNeg (tNu σ (tNm σ) (tAc σ L) (tSt σ) (tDn σ L) L x + o16 (tBi σ (tNm σ) (tAc σ L) (tSt σ) (tDn σ L) L x))) 23 x.toNatClampNeg (oAh (tNu σ (tNm σ) (tAc σ L) (tSt σ) (tDn σ L) L x) (tBi σ (tNm σ) (tAc σ L) (tSt σ) (tDn σ L) L x))) := fun y ey => by
    unfold fX12_tile_55 fX12_tile_78
    refine zpc_if (fun q => ?_) (fun q => zpc_bit b6 (fun q6 => zpc_if (fun z => absurd z (by decide)) (fun _ => ?_)) (fun q6 => zpc_if (fun _ => l84 y 0 ey ?_) (fun z => absurd rfl z)))
    · refine zpc_bi p_reg (fun t1 v e => ?_)
      cases e
      exact l84 y _ ey (by rw [f8]; unfold tAc; rw [if_pos q])
    · refine zpc_bi p_reg (fun t1 v e => ?_)
      cases e
      exact l84 y _ ey (by rw [f8]; unfold tAc; rw [if_neg q, if_pos q6])
    · unfold tAc
      rw [if_neg q, if_neg q6]
  unfold fX12_tile
  refine zpc_bi pM (fun t1 v e => ?_)
  cases e
  unfold fX12_tile_15
  refine zpc_if (fun q => zpc_if (fun z => absurd z (by decide)) (fun _ => ?_)) (fun q => zpc_if (fun _ => ?_) (fun z => absurd rfl z))
  · refine zpc_bi p_reg (fun t1 v e => zpc_ck ?_)
    cases e
    have z := l55 1 ⟨fun z => absurd z (by decide), fun z => absurd q z⟩
    rw [f2, (z_nm (h.rj (j := 2) (by decide))).1, show 1024 * (σ.1 23 2 &&& 14) = tNm σ by unfold tNm; rw [if_pos q]]
    exact z
  · refine zpc_bi p_reg (fun t1 v e => zpc_ck (zpc_ck ?_))
    cases e
    have z := l55 0 ⟨fun _ => q, fun _ => rfl⟩
    rw [f2, (z_nm (h.rj (j := 2) (by decide))).2, show (4096 * ((σ.1 23 2 >>> ((2 : Int32) &&& 31)) &&& 3)) + 1792 = tNm σ by unfold tNm; rw [if_neg q]]
    exact z
/-- the class: the same parameters -/
theorem c_tiles (h : zVe σ μ) (hs : zdC σ s) {L : Int32} : zpc (fX3_drawTiles s L) (fun r => (zdC σ r ∧ r.1 25 = s.1 25 ∧ r.1 23 = s.1 23) ∧ ∀ j : Nat, j < 256 → r.1 27 j = oC (tNu σ (tNm σ) (tAc σ L) (tSt σ) (tDn σ L) L (Int32.ofNat j)) (tBi σ (tNm σ) (tAc σ L) (tSt σ) (tDn σ L) L (Int32.ofNat j))) := by
  have g0 : s.1 23 0 = σ.1 23 0 := hs.r (by decide)
  have g1 : s.1 23 1 = σ.1 23 1 := hs.r (by decide)
  have g2 : s.1 23 2 = σ.1 23 2 := hs.r (by decide)
  have g8 : s.1 23 8 = σ.1 23 8 := hs.r (by decide)
  have g19 : s.1 23 19 = σ.1 23 19 := hs.r2 (by decide) (by decide)
  have pC := p_heightC (σ := s) (by rw [g0]; exact h.r0) (by rw [g1]; exact h.r1)
  rw [g0, g1] at pC
  have hld : ∀ j : Int32, zr 0 95 j → zpc (fX9_held s j) (fun r => r = (s, s.1 23 j.toNatClampNeg)) := fun j hj => p_held hj
  have l138 : ∀ y nm a d : Int32, y = tSt σ → nm = tNm σ → a = tAc σ L → d = tDn σ L → zpc (fX3_drawTiles_138 s L nm a d y) (fun r => (zdC σ r ∧ r.1 25 = s.1 25 ∧ r.1 23 = s.1 23) ∧ ∀ j : Nat, j < 256 → r.1 27 j = oC (tNu σ (tNm σ) (tAc σ L) (tSt σ) (tDn σ L) L (Int32.ofNat j)) (tBi σ (tNm σ) (tAc σ L) (tSt σ) (tDn σ L) L (Int32.ofNat j))) := fun y nm a d e1 e2 e3 e4 => by
    unfold fX3_drawTiles_138
    rw [e1, e2, e3, e4]
    exact c_143 h.1 zfuel 0 s (by decide) hs rfl rfl (fun j hj => absurd hj (by omega)) (fun hj => absurd hj (by decide))
  have l96 : ∀ y nm a : Int32, (y = 0 ↔ zht (σ.1 23 0) (σ.1 23 1) = 192) → nm = tNm σ → a = tAc σ L → zpc (fX3_drawTiles_96 s L y (s.1 23 0) nm a) (fun r => (zdC σ r ∧ r.1 25 = s.1 25 ∧ r.1 23 = s.1 23) ∧ ∀ j : Nat, j < 256 → r.1 27 j = oC (tNu σ (tNm σ) (tAc σ L) (tSt σ) (tDn σ L) L (Int32.ofNat j)) (tBi σ (tNm σ) (tAc σ L) (tSt σ) (tDn σ L) L (Int32.ofNat j))) := fun y nm a ey e2 e3 => by
    unfold fX3_drawTiles_96 fX3_drawTiles_122
    refine zpc_bi (hld 19 (zr_c (by decide))) (fun s1 v e => ?_)
    cases e
    rw [show s.1 23 (19 : Int32).toNatClampNeg = σ.1 23 19 from g19, g0]
    refine zpc_if (fun q => zpc_ck (zpc_bv (fun v7 e7 => zpc_if (fun q2 => l138 _ _ _ _ ?_ e2 e3 ?_) (fun q2 => l138 _ _ _ _ ?_ e2 e3 ?_)))) (fun q => zpc_ck (zpc_bv (fun v7 e7 => zpc_if (fun q2 => l138 _ _ _ _ ?_ e2 e3 ?_) (fun q2 => l138 _ _ _ _ ?_ e2 e3 ?_))))
    · unfold tSt; rw [if_pos q2]
    · rw [e7]; unfold tDn; rw [if_pos (ey.mp q)]
    · unfold tSt; rw [if_neg q2]
    · rw [e7]; unfold tDn; rw [if_pos (ey.mp q)]
    · unfold tSt; rw [if_pos q2]
    · rw [e7]; unfold tDn; rw [if_neg (fun z => q (ey.mpr z))]
    · unfold tSt; rw [if_neg q2]
    · rw [e7]; unfold tDn; rw [if_neg (fun z => q (ey.mpr z))]
  have l68 : ∀ y nm : Int32, (y = 0 ↔ zht (σ.1 23 0) (σ.1 23 1) = 192) → nm = tNm σ → zpc (fX3_drawTiles_68 s L y (s.1 23 0) nm) (fun r => (zdC σ r ∧ r.1 25 = s.1 25 ∧ r.1 23 = s.1 23) ∧ ∀ j : Nat, j < 256 → r.1 27 j = oC (tNu σ (tNm σ) (tAc σ L) (tSt σ) (tDn σ L) L (Int32.ofNat j)) (tBi σ (tNm σ) (tAc σ L) (tSt σ) (tDn σ L) L (Int32.ofNat j))) := fun y nm ey e2 => by
    unfold fX3_drawTiles_68 fX3_drawTiles_87
    refine zpc_if (fun q => zpc_bi (hld 8 (zr_c (by decide))) (fun s1 v e => ?_)) (fun q => zpc_if (fun q2 => zpc_bi (hld 8 (zr_c (by decide))) (fun s1 v e => ?_)) (fun q2 => l96 y nm 0 ey e2 ?_))
    · cases e
      exact l96 y nm _ ey e2 (by rw [show s.1 23 (8 : Int32).toNatClampNeg = σ.1 23 8 from g8]; unfold tAc; rw [if_pos q])
    · cases e
      rw [g0] at q2
      exact l96 y nm _ ey e2 (by rw [show s.1 23 (8 : Int32).toNatClampNeg = σ.1 23 8 from g8]; unfold tAc; rw [if_neg q, if_pos q2])
    · rw [g0] at q2
      unfold tAc
      rw [if_neg q, if_neg q2]
  unfold fX3_drawTiles
  refine zpc_bi pC (fun s1 v e => ?_)
  cases e
  unfold fX3_drawTiles_18
  refine zpc_if (fun q => ?_) (fun q => ?_)
  · refine zpc_bi (hld 0 (zr_c (by decide))) (fun s1 v e => ?_)
    cases e
    refine zpc_bi (hld 2 (zr_c (by decide))) (fun s1 v e => ?_)
    cases e
    refine zpc_if (fun _ => l68 0 _ ⟨fun _ => q, fun _ => rfl⟩ ?_) (fun z => absurd rfl z)
    rw [show s.1 23 (2 : Int32).toNatClampNeg = σ.1 23 2 from g2]
    unfold tNm
    rw [if_pos q]
  · refine zpc_bi (hld 0 (zr_c (by decide))) (fun s1 v e => ?_)
    cases e
    refine zpc_bi (hld 2 (zr_c (by decide))) (fun s1 v e => ?_)
    cases e
    refine zpc_if (fun z => absurd z (by decide)) (fun _ => l68 1 _ ⟨fun z => absurd z (by decide), fun z => absurd z q⟩ ?_)
    rw [show s.1 23 (2 : Int32).toNatClampNeg = σ.1 23 2 from g2]
    unfold tNm
    rw [if_neg q]
end ZT3
end ZJN2
section ZJN3
/-! THE PAINTER, 4: LOOPS OVER A LINE -/
section ZT4
variable {σ μ s t : zSt} {O : Option zSt} {Q : zSt → zSt → Prop}
/-- the reference: a line made empty -/
theorem m_35 {L bk : Int32} {o : zSt} : ∀ (n i : Nat) (t : zSt), i ≤ 256 → zdM μ t → t.1 3 = o.1 3 → t.1 9 = o.1 9 → (∀ j : Nat, j < i → t.1 22 j = bk ∧ t.1 23 j = 0 ∧ t.1 24 j = 0 ∧ t.1 25 j = 0) → (∀ t : zSt, zdM μ t → t.1 3 = o.1 3 → t.1 9 = o.1 9 → (∀ j : Nat, j < 256 → t.1 22 j = bk ∧ t.1 23 j = 0 ∧ t.1 24 j = 0 ∧ t.1 25 j = 0) → zp2 O (zbi (fX12_bit t 1 6) (fun σ25 v26 => if v26 = 1 then zbi (fX12_mode σ25 ) (fun σ27 v28 => if v28 = 4 then fX12_draws_97 zfuel σ27 L bk 0 else fX12_draws_200 σ27 L bk) else fX12_draws_200 σ25 L bk)) Q) → zp2 O (fX12_draws_35 n t L bk (Int32.ofNat i)) Q := by
  intro n
  induction n with
  | zero => intro i t _ _ _ _ _ _; exact zp2_nr
  | succ n ih =>
    intro i t hi hd e3 e9 hin k
    show zp2 O (fX12_draws_35_body (fX12_draws_35 n) t L bk (Int32.ofNat i)) Q
    unfold fX12_draws_35_body
    refine zp2_ifr (fun q => ?_) (fun q => ?_)
    · have := (z_ofL (k := 256) (by omega) rfl).mp q
      exact k t hd e3 e9 (fun j hj => hin j (by omega))
    have hi2 : i < 256 := by
      have : ¬ 256 ≤ i := fun z => q ((z_ofL (c := 256) (k := 256) (i := i) (by omega) rfl).mpr z)
      omega
    rw [z_ofC (by omega), z_ofS (by omega)]
    refine zp2_ckr (zp2_bvr (fun t1 g1 => zp2_ckr (zp2_bvr (fun t2 g2 => zp2_ckr (zp2_bvr (fun t3 g3 => zp2_ckr (zp2_bvr (fun t4 g4 => zp2_bvr (fun v ev => ?_)))))))))
    subst ev
    have g4 : t4 = zsi (zsi (zsi (zsi t 22 i bk) 23 i 0) 24 i 0) 25 i 0 := by rw [g4, g3, g2, g1]; rfl
    refine ih (i + 1) t4 (by omega) (by rw [g4]; exact zQ.wi (zQ.wi (zQ.wi (zQ.wi hd rfl) rfl) rfl) rfl) (by rw [g4, zsi_ne (by decide), zsi_ne (by decide), zsi_ne (by decide), zsi_ne (by decide)]; exact e3) (by rw [g4, zsi_ne (by decide), zsi_ne (by decide), zsi_ne (by decide), zsi_ne (by decide)]; exact e9) (fun j hj => ?_) k
    have c22 : t4.1 22 j = (zsi t 22 i bk).1 22 j := by rw [g4, zsi_ne (by decide), zsi_ne (by decide), zsi_ne (by decide)]
    have c23 : t4.1 23 j = (zsi (zsi t 22 i bk) 23 i 0).1 23 j := by rw [g4, zsi_ne (by decide), zsi_ne (by decide)]
    have c24 : t4.1 24 j = (zsi (zsi (zsi t 22 i bk) 23 i 0) 24 i 0).1 24 j := by rw [g4, zsi_ne (by decide)]
    have c25 : t4.1 25 j = (zsi (zsi (zsi (zsi t 22 i bk) 23 i 0) 24 i 0) 25 i 0).1 25 j := by rw [g4]
    rw [c22, c23, c24, c25]
    by_cases z : j = i
    · rw [z, zsi_ej, zsi_ej, zsi_ej, zsi_ej]
      exact ⟨rfl, rfl, rfl, rfl⟩
    · rw [zsi_nj z, zsi_nj z, zsi_nj z, zsi_nj z, zsi_ne (by decide), zsi_ne (by decide), zsi_ne (by decide), zsi_ne (by decide), zsi_ne (by decide), zsi_ne (by decide)]
      exact hin j (by omega)
/-- the reference: a line's tiles -/
theorem m_97 (h : zVe σ μ) {L bk : Int32} {o : zSt} (hL : zr 0 239 L) : ∀ (n i : Nat) (t : zSt), i ≤ 256 → zdM μ t → t.1 3 = o.1 3 → t.1 9 = o.1 9 → (∀ j : Nat, j < 256 → t.1 24 j = 0 ∧ t.1 25 j = 0) → (∀ j : Nat, j < i → t.1 22 j = tNu σ (tNm σ) (tAc σ L) (tSt σ) (tDn σ L) L (Int32.ofNat j) + o16 (tBi σ (tNm σ) (tAc σ L) (tSt σ) (tDn σ L) L (Int32.ofNat j)) ∧ t.1 23 j = oAh (tNu σ (tNm σ) (tAc σ L) (tSt σ) (tDn σ L) L (Int32.ofNat j)) (tBi σ (tNm σ) (tAc σ L) (tSt σ) (tDn σ L) L (Int32.ofNat j))) → (∀ t : zSt, zdM μ t → t.1 3 = o.1 3 → t.1 9 = o.1 9 → (∀ j : Nat, j < 256 → t.1 24 j = 0 ∧ t.1 25 j = 0) → (∀ j : Nat, j < 256 → t.1 22 j = tNu σ (tNm σ) (tAc σ L) (tSt σ) (tDn σ L) L (Int32.ofNat j) + o16 (tBi σ (tNm σ) (tAc σ L) (tSt σ) (tDn σ L) L (Int32.ofNat j)) ∧ t.1 23 j = oAh (tNu σ (tNm σ) (tAc σ L) (tSt σ) (tDn σ L) L (Int32.ofNat j)) (tBi σ (tNm σ) (tAc σ L) (tSt σ) (tDn σ L) L (Int32.ofNat j))) → zp2 O (zbu (fX12_sprites t L) (fun σ22 => fX12_draws_123 zfuel σ22 L bk 0)) Q) → zp2 O (fX12_draws_97 n t L bk (Int32.ofNat i)) Q := by
  intro n
  induction n with
  | zero => intro i t _ _ _ _ _ _ _; exact zp2_nr
  | succ n ih =>
    intro i t hi hd e3 e9 h0 hin k
    show zp2 O (fX12_draws_97_body (fX12_draws_97 n) t L bk (Int32.ofNat i)) Q
    unfold fX12_draws_97_body
    refine zp2_ifr (fun q => ?_) (fun q => ?_)
    · have := (z_ofL (k := 256) (by omega) rfl).mp q
      exact k t hd e3 e9 h0 (fun j hj => hin j (by omega))
    have hi2 : i < 256 := by
      have : ¬ 256 ≤ i := fun z => q ((z_ofL (c := 256) (k := 256) (i := i) (by omega) rfl).mpr z)
      omega
    refine zp2_bur (m_tile h hd hL) (fun t1 g1 => zp2_bvr (fun v ev => ?_))
    rw [z_ofS (by omega)] at ev
    subst ev
    rw [z_ofC (by omega)] at g1
    refine ih (i + 1) t1 (by omega) (by rw [g1]; exact zQ.wi (zQ.wi hd rfl) rfl) (by rw [g1, zsi_ne (by decide), zsi_ne (by decide)]; exact e3) (by rw [g1, zsi_ne (by decide), zsi_ne (by decide)]; exact e9) (fun j hj => by rw [g1, zsi_ne (by decide), zsi_ne (by decide), zsi_ne (by decide), zsi_ne (by decide)]; exact h0 j hj) (fun j hj => ?_) k
    rw [g1, zsi_ne (k1 := 22) (by decide), zsi_at, zsi_at, zsi_ne (k1 := 23) (by decide)]
    by_cases z : j = i
    · rw [if_pos ⟨rfl, z⟩, if_pos ⟨rfl, z⟩, z]
      exact ⟨rfl, rfl⟩
    · rw [if_neg (fun y => z y.2), if_neg (fun y => z y.2)]
      exact hin j (by omega)
/-- the reference: sprites over tiles -/
theorem m_123 {L bk : Int32} {o : zSt} : ∀ (n i : Nat) (t : zSt), i ≤ 256 → zdM μ t → t.1 23 = o.1 23 → t.1 24 = o.1 24 → t.1 3 = o.1 3 → t.1 9 = o.1 9 → (∀ j : Nat, j < i → t.1 22 j = if o.1 24 j ≤ 0 then o.1 22 j else if o.1 23 j = 0 then o.1 24 j else o.1 22 j) → (∀ j : Nat, i ≤ j → t.1 22 j = o.1 22 j) → (∀ t : zSt, zdM μ t → t.1 3 = o.1 3 → t.1 9 = o.1 9 → (∀ j : Nat, j < 256 → t.1 22 j = if o.1 24 j ≤ 0 then o.1 22 j else if o.1 23 j = 0 then o.1 24 j else o.1 22 j) → zp2 O (fX12_draws_168 zfuel t L bk 0) Q) → zp2 O (fX12_draws_123 n t L bk (Int32.ofNat i)) Q := by
  intro n
  induction n with
  | zero => intro i t _ _ _ _ _ _ _ _ _; exact zp2_nr
  | succ n ih =>
    intro i t hi hd e23 e24 e3 e9 hin hout k
    show zp2 O (fX12_draws_123_body (fX12_draws_123 n) t L bk (Int32.ofNat i)) Q
    unfold fX12_draws_123_body fX12_draws_160
    refine zp2_ifr (fun q => ?_) (fun q => ?_)
    · have := (z_ofL (k := 256) (by omega) rfl).mp q
      exact k t hd e3 e9 (fun j hj => hin j (by omega))
    have hi2 : i < 256 := by
      have : ¬ 256 ≤ i := fun z => q ((z_ofL (c := 256) (k := 256) (i := i) (by omega) rfl).mpr z)
      omega
    rw [z_ofC (by omega), z_ofS (by omega)]
    have c24 : zgi t 24 i = o.1 24 i := by show t.1 24 i = _; rw [e24]
    have c23 : zgi t 23 i = o.1 23 i := by show t.1 23 i = _; rw [e23]
    rw [c24, c23]
    have stay : t.1 22 i = (if o.1 24 i ≤ 0 then o.1 22 i else if o.1 23 i = 0 then o.1 24 i else o.1 22 i) → zp2 O (zbv (Int32.ofNat (i + 1)) (fun v16 => fX12_draws_123 n t L bk v16)) Q := fun y => zp2_bvr (fun v ev => by
      subst ev
      refine ih (i + 1) t (by omega) hd e23 e24 e3 e9 (fun j hj => ?_) (fun j hj => hout j (by omega)) k
      by_cases z : j = i
      · rw [z]; exact y
      · exact hin j (by omega))
    refine zp2_ckr (zp2_ifr (fun p => stay (by rw [if_pos p]; exact hout i (by omega))) (fun p => zp2_ckr (zp2_ifr (fun p2 => zp2_ckr (zp2_ckr (zp2_bvr (fun t1 g1 => zp2_bvr (fun v ev => ?_))))) (fun p2 => stay (by rw [if_neg p, if_neg p2]; exact hout i (by omega))))))
    subst ev
    refine ih (i + 1) t1 (by omega) (by rw [g1]; exact zQ.wi hd rfl) (by rw [g1, zsi_ne (by decide)]; exact e23) (by rw [g1, zsi_ne (by decide)]; exact e24) (by rw [g1, zsi_ne (by decide)]; exact e3) (by rw [g1, zsi_ne (by decide)]; exact e9) (fun j hj => ?_) (fun j hj => by rw [g1, zsi_nj (by omega)]; exact hout j (by omega)) k
    by_cases z : j = i
    · rw [z, g1, zsi_ej, if_neg p, if_pos p2]
    · rw [g1, zsi_nj z]
      exact hin j (by omega)
/-- the reference: the left column -/
theorem m_168 (h : zVe σ μ) {L bk : Int32} {o : zSt} : ∀ (n i : Nat) (t : zSt), i ≤ 8 → zdM μ t → t.1 3 = o.1 3 → t.1 9 = o.1 9 → (i = 0 ∨ ¬ σ.1 23 0 &&& 32 = 0) → (∀ j : Nat, j < i → t.1 22 j = bk) → (∀ j : Nat, i ≤ j → t.1 22 j = o.1 22 j) → (∀ t : zSt, zdM μ t → t.1 3 = o.1 3 → t.1 9 = o.1 9 → (∀ j : Nat, j < 256 → t.1 22 j = if j < 8 ∧ ¬ σ.1 23 0 &&& 32 = 0 then bk else o.1 22 j) → zp2 O (fX12_draws_302 zfuel t L 0) Q) → zp2 O (fX12_draws_168 n t L bk (Int32.ofNat i)) Q := by
  intro n
  induction n with
  | zero => intro i t _ _ _ _ _ _ _ _; exact zp2_nr
  | succ n ih =>
    intro i t hi hd e3 e9 hb hin hout k
    show zp2 O (fX12_draws_168_body (fX12_draws_168 n) t L bk (Int32.ofNat i)) Q
    unfold fX12_draws_168_body fX12_draws_197 fX12_draws_300
    refine zp2_ifr (fun q => ?_) (fun q => ?_)
    · have := (z_ofL (k := 8) (by omega) rfl).mp q
      refine k t hd e3 e9 (fun j hj => ?_)
      by_cases z : j < 8
      · rw [if_pos ⟨z, hb.resolve_left (by omega)⟩]; exact hin j (by omega)
      · rw [if_neg (fun y => z y.1)]; exact hout j (by omega)
    have hi2 : i < 8 := by
      have : ¬ 8 ≤ i := fun z => q ((z_ofL (c := 8) (k := 8) (i := i) (by omega) rfl).mpr z)
      omega
    have f0 : t.1 3 47 = σ.1 23 0 := h.ej hd (j := 0) (by decide)
    have b5 := p_bit_0_5 (μ := t) (by rw [f0]; exact h.r0)
    rw [f0] at b5
    refine zp2_bir b5 (fun t0 v0 e0 => ?_)
    cases e0
    by_cases p : σ.1 23 0 &&& 32 = 0
    · rw [if_pos p]
      refine zp2_ifr (fun z => absurd z (by decide)) (fun _ => k t hd e3 e9 (fun j hj => ?_))
      rw [if_neg (fun y => y.2 p)]
      exact hout j (by rcases hb with z | z; omega; exact absurd p z)
    · rw [if_neg p]
      refine zp2_ifr (fun _ => ?_) (fun z => absurd rfl z)
      rw [z_ofC (by omega), z_ofS (by omega)]
      refine zp2_ckr (zp2_bvr (fun t1 g1 => zp2_bvr (fun v ev => ?_)))
      subst ev
      refine ih (i + 1) t1 (by omega) (by rw [g1]; exact zQ.wi hd rfl) (by rw [g1, zsi_ne (by decide)]; exact e3) (by rw [g1, zsi_ne (by decide)]; exact e9) (Or.inr p) (fun j hj => ?_) (fun j hj => by rw [g1, zsi_nj (by omega)]; exact hout j (by omega)) k
      by_cases z : j = i
      · rw [z, g1, zsi_ej]
      · rw [g1, zsi_nj z]
        exact hin j (by omega)
/-- the reference: sprites of the old modes -/
theorem m_266 {L : Int32} {o : zSt} : ∀ (n i : Nat) (t : zSt), i ≤ 256 → zdM μ t → t.1 24 = o.1 24 → t.1 3 = o.1 3 → t.1 9 = o.1 9 → (∀ j : Nat, j < i → t.1 22 j = if o.1 24 j ≤ 0 then o.1 22 j else o.1 24 j) → (∀ j : Nat, i ≤ j → t.1 22 j = o.1 22 j) → (∀ t : zSt, zdM μ t → t.1 3 = o.1 3 → t.1 9 = o.1 9 → (∀ j : Nat, j < 256 → t.1 22 j = if o.1 24 j ≤ 0 then o.1 22 j else o.1 24 j) → zp2 O (fX12_draws_302 zfuel t L 0) Q) → zp2 O (fX12_draws_266 n t L (Int32.ofNat i)) Q := by
  intro n
  induction n with
  | zero => intro i t _ _ _ _ _ _ _ _; exact zp2_nr
  | succ n ih =>
    intro i t hi hd e24 e3 e9 hin hout k
    show zp2 O (fX12_draws_266_body (fX12_draws_266 n) t L (Int32.ofNat i)) Q
    unfold fX12_draws_266_body fX12_draws_294 fX12_draws_300
    refine zp2_ifr (fun q => ?_) (fun q => ?_)
    · have := (z_ofL (k := 256) (by omega) rfl).mp q
      exact k t hd e3 e9 (fun j hj => hin j (by omega))
    have hi2 : i < 256 := by
      have : ¬ 256 ≤ i := fun z => q ((z_ofL (c := 256) (k := 256) (i := i) (by omega) rfl).mpr z)
      omega
    rw [z_ofC (by omega), z_ofS (by omega)]
    have c24 : zgi t 24 i = o.1 24 i := by show t.1 24 i = _; rw [e24]
    rw [c24]
    refine zp2_ckr (zp2_ifr (fun p => zp2_bvr (fun v ev => ?_)) (fun p => zp2_ckr (zp2_ckr (zp2_bvr (fun t1 g1 => zp2_bvr (fun v ev => ?_))))))
    · subst ev
      refine ih (i + 1) t (by omega) hd e24 e3 e9 (fun j hj => ?_) (fun j hj => hout j (by omega)) k
      by_cases z : j = i
      · rw [z, if_pos p]; exact hout i (by omega)
      · exact hin j (by omega)
    · subst ev
      refine ih (i + 1) t1 (by omega) (by rw [g1]; exact zQ.wi hd rfl) (by rw [g1, zsi_ne (by decide)]; exact e24) (by rw [g1, zsi_ne (by decide)]; exact e3) (by rw [g1, zsi_ne (by decide)]; exact e9) (fun j hj => ?_) (fun j hj => by rw [g1, zsi_nj (by omega)]; exact hout j (by omega)) k
      by_cases z : j = i
      · rw [z, g1, zsi_ej, if_neg p]
      · rw [g1, zsi_nj z]
        exact hin j (by omega)
/-! the class's loops -/
theorem c_147 {o : zSt} : ∀ (n i : Nat) (s : zSt), i ≤ 256 → zdC σ s → s.1 28 = o.1 28 → s.1 23 = o.1 23 → s.1 25 = o.1 25 → (∀ j : Nat, j < i → s.1 27 j = if o.1 28 j ≤ 0 then o.1 27 j else if o.1 27 j &&& 256 = 0 then 16 + o.1 28 j else o.1 27 j) → (∀ j : Nat, i ≤ j → s.1 27 j = o.1 27 j) → zpc (fX3_drawSprites_147 n s (Int32.ofNat i)) (fun r => zdC σ r ∧ r.1 23 = o.1 23 ∧ r.1 25 = o.1 25 ∧ ∀ j : Nat, j < 256 → r.1 27 j = if o.1 28 j ≤ 0 then o.1 27 j else if o.1 27 j &&& 256 = 0 then 16 + o.1 28 j else o.1 27 j) := by
  intro n
  induction n with
  | zero => intro i s _ _ _ _ _ _ _; exact zpc_none
  | succ n ih =>
    intro i s hi hd e28 e23 e25 hin hout
    show zpc (fX3_drawSprites_147_body (fX3_drawSprites_147 n) s (Int32.ofNat i)) _
    unfold fX3_drawSprites_147_body fX3_drawSprites_196
    refine zpc_if (fun q => zpc_some ?_) (fun q => ?_)
    · have := (z_ofL (k := 256) (by omega) rfl).mp q
      exact ⟨hd, e23, e25, fun j hj => hin j (by omega)⟩
    have hi2 : i < 256 := by
      have : ¬ 256 ≤ i := fun z => q ((z_ofL (c := 256) (k := 256) (i := i) (by omega) rfl).mpr z)
      omega
    rw [z_ofC (by omega), z_ofS (by omega)]
    have c28 : zgi s 28 i = o.1 28 i := by show s.1 28 i = _; rw [e28]
    have c27 : zgi s 27 i = o.1 27 i := hout i (by omega)
    rw [c28, c27]
    have stay : o.1 27 i = (if o.1 28 i ≤ 0 then o.1 27 i else if o.1 27 i &&& 256 = 0 then 16 + o.1 28 i else o.1 27 i) → zpc (zbv (Int32.ofNat (i + 1)) (fun v1 => fX3_drawSprites_147 n s v1)) (fun r => zdC σ r ∧ r.1 23 = o.1 23 ∧ r.1 25 = o.1 25 ∧ ∀ j : Nat, j < 256 → r.1 27 j = if o.1 28 j ≤ 0 then o.1 27 j else if o.1 27 j &&& 256 = 0 then 16 + o.1 28 j else o.1 27 j) := fun y => zpc_bv (fun v ev => by
      subst ev
      refine ih (i + 1) s (by omega) hd e28 e23 e25 (fun j hj => ?_) (fun j hj => hout j (by omega))
      by_cases z : j = i
      · rw [z, hout i (by omega)]; exact y
      · exact hin j (by omega))
    refine zpc_ck (zpc_if (fun p => stay (by rw [if_pos p])) (fun p => zpc_ck (zpc_if (fun p2 => zpc_ck (zpc_ck (zpc_bv (fun s1 g1 => zpc_bv (fun v ev => ?_))))) (fun p2 => stay (by rw [if_neg p, if_neg p2])))))
    subst ev
    refine ih (i + 1) s1 (by omega) (by rw [g1]; exact zQ.wi hd rfl) (by rw [g1, zsi_ne (by decide)]; exact e28) (by rw [g1, zsi_ne (by decide)]; exact e23) (by rw [g1, zsi_ne (by decide)]; exact e25) (fun j hj => ?_) (fun j hj => by rw [g1, zsi_nj (by omega)]; exact hout j (by omega))
    by_cases z : j = i
    · rw [z, g1, zsi_ej, if_neg p, if_pos p2]
    · rw [g1, zsi_nj z]
      exact hin j (by omega)
end ZT4
end ZJN3
