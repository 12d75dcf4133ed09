/-! THE PAINTER, 1 -/
theorem zbt_l2 : ∀ i, i < 32 → ((4 : Int32).toBitVec.getLsbD i = decide (i = 2)) := by decide
theorem zbt_m2 {x : Int32} : x &&& 4 = bif zbt 2 x then 4 else 0 := by
  refine Int32.toBitVec_inj.1 (BitVec.eq_of_getLsbD_eq (fun i hi => ?_))
  rw [Int32.toBitVec_and, BitVec.getLsbD_and, zbt_l2 i hi]
  unfold zbt
  by_cases q : i = 2
  · subst q
    cases h : x.toBitVec.getLsbD 2 <;> rfl
  · rw [decide_eq_false q, Bool.and_false]
    cases h : x.toBitVec.getLsbD 2
    · exact (BitVec.getLsbD_zero (w := 32)).symm
    · exact ((zbt_l2 i hi).trans (decide_eq_false q)).symm
theorem zbt_or {k : Nat} {x y : Int32} : zbt k (x ||| y) = (zbt k x || zbt k y) := by
  unfold zbt
  rw [Int32.toBitVec_or, BitVec.getLsbD_or]
theorem zbt_shl {i n : Nat} {x s : Int32} (hs : (s.toBitVec.smod 32).toNat = n) (hi : i < 32) : zbt i (x <<< s) = (!decide (i < n) && zbt (i - n) x) := by
  unfold zbt
  have e : (x <<< s).toBitVec = x.toBitVec <<< (s.toBitVec.smod 32).toNat := rfl
  rw [e, hs, BitVec.getLsbD_shiftLeft, decide_eq_true hi, Bool.true_and]
theorem zbt_ush {k n : Nat} {x s : Int32} (hs : (UInt32.mod (s.toUInt32 &&& Int32.toUInt32 31) 32).toBitVec.toNat = n) : zbt k (zush x s) = zbt (n + k) x := by
  unfold zbt
  have e : (zush x s).toBitVec = x.toBitVec >>> (UInt32.mod (s.toUInt32 &&& Int32.toUInt32 31) 32).toBitVec.toNat := rfl
  rw [e, hs, BitVec.getLsbD_ushiftRight]
theorem zbt_by {b : Int32} (h : zr 0 255 b) {i : Nat} (h8 : 8 ≤ i) (hi : i < 32) : zbt i b = false := by
  have e : b = b &&& 255 := (z_m255 h).symm
  rw [e, zbt_and]
  have z : zbt i 255 = decide (i < 8) := v_255 i hi
  rw [z, decide_eq_false (by omega), Bool.and_false]
def pl4 (a b c d : Int32) : Int32 := ((a ||| (b <<< ((8 : Int32) &&& 31))) ||| (c <<< ((16 : Int32) &&& 31))) ||| (d <<< ((24 : Int32) &&& 31))
section ZPB
variable {a b c d p : Int32}
theorem zbt_pl (ha : zr 0 255 a) (hb : zr 0 255 b) (hc : zr 0 255 c) (hd : zr 0 255 d) {q : Nat} (hq : q < 8) : zbt q (pl4 a b c d) = zbt q a ∧ zbt (q + 8) (pl4 a b c d) = zbt q b ∧ zbt (q + 16) (pl4 a b c d) = zbt q c ∧ zbt (q + 24) (pl4 a b c d) = zbt q d := by
  have sh : ∀ (x : Int32) (k : Nat), q + k < 32 → zbt (q + k) (x <<< ((8 : Int32) &&& 31)) = (!decide (q + k < 8) && zbt (q + k - 8) x) ∧ zbt (q + k) (x <<< ((16 : Int32) &&& 31)) = (!decide (q + k < 16) && zbt (q + k - 16) x) ∧ zbt (q + k) (x <<< ((24 : Int32) &&& 31)) = (!decide (q + k < 24) && zbt (q + k - 24) x) := fun x k hk => ⟨zbt_shl rfl hk, zbt_shl rfl hk, zbt_shl rfl hk⟩
  have or4 : ∀ i, zbt i (pl4 a b c d) = (((zbt i a || zbt i (b <<< ((8 : Int32) &&& 31))) || zbt i (c <<< ((16 : Int32) &&& 31))) || zbt i (d <<< ((24 : Int32) &&& 31))) := fun i => by
    unfold pl4
    rw [zbt_or, zbt_or, zbt_or]
  have T : ∀ k, k < q + 1 → ¬ q + 8 < k := fun k hk => by omega
  refine ⟨?_, ?_, ?_, ?_⟩
  · have s0 := sh b 0 (by omega)
    have s1 := sh c 0 (by omega)
    have s2 := sh d 0 (by omega)
    rw [Nat.add_zero] at s0 s1 s2
    rw [or4, s0.1, s1.2.1, s2.2.2, decide_eq_true (by omega), decide_eq_true (by omega), decide_eq_true (by omega)]
    cases zbt q a <;> rfl
  · rw [or4, (sh b 8 (by omega)).1, (sh c 8 (by omega)).2.1, (sh d 8 (by omega)).2.2, zbt_by ha (by omega) (by omega), decide_eq_false (show ¬ q + 8 < 8 by omega), decide_eq_true (show q + 8 < 16 by omega), decide_eq_true (show q + 8 < 24 by omega), show q + 8 - 8 = q by omega]
    cases zbt q b <;> rfl
  · rw [or4, (sh b 16 (by omega)).1, (sh c 16 (by omega)).2.1, (sh d 16 (by omega)).2.2, zbt_by ha (by omega) (by omega), decide_eq_false (show ¬ q + 16 < 8 by omega), decide_eq_false (show ¬ q + 16 < 16 by omega), decide_eq_true (show q + 16 < 24 by omega), show q + 16 - 16 = q by omega, zbt_by hb (i := q + 16 - 8) (by omega) (by omega)]
    cases zbt q c <;> rfl
  · rw [or4, (sh b 24 (by omega)).1, (sh c 24 (by omega)).2.1, (sh d 24 (by omega)).2.2, zbt_by ha (by omega) (by omega), decide_eq_false (show ¬ q + 24 < 8 by omega), decide_eq_false (show ¬ q + 24 < 16 by omega), decide_eq_false (show ¬ q + 24 < 24 by omega), show q + 24 - 24 = q by omega, zbt_by hb (i := q + 24 - 8) (by omega) (by omega), zbt_by hc (i := q + 24 - 16) (by omega) (by omega)]
    cases zbt q d <;> rfl
/-- the class's number -/
def nIn (x p : Int32) : Int32 := (((((zush x (7 - p)) &&& 16843009) &&& 1) ||| ((((zush x (7 - p)) &&& 16843009) >>> ((7 : Int32) &&& 31)) &&& 2)) ||| ((((zush x (7 - p)) &&& 16843009) >>> ((14 : Int32) &&& 31)) &&& 4)) ||| ((((zush x (7 - p)) &&& 16843009) >>> ((21 : Int32) &&& 31)) &&& 8)
/-- the reference's -/
def bIn (x p : Int32) : Int32 := (x >>> ((7 - p) &&& 31)) &&& 1
def tIn (a b c d p : Int32) : Int32 := (((0 ||| ((bIn a p) <<< ((0 : Int32) &&& 31))) ||| ((bIn b p) <<< ((0 + 1 : Int32) &&& 31))) ||| ((bIn c p) <<< ((0 + 1 + 1 : Int32) &&& 31))) ||| ((bIn d p) <<< ((0 + 1 + 1 + 1 : Int32) &&& 31))
theorem v_s7u : ∀ i : Fin 8, (UInt32.mod ((7 - Int32.ofNat i.val).toUInt32 &&& Int32.toUInt32 31) 32).toBitVec.toNat = 7 - i.val := by decide +kernel
theorem v_s7s : ∀ i : Fin 8, (((7 - Int32.ofNat i.val) &&& 31).toBitVec.smod 32).toNat = 7 - i.val := by decide +kernel
def fb4 (x y z w : Bool) : Int32 := (((bif x then 1 else 0) ||| (bif y then 2 else 0)) ||| (bif z then 4 else 0)) ||| (bif w then 8 else 0)
theorem z_nIn (ha : zr 0 255 a) (hb : zr 0 255 b) (hc : zr 0 255 c) (hd : zr 0 255 d) (hp : zr 0 7 p) : nIn (pl4 a b c d) p = tIn a b c d p ∧ zr 0 15 (tIn a b c d p) := by
  obtain ⟨i, ei⟩ := z_F (m := 8) hp (by decide)
  obtain ⟨q, hq8, hqu, hqs⟩ : ∃ q : Nat, q < 8 ∧ (UInt32.mod ((7 - p).toUInt32 &&& Int32.toUInt32 31) 32).toBitVec.toNat = q ∧ (((7 - p) &&& 31).toBitVec.smod 32).toNat = q := ⟨7 - i.val, by omega, by rw [ei]; exact v_s7u i, by rw [ei]; exact v_s7s i⟩
  obtain ⟨z0, z1, z2, z3⟩ := zbt_pl ha hb hc hd hq8
  have bb : ∀ x : Int32, bIn x p = bif zbt q x then 1 else 0 := fun x => by
    unfold bIn
    rw [zbt_m0, zbt_sar hqs (by omega), Nat.add_zero]
  have hR : tIn a b c d p = fb4 (zbt q a) (zbt q b) (zbt q c) (zbt q d) := by
    unfold tIn
    rw [bb, bb, bb, bb]
    cases zbt q a <;> cases zbt q b <;> cases zbt q c <;> cases zbt q d <;> rfl
  have hL : nIn (pl4 a b c d) p = fb4 (zbt q a) (zbt q b) (zbt q c) (zbt q d) := by
    unfold nIn
    rw [zbt_m0, zbt_m1, zbt_m2, zbt_m3, zbt_sar (n := 7) rfl (by decide), zbt_sar (n := 14) rfl (by decide), zbt_sar (n := 21) rfl (by decide), zbt_and, zbt_and, zbt_and, zbt_and, zbt_ush hqu, zbt_ush hqu, zbt_ush hqu, zbt_ush hqu, show zbt 0 16843009 = true from rfl, show zbt (7 + 1) 16843009 = true from rfl, show zbt (14 + 2) 16843009 = true from rfl, show zbt (21 + 3) 16843009 = true from rfl, Bool.and_true, Bool.and_true, Bool.and_true, Bool.and_true, Nat.add_zero, z0]
    have y1 : zbt (q + (7 + 1)) (pl4 a b c d) = zbt q b := z1
    have y2 : zbt (q + (14 + 2)) (pl4 a b c d) = zbt q c := z2
    have y3 : zbt (q + (21 + 3)) (pl4 a b c d) = zbt q d := z3
    rw [y1, y2, y3]
    rfl
  refine ⟨hL.trans hR.symm, ?_⟩
  rw [hR]
  cases zbt q a <;> cases zbt q b <;> cases zbt q c <;> cases zbt q d <;> exact zr_c (by decide)
end ZPB
/-! bytes of the video memory -/
def vb (σ : zSt) (x : Int32) : Int32 := σ.1 21 (x &&& 16383).toNatClampNeg
section ZVB
variable {σ μ s t : zSt}
theorem p_vb {x : Int32} : zpc (fX9_vramByte σ x) (fun r => r = (σ, vb σ x)) := by
  unfold fX9_vramByte
  exact zpc_ck (zpc_some rfl)
theorem z_v14 (x : Int32) : (x &&& 16383).toNatClampNeg < 16384 := by
  have r := z_r14 x
  have := z_clamp r.1
  have := r.2
  omega
theorem p_v8 (h : zE σ μ) (e : t.1 7 = μ.1 7) {x : Int32} : zpc (fX12_video8 t x) (fun r => r = (t, vb σ x)) := by
  unfold fX12_video8
  refine zpc_ck (zpc_some ?_)
  show (t, t.1 7 (x &&& 16383).toNatClampNeg &&& 255) = _
  rw [e, z_vr h (z_v14 x)]
  rfl
theorem vb_r (h : zE σ μ) (x : Int32) : zr 0 255 (vb σ x) := by
  unfold vb
  rw [← z_vr h (z_v14 x)]
  exact z_r8 _
theorem vb_of (e : s.1 21 = σ.1 21) (x : Int32) : vb s x = vb σ x := by
  unfold vb
  rw [e]
theorem p_numC {x p : Int32} : zpc (fX3_numberIn σ x p) (fun r => r = (σ, nIn x p)) := by
  unfold fX3_numberIn
  exact zpc_bv (fun v e => zpc_some (by rw [e]; rfl))
/-- four bytes -/
def gPl (σ : zSt) (x : Int32) : Int32 := pl4 (vb σ x) (vb σ (x + 1)) (vb σ (x + 2)) (vb σ (x + 3))
def gTd (σ : zSt) (x p : Int32) : Int32 := tIn (vb σ x) (vb σ (x + 1)) (vb σ (x + 2)) (vb σ (x + 3)) p
theorem z_gnum (h : zE σ μ) {x p : Int32} (hp : zr 0 7 p) : nIn (gPl σ x) p = gTd σ x p ∧ zr 0 15 (gTd σ x p) := z_nIn (vb_r h _) (vb_r h _) (vb_r h _) (vb_r h _) hp
theorem p_planes {x : Int32} : zpc (fX3_takePlanes σ x) (fun r => r = zsi σ 3 7 (gPl σ x)) := by
  unfold fX3_takePlanes
  refine zpc_bi p_vb (fun s v e => ?_)
  cases e
  refine zpc_bi p_vb (fun s v e => ?_)
  cases e
  refine zpc_bi p_vb (fun s v e => ?_)
  cases e
  refine zpc_bi p_vb (fun s v e => ?_)
  cases e
  exact zpc_bv (fun s e => zpc_some (by rw [e]; rfl))
/-- a dot of a tile -/
theorem p_tdot (h : zE σ μ) (e : t.1 7 = μ.1 7) {x1 x2 x3 : Int32} : zpc (fX12_tileDot t x1 x2 x3) (fun r => r = (t, gTd σ ((32 * x1) + (4 * x3)) x2)) := by
  unfold fX12_tileDot
  show zpc (fX12_tileDot_6_body (fX12_tileDot_6 1999999) t x1 x2 x3 0 0) _
  unfold fX12_tileDot_6_body
  refine zpc_if (fun q => absurd q (by decide)) (fun _ => zpc_bi (p_v8 h e) (fun s v es => zpc_bv (fun v3 e3 => zpc_bv (fun v4 e4 => ?_))))
  cases es
  subst e4
  show zpc (fX12_tileDot_6_body (fX12_tileDot_6 1999998) t x1 x2 x3 v3 (0 + 1)) _
  unfold fX12_tileDot_6_body
  refine zpc_if (fun q => absurd q (by decide)) (fun _ => zpc_bi (p_v8 h e) (fun s v es => zpc_bv (fun w3 f3 => zpc_bv (fun v4 e4 => ?_))))
  cases es
  subst e4
  show zpc (fX12_tileDot_6_body (fX12_tileDot_6 1999997) t x1 x2 x3 w3 (0 + 1 + 1)) _
  unfold fX12_tileDot_6_body
  refine zpc_if (fun q => absurd q (by decide)) (fun _ => zpc_bi (p_v8 h e) (fun s v es => zpc_bv (fun y3 g3 => zpc_bv (fun v4 e4 => ?_))))
  cases es
  subst e4
  show zpc (fX12_tileDot_6_body (fX12_tileDot_6 1999996) t x1 x2 x3 y3 (0 + 1 + 1 + 1)) _
  unfold fX12_tileDot_6_body
  refine zpc_if (fun q => absurd q (by decide)) (fun _ => zpc_bi (p_v8 h e) (fun s v es => zpc_bv (fun z3 h3 => zpc_bv (fun v4 e4 => ?_))))
  cases es
  subst e4
  show zpc (fX12_tileDot_6_body (fX12_tileDot_6 1999995) t x1 x2 x3 z3 (0 + 1 + 1 + 1 + 1)) _
  unfold fX12_tileDot_6_body
  refine zpc_if (fun _ => zpc_some ?_) (fun q => absurd (by decide) q)
  rw [h3, g3, f3, e3]
  have a0 : (32 * x1 + 4 * x3) + 0 = 32 * x1 + 4 * x3 := Int32.add_zero _
  rw [a0]
  rfl
end ZVB
