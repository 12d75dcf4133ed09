/-! ARITHMETIC -/
def bc (v : Int32) : Bool := decide (¬ v = 0)
def d7 (x : Int32) : Bool := bc (if x &&& 128 = 0 then 0 else 1)
def d6 (x : Int32) : Bool := bc (if x = 0 then 1 else 0)
def d5 (x : Int32) : Bool := bc (if x &&& 32 = 0 then 0 else 1)
def d3 (x : Int32) : Bool := bc (if x &&& 8 = 0 then 0 else 1)
theorem fl_xy {b7 b6 b5 b4 b3 b2 b1 b0 : Bool} {x : Int32} : gxy (zfl b7 b6 b5 b4 b3 b2 b1 b0) x = zfl b7 b6 (d5 x) b4 (d3 x) b2 b1 b0 := by
  unfold gxy
  rw [pt_5, pt_3]
  rfl
theorem fl_by {b7 b6 b5 b4 b3 b2 b1 b0 : Bool} {x : Int32} : gby (zfl b7 b6 b5 b4 b3 b2 b1 b0) x = zfl (d7 x) (d6 x) (d5 x) b4 (d3 x) b2 b1 b0 := by
  unfold gby
  rw [pt_7, pt_6, fl_xy]
  rfl
theorem zfl_r : ∀ b7 b6 b5 b4 b3 b2 b1 b0 : Bool, zr 0 255 (zfl b7 b6 b5 b4 b3 b2 b1 b0) := by
  unfold zr
  decide
section ZFL2
variable {μ σ : zSt} {f b v x : Int32}
theorem p_put' : zpc (fX12_put μ b v) (fun r => r = zsi μ 3 1 (pt (μ.1 3 1) b v)) := by
  have h := p_put (μ := μ) (f := μ.1 3 1) (b := b) (v := v)
  rw [zsi_own] at h
  exact h
theorem p_xy' : zpc (fX12_xy μ x) (fun r => r = zsi μ 3 1 (gxy (μ.1 3 1) x)) := by
  have h := p_xy (μ := μ) (f := μ.1 3 1) (x := x)
  rw [zsi_own] at h
  exact h
theorem p_by' : zpc (fX12_by μ x) (fun r => r = zsi μ 3 1 (gby (μ.1 3 1) x)) := by
  have h := p_by (μ := μ) (f := μ.1 3 1) (x := x)
  rw [zsi_own] at h
  exact h
theorem zpc_j3 {α : Type} {c c2 : Prop} {d : Decidable c} {d2 : Decidable c2} {K : Int32 → Option α} {Q : α → Prop} (h : ∀ v, v = @ite _ c d 1 (@ite _ c2 d2 0 1) → zpc (K v) Q) : zpc (@ite _ c d (K 1) (@ite _ c2 d2 (K 0) (K 1))) Q := by
  by_cases q : c
  · rw [if_pos q]; exact h 1 (if_pos q).symm
  · rw [if_neg q]
    by_cases q2 : c2
    · rw [if_pos q2]; exact h 0 (by rw [if_neg q, if_pos q2])
    · rw [if_neg q2]; exact h 1 (by rw [if_neg q, if_neg q2])
/-! the reference: and, xor, or -/
theorem p_logM {y A : Int32} (hy : y = 4 ∨ ¬ y = 4) : zpc (fX12_does_48 μ y A 0) (fun r => r = zsi (zsi μ 3 0 A) 3 1 (pt (pt (pt (pt (gby (μ.1 3 1) A) 4 (if y = 4 then 1 else 0)) 2 (gev A)) 1 0) 0 0)) := by
  unfold fX12_does_48
  refine zpc_ck (zpc_bv (fun s es => zpc_ck (zpc_bu p_by' (fun t et => ?_))))
  have eA : zgi s 3 (0 : Int32).toNatClampNeg = A := by subst es; rfl
  have eF : s.1 3 1 = μ.1 3 1 := by subst es; rfl
  have es' : s = zsi μ 3 0 A := es
  rw [eA, eF] at et
  subst et
  refine zpc_j (K := fun v => fX12_does_71 (zsi s 3 1 (gby (μ.1 3 1) A)) v 4) (a := 1) (b := 0) (fun v ev => ?_)
  unfold fX12_does_71
  refine zpc_bu p_put (fun t et => ?_)
  subst et
  refine zpc_ck (zpc_bi p_even (fun t w et => ?_))
  cases et
  refine zpc_bu p_put (fun t et => ?_)
  subst et
  refine zpc_bu p_put (fun t et => ?_)
  subst et
  refine zpc_bu p_put (fun t et => zpc_some ?_)
  rw [et, ev]
  have g : zgi (zsi s 3 1 (pt (gby (μ.1 3 1) A) 4 (if y = 4 then 1 else 0))) 3 (0 : Int32).toNatClampNeg = A := eA
  rw [g, es']
end ZFL2
/-! the reference: sums and differences -/
def hA (a b c : Int32) : Int32 := if ((a &&& 15) + (b &&& 15)) + c ≤ 15 then 0 else 1
def hS (a b c : Int32) : Int32 := if 0 ≤ ((a &&& 15) - (b &&& 15)) - c then 0 else 1
def cX (v : Int32) : Int32 := if v < 0 then 1 else if v ≤ 255 then 0 else 1
def sg (v : Int32) : Int32 := if 128 ≤ v then v - 256 else v
def oX (s : Int32) : Int32 := if s < (-128) then 1 else if s ≤ 127 then 0 else 1
def mF (f h c w o n : Int32) : Int32 := pt (pt (gby (pt (pt f 4 h) 0 c) w) 2 o) 1 n
theorem fl_mF {f h c w o n : Int32} (hf : zr 0 255 f) : mF f h c w o n = zfl (d7 w) (d6 w) (d5 w) (bc h) (d3 w) (bc o) (bc n) (bc c) := by
  unfold mF
  rw [fl_of hf, pt_4, pt_0, fl_by, pt_2, pt_1]
  rfl
section ZAR
variable {μ σ : zSt} {a b c y : Int32}
theorem p_addM (h7 : ¬ y = 7) : zpc (fX12_does_154 μ y b a c 1 ((a + b) + c)) (fun r => r = zsi (zsi μ 3 1 (mF (μ.1 3 1) (hA a b c) (cX ((a + b) + c)) (((a + b) + c) &&& 255) (oX ((sg a + sg b) + c)) 0)) 3 0 (((a + b) + c) &&& 255)) := by
  unfold fX12_does_154
  refine zpc_if (fun q => absurd q (by decide)) (fun _ => ?_)
  refine zpc_j (K := fun h => fX12_does_208 μ y b a c 1 ((a + b) + c) h 4) (a := 0) (b := 1) (fun h eh => ?_)
  have eh : h = hA a b c := eh
  unfold fX12_does_208
  refine zpc_bu p_put' (fun t et => ?_)
  subst et
  unfold fX12_does_226
  refine zpc_j3 (K := fun w => fX12_does_231 (zsi μ 3 1 (pt (μ.1 3 1) 4 h)) y b a c 1 ((a + b) + c) w 0) (fun w ew => ?_)
  have ew : w = cX ((a + b) + c) := ew
  unfold fX12_does_231
  refine zpc_bu p_put (fun t et => ?_)
  subst et
  refine zpc_if (fun q => absurd q (by decide)) (fun _ => ?_)
  refine zpc_bi p_signed (fun t u et => ?_)
  cases et
  refine zpc_bi p_signed (fun t u et => ?_)
  cases et
  unfold fX12_does_266
  refine zpc_bu p_by (fun t et => ?_)
  subst et
  unfold fX12_does_294
  refine zpc_j3 (K := fun u => fX12_does_299 (zsi μ 3 1 (gby (pt (pt (μ.1 3 1) 4 h) 0 w) (((a + b) + c) &&& 255))) y b 1 ((a + b) + c) u 2) (fun u eu => ?_)
  have eu : u = oX ((sg a + sg b) + c) := eu
  unfold fX12_does_299
  refine zpc_bu p_put (fun t et => ?_)
  subst et
  refine zpc_if (fun q => absurd q (by decide)) (fun _ => ?_)
  unfold fX12_does_314 fX12_does_343
  refine zpc_bu p_put (fun t et => ?_)
  subst et
  refine zpc_if (fun q => absurd q h7) (fun _ => zpc_ck (zpc_bv (fun t et => zpc_some ?_)))
  rw [et, eh, ew, eu]
  rfl
theorem p_subM (h7 : ¬ y = 7) : zpc (fX12_does_154 μ y b a c 0 ((a - b) - c)) (fun r => r = zsi (zsi μ 3 1 (mF (μ.1 3 1) (hS a b c) (cX ((a - b) - c)) (((a - b) - c) &&& 255) (oX ((sg a - sg b) - c)) 1)) 3 0 (((a - b) - c) &&& 255)) := by
  unfold fX12_does_154
  refine zpc_if (fun _ => ?_) (fun q => absurd rfl q)
  refine zpc_j (K := fun h => fX12_does_208 μ y b a c 0 ((a - b) - c) h 4) (a := 0) (b := 1) (fun h eh => ?_)
  have eh : h = hS a b c := eh
  unfold fX12_does_208
  refine zpc_bu p_put' (fun t et => ?_)
  subst et
  unfold fX12_does_226
  refine zpc_j3 (K := fun w => fX12_does_231 (zsi μ 3 1 (pt (μ.1 3 1) 4 h)) y b a c 0 ((a - b) - c) w 0) (fun w ew => ?_)
  have ew : w = cX ((a - b) - c) := ew
  unfold fX12_does_231
  refine zpc_bu p_put (fun t et => ?_)
  subst et
  refine zpc_if (fun _ => ?_) (fun q => absurd rfl q)
  refine zpc_bi p_signed (fun t u et => ?_)
  cases et
  refine zpc_bi p_signed (fun t u et => ?_)
  cases et
  unfold fX12_does_266
  refine zpc_bu p_by (fun t et => ?_)
  subst et
  unfold fX12_does_294
  refine zpc_j3 (K := fun u => fX12_does_299 (zsi μ 3 1 (gby (pt (pt (μ.1 3 1) 4 h) 0 w) (((a - b) - c) &&& 255))) y b 0 ((a - b) - c) u 2) (fun u eu => ?_)
  have eu : u = oX ((sg a - sg b) - c) := eu
  unfold fX12_does_299
  refine zpc_bu p_put (fun t et => ?_)
  subst et
  refine zpc_if (fun _ => ?_) (fun q => absurd rfl q)
  unfold fX12_does_314 fX12_does_343
  refine zpc_bu p_put (fun t et => ?_)
  subst et
  refine zpc_if (fun q => absurd q h7) (fun _ => zpc_ck (zpc_bv (fun t et => zpc_some ?_)))
  rw [et, eh, ew, eu]
  rfl
theorem p_subM7 (h7 : y = 7) : zpc (fX12_does_154 μ y b a c 0 ((a - b) - c)) (fun r => r = zsi μ 3 1 (gxy (mF (μ.1 3 1) (hS a b c) (cX ((a - b) - c)) (((a - b) - c) &&& 255) (oX ((sg a - sg b) - c)) 1) b)) := by
  unfold fX12_does_154
  refine zpc_if (fun _ => ?_) (fun q => absurd rfl q)
  refine zpc_j (K := fun h => fX12_does_208 μ y b a c 0 ((a - b) - c) h 4) (a := 0) (b := 1) (fun h eh => ?_)
  have eh : h = hS a b c := eh
  unfold fX12_does_208
  refine zpc_bu p_put' (fun t et => ?_)
  subst et
  unfold fX12_does_226
  refine zpc_j3 (K := fun w => fX12_does_231 (zsi μ 3 1 (pt (μ.1 3 1) 4 h)) y b a c 0 ((a - b) - c) w 0) (fun w ew => ?_)
  have ew : w = cX ((a - b) - c) := ew
  unfold fX12_does_231
  refine zpc_bu p_put (fun t et => ?_)
  subst et
  refine zpc_if (fun _ => ?_) (fun q => absurd rfl q)
  refine zpc_bi p_signed (fun t u et => ?_)
  cases et
  refine zpc_bi p_signed (fun t u et => ?_)
  cases et
  unfold fX12_does_266
  refine zpc_bu p_by (fun t et => ?_)
  subst et
  unfold fX12_does_294
  refine zpc_j3 (K := fun u => fX12_does_299 (zsi μ 3 1 (gby (pt (pt (μ.1 3 1) 4 h) 0 w) (((a - b) - c) &&& 255))) y b 0 ((a - b) - c) u 2) (fun u eu => ?_)
  have eu : u = oX ((sg a - sg b) - c) := eu
  unfold fX12_does_299
  refine zpc_bu p_put (fun t et => ?_)
  subst et
  refine zpc_if (fun _ => ?_) (fun q => absurd rfl q)
  unfold fX12_does_314 fX12_does_343
  refine zpc_bu p_put (fun t et => ?_)
  subst et
  refine zpc_if (fun _ => zpc_bu p_xy (fun t et => zpc_some ?_)) (fun q => absurd h7 q)
  rw [et, eh, ew, eu]
  rfl
/-! the class -/
def csum (a b c : Int32) : Int32 := ((cby (((a + b) + c) &&& 255) ||| (((a ^^^ b) ^^^ (((a + b) + c) &&& 255)) &&& 16)) ||| (if (((a ^^^ b) ^^^ (-1)) &&& (a ^^^ (((a + b) + c) &&& 255))) &&& 128 = 0 then 0 else 4)) ||| (((a + b) + c) >>> ((8 : Int32) &&& 31))
def cdif (a b c : Int32) : Int32 := (((cby (((a - b) - c) &&& 255) ||| (((a ^^^ b) ^^^ (((a - b) - c) &&& 255)) &&& 16)) ||| (if ((a ^^^ b) &&& (a ^^^ (((a - b) - c) &&& 255))) &&& 128 = 0 then 0 else 4)) ||| 2) ||| (if 0 ≤ (a - b) - c then 0 else 1)
theorem p_sumC : zpc (fX5_sum σ a b c) (fun r => r = (zsi σ 36 1 (csum a b c), ((a + b) + c) &&& 255)) := by
  unfold fX5_sum fX5_sum_61 csum
  refine zpc_bv (fun v ev => zpc_bv (fun w ew => zpc_bv (fun u eu => zpc_bi p_byC (fun t x et => ?_))))
  cases et
  subst ev
  subst ew
  subst eu
  refine zpc_if (fun q => zpc_ck (zpc_bv (fun t et => zpc_some ?_))) (fun q => zpc_ck (zpc_bv (fun t et => zpc_some ?_)))
  · rw [et, if_pos q]; rfl
  · rw [et, if_neg q]; rfl
theorem p_difC : zpc (fX5_difference σ a b c) (fun r => r = (zsi σ 36 1 (cdif a b c), ((a - b) - c) &&& 255)) := by
  unfold fX5_difference fX5_difference_59 fX5_difference_72 cdif
  refine zpc_bv (fun v ev => zpc_bv (fun w ew => zpc_bv (fun u eu => zpc_bi p_byC (fun t x et => ?_))))
  cases et
  subst ev
  subst ew
  subst eu
  refine zpc_if (fun q => zpc_if (fun q2 => zpc_ck (zpc_bv (fun t et => zpc_some ?_))) (fun q2 => zpc_ck (zpc_bv (fun t et => zpc_some ?_)))) (fun q => zpc_if (fun q2 => zpc_ck (zpc_bv (fun t et => zpc_some ?_))) (fun q2 => zpc_ck (zpc_bv (fun t et => zpc_some ?_))))
  · rw [et, if_pos q, if_pos q2]; rfl
  · rw [et, if_pos q, if_neg q2]; rfl
  · rw [et, if_neg q, if_pos q2]; rfl
  · rw [et, if_neg q, if_neg q2]; rfl
end ZAR
/-! the same flags -/
theorem z_xad {x y m : Int32} : (x ^^^ y) &&& m = (x &&& m) ^^^ (y &&& m) := by
  refine Int32.toBitVec_inj.1 ?_
  rw [Int32.toBitVec_and, Int32.toBitVec_xor, Int32.toBitVec_xor, Int32.toBitVec_and, Int32.toBitVec_and]
  refine BitVec.eq_of_getLsbD_eq (fun i hi => ?_)
  rw [BitVec.getLsbD_and, BitVec.getLsbD_xor, BitVec.getLsbD_xor, BitVec.getLsbD_and, BitVec.getLsbD_and]
  cases x.toBitVec.getLsbD i <;> cases y.toBitVec.getLsbD i <;> cases m.toBitVec.getLsbD i <;> rfl
theorem z_sm31 (a b c : Int32) : ((a + b) + c) &&& 31 = (((a &&& 31) + (b &&& 31)) + c) &&& 31 := by
  refine Int32.toBitVec_inj.1 ?_
  rw [Int32.toBitVec_and, Int32.toBitVec_and, Int32.toBitVec_add, Int32.toBitVec_add, Int32.toBitVec_add, Int32.toBitVec_add, Int32.toBitVec_and, Int32.toBitVec_and]
  refine BitVec.eq_of_toNat_eq ?_
  rw [BitVec.toNat_and, BitVec.toNat_and, BitVec.toNat_add, BitVec.toNat_add, BitVec.toNat_add, BitVec.toNat_add, BitVec.toNat_and, BitVec.toNat_and]
  rw [show (31 : Int32).toBitVec.toNat = 2 ^ 5 - 1 from rfl, Nat.and_two_pow_sub_one_eq_mod, Nat.and_two_pow_sub_one_eq_mod, Nat.and_two_pow_sub_one_eq_mod, Nat.and_two_pow_sub_one_eq_mod]
  omega
theorem z_dm31 (a b c : Int32) : ((a - b) - c) &&& 31 = (((a &&& 31) - (b &&& 31)) - c) &&& 31 := by
  refine Int32.toBitVec_inj.1 ?_
  rw [Int32.toBitVec_and, Int32.toBitVec_and, Int32.toBitVec_sub, Int32.toBitVec_sub, Int32.toBitVec_sub, Int32.toBitVec_sub, Int32.toBitVec_and, Int32.toBitVec_and]
  refine BitVec.eq_of_toNat_eq ?_
  rw [BitVec.toNat_and, BitVec.toNat_and, BitVec.toNat_sub, BitVec.toNat_sub, BitVec.toNat_sub, BitVec.toNat_sub, BitVec.toNat_and, BitVec.toNat_and]
  rw [show (31 : Int32).toBitVec.toNat = 2 ^ 5 - 1 from rfl, Nat.and_two_pow_sub_one_eq_mod, Nat.and_two_pow_sub_one_eq_mod, Nat.and_two_pow_sub_one_eq_mod, Nat.and_two_pow_sub_one_eq_mod]
  have := a.toBitVec.isLt
  have := b.toBitVec.isLt
  have := c.toBitVec.isLt
  omega
theorem z_r31 (x : Int32) : zr 0 31 (x &&& 31) := zr_andr (lo := 0) (hi := 31) (zr_c (lo := 31) (hi := 31) (by decide)) (by decide)
theorem z_fin32 {x : Int32} (h : zr 0 31 x) : ∃ i : Fin 32, x = Int32.ofNat i.val := by
  obtain ⟨h0, h1⟩ := h
  obtain ⟨i, hi⟩ : ∃ i : Nat, x.toInt = i := ⟨x.toInt.toNat, by omega⟩
  exact ⟨⟨i, by omega⟩, z_ofN hi⟩
theorem z_bit1 {c : Int32} (h : zr 0 1 c) : ∃ i : Fin 2, c = Int32.ofNat i.val := by
  obtain ⟨h0, h1⟩ := h
  obtain ⟨i, hi⟩ : ∃ i : Nat, c.toInt = i := ⟨c.toInt.toNat, by omega⟩
  exact ⟨⟨i, by omega⟩, z_ofN hi⟩
theorem v_hAf : ∀ a : Fin 32, ∀ b : Fin 32, ∀ c : Fin 2, (((Int32.ofNat a.val &&& 16) ^^^ (Int32.ofNat b.val &&& 16)) ^^^ ((((Int32.ofNat a.val + Int32.ofNat b.val) + Int32.ofNat c.val) &&& 31) &&& 16)) = bif bc (hA (Int32.ofNat a.val) (Int32.ofNat b.val) (Int32.ofNat c.val)) then 16 else 0 := by decide +kernel
theorem v_hSf : ∀ a : Fin 32, ∀ b : Fin 32, ∀ c : Fin 2, (((Int32.ofNat a.val &&& 16) ^^^ (Int32.ofNat b.val &&& 16)) ^^^ ((((Int32.ofNat a.val - Int32.ofNat b.val) - Int32.ofNat c.val) &&& 31) &&& 16)) = bif bc (hS (Int32.ofNat a.val) (Int32.ofNat b.val) (Int32.ofNat c.val)) then 16 else 0 := by decide +kernel
theorem z_3116 (x : Int32) : x &&& 16 = (x &&& 31) &&& 16 := by rw [Int32.and_assoc, show (31 : Int32) &&& 16 = 16 by decide]
theorem z_3115 (x : Int32) : x &&& 15 = (x &&& 31) &&& 15 := by rw [Int32.and_assoc, show (31 : Int32) &&& 15 = 15 by decide]
theorem z_25516 (x : Int32) : (x &&& 255) &&& 16 = (x &&& 31) &&& 16 := by rw [Int32.and_assoc, Int32.and_assoc, show (31 : Int32) &&& 16 = 16 by decide, show (255 : Int32) &&& 16 = 16 by decide]
theorem v_hA {a b c : Int32} (hc : zr 0 1 c) : ((a ^^^ b) ^^^ (((a + b) + c) &&& 255)) &&& 16 = bif bc (hA a b c) then 16 else 0 := by
  have e : hA a b c = hA (a &&& 31) (b &&& 31) c := by unfold hA; rw [z_3115 a, z_3115 b]
  rw [e, z_xad, z_xad, z_25516, z_sm31, z_3116 a, z_3116 b]
  obtain ⟨i, ei⟩ := z_fin32 (z_r31 a)
  obtain ⟨j, ej⟩ := z_fin32 (z_r31 b)
  obtain ⟨k, ek⟩ := z_bit1 hc
  rw [ei, ej, ek]
  exact v_hAf i j k
theorem v_hS {a b c : Int32} (hc : zr 0 1 c) : ((a ^^^ b) ^^^ (((a - b) - c) &&& 255)) &&& 16 = bif bc (hS a b c) then 16 else 0 := by
  have e : hS a b c = hS (a &&& 31) (b &&& 31) c := by unfold hS; rw [z_3115 a, z_3115 b]
  rw [e, z_xad, z_xad, z_25516, z_dm31, z_3116 a, z_3116 b]
  obtain ⟨i, ei⟩ := z_fin32 (z_r31 a)
  obtain ⟨j, ej⟩ := z_fin32 (z_r31 b)
  obtain ⟨k, ek⟩ := z_bit1 hc
  rw [ei, ej, ek]
  exact v_hSf i j k
theorem v_b7f : ∀ i : Fin 256, (Int32.ofNat i.val &&& 128 = 0 ∧ Int32.ofNat i.val < 128) ∨ (Int32.ofNat i.val &&& 128 = 128 ∧ ¬ Int32.ofNat i.val < 128) := by decide +kernel
theorem z_b7c {a : Int32} (h : zr 0 255 a) : (a &&& 128 = 0 ∧ a.toInt < 128 ∧ sg a = a) ∨ (a &&& 128 = 128 ∧ 128 ≤ a.toInt ∧ sg a = a - 256) := by
  have c : (128 : Int32).toInt = 128 := rfl
  have g : (a &&& 128 = 0 ∧ a < 128) ∨ (a &&& 128 = 128 ∧ ¬ a < 128) := by
    obtain ⟨i, e⟩ := z_byteF h
    rw [e]
    exact v_b7f i
  rcases g with ⟨x, y⟩ | ⟨x, y⟩
  · have y1 := Int32.lt_iff_toInt_lt.mp y
    exact Or.inl ⟨x, by omega, by unfold sg; rw [if_neg (fun q => by have := Int32.le_iff_toInt_le.mp q; omega)]⟩
  · have y1 := Int32.le_iff_toInt_le.mp (z_nlt y)
    exact Or.inr ⟨x, by omega, by unfold sg; rw [if_pos (z_nlt y)]⟩
theorem z_w8 {v : Int32} {k : Int} (e : v.toInt = k) (h : -256 ≤ k ∧ k ≤ 511) : (v &&& 255).toInt = k % 256 := by
  have e1 : (v &&& 255) = ((v + 256) &&& 255) := by
    refine Int32.toBitVec_inj.1 ?_
    rw [Int32.toBitVec_and, Int32.toBitVec_and, Int32.toBitVec_add]
    refine BitVec.eq_of_toNat_eq ?_
    rw [BitVec.toNat_and, BitVec.toNat_and, BitVec.toNat_add]
    rw [show (255 : Int32).toBitVec.toNat = 2 ^ 8 - 1 from rfl, show (256 : Int32).toBitVec.toNat = 256 from rfl, Nat.and_two_pow_sub_one_eq_mod, Nat.and_two_pow_sub_one_eq_mod]
    omega
  have c : (256 : Int32).toInt = 256 := rfl
  have t : (v + 256).toInt = v.toInt + (256 : Int32).toInt := z_tadd (a := -256) (b := 511) ⟨by omega, by omega⟩ (zr_c (lo := 256) (hi := 256) (x := 256) (by decide)) (by decide)
  rw [e1, z_mask (k := 8) (by omega) rfl (by decide), t, e, c]
  show (k + 256) % 256 = k % 256
  omega
theorem oX_v {s : Int32} {k : Int} (e : s.toInt = k) : ((k < -128 ∨ 127 < k) ∧ oX s = 1) ∨ ((-128 ≤ k ∧ k ≤ 127) ∧ oX s = 0) := by
  have c1 : (-128 : Int32).toInt = -128 := rfl
  have c2 : (127 : Int32).toInt = 127 := rfl
  unfold oX
  by_cases q : s < (-128)
  · have q1 := Int32.lt_iff_toInt_lt.mp q
    exact Or.inl ⟨Or.inl (by omega), by rw [if_pos q]⟩
  · have q1 := Int32.le_iff_toInt_le.mp (z_nlt q)
    rw [if_neg q]
    by_cases r : s ≤ 127
    · have r1 := Int32.le_iff_toInt_le.mp r
      exact Or.inr ⟨⟨by omega, by omega⟩, by rw [if_pos r]⟩
    · have r1 := Int32.lt_iff_toInt_lt.mp (z_nle r)
      exact Or.inl ⟨Or.inr (by omega), by rw [if_neg r]⟩
theorem z_rs {a : Int32} (h : zr 0 255 a) : zr (-128) 127 (sg a) ∧ ((a &&& 128 = 0 ∧ (sg a).toInt = a.toInt ∧ a.toInt < 128) ∨ (a &&& 128 = 128 ∧ (sg a).toInt = a.toInt - 256 ∧ 128 ≤ a.toInt)) := by
  have c : (256 : Int32).toInt = 256 := rfl
  have h0 := h.1
  have h1 := h.2
  rcases z_b7c h with ⟨x, y, z⟩ | ⟨x, y, z⟩
  · rw [z]; exact ⟨⟨by omega, by omega⟩, Or.inl ⟨x, rfl, y⟩⟩
  · have t : (a - 256).toInt = a.toInt - (256 : Int32).toInt := z_tsub h (zr_c (lo := 256) (hi := 256) (by decide)) (by decide)
    rw [z]; exact ⟨⟨by omega, by omega⟩, Or.inr ⟨x, by omega, y⟩⟩
theorem v_oA {a b c : Int32} (ha : zr 0 255 a) (hb : zr 0 255 b) (hc : zr 0 1 c) : (if (((a ^^^ b) ^^^ (-1)) &&& (a ^^^ (((a + b) + c) &&& 255))) &&& 128 = 0 then (0 : Int32) else 4) = bif bc (oX ((sg a + sg b) + c)) then 4 else 0 := by
  have a0 := ha.1
  have a1 := ha.2
  have b0 := hb.1
  have b1 := hb.2
  have c0 := hc.1
  have c1 := hc.2
  have t1 := z_tadd ha hb (by decide)
  have t2 := z_tadd (zr_add (lo := 0) (hi := 510) ha hb (by decide)) hc (by decide)
  have hw := z_w8 (v := (a + b) + c) rfl (by omega)
  obtain ⟨ra, ka⟩ := z_rs ha
  obtain ⟨rb, kb⟩ := z_rs hb
  have u1 := z_tadd ra rb (by decide)
  have u2 := z_tadd (zr_add (lo := -256) (hi := 254) ra rb (by decide)) hc (by decide)
  have ov := oX_v (s := (sg a + sg b) + c) rfl
  obtain ⟨_, kw⟩ := z_rs (z_byte ((a + b) + c))
  have d : (((a ^^^ b) ^^^ (-1)) &&& (a ^^^ (((a + b) + c) &&& 255))) &&& 128 = ((((a &&& 128) ^^^ (b &&& 128)) ^^^ ((-1) &&& 128)) &&& ((a &&& 128) ^^^ ((((a + b) + c) &&& 255) &&& 128))) := by
    rw [Int32.and_assoc, show (a ^^^ (((a + b) + c) &&& 255)) &&& 128 = (a &&& 128) ^^^ ((((a + b) + c) &&& 255) &&& 128) from z_xad]
    have k : ∀ x y : Int32, x &&& ((a &&& 128) ^^^ (y &&& 128)) = (x &&& 128) &&& ((a &&& 128) ^^^ (y &&& 128)) := fun x y => by
      rw [← z_xad, Int32.and_assoc x 128, Int32.and_comm 128, Int32.and_assoc, show (128 : Int32) &&& 128 = 128 by decide]
    rw [k, z_xad, z_xad (x := a) (y := b)]
  rw [d]
  rcases ka with ⟨p1, p2, p3⟩ | ⟨p1, p2, p3⟩ <;> rcases kb with ⟨q1, q2, q3⟩ | ⟨q1, q2, q3⟩ <;> rcases kw with ⟨r1, r2, r3⟩ | ⟨r1, r2, r3⟩ <;> rw [p1, q1, r1] <;> rcases ov with ⟨o1, o2⟩ | ⟨o1, o2⟩ <;> rw [o2] <;> first | decide | (exfalso; omega)
theorem v_oS {a b c : Int32} (ha : zr 0 255 a) (hb : zr 0 255 b) (hc : zr 0 1 c) : (if ((a ^^^ b) &&& (a ^^^ (((a - b) - c) &&& 255))) &&& 128 = 0 then (0 : Int32) else 4) = bif bc (oX ((sg a - sg b) - c)) then 4 else 0 := by
  have a0 := ha.1
  have a1 := ha.2
  have b0 := hb.1
  have b1 := hb.2
  have c0 := hc.1
  have c1 := hc.2
  have t1 := z_tsub ha hb (by decide)
  have t2 := z_tsub (zr_sub (lo := -255) (hi := 255) ha hb (by decide)) hc (by decide)
  have hw := z_w8 (v := (a - b) - c) rfl (by omega)
  obtain ⟨ra, ka⟩ := z_rs ha
  obtain ⟨rb, kb⟩ := z_rs hb
  have u1 := z_tsub ra rb (by decide)
  have u2 := z_tsub (zr_sub (lo := -255) (hi := 255) ra rb (by decide)) hc (by decide)
  have ov := oX_v (s := (sg a - sg b) - c) rfl
  obtain ⟨_, kw⟩ := z_rs (z_byte ((a - b) - c))
  have d : ((a ^^^ b) &&& (a ^^^ (((a - b) - c) &&& 255))) &&& 128 = ((a &&& 128) ^^^ (b &&& 128)) &&& ((a &&& 128) ^^^ ((((a - b) - c) &&& 255) &&& 128)) := by
    rw [Int32.and_assoc, show (a ^^^ (((a - b) - c) &&& 255)) &&& 128 = (a &&& 128) ^^^ ((((a - b) - c) &&& 255) &&& 128) from z_xad]
    have k : ∀ x y : Int32, x &&& ((a &&& 128) ^^^ (y &&& 128)) = (x &&& 128) &&& ((a &&& 128) ^^^ (y &&& 128)) := fun x y => by
      rw [← z_xad, Int32.and_assoc x 128, Int32.and_comm 128, Int32.and_assoc, show (128 : Int32) &&& 128 = 128 by decide]
    rw [k, z_xad]
  rw [d]
  rcases ka with ⟨p1, p2, p3⟩ | ⟨p1, p2, p3⟩ <;> rcases kb with ⟨q1, q2, q3⟩ | ⟨q1, q2, q3⟩ <;> rcases kw with ⟨r1, r2, r3⟩ | ⟨r1, r2, r3⟩ <;> rw [p1, q1, r1] <;> rcases ov with ⟨o1, o2⟩ | ⟨o1, o2⟩ <;> rw [o2] <;> first | decide | (exfalso; omega)
theorem v_cbyf : ∀ i : Fin 256, cby (Int32.ofNat i.val) = zfl (d7 (Int32.ofNat i.val)) (d6 (Int32.ofNat i.val)) (d5 (Int32.ofNat i.val)) false (d3 (Int32.ofNat i.val)) false false false := by decide +kernel
theorem v_cby {w : Int32} (h : zr 0 255 w) : cby w = zfl (d7 w) (d6 w) (d5 w) false (d3 w) false false false := by
  obtain ⟨i, e⟩ := z_byteF h
  rw [e]
  exact v_cbyf i
theorem v_cAf : ∀ i : Fin 512, (Int32.ofNat i.val) >>> ((8 : Int32) &&& 31) = bif bc (cX (Int32.ofNat i.val)) then 1 else 0 := by decide +kernel
theorem v_cS {v : Int32} (h : zr (-256) 255 v) : (if 0 ≤ v then (0 : Int32) else 1) = bif bc (cX v) then 1 else 0 := by
  have c0 : (0 : Int32).toInt = 0 := rfl
  have c1 : (255 : Int32).toInt = 255 := rfl
  have h1 := h.2
  unfold cX
  by_cases q : v < 0
  · have q1 := Int32.lt_iff_toInt_lt.mp q
    rw [if_pos q, if_neg (fun r => by have := Int32.le_iff_toInt_le.mp r; omega)]
    rfl
  · rw [if_neg q, if_pos (z_nlt q), if_pos (Int32.le_iff_toInt_le.mpr (by omega))]
    rfl
theorem v_sumB : ∀ b7 b6 b5 b3 h v c : Bool, zfl b7 b6 b5 h b3 v false c = ((zfl b7 b6 b5 false b3 false false false ||| (bif h then 16 else 0)) ||| (bif v then 4 else 0)) ||| (bif c then 1 else 0) := by decide
theorem v_difB : ∀ b7 b6 b5 b3 h v c : Bool, zfl b7 b6 b5 h b3 v true c = (((zfl b7 b6 b5 false b3 false false false ||| (bif h then 16 else 0)) ||| (bif v then 4 else 0)) ||| 2) ||| (bif c then 1 else 0) := by decide

