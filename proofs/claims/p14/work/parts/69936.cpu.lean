/-! SIXTEEN BITS WITH CARRY -/
theorem z_oad {x y m : Int32} : m &&& (x ||| y) = (m &&& x) ||| (m &&& y) := by
  refine Int32.toBitVec_inj.1 ?_
  rw [Int32.toBitVec_and, Int32.toBitVec_or, Int32.toBitVec_or, Int32.toBitVec_and, Int32.toBitVec_and]
  refine BitVec.eq_of_getLsbD_eq (fun i hi => ?_)
  rw [BitVec.getLsbD_and, BitVec.getLsbD_or, BitVec.getLsbD_or, BitVec.getLsbD_and, BitVec.getLsbD_and]
  cases x.toBitVec.getLsbD i <;> cases y.toBitVec.getLsbD i <;> cases m.toBitVec.getLsbD i <;> rfl
theorem zbt_l5 : ∀ i, i < 32 → ((32 : Int32).toBitVec.getLsbD i = decide (i = 5)) := by decide
theorem zbt_m5 {x : Int32} : x &&& 32 = bif zbt 5 x then 32 else 0 := by
  refine Int32.toBitVec_inj.1 (BitVec.eq_of_getLsbD_eq (fun i hi => ?_))
  rw [Int32.toBitVec_and, BitVec.getLsbD_and, zbt_l5 i hi]
  unfold zbt
  by_cases q : i = 5
  · subst q
    cases h : x.toBitVec.getLsbD 5 <;> rfl
  · rw [decide_eq_false q, Bool.and_false]
    cases h : x.toBitVec.getLsbD 5
    · exact (BitVec.getLsbD_zero (w := 32)).symm
    · exact ((zbt_l5 i hi).trans (decide_eq_false q)).symm
theorem zbt_l3 : ∀ i, i < 32 → ((8 : Int32).toBitVec.getLsbD i = decide (i = 3)) := by decide
theorem zbt_m3 {x : Int32} : x &&& 8 = bif zbt 3 x then 8 else 0 := by
  refine Int32.toBitVec_inj.1 (BitVec.eq_of_getLsbD_eq (fun i hi => ?_))
  rw [Int32.toBitVec_and, BitVec.getLsbD_and, zbt_l3 i hi]
  unfold zbt
  by_cases q : i = 3
  · subst q
    cases h : x.toBitVec.getLsbD 3 <;> rfl
  · rw [decide_eq_false q, Bool.and_false]
    cases h : x.toBitVec.getLsbD 3
    · exact (BitVec.getLsbD_zero (w := 32)).symm
    · exact ((zbt_l3 i hi).trans (decide_eq_false q)).symm
theorem z_d5 {x : Int32} : d5 x = zbt 5 x := by
  unfold d5
  rw [zbt_m5]
  cases zbt 5 x <;> rfl
theorem z_d3 {x : Int32} : d3 x = zbt 3 x := by
  unfold d3
  rw [zbt_m3]
  cases zbt 3 x <;> rfl
theorem z_168 {v : Int32} : (v >>> ((8 : Int32) &&& 31)) &&& 168 = ((bif zbt 15 v then 128 else 0) ||| (bif d5 (v >>> ((8 : Int32) &&& 31)) then 32 else 0)) ||| (bif d3 (v >>> ((8 : Int32) &&& 31)) then 8 else 0) := by
  rw [show (168 : Int32) = (128 ||| 32) ||| 8 by decide, z_oad, z_oad, zbt_m7, zbt_m5, zbt_m3, zbt_sar (k := 7) (n := 8) rfl (by decide), z_d5, z_d3]
theorem z_s15 {v : Int32} : bc (if v &&& 32768 = 0 then 0 else 1) = zbt 15 v := by
  rw [zbt_m15]
  cases zbt 15 v <;> rfl
theorem z_t16 {x : Int32} (h : zr 0 65535 x) : (x.toInt16.toInt32).toInt = if x.toInt < 32768 then x.toInt else x.toInt - 65536 := by
  have h0 := h.1
  have h1 := h.2
  rw [Int16.toInt_toInt32, Int32.toInt_toInt16]
  by_cases q : x.toInt < 32768
  · rw [if_pos q]
    exact Int.bmod_eq_of_le (by omega) (by omega)
  · rw [if_neg q]
    rw [Int.bmod_def, if_neg (by omega)]
    omega
theorem z_r16s {x : Int32} (h : zr 0 65535 x) : zr (-32768) 32767 (x.toInt16.toInt32) := by
  have e := z_t16 h
  have h0 := h.1
  have h1 := h.2
  by_cases q : x.toInt < 32768
  · rw [if_pos q] at e; exact ⟨by omega, by omega⟩
  · rw [if_neg q] at e; exact ⟨by omega, by omega⟩
def oW (s : Int32) : Int32 := if s < (-32768) then 1 else if s ≤ 32767 then 0 else 1
def cW (v : Int32) : Int32 := if v < 0 then 1 else if v ≤ 65535 then 0 else 1
theorem oW_v {s : Int32} {k : Int} (e : s.toInt = k) : ((k < -32768 ∨ 32767 < k) ∧ bc (oW s) = true) ∨ ((-32768 ≤ k ∧ k ≤ 32767) ∧ bc (oW s) = false) := by
  have c1 : (-32768 : Int32).toInt = -32768 := rfl
  have c2 : (32767 : Int32).toInt = 32767 := rfl
  unfold oW
  by_cases q : s < (-32768)
  · have q1 := Int32.lt_iff_toInt_lt.mp q
    exact Or.inl ⟨Or.inl (by omega), by rw [if_pos q]; rfl⟩
  · have q1 := Int32.le_iff_toInt_le.mp (z_nlt q)
    rw [if_neg q]
    by_cases r : s ≤ 32767
    · have r1 := Int32.le_iff_toInt_le.mp r
      exact Or.inr ⟨⟨by omega, by omega⟩, by rw [if_pos r]; rfl⟩
    · have r1 := Int32.lt_iff_toInt_lt.mp (z_nle r)
      exact Or.inl ⟨Or.inr (by omega), by rw [if_neg r]; rfl⟩
theorem cW_v {v : Int32} : ((v.toInt < 0 ∨ 65535 < v.toInt) ∧ bc (cW v) = true) ∨ ((0 ≤ v.toInt ∧ v.toInt ≤ 65535) ∧ bc (cW v) = false) := by
  have c1 : (0 : Int32).toInt = 0 := rfl
  have c2 : (65535 : Int32).toInt = 65535 := rfl
  unfold cW
  by_cases q : v < 0
  · have q1 := Int32.lt_iff_toInt_lt.mp q
    exact Or.inl ⟨Or.inl (by omega), by rw [if_pos q]; rfl⟩
  · have q1 := Int32.le_iff_toInt_le.mp (z_nlt q)
    rw [if_neg q]
    by_cases r : v ≤ 65535
    · have r1 := Int32.le_iff_toInt_le.mp r
      exact Or.inr ⟨⟨by omega, by omega⟩, by rw [if_pos r]; rfl⟩
    · have r1 := Int32.lt_iff_toInt_lt.mp (z_nle r)
      exact Or.inl ⟨Or.inr (by omega), by rw [if_neg r]; rfl⟩
theorem v_c16 {v : Int32} (h : zr (-65536) 131071 v) : (v >>> ((16 : Int32) &&& 31)) &&& 1 = bif bc (cW v) then 1 else 0 := by
  rw [zbt_m0, zbt_sar (n := 16) rfl (by decide), zbt_n]
  have h0 := h.1
  have h1 := h.2
  have tv := z_tc v
  rcases cW_v (v := v) with ⟨k, e⟩ | ⟨k, e⟩
  · rw [e, decide_eq_true (show v.toBitVec.toNat / 2 ^ (16 + 0) % 2 = 1 by omega)]
  · rw [e, decide_eq_false (show ¬ v.toBitVec.toNat / 2 ^ (16 + 0) % 2 = 1 by omega)]
theorem v_h12S {a b v X : Int32} {c : Int} (ha : zr 0 65535 a) (hb : zr 0 65535 b) (hv : v.toInt = a.toInt - b.toInt - c) (hc : 0 ≤ c ∧ c ≤ 1) (hX : X = (a ^^^ b) ^^^ v) {K : Prop} {d : Decidable K} (hK : K ↔ 0 ≤ a.toInt % 4096 - b.toInt % 4096 - c) : (X >>> ((8 : Int32) &&& 31)) &&& 16 = bif bc (@ite _ K d 0 1) then 16 else 0 := by
  rw [zbt_m4, zbt_sar (n := 8) rfl (by decide), hX, zbt_xor, zbt_xor, zbt_n, zbt_n, zbt_n]
  have a0 := ha.1
  have a1 := ha.2
  have b0 := hb.1
  have b1 := hb.2
  have ta := z_tc a
  have tb := z_tc b
  have tv := z_tc v
  show (bif (decide (a.toBitVec.toNat / 4096 % 2 = 1) ^^ decide (b.toBitVec.toNat / 4096 % 2 = 1)) ^^ decide (v.toBitVec.toNat / 4096 % 2 = 1) then (16 : Int32) else 0) = _
  by_cases k : K
  · have k1 := hK.mp k
    rw [if_pos k]
    by_cases p : a.toBitVec.toNat / 4096 % 2 = 1 <;> by_cases q : b.toBitVec.toNat / 4096 % 2 = 1 <;> by_cases r : v.toBitVec.toNat / 4096 % 2 = 1 <;> first | (exfalso; omega) | skip
    all_goals (simp only [p, q, r, decide_true, decide_false]; rfl)
  · have k1 : ¬ 0 ≤ a.toInt % 4096 - b.toInt % 4096 - c := fun q => k (hK.mpr q)
    rw [if_neg k]
    by_cases p : a.toBitVec.toNat / 4096 % 2 = 1 <;> by_cases q : b.toBitVec.toNat / 4096 % 2 = 1 <;> by_cases r : v.toBitVec.toNat / 4096 % 2 = 1 <;> first | (exfalso; omega) | skip
    all_goals (simp only [p, q, r, decide_true, decide_false]; rfl)
theorem v_oWA {a b c v : Int32} (ha : zr 0 65535 a) (hb : zr 0 65535 b) (hc : zr 0 1 c) (hv : v.toInt = a.toInt + b.toInt + c.toInt) : (if (((a ^^^ b) ^^^ (-1)) &&& (a ^^^ v)) &&& 32768 = 0 then (0 : Int32) else 4) = bif bc (oW ((a.toInt16.toInt32 + b.toInt16.toInt32) + c)) then 4 else 0 := by
  have sa := z_t16 ha
  have sb := z_t16 hb
  have ra := z_r16s ha
  have rb := z_r16s hb
  have e1 : (a.toInt16.toInt32 + b.toInt16.toInt32).toInt = a.toInt16.toInt32.toInt + b.toInt16.toInt32.toInt := z_tadd ra rb (by decide)
  have e2 : ((a.toInt16.toInt32 + b.toInt16.toInt32) + c).toInt = (a.toInt16.toInt32 + b.toInt16.toInt32).toInt + c.toInt := z_tadd (zr_add (lo := -65536) (hi := 65535) ra rb (by decide)) hc (by decide)
  have ov := oW_v e2
  have a0 := ha.1
  have a1 := ha.2
  have b0 := hb.1
  have b1 := hb.2
  have c0 := hc.1
  have c1 := hc.2
  have ta := z_tc a
  have tb := z_tc b
  have tv := z_tc v
  have x : (((a ^^^ b) ^^^ (-1)) &&& (a ^^^ v)) &&& 32768 = bif ((((zbt 15 a ^^ zbt 15 b) ^^ true) && (zbt 15 a ^^ zbt 15 v))) then 32768 else 0 := by
    rw [zbt_m15, zbt_and, zbt_xor, zbt_xor, zbt_xor]
    rfl
  rw [x, zbt_n, zbt_n, zbt_n]
  have n15 : (2 : Nat) ^ 15 = 32768 := by decide
  rw [n15]
  have fin : ∀ p q : Bool, p = q → (if (bif p then (32768 : Int32) else 0) = 0 then (0 : Int32) else 4) = bif q then 4 else 0 := by decide
  refine fin _ _ ?_
  by_cases qa : a.toInt < 32768 <;> by_cases qb : b.toInt < 32768 <;> (first | rw [if_pos qa] at sa | rw [if_neg qa] at sa) <;> (first | rw [if_pos qb] at sb | rw [if_neg qb] at sb) <;> rcases ov with ⟨k, e⟩ | ⟨k, e⟩ <;> rw [e] <;> by_cases p : a.toBitVec.toNat / 32768 % 2 = 1 <;> by_cases q : b.toBitVec.toNat / 32768 % 2 = 1 <;> by_cases r : v.toBitVec.toNat / 32768 % 2 = 1 <;> first | (exfalso; omega) | (simp only [p, q, r, decide_true, decide_false]; rfl)
theorem v_oWS {a b c v : Int32} (ha : zr 0 65535 a) (hb : zr 0 65535 b) (hc : zr 0 1 c) (hv : v.toInt = a.toInt - b.toInt - c.toInt) : (if ((a ^^^ b) &&& (a ^^^ v)) &&& 32768 = 0 then (0 : Int32) else 4) = bif bc (oW ((a.toInt16.toInt32 - b.toInt16.toInt32) - c)) then 4 else 0 := by
  have sa := z_t16 ha
  have sb := z_t16 hb
  have ra := z_r16s ha
  have rb := z_r16s hb
  have e1 : (a.toInt16.toInt32 - b.toInt16.toInt32).toInt = a.toInt16.toInt32.toInt - b.toInt16.toInt32.toInt := z_tsub ra rb (by decide)
  have e2 : ((a.toInt16.toInt32 - b.toInt16.toInt32) - c).toInt = (a.toInt16.toInt32 - b.toInt16.toInt32).toInt - c.toInt := z_tsub (zr_sub (lo := -65536) (hi := 65535) ra rb (by decide)) hc (by decide)
  have ov := oW_v e2
  have a0 := ha.1
  have a1 := ha.2
  have b0 := hb.1
  have b1 := hb.2
  have c0 := hc.1
  have c1 := hc.2
  have ta := z_tc a
  have tb := z_tc b
  have tv := z_tc v
  have x : ((a ^^^ b) &&& (a ^^^ v)) &&& 32768 = bif ((zbt 15 a ^^ zbt 15 b) && (zbt 15 a ^^ zbt 15 v)) then 32768 else 0 := by
    rw [zbt_m15, zbt_and, zbt_xor, zbt_xor]
  rw [x, zbt_n, zbt_n, zbt_n]
  have n15 : (2 : Nat) ^ 15 = 32768 := by decide
  rw [n15]
  have fin : ∀ p q : Bool, p = q → (if (bif p then (32768 : Int32) else 0) = 0 then (0 : Int32) else 4) = bif q then 4 else 0 := by decide
  refine fin _ _ ?_
  by_cases qa : a.toInt < 32768 <;> by_cases qb : b.toInt < 32768 <;> (first | rw [if_pos qa] at sa | rw [if_neg qa] at sa) <;> (first | rw [if_pos qb] at sb | rw [if_neg qb] at sb) <;> rcases ov with ⟨k, e⟩ | ⟨k, e⟩ <;> rw [e] <;> by_cases p : a.toBitVec.toNat / 32768 % 2 = 1 <;> by_cases q : b.toBitVec.toNat / 32768 % 2 = 1 <;> by_cases r : v.toBitVec.toNat / 32768 % 2 = 1 <;> first | (exfalso; omega) | (simp only [p, q, r, decide_true, decide_false]; rfl)
def mW (f s z x h c o n : Int32) : Int32 := pt (pt (pt (pt (gxy (pt (pt f 7 s) 6 z) x) 4 h) 0 c) 2 o) 1 n
theorem fl_mW {f s z x h c o n : Int32} (hf : zr 0 255 f) : mW f s z x h c o n = zfl (bc s) (bc z) (d5 x) (bc h) (d3 x) (bc o) (bc n) (bc c) := by
  unfold mW
  rw [fl_of hf, pt_7, pt_6, fl_xy, pt_4, pt_0, pt_2, pt_1]
  rfl
theorem v_wB : ∀ s z x h y o n c : Bool, zfl s z x h y o n c = (((((((bif s then 128 else 0) ||| (bif x then 32 else 0)) ||| (bif y then 8 else 0)) ||| (bif z then 64 else 0)) ||| (bif h then 16 else 0)) ||| (bif c then 1 else 0)) ||| ((bif o then 4 else 0) ||| (bif n then 2 else 0)) : Int32) := by decide
def cWd (a b v : Int32) : Int32 := ((((v >>> ((8 : Int32) &&& 31)) &&& 168) ||| (if v &&& 65535 = 0 then 64 else 0)) ||| ((((a ^^^ b) ^^^ v) >>> ((8 : Int32) &&& 31)) &&& 16)) ||| ((v >>> ((16 : Int32) &&& 31)) &&& 1)
theorem z_64 {v : Int32} : (if v &&& 65535 = 0 then (64 : Int32) else 0) = bif bc (if v &&& 65535 = 0 then 1 else 0) then 64 else 0 := by
  by_cases q : v &&& 65535 = 0
  · rw [if_pos q, if_pos q]; rfl
  · rw [if_neg q, if_neg q]; rfl
theorem zp2_burp {α β : Type} {o : Option α} {p : Option zSt} {g : zSt → Option β} {P : α → zSt → Prop} {Q : α → β → Prop} (h : zp2 o p P) (k : ∀ a t, P a t → zp2 (some a) (g t) Q) : zp2 o (zbu p g) Q := by
  intro a b ea eb
  cases e : p with
  | none => rw [e] at eb; cases eb
  | some r =>
    rw [e] at eb
    exact k a r (h a r ea e) a b rfl eb
/-- the class's putWide, against the reference's hlTo -/
theorem zp2_bulp2 {α β : Type} {p : Option zSt} {f : zSt → Option α} {g : zSt → Option β} {P : zSt → zSt → Prop} {Q : α → β → Prop} {F : zSt → Option zSt} {G : zSt → zSt} (H : Option zSt) {L : Option zSt} (eL : L = zck (zin 20 29) (zbu H F)) (h : zp2 H p P) (cP : ∀ s, zpc (F s) (fun r => r = G s)) (k : ∀ s t, P s t → zp2 (f (G s)) (g t) Q) : zp2 (zbu L f) (zbu p g) Q := by
  rw [eL]
  intro x y ex ey
  cases z : zin 20 29 with
  | false => rw [z] at ex; cases ex
  | true =>
    rw [z] at ex
    have ex : zbu (zbu H F) f = some x := ex
    cases e1 : H with
    | none => rw [e1] at ex; cases ex
    | some s =>
      rw [e1] at ex
      have ex : zbu (F s) f = some x := ex
      cases e2 : F s with
      | none => rw [e2] at ex; cases ex
      | some u =>
        rw [e2] at ex
        have eu := cP s u e2
        subst eu
        cases e3 : p with
        | none => rw [e3] at ey; cases ey
        | some t =>
          rw [e3] at ey
          exact k s t (h s t e1 e3) x y ex ey
section ZWD
variable {I : zSt → zSt → Prop} {σ μ : zSt}
theorem p_wdM {f n v s c : Int32} {K : Prop} {d : Decidable K} {x2 x7 : Int32} {L : Option zSt} (eL : L = if v &&& 32768 = 0 then fX12_words_104 μ x2 f s c v x7 0 7 else fX12_words_104 μ x2 f s c v x7 1 7) (hK : (x2 = 0 ∧ n = 1 ∧ (K ↔ 0 ≤ ((f &&& 4095) - (s &&& 4095)) - c)) ∨ (¬ x2 = 0 ∧ n = 0 ∧ (K ↔ ((f &&& 4095) + (s &&& 4095)) + c ≤ 4095))) : zpc L (fun r => r = zsi μ 3 1 (mW (μ.1 3 1) (if v &&& 32768 = 0 then 0 else 1) (if v &&& 65535 = 0 then 1 else 0) (v >>> ((8 : Int32) &&& 31)) (@ite _ K d 0 1) (cW v) (oW x7) n)) := by
  rw [eL]
  refine zpc_jx (K := fun g => fX12_words_104 μ x2 f s c v x7 g 7) (a := 0) (b := 1) rfl rfl (fun g1 e1 => ?_)
  unfold fX12_words_104
  refine zpc_bu p_put' (fun t et => ?_)
  subst et
  refine zpc_jx (K := fun g => fX12_words_123 (zsi μ 3 1 (pt (μ.1 3 1) 7 g1)) x2 f s c v x7 g 6) (a := 1) (b := 0) rfl rfl (fun g2 e2 => ?_)
  unfold fX12_words_123
  refine zpc_bu p_put (fun t et => ?_)
  subst et
  refine zpc_bu p_xy (fun t et => ?_)
  subst et
  have nx : ∀ g3, zpc (fX12_words_193 (zsi μ 3 1 (gxy (pt (pt (μ.1 3 1) 7 g1) 6 g2) (v >>> ((8 : Int32) &&& 31)))) x2 v x7 g3 4) (fun r => r = zsi μ 3 1 (mW (μ.1 3 1) g1 g2 (v >>> ((8 : Int32) &&& 31)) g3 (cW v) (oW x7) n)) := fun g3 => by
    unfold fX12_words_193 fX12_words_210
    refine zpc_bu p_put (fun t et => ?_)
    subst et
    refine zpc_j3 (K := fun g => fX12_words_215 (zsi μ 3 1 (pt (gxy (pt (pt (μ.1 3 1) 7 g1) 6 g2) (v >>> ((8 : Int32) &&& 31))) 4 g3)) x2 x7 g 0) (fun g4 e4 => ?_)
    have e4 : g4 = cW v := e4
    unfold fX12_words_215 fX12_words_236
    refine zpc_bu p_put (fun t et => ?_)
    subst et
    refine zpc_j3 (K := fun g => fX12_words_241 (zsi μ 3 1 (pt (pt (gxy (pt (pt (μ.1 3 1) 7 g1) 6 g2) (v >>> ((8 : Int32) &&& 31))) 4 g3) 0 g4)) x2 g 2) (fun g5 e5 => ?_)
    have e5 : g5 = oW x7 := e5
    unfold fX12_words_241 fX12_words_255
    refine zpc_bu p_put (fun t et => ?_)
    subst et
    rcases hK with ⟨x, n1, _⟩ | ⟨x, n1, _⟩
    · refine zpc_if (fun _ => zpc_bu p_put (fun t et => zpc_some ?_)) (fun q => absurd x q)
      rw [et, e4, e5, n1]; rfl
    · refine zpc_if (fun q => absurd q x) (fun _ => zpc_bu p_put (fun t et => zpc_some ?_))
      rw [et, e4, e5, n1]; rfl
  rw [← e1, ← e2]
  rcases hK with ⟨x, n1, k⟩ | ⟨x, n1, k⟩
  · refine zpc_if (fun _ => zpc_if (fun q => ?_) (fun q => ?_)) (fun q => absurd x q)
    · rw [if_pos (k.mpr q)]; exact nx 0
    · rw [if_neg (fun r => q (k.mp r))]; exact nx 1
  · refine zpc_if (fun q => absurd q x) (fun _ => zpc_if (fun q => ?_) (fun q => ?_))
    · rw [if_pos (k.mpr q)]; exact nx 0
    · rw [if_neg (fun r => q (k.mp r))]; exact nx 1
theorem t_wdA (hI : zIoK I) (h : zTT I σ μ) (hF : zF σ μ) {p : Int32} (hp : zr 0 3 p) : zp2 (fX5_addPairAndCarry σ p) (fX12_more_234 μ 1 p) (zEnq I) := by
  have ef : μ.1 3 1 = σ.1 36 1 := hF
  have hf : zr 0 255 (σ.1 36 1) := h.b (by decide)
  have rc : zr 0 1 (σ.1 36 1 &&& 1) := z_r1 _
  unfold fX12_more_234 fX5_addPairAndCarry fX12_words
  refine zp2_burp (P := fun r t => zEnq I r (t, 15)) ?_ (fun a t q => zp2_some q)
  refine zp2_sm (t_hl h) (fun a ra => zp2_sm (t_rp h hp) (fun b rb => ?_))
  refine zp2_bir p_flag (fun t0 c0 ec => ?_)
  cases ec
  rw [ef, z_c0 hf]
  refine zp2_ckl (zp2_bvl (fun v ev => zp2_ckr (zp2_bvr (fun t1 g1 => ?_))))
  have ev : v = (a + b) + (σ.1 36 1 &&& 1) := ev
  refine zp2_ifr (fun q => absurd q (by decide)) (fun _ => ?_)
  rw [← ev]
  unfold fX12_words_53
  refine zp2_ifr (fun q => absurd q (by decide)) (fun _ => ?_)
  unfold fX5_putWide
  unfold fX12_words_80
  have h1 : zTT I (zsi σ 36 20 ((a + 1) &&& 65535)) t1 := by
    rw [g1]
    exact (zEnq.wz hI h hF (b := 0) rfl (z_r16 _)).1
  have w1 : zWzz (zsi σ 36 20 ((a + 1) &&& 65535)) t1 := by rw [g1]; rfl
  have f1 : zF (zsi σ 36 20 ((a + 1) &&& 65535)) t1 := by rw [g1]; exact hF
  have cP : ∀ s3 : zSt, zpc (if (v &&& 65535) = 0 then fX5_putWide_44 s3 a b v 64 ((v >>> ((8 : Int32) &&& 31)) &&& 168) 1 else fX5_putWide_44 s3 a b v 0 ((v >>> ((8 : Int32) &&& 31)) &&& 168) 1) (fun r => r = zsi s3 36 1 (cWd a b v)) := fun s3 => by
    refine zpc_jx (K := fun g => fX5_putWide_44 s3 a b v g ((v >>> ((8 : Int32) &&& 31)) &&& 168) 1) (a := 64) (b := 0) rfl rfl (fun g eg => ?_)
    unfold fX5_putWide_44 cWd
    refine zpc_ck (zpc_bv (fun t et => zpc_some ?_))
    rw [et, eg]
    rfl
  refine zp2_bulp2 (fX5_putHl (zsi σ 36 20 ((a + 1) &&& 65535)) v) rfl (t_hlTo hI h1 (v := v) (w := v) rfl) (cP := cP) (fun s3 t3 q => ?_)
  obtain ⟨h3, qc, qm⟩ := q
  have f3 : zF s3 t3 := f1.of (qc.1 36 1 rfl) (qm.1 3 1 rfl)
  have w3 : zWzz s3 t3 := w1.of (qc.1 36 20 rfl) (qm.1 3 20 rfl)
  have hf3 : zr 0 255 (s3.1 36 1) := h3.b (by decide)
  have tv : v.toInt = a.toInt + b.toInt + (σ.1 36 1 &&& 1).toInt := by
    rw [ev, z_tadd (zr_add (lo := 0) (hi := 131070) ra rb (by decide)) rc (by decide), z_tadd ra rb (by decide)]
  have rv : zr (-65536) 131071 v := by
    have := ra.1
    have := ra.2
    have := rb.1
    have := rb.2
    have := rc.1
    have := rc.2
    exact ⟨by omega, by omega⟩
  have m1 : (a &&& 4095).toInt = a.toInt % 4096 := z_mask (k := 12) ra.1 rfl (by decide)
  have m2 : (b &&& 4095).toInt = b.toInt % 4096 := z_mask (k := 12) rb.1 rfl (by decide)
  have a12 : ∀ x : Int32, zr 0 4095 (x &&& 4095) := fun x => zr_andr (lo := 0) (hi := 4095) (zr_c (lo := 4095) (hi := 4095) (by decide)) (by decide)
  have m3 : ((a &&& 4095) + (b &&& 4095)).toInt = (a &&& 4095).toInt + (b &&& 4095).toInt := z_tadd (a12 _) (a12 _) (by decide)
  have m4 : (((a &&& 4095) + (b &&& 4095)) + (σ.1 36 1 &&& 1)).toInt = ((a &&& 4095) + (b &&& 4095)).toInt + (σ.1 36 1 &&& 1).toInt := z_tadd (zr_add (lo := 0) (hi := 8190) (a12 _) (a12 _) (by decide)) rc (by decide)
  have c4 : (4095 : Int32).toInt = 4095 := rfl
  have c5 : (0 : Int32).toInt = 0 := rfl
  have hh := v_h12 (a := a) (b := b) (v := v) (X := (a ^^^ b) ^^^ v) (c := (σ.1 36 1 &&& 1).toInt) (K := ((a &&& 4095) + (b &&& 4095)) + (σ.1 36 1 &&& 1) ≤ 4095) (d := inferInstance) ra rb tv ⟨rc.1, rc.2⟩ rfl (by rw [Int32.le_iff_toInt_le]; omega)
  have oo := v_oWA ra rb rc tv
  have e : mW (s3.1 36 1) (if v &&& 32768 = 0 then 0 else 1) (if v &&& 65535 = 0 then 1 else 0) (v >>> ((8 : Int32) &&& 31)) (if ((a &&& 4095) + (b &&& 4095)) + (σ.1 36 1 &&& 1) ≤ 4095 then 0 else 1) (cW v) (oW ((a.toInt16.toInt32 + b.toInt16.toInt32) + (σ.1 36 1 &&& 1))) 0 = cWd a b v ||| (if (((a ^^^ b) ^^^ (-1)) &&& (a ^^^ v)) &&& 32768 = 0 then (0 : Int32) else 4) := by
    unfold cWd
    rw [hh, oo, v_c16 rv, z_64, z_168, fl_mW hf3, v_wB, z_s15]
    rw [show (bif bc (0 : Int32) then (2 : Int32) else 0) = 0 from rfl, Int32.or_zero]
  have rF : zr 0 255 (cWd a b v ||| (if (((a ^^^ b) ^^^ (-1)) &&& (a ^^^ v)) &&& 32768 = 0 then (0 : Int32) else 4)) := by
    rw [← e, fl_mW hf3]
    exact zfl_r _ _ _ _ _ _ _ _
  have eF : t3.1 3 1 = s3.1 36 1 := f3
  intro r r' er er'
  have em := p_wdM (μ := t3) (d := inferInstance) (n := 0) (K := ((a &&& 4095) + (b &&& 4095)) + (σ.1 36 1 &&& 1) ≤ 4095) rfl (Or.inr ⟨by decide, rfl, Iff.rfl⟩) r' er'
  rw [eF, e] at em
  have cC : zpc (zbv ((((a ^^^ b) ^^^ (-1)) &&& (a ^^^ v)) &&& 32768) (fun v8 => zck (zin 1 29) (if v8 = 0 then fX5_addPairAndCarry_65 (zsi s3 36 1 (cWd a b v)) 0 (zgi (zsi s3 36 1 (cWd a b v)) 36 (1 : Int32).toNatClampNeg) 1 else fX5_addPairAndCarry_65 (zsi s3 36 1 (cWd a b v)) 4 (zgi (zsi s3 36 1 (cWd a b v)) 36 (1 : Int32).toNatClampNeg) 1))) (fun r => r = (zsi s3 36 1 (cWd a b v ||| (if (((a ^^^ b) ^^^ (-1)) &&& (a ^^^ v)) &&& 32768 = 0 then (0 : Int32) else 4)), 15)) := by
    refine zpc_bv (fun w ew => zpc_ck ?_)
    subst ew
    refine zpc_jx (K := fun g => fX5_addPairAndCarry_65 (zsi s3 36 1 (cWd a b v)) g (zgi (zsi s3 36 1 (cWd a b v)) 36 (1 : Int32).toNatClampNeg) 1) (a := 0) (b := 4) rfl rfl (fun g eg => ?_)
    unfold fX5_addPairAndCarry_65
    refine zpc_ck (zpc_bv (fun t et => zpc_some ?_))
    rw [et, eg]
    show (zsi (zsi s3 36 1 (cWd a b v)) 36 1 (cWd a b v ||| (if (((a ^^^ b) ^^^ (-1)) &&& (a ^^^ v)) &&& 32768 = 0 then (0 : Int32) else 4)), (15 : Int32)) = _
    rw [zsi_ow]
  rw [cC r er, em]
  exact ⟨(h3.onC hI (Or.inl rfl) (zrg_b (Or.inl (by decide)) rF)).onM hI (Or.inl rfl), rfl, w3, rfl⟩
theorem t_wdS (hI : zIoK I) (h : zTT I σ μ) (hF : zF σ μ) {p : Int32} (hp : zr 0 3 p) : zp2 (fX5_takePair σ p) (fX12_more_234 μ 0 p) (zEnq I) := by
  have ef : μ.1 3 1 = σ.1 36 1 := hF
  have hf : zr 0 255 (σ.1 36 1) := h.b (by decide)
  have rc : zr 0 1 (σ.1 36 1 &&& 1) := z_r1 _
  unfold fX12_more_234 fX5_takePair fX12_words
  refine zp2_burp (P := fun r t => zEnq I r (t, 15)) ?_ (fun a t q => zp2_some q)
  refine zp2_sm (t_hl h) (fun a ra => zp2_sm (t_rp h hp) (fun b rb => ?_))
  refine zp2_bir p_flag (fun t0 c0 ec => ?_)
  cases ec
  rw [ef, z_c0 hf]
  refine zp2_ckl (zp2_bvl (fun v ev => zp2_ckr (zp2_bvr (fun t1 g1 => ?_))))
  have ev : v = (a - b) - (σ.1 36 1 &&& 1) := ev
  refine zp2_ifr (fun _ => ?_) (fun q => absurd rfl q)
  rw [← ev]
  unfold fX12_words_53
  refine zp2_ifr (fun _ => ?_) (fun q => absurd rfl q)
  unfold fX5_putWide
  unfold fX12_words_80
  have h1 : zTT I (zsi σ 36 20 ((a + 1) &&& 65535)) t1 := by
    rw [g1]
    exact (zEnq.wz hI h hF (b := 0) rfl (z_r16 _)).1
  have w1 : zWzz (zsi σ 36 20 ((a + 1) &&& 65535)) t1 := by rw [g1]; rfl
  have f1 : zF (zsi σ 36 20 ((a + 1) &&& 65535)) t1 := by rw [g1]; exact hF
  have cP : ∀ s3 : zSt, zpc (if (v &&& 65535) = 0 then fX5_putWide_44 s3 a b v 64 ((v >>> ((8 : Int32) &&& 31)) &&& 168) 1 else fX5_putWide_44 s3 a b v 0 ((v >>> ((8 : Int32) &&& 31)) &&& 168) 1) (fun r => r = zsi s3 36 1 (cWd a b v)) := fun s3 => by
    refine zpc_jx (K := fun g => fX5_putWide_44 s3 a b v g ((v >>> ((8 : Int32) &&& 31)) &&& 168) 1) (a := 64) (b := 0) rfl rfl (fun g eg => ?_)
    unfold fX5_putWide_44 cWd
    refine zpc_ck (zpc_bv (fun t et => zpc_some ?_))
    rw [et, eg]
    rfl
  refine zp2_bulp2 (fX5_putHl (zsi σ 36 20 ((a + 1) &&& 65535)) v) rfl (t_hlTo hI h1 (v := v) (w := v) rfl) (cP := cP) (fun s3 t3 q => ?_)
  obtain ⟨h3, qc, qm⟩ := q
  have f3 : zF s3 t3 := f1.of (qc.1 36 1 rfl) (qm.1 3 1 rfl)
  have w3 : zWzz s3 t3 := w1.of (qc.1 36 20 rfl) (qm.1 3 20 rfl)
  have hf3 : zr 0 255 (s3.1 36 1) := h3.b (by decide)
  have tv : v.toInt = a.toInt - b.toInt - (σ.1 36 1 &&& 1).toInt := by
    rw [ev, z_tsub (zr_sub (lo := -65535) (hi := 65535) ra rb (by decide)) rc (by decide), z_tsub ra rb (by decide)]
  have rv : zr (-65536) 131071 v := by
    have := ra.1
    have := ra.2
    have := rb.1
    have := rb.2
    have := rc.1
    have := rc.2
    exact ⟨by omega, by omega⟩
  have m1 : (a &&& 4095).toInt = a.toInt % 4096 := z_mask (k := 12) ra.1 rfl (by decide)
  have m2 : (b &&& 4095).toInt = b.toInt % 4096 := z_mask (k := 12) rb.1 rfl (by decide)
  have a12 : ∀ x : Int32, zr 0 4095 (x &&& 4095) := fun x => zr_andr (lo := 0) (hi := 4095) (zr_c (lo := 4095) (hi := 4095) (by decide)) (by decide)
  have m3 : ((a &&& 4095) - (b &&& 4095)).toInt = (a &&& 4095).toInt - (b &&& 4095).toInt := z_tsub (a12 _) (a12 _) (by decide)
  have m4 : (((a &&& 4095) - (b &&& 4095)) - (σ.1 36 1 &&& 1)).toInt = ((a &&& 4095) - (b &&& 4095)).toInt - (σ.1 36 1 &&& 1).toInt := z_tsub (zr_sub (lo := -4095) (hi := 4095) (a12 _) (a12 _) (by decide)) rc (by decide)
  have c4 : (4095 : Int32).toInt = 4095 := rfl
  have c5 : (0 : Int32).toInt = 0 := rfl
  have hh := v_h12S (a := a) (b := b) (v := v) (X := (a ^^^ b) ^^^ v) (c := (σ.1 36 1 &&& 1).toInt) (K := 0 ≤ ((a &&& 4095) - (b &&& 4095)) - (σ.1 36 1 &&& 1)) (d := inferInstance) ra rb tv ⟨rc.1, rc.2⟩ rfl (by rw [Int32.le_iff_toInt_le]; omega)
  have oo := v_oWS ra rb rc tv
  have e : mW (s3.1 36 1) (if v &&& 32768 = 0 then 0 else 1) (if v &&& 65535 = 0 then 1 else 0) (v >>> ((8 : Int32) &&& 31)) (if 0 ≤ ((a &&& 4095) - (b &&& 4095)) - (σ.1 36 1 &&& 1) then 0 else 1) (cW v) (oW ((a.toInt16.toInt32 - b.toInt16.toInt32) - (σ.1 36 1 &&& 1))) 1 = cWd a b v ||| ((if ((a ^^^ b) &&& (a ^^^ v)) &&& 32768 = 0 then (0 : Int32) else 4) ||| 2) := by
    unfold cWd
    rw [hh, oo, v_c16 rv, z_64, z_168, fl_mW hf3, v_wB, z_s15]
    rfl
  have rF : zr 0 255 (cWd a b v ||| ((if ((a ^^^ b) &&& (a ^^^ v)) &&& 32768 = 0 then (0 : Int32) else 4) ||| 2)) := by
    rw [← e, fl_mW hf3]
    exact zfl_r _ _ _ _ _ _ _ _
  have eF : t3.1 3 1 = s3.1 36 1 := f3
  intro r r' er er'
  have em := p_wdM (μ := t3) (d := inferInstance) (n := 1) (K := 0 ≤ ((a &&& 4095) - (b &&& 4095)) - (σ.1 36 1 &&& 1)) rfl (Or.inl ⟨rfl, rfl, Iff.rfl⟩) r' er'
  rw [eF, e] at em
  have cC : zpc (zbv (((a ^^^ b) &&& (a ^^^ v)) &&& 32768) (fun v8 => zck (zin 1 29) (if v8 = 0 then fX5_takePair_63 (zsi s3 36 1 (cWd a b v)) 0 (zgi (zsi s3 36 1 (cWd a b v)) 36 (1 : Int32).toNatClampNeg) 1 else fX5_takePair_63 (zsi s3 36 1 (cWd a b v)) 4 (zgi (zsi s3 36 1 (cWd a b v)) 36 (1 : Int32).toNatClampNeg) 1))) (fun r => r = (zsi s3 36 1 (cWd a b v ||| ((if ((a ^^^ b) &&& (a ^^^ v)) &&& 32768 = 0 then (0 : Int32) else 4) ||| 2)), 15)) := by
    refine zpc_bv (fun w ew => zpc_ck ?_)
    subst ew
    refine zpc_jx (K := fun g => fX5_takePair_63 (zsi s3 36 1 (cWd a b v)) g (zgi (zsi s3 36 1 (cWd a b v)) 36 (1 : Int32).toNatClampNeg) 1) (a := 0) (b := 4) rfl rfl (fun g eg => ?_)
    unfold fX5_takePair_63
    refine zpc_ck (zpc_bv (fun t et => zpc_some ?_))
    rw [et, eg]
    show (zsi (zsi s3 36 1 (cWd a b v)) 36 1 (cWd a b v ||| ((if ((a ^^^ b) &&& (a ^^^ v)) &&& 32768 = 0 then (0 : Int32) else 4) ||| 2)), (15 : Int32)) = _
    rw [zsi_ow]
  rw [cC r er, em]
  exact ⟨(h3.onC hI (Or.inl rfl) (zrg_b (Or.inl (by decide)) rF)).onM hI (Or.inl rfl), rfl, w3, rfl⟩
end ZWD
