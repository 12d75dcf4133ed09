section ZJN0
/-! SIXTEEN BITS WITH CARRY -/
theorem z_oad {x y m : Int32} : m &&& (x ||| y) = (m &&& x) ||| (m &&& y) := by
  refine Int32.toBitVec_inj.1 ?_
  rw [Int32.toBitVec_and, Int32.toBitVec_or, Int32.toBitVec_or, Int32.toBitVec_and, Int32.toBitVec_and]
  refine BitVec.eq_of_getLsbD_eq (fun i hi => ?_)
  rw [BitVec.getLsbD_and, BitVec.getLsbD_or, BitVec.getLsbD_or, BitVec.getLsbD_and, BitVec.getLsbD_and]
  cases x.toBitVec.getLsbD i <;> cases y.toBitVec.getLsbD i <;> cases m.toBitVec.getLsbD i <;> rfl
theorem zbt_l5 : ∀ i, i < 32 → ((32 : Int32).toBitVec.getLsbD i = decide (i = 5)) := by decide
theorem zbt_m5 {x : Int32} : x &&& 32 = bif zbt 5 x then 32 else 0 := by
  refine Int32.toBitVec_inj.1 (BitVec.eq_of_getLsbD_eq (fun i hi => ?_))
  rw [Int32.toBitVec_and, BitVec.getLsbD_and, zbt_l5 i hi]
  unfold zbt
  by_cases q : i = 5
  · subst q
    cases h : x.toBitVec.getLsbD 5 <;> rfl
  · rw [decide_eq_false q, Bool.and_false]
    cases h : x.toBitVec.getLsbD 5
    · exact (BitVec.getLsbD_zero (w := 32)).symm
    · exact ((zbt_l5 i hi).trans (decide_eq_false q)).symm
theorem zbt_l3 : ∀ i, i < 32 → ((8 : Int32).toBitVec.getLsbD i = decide (i = 3)) := by decide
theorem zbt_m3 {x : Int32} : x &&& 8 = bif zbt 3 x then 8 else 0 := by
  refine Int32.toBitVec_inj.1 (BitVec.eq_of_getLsbD_eq (fun i hi => ?_))
  rw [Int32.toBitVec_and, BitVec.getLsbD_and, zbt_l3 i hi]
  unfold zbt
  by_cases q : i = 3
  · subst q
    cases h : x.toBitVec.getLsbD 3 <;> rfl
  · rw [decide_eq_false q, Bool.and_false]
    cases h : x.toBitVec.getLsbD 3
    · exact (BitVec.getLsbD_zero (w := 32)).symm
    · exact ((zbt_l3 i hi).trans (decide_eq_false q)).symm
theorem z_d5 {x : Int32} : d5 x = zbt 5 x := by
  unfold d5
  rw [zbt_m5]
  cases zbt 5 x <;> rfl
theorem z_d3 {x : Int32} : d3 x = zbt 3 x := by
  unfold d3
  rw [zbt_m3]
  cases zbt 3 x <;> rfl
theorem z_168 {v : Int32} : (v >>> ((8 : Int32) &&& 31)) &&& 168 = ((bif zbt 15 v then 128 else 0) ||| (bif d5 (v >>> ((8 : Int32) &&& 31)) then 32 else 0)) ||| (bif d3 (v >>> ((8 : Int32) &&& 31)) then 8 else 0) := by
  rw [show (168 : Int32) = (128 ||| 32) ||| 8 by decide, z_oad, z_oad, zbt_m7, zbt_m5, zbt_m3, zbt_sar (k := 7) (n := 8) rfl (by decide), z_d5, z_d3]
theorem z_s15 {v : Int32} : bc (if v &&& 32768 = 0 then 0 else 1) = zbt 15 v := by
  rw [zbt_m15]
  cases zbt 15 v <;> rfl
theorem z_t16 {x : Int32} (h : zr 0 65535 x) : (x.toInt16.toInt32).toInt = if x.toInt < 32768 then x.toInt else x.toInt - 65536 := by
  have h0 := h.1
  have h1 := h.2
  rw [Int16.toInt_toInt32, Int32.toInt_toInt16]
  by_cases q : x.toInt < 32768
  · rw [if_pos q]
    exact Int.bmod_eq_of_le (by omega) (by omega)
  · rw [if_neg q]
    rw [Int.bmod_def, if_neg (by omega)]
    omega
theorem z_r16s {x : Int32} (h : zr 0 65535 x) : zr (-32768) 32767 (x.toInt16.toInt32) := by
  have e := z_t16 h
  have h0 := h.1
  have h1 := h.2
  by_cases q : x.toInt < 32768
  · rw [if_pos q] at e; exact ⟨by omega, by omega⟩
  · rw [if_neg q] at e; exact ⟨by omega, by omega⟩
noncomputable def oW (s : Int32) : Int32 := if s < (-32768) then 1 else if s ≤ 32767 then 0 else 1
noncomputable def cW (v : Int32) : Int32 := if v < 0 then 1 else if v ≤ 65535 then 0 else 1
theorem oW_v {s : Int32} {k : Int} (e : s.toInt = k) : ((k < -32768 ∨ 32767 < k) ∧ bc (oW s) = true) ∨ ((-32768 ≤ k ∧ k ≤ 32767) ∧ bc (oW s) = false) := by
  have c1 : (-32768 : Int32).toInt = -32768 := rfl
  have c2 : (32767 : Int32).toInt = 32767 := rfl
  unfold oW
  by_cases q : s < (-32768)
  · have q1 := Int32.lt_iff_toInt_lt.mp q
    exact Or.inl ⟨Or.inl (by omega), by rw [if_pos q]; rfl⟩
  · have q1 := Int32.le_iff_toInt_le.mp (z_nlt q)
    rw [if_neg q]
    by_cases r : s ≤ 32767
    · have r1 := Int32.le_iff_toInt_le.mp r
      exact Or.inr ⟨⟨by omega, by omega⟩, by rw [if_pos r]; rfl⟩
    · have r1 := Int32.lt_iff_toInt_lt.mp (z_nle r)
      exact Or.inl ⟨Or.inr (by omega), by rw [if_neg r]; rfl⟩
theorem cW_v {v : Int32} : ((v.toInt < 0 ∨ 65535 < v.toInt) ∧ bc (cW v) = true) ∨ ((0 ≤ v.toInt ∧ v.toInt ≤ 65535) ∧ bc (cW v) = false) := by
  have c1 : (0 : Int32).toInt = 0 := rfl
  have c2 : (65535 : Int32).toInt = 65535 := rfl
  unfold cW
  by_cases q : v < 0
  · have q1 := Int32.lt_iff_toInt_lt.mp q
    exact Or.inl ⟨Or.inl (by omega), by rw [if_pos q]; rfl⟩
  · have q1 := Int32.le_iff_toInt_le.mp (z_nlt q)
    rw [if_neg q]
    by_cases r : v ≤ 65535
    · have r1 := Int32.le_iff_toInt_le.mp r
      exact Or.inr ⟨⟨by omega, by omega⟩, by rw [if_pos r]; rfl⟩
    · have r1 := Int32.lt_iff_toInt_lt.mp (z_nle r)
      exact Or.inl ⟨Or.inr (by omega), by rw [if_neg r]; rfl⟩
theorem v_c16 {v : Int32} (h : zr (-65536) 131071 v) : (v >>> ((16 : Int32) &&& 31)) &&& 1 = bif bc (cW v) then 1 else 0 := by
  rw [zbt_m0, zbt_sar (n := 16) rfl (by decide), zbt_n]
  have h0 := h.1
  have h1 := h.2
  have tv := z_tc v
  rcases cW_v (v := v) with ⟨k, e⟩ | ⟨k, e⟩
  · rw [e, decide_eq_true (show v.toBitVec.toNat / 2 ^ (16 + 0) % 2 = 1 by omega)]
  · rw [e, decide_eq_false (show ¬ v.toBitVec.toNat / 2 ^ (16 + 0) % 2 = 1 by omega)]
theorem v_h12S {a b v X : Int32} {c : Int} (ha : zr 0 65535 a) (hb : zr 0 65535 b) (hv : v.toInt = a.toInt - b.toInt - c) (hc : 0 ≤ c ∧ c ≤ 1) (hX : X = (a ^^^ b) ^^^ v) {K : Prop} {d : Decidable K} (hK : K ↔ 0 ≤ a.toInt % 4096 - b.toInt % 4096 - c) : (X >>> ((8 : Int32) &&& 31)) &&& 16 = bif bc (@ite _ K d 0 1) then 16 else 0 := by
  rw [zbt_m4, zbt_sar (n := 8) rfl (by decide), hX, zbt_xor, zbt_xor, zbt_n, zbt_n, zbt_n]
  have a0 := ha.1
  have a1 := ha.2
  have b0 := hb.1
  have b1 := hb.2
  have ta := z_tc a
  have tb := z_tc b
  have tv := z_tc v
  show (bif (decide (a.toBitVec.toNat / 4096 % 2 = 1) ^^ decide (b.toBitVec.toNat / 4096 % 2 = 1)) ^^ decide (v.toBitVec.toNat / 4096 % 2 = 1) then (16 : Int32) else 0) = _
  by_cases k : K
  · have k1 := hK.mp k
    rw [if_pos k]
    by_cases p : a.toBitVec.toNat / 4096 % 2 = 1 <;> by_cases q : b.toBitVec.toNat / 4096 % 2 = 1 <;> by_cases r : v.toBitVec.toNat / 4096 % 2 = 1 <;> first | (exfalso; omega) | skip
    all_goals (simp only [p, q, r, decide_true, decide_false]; rfl)
  · have k1 : ¬ 0 ≤ a.toInt % 4096 - b.toInt % 4096 - c := fun q => k (hK.mpr q)
    rw [if_neg k]
    by_cases p : a.toBitVec.toNat / 4096 % 2 = 1 <;> by_cases q : b.toBitVec.toNat / 4096 % 2 = 1 <;> by_cases r : v.toBitVec.toNat / 4096 % 2 = 1 <;> first | (exfalso; omega) | skip
    all_goals (simp only [p, q, r, decide_true, decide_false]; rfl)
theorem v_oWA {a b c v : Int32} (ha : zr 0 65535 a) (hb : zr 0 65535 b) (hc : zr 0 1 c) (hv : v.toInt = a.toInt + b.toInt + c.toInt) : (if (((a ^^^ b) ^^^ (-1)) &&& (a ^^^ v)) &&& 32768 = 0 then (0 : Int32) else 4) = bif bc (oW ((a.toInt16.toInt32 + b.toInt16.toInt32) + c)) then 4 else 0 := by
  have sa := z_t16 ha
  have sb := z_t16 hb
  have ra := z_r16s ha
  have rb := z_r16s hb
  have e1 : (a.toInt16.toInt32 + b.toInt16.toInt32).toInt = a.toInt16.toInt32.toInt + b.toInt16.toInt32.toInt := z_tadd ra rb (by decide)
  have e2 : ((a.toInt16.toInt32 + b.toInt16.toInt32) + c).toInt = (a.toInt16.toInt32 + b.toInt16.toInt32).toInt + c.toInt := z_tadd (zr_add (lo := -65536) (hi := 65535) ra rb (by decide)) hc (by decide)
  have ov := oW_v e2
  have a0 := ha.1
  have a1 := ha.2
  have b0 := hb.1
  have b1 := hb.2
  have c0 := hc.1
  have c1 := hc.2
  have ta := z_tc a
  have tb := z_tc b
  have tv := z_tc v
  have x : (((a ^^^ b) ^^^ (-1)) &&& (a ^^^ v)) &&& 32768 = bif ((((zbt 15 a ^^ zbt 15 b) ^^ true) && (zbt 15 a ^^ zbt 15 v))) then 32768 else 0 := by
    rw [zbt_m15, zbt_and, zbt_xor, zbt_xor, zbt_xor]
    rfl
  rw [x, zbt_n, zbt_n, zbt_n]
  have n15 : (2 : Nat) ^ 15 = 32768 := by decide
  rw [n15]
  have fin : ∀ p q : Bool, p = q → (if (bif p then (32768 : Int32) else 0) = 0 then (0 : Int32) else 4) = bif q then 4 else 0 := by decide
  refine fin _ _ ?_
  by_cases qa : a.toInt < 32768 <;> by_cases qb : b.toInt < 32768 <;> (first | rw [if_pos qa] at sa | rw [if_neg qa] at sa) <;> (first | rw [if_pos qb] at sb | rw [if_neg qb] at sb) <;> rcases ov with ⟨k, e⟩ | ⟨k, e⟩ <;> rw [e] <;> by_cases p : a.toBitVec.toNat / 32768 % 2 = 1 <;> by_cases q : b.toBitVec.toNat / 32768 % 2 = 1 <;> by_cases r : v.toBitVec.toNat / 32768 % 2 = 1 <;> first | (exfalso; omega) | (simp only [p, q, r, decide_true, decide_false]; rfl)
theorem v_oWS {a b c v : Int32} (ha : zr 0 65535 a) (hb : zr 0 65535 b) (hc : zr 0 1 c) (hv : v.toInt = a.toInt - b.toInt - c.toInt) : (if ((a ^^^ b) &&& (a ^^^ v)) &&& 32768 = 0 then (0 : Int32) else 4) = bif bc (oW ((a.toInt16.toInt32 - b.toInt16.toInt32) - c)) then 4 else 0 := by
  have sa := z_t16 ha
  have sb := z_t16 hb
  have ra := z_r16s ha
  have rb := z_r16s hb
  have e1 : (a.toInt16.toInt32 - b.toInt16.toInt32).toInt = a.toInt16.toInt32.toInt - b.toInt16.toInt32.toInt := z_tsub ra rb (by decide)
  have e2 : ((a.toInt16.toInt32 - b.toInt16.toInt32) - c).toInt = (a.toInt16.toInt32 - b.toInt16.toInt32).toInt - c.toInt := z_tsub (zr_sub (lo := -65536) (hi := 65535) ra rb (by decide)) hc (by decide)
  have ov := oW_v e2
  have a0 := ha.1
  have a1 := ha.2
  have b0 := hb.1
  have b1 := hb.2
  have c0 := hc.1
  have c1 := hc.2
  have ta := z_tc a
  have tb := z_tc b
  have tv := z_tc v
  have x : ((a ^^^ b) &&& (a ^^^ v)) &&& 32768 = bif ((zbt 15 a ^^ zbt 15 b) && (zbt 15 a ^^ zbt 15 v)) then 32768 else 0 := by
    rw [zbt_m15, zbt_and, zbt_xor, zbt_xor]
  rw [x, zbt_n, zbt_n, zbt_n]
  have n15 : (2 : Nat) ^ 15 = 32768 := by decide
  rw [n15]
  have fin : ∀ p q : Bool, p = q → (if (bif p then (32768 : Int32) else 0) = 0 then (0 : Int32) else 4) = bif q then 4 else 0 := by decide
  refine fin _ _ ?_
  by_cases qa : a.toInt < 32768 <;> by_cases qb : b.toInt < 32768 <;> (first | rw [if_pos qa] at sa | rw [if_neg qa] at sa) <;> (first | rw [if_pos qb] at sb | rw [if_neg qb] at sb) <;> rcases ov with ⟨k, e⟩ | ⟨k, e⟩ <;> rw [e] <;> by_cases p : a.toBitVec.toNat / 32768 % 2 = 1 <;> by_cases q : b.toBitVec.toNat / 32768 % 2 = 1 <;> by_cases r : v.toBitVec.toNat / 32768 % 2 = 1 <;> first | (exfalso; omega) | (simp only [p, q, r, decide_true, decide_false]; rfl)
noncomputable def mW (f s z x h c o n : Int32) : Int32 := pt (pt (pt (pt (gxy (pt (pt f 7 s) 6 z) x) 4 h) 0 c) 2 o) 1 n
theorem fl_mW {f s z x h c o n : Int32} (hf : zr 0 255 f) : mW f s z x h c o n = zfl (bc s) (bc z) (d5 x) (bc h) (d3 x) (bc o) (bc n) (bc c) := by
  unfold mW
  rw [fl_of hf, pt_7, pt_6, fl_xy, pt_4, pt_0, pt_2, pt_1]
  rfl
theorem v_wB : ∀ s z x h y o n c : Bool, zfl s z x h y o n c = (((((((bif s then 128 else 0) ||| (bif x then 32 else 0)) ||| (bif y then 8 else 0)) ||| (bif z then 64 else 0)) ||| (bif h then 16 else 0)) ||| (bif c then 1 else 0)) ||| ((bif o then 4 else 0) ||| (bif n then 2 else 0)) : Int32) := by decide
noncomputable def cWd (a b v : Int32) : Int32 := ((((v >>> ((8 : Int32) &&& 31)) &&& 168) ||| (if v &&& 65535 = 0 then 64 else 0)) ||| ((((a ^^^ b) ^^^ v) >>> ((8 : Int32) &&& 31)) &&& 16)) ||| ((v >>> ((16 : Int32) &&& 31)) &&& 1)
theorem z_64 {v : Int32} : (if v &&& 65535 = 0 then (64 : Int32) else 0) = bif bc (if v &&& 65535 = 0 then 1 else 0) then 64 else 0 := by
  by_cases q : v &&& 65535 = 0
  · rw [if_pos q, if_pos q]; rfl
  · rw [if_neg q, if_neg q]; rfl
theorem zp2_burp {α β : Type} {o : Option α} {p : Option zSt} {g : zSt → Option β} {P : α → zSt → Prop} {Q : α → β → Prop} (h : zp2 o p P) (k : ∀ a t, P a t → zp2 (some a) (g t) Q) : zp2 o (zbu p g) Q := by
  intro a b ea eb
  cases e : p with
  | none => rw [e] at eb; cases eb
  | some r =>
    rw [e] at eb
    exact k a r (h a r ea e) a b rfl eb
/-- the class's putWide, against the reference's hlTo -/
theorem zp2_bulp2 {α β : Type} {p : Option zSt} {f : zSt → Option α} {g : zSt → Option β} {P : zSt → zSt → Prop} {Q : α → β → Prop} {F : zSt → Option zSt} {G : zSt → zSt} (H : Option zSt) {L : Option zSt} (eL : L = zck (zin 20 29) (zbu H F)) (h : zp2 H p P) (cP : ∀ s, zpc (F s) (fun r => r = G s)) (k : ∀ s t, P s t → zp2 (f (G s)) (g t) Q) : zp2 (zbu L f) (zbu p g) Q := by
  rw [eL]
  intro x y ex ey
  cases z : zin 20 29 with
  | false => rw [z] at ex; cases ex
  | true =>
    rw [z] at ex
    have ex : zbu (zbu H F) f = some x := ex
    cases e1 : H with
    | none => rw [e1] at ex; cases ex
    | some s =>
      rw [e1] at ex
      have ex : zbu (F s) f = some x := ex
      cases e2 : F s with
      | none => rw [e2] at ex; cases ex
      | some u =>
        rw [e2] at ex
        have eu := cP s u e2
        subst eu
        cases e3 : p with
        | none => rw [e3] at ey; cases ey
        | some t =>
          rw [e3] at ey
          exact k s t (h s t e1 e3) x y ex ey
section ZWD
variable {I : zSt → zSt → Prop} {σ μ : zSt}
theorem p_wdM {f n v s c : Int32} {K : Prop} {d : Decidable K} {x2 x7 : Int32} {L : Option zSt} (eL : L = if v &&& 32768 = 0 then fX12_words_104 μ x2 f s c v x7 0 7 else fX12_words_104 μ x2 f s c v x7 1 7) (hK : (x2 = 0 ∧ n = 1 ∧ (K ↔ 0 ≤ ((f &&& 4095) - (s &&& 4095)) - c)) ∨ (¬ x2 = 0 ∧ n = 0 ∧ (K ↔ ((f &&& 4095) + (s &&& 4095)) + c ≤ 4095))) : zpc L (fun r => r = zsi μ 3 1 (mW (μ.1 3 1) (if v &&& 32768 = 0 then 0 else 1) (if v &&& 65535 = 0 then 1 else 0) (v >>> ((8 : Int32) &&& 31)) (@ite _ K d 0 1) (cW v) (oW x7) n)) := by
  rw [eL]
  refine zpc_jx (K := fun g => fX12_words_104 μ x2 f s c v x7 g 7) (a := 0) (b := 1) rfl rfl (fun g1 e1 => ?_)
  unfold fX12_words_104
  refine zpc_bu p_put' (fun t et => ?_)
  subst et
  refine zpc_jx (K := fun g => fX12_words_123 (zsi μ 3 1 (pt (μ.1 3 1) 7 g1)) x2 f s c v x7 g 6) (a := 1) (b := 0) rfl rfl (fun g2 e2 => ?_)
  unfold fX12_words_123
  refine zpc_bu p_put (fun t et => ?_)
  subst et
  refine zpc_bu p_xy (fun t et => ?_)
  subst et
  have nx : ∀ g3, zpc (fX12_words_193 (zsi μ 3 1 (gxy (pt (pt (μ.1 3 1) 7 g1) 6 g2) (v >>> ((8 : Int32) &&& 31)))) x2 v x7 g3 4) (fun r => r = zsi μ 3 1 (mW (μ.1 3 1) g1 g2 (v >>> ((8 : Int32) &&& 31)) g3 (cW v) (oW x7) n)) := fun g3 => by
    unfold fX12_words_193 fX12_words_210
    refine zpc_bu p_put (fun t et => ?_)
    subst et
    refine zpc_j3 (K := fun g => fX12_words_215 (zsi μ 3 1 (pt (gxy (pt (pt (μ.1 3 1) 7 g1) 6 g2) (v >>> ((8 : Int32) &&& 31))) 4 g3)) x2 x7 g 0) (fun g4 e4 => ?_)
    have e4 : g4 = cW v := e4
    unfold fX12_words_215 fX12_words_236
    refine zpc_bu p_put (fun t et => ?_)
    subst et
    refine zpc_j3 (K := fun g => fX12_words_241 (zsi μ 3 1 (pt (pt (gxy (pt (pt (μ.1 3 1) 7 g1) 6 g2) (v >>> ((8 : Int32) &&& 31))) 4 g3) 0 g4)) x2 g 2) (fun g5 e5 => ?_)
    have e5 : g5 = oW x7 := e5
    unfold fX12_words_241 fX12_words_255
    refine zpc_bu p_put (fun t et => ?_)
    subst et
    rcases hK with ⟨x, n1, _⟩ | ⟨x, n1, _⟩
    · refine zpc_if (fun _ => zpc_bu p_put (fun t et => zpc_some ?_)) (fun q => absurd x q)
      rw [et, e4, e5, n1]; rfl
    · refine zpc_if (fun q => absurd q x) (fun _ => zpc_bu p_put (fun t et => zpc_some ?_))
      rw [et, e4, e5, n1]; rfl
  rw [← e1, ← e2]
  rcases hK with ⟨x, n1, k⟩ | ⟨x, n1, k⟩
  · refine zpc_if (fun _ => zpc_if (fun q => ?_) (fun q => ?_)) (fun q => absurd x q)
    · rw [if_pos (k.mpr q)]; exact nx 0
    · rw [if_neg (fun r => q (k.mp r))]; exact nx 1
  · refine zpc_if (fun q => absurd q x) (fun _ => zpc_if (fun q => ?_) (fun q => ?_))
    · rw [if_pos (k.mpr q)]; exact nx 0
    · rw [if_neg (fun r => q (k.mp r))]; exact nx 1
theorem t_wdA (hI : zIoK I) (h : zTT I σ μ) (hF : zF σ μ) {p : Int32} (hp : zr 0 3 p) : zp2 (fX5_addPairAndCarry σ p) (fX12_more_234 μ 1 p) (zEnq I) := by
  have ef : μ.1 3 1 = σ.1 36 1 := hF
  have hf : zr 0 255 (σ.1 36 1) := h.b (by decide)
  have rc : zr 0 1 (σ.1 36 1 &&& 1) := z_r1 _
  unfold fX12_more_234 fX5_addPairAndCarry fX12_words
  refine zp2_burp (P := fun r t => zEnq I r (t, 15)) ?_ (fun a t q => zp2_some q)
  refine zp2_sm (t_hl h) (fun a ra => zp2_sm (t_rp h hp) (fun b rb => ?_))
  refine zp2_bir p_flag (fun t0 c0 ec => ?_)
  cases ec
  rw [ef, z_c0 hf]
  refine zp2_ckl (zp2_bvl (fun v ev => zp2_ckr (zp2_bvr (fun t1 g1 => ?_))))
  have ev : v = (a + b) + (σ.1 36 1 &&& 1) := ev
  refine zp2_ifr (fun q => absurd q (by decide)) (fun _ => ?_)
  rw [← ev]
  unfold fX12_words_53
  refine zp2_ifr (fun q => absurd q (by decide)) (fun _ => ?_)
  unfold fX5_putWide
  unfold fX12_words_80
  have h1 : zTT I (zsi σ 36 20 ((a + 1) &&& 65535)) t1 := by
    rw [g1]
    exact (zEnq.wz hI h hF (b := 0) rfl (z_r16 _)).1
  have w1 : zWzz (zsi σ 36 20 ((a + 1) &&& 65535)) t1 := by rw [g1]; rfl
  have f1 : zF (zsi σ 36 20 ((a + 1) &&& 65535)) t1 := by rw [g1]; exact hF
  have cP : ∀ s3 : zSt, zpc (if (v &&& 65535) = 0 then fX5_putWide_44 s3 a b v 64 ((v >>> ((8 : Int32) &&& 31)) &&& 168) 1 else fX5_putWide_44 s3 a b v 0 ((v >>> ((8 : Int32) &&& 31)) &&& 168) 1) (fun r => r = zsi s3 36 1 (cWd a b v)) := fun s3 => by
    refine zpc_jx (K := fun g => fX5_putWide_44 s3 a b v g ((v >>> ((8 : Int32) &&& 31)) &&& 168) 1) (a := 64) (b := 0) rfl rfl (fun g eg => ?_)
    unfold fX5_putWide_44 cWd
    refine zpc_ck (zpc_bv (fun t et => zpc_some ?_))
    rw [et, eg]
    rfl
  refine zp2_bulp2 (fX5_putHl (zsi σ 36 20 ((a + 1) &&& 65535)) v) rfl (t_hlTo hI h1 (v := v) (w := v) rfl) (cP := cP) (fun s3 t3 q => ?_)
  obtain ⟨h3, qc, qm⟩ := q
  have f3 : zF s3 t3 := f1.of (qc.1 36 1 rfl) (qm.1 3 1 rfl)
  have w3 : zWzz s3 t3 := w1.of (qc.1 36 20 rfl) (qm.1 3 20 rfl)
  have hf3 : zr 0 255 (s3.1 36 1) := h3.b (by decide)
  have tv : v.toInt = a.toInt + b.toInt + (σ.1 36 1 &&& 1).toInt := by
    rw [ev, z_tadd (zr_add (lo := 0) (hi := 131070) ra rb (by decide)) rc (by decide), z_tadd ra rb (by decide)]
  have rv : zr (-65536) 131071 v := by
    have := ra.1
    have := ra.2
    have := rb.1
    have := rb.2
    have := rc.1
    have := rc.2
    exact ⟨by omega, by omega⟩
  have m1 : (a &&& 4095).toInt = a.toInt % 4096 := z_mask (k := 12) ra.1 rfl (by decide)
  have m2 : (b &&& 4095).toInt = b.toInt % 4096 := z_mask (k := 12) rb.1 rfl (by decide)
  have a12 : ∀ x : Int32, zr 0 4095 (x &&& 4095) := fun x => zr_andr (lo := 0) (hi := 4095) (zr_c (lo := 4095) (hi := 4095) (by decide)) (by decide)
  have m3 : ((a &&& 4095) + (b &&& 4095)).toInt = (a &&& 4095).toInt + (b &&& 4095).toInt := z_tadd (a12 _) (a12 _) (by decide)
  have m4 : (((a &&& 4095) + (b &&& 4095)) + (σ.1 36 1 &&& 1)).toInt = ((a &&& 4095) + (b &&& 4095)).toInt + (σ.1 36 1 &&& 1).toInt := z_tadd (zr_add (lo := 0) (hi := 8190) (a12 _) (a12 _) (by decide)) rc (by decide)
  have c4 : (4095 : Int32).toInt = 4095 := rfl
  have c5 : (0 : Int32).toInt = 0 := rfl
  have hh := v_h12 (a := a) (b := b) (v := v) (X := (a ^^^ b) ^^^ v) (c := (σ.1 36 1 &&& 1).toInt) (K := ((a &&& 4095) + (b &&& 4095)) + (σ.1 36 1 &&& 1) ≤ 4095) (d := inferInstance) ra rb tv ⟨rc.1, rc.2⟩ rfl (by rw [Int32.le_iff_toInt_le]; omega)
  have oo := v_oWA ra rb rc tv
  have e : mW (s3.1 36 1) (if v &&& 32768 = 0 then 0 else 1) (if v &&& 65535 = 0 then 1 else 0) (v >>> ((8 : Int32) &&& 31)) (if ((a &&& 4095) + (b &&& 4095)) + (σ.1 36 1 &&& 1) ≤ 4095 then 0 else 1) (cW v) (oW ((a.toInt16.toInt32 + b.toInt16.toInt32) + (σ.1 36 1 &&& 1))) 0 = cWd a b v ||| (if (((a ^^^ b) ^^^ (-1)) &&& (a ^^^ v)) &&& 32768 = 0 then (0 : Int32) else 4) := by
    unfold cWd
    rw [hh, oo, v_c16 rv, z_64, z_168, fl_mW hf3, v_wB, z_s15]
    rw [show (bif bc (0 : Int32) then (2 : Int32) else 0) = 0 from rfl, Int32.or_zero]
  have rF : zr 0 255 (cWd a b v ||| (if (((a ^^^ b) ^^^ (-1)) &&& (a ^^^ v)) &&& 32768 = 0 then (0 : Int32) else 4)) := by
    rw [← e, fl_mW hf3]
    exact zfl_r _ _ _ _ _ _ _ _
  have eF : t3.1 3 1 = s3.1 36 1 := f3
  intro r r' er er'
  have em := p_wdM (μ := t3) (d := inferInstance) (n := 0) (K := ((a &&& 4095) + (b &&& 4095)) + (σ.1 36 1 &&& 1) ≤ 4095) rfl (Or.inr ⟨by decide, rfl, Iff.rfl⟩) r' er'
  rw [eF, e] at em
  have cC : zpc (zbv ((((a ^^^ b) ^^^ (-1)) &&& (a ^^^ v)) &&& 32768) (fun v8 => zck (zin 1 29) (if v8 = 0 then fX5_addPairAndCarry_65 (zsi s3 36 1 (cWd a b v)) 0 (zgi (zsi s3 36 1 (cWd a b v)) 36 (1 : Int32).toNatClampNeg) 1 else fX5_addPairAndCarry_65 (zsi s3 36 1 (cWd a b v)) 4 (zgi (zsi s3 36 1 (cWd a b v)) 36 (1 : Int32).toNatClampNeg) 1))) (fun r => r = (zsi s3 36 1 (cWd a b v ||| (if (((a ^^^ b) ^^^ (-1)) &&& (a ^^^ v)) &&& 32768 = 0 then (0 : Int32) else 4)), 15)) := by
    refine zpc_bv (fun w ew => zpc_ck ?_)
    subst ew
    refine zpc_jx (K := fun g => fX5_addPairAndCarry_65 (zsi s3 36 1 (cWd a b v)) g (zgi (zsi s3 36 1 (cWd a b v)) 36 (1 : Int32).toNatClampNeg) 1) (a := 0) (b := 4) rfl rfl (fun g eg => ?_)
    unfold fX5_addPairAndCarry_65
    refine zpc_ck (zpc_bv (fun t et => zpc_some ?_))
    rw [et, eg]
    show (zsi (zsi s3 36 1 (cWd a b v)) 36 1 (cWd a b v ||| (if (((a ^^^ b) ^^^ (-1)) &&& (a ^^^ v)) &&& 32768 = 0 then (0 : Int32) else 4)), (15 : Int32)) = _
    rw [zsi_ow]
  rw [cC r er, em]
  exact ⟨(h3.onC hI (Or.inl rfl) (zrg_b (Or.inl (by decide)) rF)).onM hI (Or.inl rfl), rfl, w3, rfl⟩
theorem t_wdS (hI : zIoK I) (h : zTT I σ μ) (hF : zF σ μ) {p : Int32} (hp : zr 0 3 p) : zp2 (fX5_takePair σ p) (fX12_more_234 μ 0 p) (zEnq I) := by
  have ef : μ.1 3 1 = σ.1 36 1 := hF
  have hf : zr 0 255 (σ.1 36 1) := h.b (by decide)
  have rc : zr 0 1 (σ.1 36 1 &&& 1) := z_r1 _
  unfold fX12_more_234 fX5_takePair fX12_words
  refine zp2_burp (P := fun r t => zEnq I r (t, 15)) ?_ (fun a t q => zp2_some q)
  refine zp2_sm (t_hl h) (fun a ra => zp2_sm (t_rp h hp) (fun b rb => ?_))
  refine zp2_bir p_flag (fun t0 c0 ec => ?_)
  cases ec
  rw [ef, z_c0 hf]
  refine zp2_ckl (zp2_bvl (fun v ev => zp2_ckr (zp2_bvr (fun t1 g1 => ?_))))
  have ev : v = (a - b) - (σ.1 36 1 &&& 1) := ev
  refine zp2_ifr (fun _ => ?_) (fun q => absurd rfl q)
  rw [← ev]
  unfold fX12_words_53
  refine zp2_ifr (fun _ => ?_) (fun q => absurd rfl q)
  unfold fX5_putWide
  unfold fX12_words_80
  have h1 : zTT I (zsi σ 36 20 ((a + 1) &&& 65535)) t1 := by
    rw [g1]
    exact (zEnq.wz hI h hF (b := 0) rfl (z_r16 _)).1
  have w1 : zWzz (zsi σ 36 20 ((a + 1) &&& 65535)) t1 := by rw [g1]; rfl
  have f1 : zF (zsi σ 36 20 ((a + 1) &&& 65535)) t1 := by rw [g1]; exact hF
  have cP : ∀ s3 : zSt, zpc (if (v &&& 65535) = 0 then fX5_putWide_44 s3 a b v 64 ((v >>> ((8 : Int32) &&& 31)) &&& 168) 1 else fX5_putWide_44 s3 a b v 0 ((v >>> ((8 : Int32) &&& 31)) &&& 168) 1) (fun r => r = zsi s3 36 1 (cWd a b v)) := fun s3 => by
    refine zpc_jx (K := fun g => fX5_putWide_44 s3 a b v g ((v >>> ((8 : Int32) &&& 31)) &&& 168) 1) (a := 64) (b := 0) rfl rfl (fun g eg => ?_)
    unfold fX5_putWide_44 cWd
    refine zpc_ck (zpc_bv (fun t et => zpc_some ?_))
    rw [et, eg]
    rfl
  refine zp2_bulp2 (fX5_putHl (zsi σ 36 20 ((a + 1) &&& 65535)) v) rfl (t_hlTo hI h1 (v := v) (w := v) rfl) (cP := cP) (fun s3 t3 q => ?_)
  obtain ⟨h3, qc, qm⟩ := q
  have f3 : zF s3 t3 := f1.of (qc.1 36 1 rfl) (qm.1 3 1 rfl)
  have w3 : zWzz s3 t3 := w1.of (qc.1 36 20 rfl) (qm.1 3 20 rfl)
  have hf3 : zr 0 255 (s3.1 36 1) := h3.b (by decide)
  have tv : v.toInt = a.toInt - b.toInt - (σ.1 36 1 &&& 1).toInt := by
    rw [ev, z_tsub (zr_sub (lo := -65535) (hi := 65535) ra rb (by decide)) rc (by decide), z_tsub ra rb (by decide)]
  have rv : zr (-65536) 131071 v := by
    have := ra.1
    have := ra.2
    have := rb.1
    have := rb.2
    have := rc.1
    have := rc.2
    exact ⟨by omega, by omega⟩
  have m1 : (a &&& 4095).toInt = a.toInt % 4096 := z_mask (k := 12) ra.1 rfl (by decide)
  have m2 : (b &&& 4095).toInt = b.toInt % 4096 := z_mask (k := 12) rb.1 rfl (by decide)
  have a12 : ∀ x : Int32, zr 0 4095 (x &&& 4095) := fun x => zr_andr (lo := 0) (hi := 4095) (zr_c (lo := 4095) (hi := 4095) (by decide)) (by decide)
  have m3 : ((a &&& 4095) - (b &&& 4095)).toInt = (a &&& 4095).toInt - (b &&& 4095).toInt := z_tsub (a12 _) (a12 _) (by decide)
  have m4 : (((a &&& 4095) - (b &&& 4095)) - (σ.1 36 1 &&& 1)).toInt = ((a &&& 4095) - (b &&& 4095)).toInt - (σ.1 36 1 &&& 1).toInt := z_tsub (zr_sub (lo := -4095) (hi := 4095) (a12 _) (a12 _) (by decide)) rc (by decide)
  have c4 : (4095 : Int32).toInt = 4095 := rfl
  have c5 : (0 : Int32).toInt = 0 := rfl
  have hh := v_h12S (a := a) (b := b) (v := v) (X := (a ^^^ b) ^^^ v) (c := (σ.1 36 1 &&& 1).toInt) (K := 0 ≤ ((a &&& 4095) - (b &&& 4095)) - (σ.1 36 1 &&& 1)) (d := inferInstance) ra rb tv ⟨rc.1, rc.2⟩ rfl (by rw [Int32.le_iff_toInt_le]; omega)
  have oo := v_oWS ra rb rc tv
  have e : mW (s3.1 36 1) (if v &&& 32768 = 0 then 0 else 1) (if v &&& 65535 = 0 then 1 else 0) (v >>> ((8 : Int32) &&& 31)) (if 0 ≤ ((a &&& 4095) - (b &&& 4095)) - (σ.1 36 1 &&& 1) then 0 else 1) (cW v) (oW ((a.toInt16.toInt32 - b.toInt16.toInt32) - (σ.1 36 1 &&& 1))) 1 = cWd a b v ||| ((if ((a ^^^ b) &&& (a ^^^ v)) &&& 32768 = 0 then (0 : Int32) else 4) ||| 2) := by
    unfold cWd
    rw [hh, oo, v_c16 rv, z_64, z_168, fl_mW hf3, v_wB, z_s15]
    rfl
  have rF : zr 0 255 (cWd a b v ||| ((if ((a ^^^ b) &&& (a ^^^ v)) &&& 32768 = 0 then (0 : Int32) else 4) ||| 2)) := by
    rw [← e, fl_mW hf3]
    exact zfl_r _ _ _ _ _ _ _ _
  have eF : t3.1 3 1 = s3.1 36 1 := f3
  intro r r' er er'
  have em := p_wdM (μ := t3) (d := inferInstance) (n := 1) (K := 0 ≤ ((a &&& 4095) - (b &&& 4095)) - (σ.1 36 1 &&& 1)) rfl (Or.inl ⟨rfl, rfl, Iff.rfl⟩) r' er'
  rw [eF, e] at em
  have cC : zpc (zbv (((a ^^^ b) &&& (a ^^^ v)) &&& 32768) (fun v8 => zck (zin 1 29) (if v8 = 0 then fX5_takePair_63 (zsi s3 36 1 (cWd a b v)) 0 (zgi (zsi s3 36 1 (cWd a b v)) 36 (1 : Int32).toNatClampNeg) 1 else fX5_takePair_63 (zsi s3 36 1 (cWd a b v)) 4 (zgi (zsi s3 36 1 (cWd a b v)) 36 (1 : Int32).toNatClampNeg) 1))) (fun r => r = (zsi s3 36 1 (cWd a b v ||| ((if ((a ^^^ b) &&& (a ^^^ v)) &&& 32768 = 0 then (0 : Int32) else 4) ||| 2)), 15)) := by
    refine zpc_bv (fun w ew => zpc_ck ?_)
    subst ew
    refine zpc_jx (K := fun g => fX5_takePair_63 (zsi s3 36 1 (cWd a b v)) g (zgi (zsi s3 36 1 (cWd a b v)) 36 (1 : Int32).toNatClampNeg) 1) (a := 0) (b := 4) rfl rfl (fun g eg => ?_)
    unfold fX5_takePair_63
    refine zpc_ck (zpc_bv (fun t et => zpc_some ?_))
    rw [et, eg]
    show (zsi (zsi s3 36 1 (cWd a b v)) 36 1 (cWd a b v ||| ((if ((a ^^^ b) &&& (a ^^^ v)) &&& 32768 = 0 then (0 : Int32) else 4) ||| 2)), (15 : Int32)) = _
    rw [zsi_ow]
  rw [cC r er, em]
  exact ⟨(h3.onC hI (Or.inl rfl) (zrg_b (Or.inl (by decide)) rF)).onM hI (Or.inl rfl), rfl, w3, rfl⟩
end ZWD
end ZJN0
section ZJN1
/-! ED -/
theorem zp2_bulp {α β : Type} {o : Option zSt} {p : Option β} {f : zSt → Option α} {P : zSt → β → Prop} {Q : α → β → Prop} (h : zp2 o p P) (k : ∀ s b, P s b → zp2 (f s) (some b) Q) : zp2 (zbu o f) p Q := by
  intro a b ea eb
  cases e : o with
  | none => rw [e] at ea; cases ea
  | some r =>
    rw [e] at ea
    exact k r b (h r b e eb) a b ea rfl
theorem v_inf : ∀ i : Fin 256, ∀ c : Bool, zfl (d7 (Int32.ofNat i.val)) (d6 (Int32.ofNat i.val)) (d5 (Int32.ofNat i.val)) false (d3 (Int32.ofNat i.val)) (bc (gev (Int32.ofNat i.val))) false c = ((bif c then 1 else 0) ||| cby (Int32.ofNat i.val)) ||| cpar (Int32.ofNat i.val) := by decide +kernel
theorem v_in {f w : Int32} (hf : zr 0 255 f) (hw : zr 0 255 w) : pt (pt (pt (gby f w) 2 (gev w)) 4 0) 1 0 = ((f &&& 1) ||| cby w) ||| cpar w := by
  rw [z_f1 hf]
  obtain ⟨i, e⟩ := z_byteF hw
  subst e
  rw [← v_inf i]
  conv => lhs; rw [fl_of hf, fl_by, pt_2, pt_4, pt_1]
  rfl
theorem r_in {f w : Int32} (hf : zr 0 255 f) (hw : zr 0 255 w) : zr 0 255 (((f &&& 1) ||| cby w) ||| cpar w) := by
  rw [← v_in hf hw, fl_of hf, fl_by, pt_2, pt_4, pt_1]
  exact zfl_r _ _ _ _ _ _ _ _
theorem v_irf : ∀ i : Fin 256, ∀ c o : Bool, zfl (d7 (Int32.ofNat i.val)) (d6 (Int32.ofNat i.val)) (d5 (Int32.ofNat i.val)) false (d3 (Int32.ofNat i.val)) o false c = ((bif c then 1 else 0) ||| cby (Int32.ofNat i.val)) ||| (bif o then 4 else 0) := by decide +kernel
theorem v_ir {f w : Int32} {K : Prop} {d : Decidable K} (hf : zr 0 255 f) (hw : zr 0 255 w) : pt (pt (pt (gby f w) 2 (@ite _ K d 1 0)) 4 0) 1 0 = ((f &&& 1) ||| cby w) ||| (@ite _ K d 4 0) := by
  rw [z_f1 hf]
  obtain ⟨i, e⟩ := z_byteF hw
  subst e
  have eo : (@ite _ K d (4 : Int32) 0) = bif bc (@ite _ K d 1 0) then 4 else 0 := by
    by_cases q : K
    · rw [if_pos q, if_pos q]; rfl
    · rw [if_neg q, if_neg q]; rfl
  rw [eo, ← v_irf i]
  conv => lhs; rw [fl_of hf, fl_by, pt_2, pt_4, pt_1]
  rfl
theorem r_ir {f w : Int32} {K : Prop} {d : Decidable K} (hf : zr 0 255 f) (hw : zr 0 255 w) : zr 0 255 (((f &&& 1) ||| cby w) ||| (@ite _ K d 4 0)) := by
  rw [← v_ir hf hw, fl_of hf, fl_by, pt_2, pt_4, pt_1]
  exact zfl_r _ _ _ _ _ _ _ _
section ZED
variable {I : zSt → zSt → Prop} {σ μ : zSt}
theorem p_pC2 : zpc (fX5_pairAt σ 2) (fun r => r = (σ, (σ.1 36 2 <<< ((8 : Int32) &&& 31)) ||| σ.1 36 3)) := by
  unfold fX5_pairAt
  exact zpc_ck (zpc_ck (zpc_some rfl))
theorem p_pM2 : zpc (fX12_pair μ 2) (fun r => r = (μ, (μ.1 3 2 <<< ((8 : Int32) &&& 31)) ||| μ.1 3 3)) := by
  unfold fX12_pair
  exact zpc_ck (zpc_ck (zpc_some rfl))
theorem p_pC6 : zpc (fX5_pairAt σ 6) (fun r => r = (σ, (σ.1 36 6 <<< ((8 : Int32) &&& 31)) ||| σ.1 36 7)) := by
  unfold fX5_pairAt
  exact zpc_ck (zpc_ck (zpc_some rfl))
theorem t_in26 (hI : zIoK I) (h : zTT I σ μ) (hF : zF σ μ) {v x : Int32} (rv : zr 0 255 v) (hx : σ.1 36 20 = x) : zp2 (fX5_takeFromPort_26 σ v) (fX12_more_133 μ x v) (fun s b => zEnq I (s, 12) b) := by
  have ef : μ.1 3 1 = σ.1 36 1 := hF
  have hf : zr 0 255 (σ.1 36 1) := h.b (by decide)
  unfold fX5_takeFromPort_26 fX12_more_133
  refine zp2_ckl (zp2_bil p_byC (fun s1 v1 e1 => ?_))
  cases e1
  refine zp2_bil p_parC (fun s1 v1 e1 => ?_)
  cases e1
  refine zp2_ckl (zp2_bvl (fun s2 f2 => ?_))
  refine zp2_bur p_by' (fun t1 e1 => ?_)
  rw [ef] at e1
  subst e1
  refine zp2_bir p_even (fun t1 v1 e1 => ?_)
  cases e1
  refine zp2_bur p_put (fun t1 e1 => ?_)
  subst e1
  refine zp2_bur p_put (fun t1 e1 => ?_)
  subst e1
  refine zp2_bur p_put (fun t1 e1 => zp2_ckr (zp2_bvr (fun t2 g2 => zp2_some ?_)))
  rw [v_in hf rv] at e1
  subst e1
  subst g2
  subst f2
  refine ⟨((h.onC hI (Or.inl rfl) (zrg_b (Or.inl (by decide)) (r_in hf rv))).onM hI (Or.inl rfl)).onM hI (Or.inr rfl), rfl, ?_, rfl⟩
  exact hx.symm
theorem t_edin (hI : zIoK I) (hPo : zPorts I) (h : zTT I σ μ) (hF : zF σ μ) (hp : zPlc σ μ) {y : Int32} (hy : zr 0 7 y) : zp2 (zbi (fX5_pairAt σ 2) (fun σ3 v4 => zck (zin 20 29) (zbv (zsi σ3 36 ((20 : Int32).toNatClampNeg) ((v4 + 1) &&& 65535)) (fun σ5 => zbu (fX5_takeFromPort σ5 y) (fun σ6 => some (σ6, (12 : Int32))))))) (zbi (fX12_pair μ 2) (fun σ15 v16 => zbv ((v16 + 1) &&& 65535) (fun v17 => zck (zin 3 1048) (zbi (fX12_port σ15 (zgi σ15 3 (3 : Int32).toNatClampNeg)) (fun σ18 v19 => if y = 6 then fX12_more_133 σ18 v17 v19 else zbu (fX12_rTo σ18 y v19) (fun σ20 => fX12_more_133 σ20 v17 v19)))))) (zEnq I) := by
  refine zp2_sm (t_pair2 h) (fun v rv => zp2_ckl (zp2_bvl (fun s1 f1 => zp2_bvr (fun x ex => zp2_ckr ?_))))
  have h1 : zTT I s1 μ := by rw [f1]; exact h.onC hI (Or.inr rfl) (zrg_w (by decide) (by decide) (z_r16 _))
  have F1 : zF s1 μ := hF.of (by rw [f1]; rfl) rfl
  have w1 : s1.1 36 20 = x := by rw [f1, ex]; rfl
  have p1 : zPlc s1 μ := hp.of (by rw [f1]; rfl) (by rw [f1]; rfl) (by rw [f1]; rfl) rfl rfl
  unfold fX5_takeFromPort
  refine zp2_bulp (P := fun s b => zEnq I (s, 12) b) ?_ (fun s b q => zp2_some q)
  refine zp2_ckl ?_
  rw [show zgi μ 3 (3 : Int32).toNatClampNeg = zgi s1 36 (3 : Int32).toNatClampNeg from h1.eq (j := 3) (by decide)]
  refine zp2_bii (hPo.2 _ _ _ h1 (h1.b (j := 3) (by decide))) (fun s2 u t2 u' q => ?_)
  obtain ⟨h2, e2, ru, k2⟩ := q
  have e2 : u' = u := e2
  subst e2
  have F2 : zF s2 t2 := k2.f F1
  have w2 : s2.1 36 20 = x := (k2.1 20).trans w1
  refine zp2_if (fun _ => t_in26 hI h2 F2 ru w2) (fun _ => ?_)
  refine zp2_buu (t_putOne hI h2 (p1.of k2.2.2.1 (k2.1 6) (k2.1 7) (k2.2.1 20 (by decide)) k2.2.2.2) hy (z_m255 ru) ru) (fun s3 t3 q => ?_)
  obtain ⟨h3, qc, qm⟩ := q
  exact t_in26 hI h3 (F2.of (qc.1 36 1 rfl) (qm.1 3 1 rfl)) ru ((qc.1 36 20 rfl).trans w2)
theorem t_edo (hI : zIoK I) (hPo : zPorts I) (h : zTT I σ μ) (hF : zF σ μ) {v : Int32} (rv : zr 0 255 v) (hw : σ.1 36 20 = (((σ.1 36 2 <<< ((8 : Int32) &&& 31)) ||| σ.1 36 3) + 1) &&& 65535) : zp2 (fX5_behindEd_131 σ v (zgi σ 36 (3 : Int32).toNatClampNeg)) (fX12_more_195 μ v (zgi σ 36 (3 : Int32).toNatClampNeg)) (zEnq I) := by
  unfold fX5_behindEd_131 fX12_more_195
  refine zp2_buu (hPo.1 _ _ _ _ h (h.b (j := 3) (by decide)) rv) (fun s t q => ?_)
  obtain ⟨h1, k1⟩ := q
  refine zp2_bir p_pM2 (fun t1 v1 e1 => ?_)
  cases e1
  refine zp2_ckr (zp2_bvr (fun t2 g2 => zp2_some ?_))
  subst g2
  refine ⟨h1.onM hI (Or.inr rfl), k1.f hF, ?_, rfl⟩
  show (((t.1 3 2 <<< ((8 : Int32) &&& 31)) ||| t.1 3 3) + 1) &&& 65535 = s.1 36 20
  rw [k1.1 20, hw, h1.eq (by decide), h1.eq (by decide), k1.1 2, k1.1 3]
theorem t_edout (hI : zIoK I) (hPo : zPorts I) (h : zTT I σ μ) (hF : zF σ μ) (hp : zPlc σ μ) {y : Int32} (hy : zr 0 7 y) : zp2 (zbi (fX5_pairAt σ 2) (fun σ7 v8 => zck (zin 20 29) (zbv (zsi σ7 36 ((20 : Int32).toNatClampNeg) ((v8 + 1) &&& 65535)) (fun σ9 => zck (zin 3 29) (if y = 6 then fX5_behindEd_131 σ9 0 (zgi σ9 36 (3 : Int32).toNatClampNeg) else zbi (fX5_one σ9 y) (fun σ10 v11 => fX5_behindEd_131 σ10 v11 (zgi σ9 36 (3 : Int32).toNatClampNeg))))))) (zck (zin 3 1048) (if y = 6 then fX12_more_195 μ 0 (zgi μ 3 (3 : Int32).toNatClampNeg) else zbi (fX12_r μ y) (fun σ21 v22 => fX12_more_195 σ21 v22 (zgi μ 3 (3 : Int32).toNatClampNeg)))) (zEnq I) := by
  refine zp2_bil p_pC2 (fun s0 v0 e0 => ?_)
  cases e0
  refine zp2_ckl (zp2_bvl (fun s1 f1 => zp2_ckl (zp2_ckr ?_)))
  have h1 : zTT I s1 μ := by rw [f1]; exact h.onC hI (Or.inr rfl) (zrg_w (by decide) (by decide) (z_r16 _))
  have F1 : zF s1 μ := hF.of (by rw [f1]; rfl) rfl
  have w1 : s1.1 36 20 = (((s1.1 36 2 <<< ((8 : Int32) &&& 31)) ||| s1.1 36 3) + 1) &&& 65535 := by rw [f1]; rfl
  have p1 : zPlc s1 μ := hp.of (by rw [f1]; rfl) (by rw [f1]; rfl) (by rw [f1]; rfl) rfl rfl
  rw [show zgi μ 3 (3 : Int32).toNatClampNeg = zgi s1 36 (3 : Int32).toNatClampNeg from h1.eq (j := 3) (by decide)]
  exact zp2_if (fun _ => t_edo hI hPo h1 F1 (zr_c (by decide)) w1) (fun _ => zp2_sm (t_one h1 p1 hy) (fun v rv => t_edo hI hPo h1 F1 rv w1))
/-! ld (nn), rp and back -/
theorem t_edfar (hI : zIoK I) (h : zTT I σ μ) (hF : zF σ μ) {y : Int32} (hy : zr 0 7 y) : zp2 (fX5_farPair σ y) (zbi (fX12_nextWord μ ) (fun σ23 v24 => zck (decide (¬ (2 : Int32) = 0)) (if (zrem y 2) = 0 then zbi (fX12_rp σ23 (y >>> ((1 : Int32) &&& 31))) (fun σ28 v29 => zbu (fX12_wordTo σ28 v24 v29) (fun σ30 => fX12_more_281 σ30 v24)) else zbi (fX12_word σ23 v24) (fun σ25 v26 => zbu (fX12_rpTo σ25 (y >>> ((1 : Int32) &&& 31)) v26) (fun σ27 => fX12_more_281 σ27 v24))))) (zEnq I) := by
  obtain ⟨par, hp⟩ := z_par hy
  unfold fX5_farPair fX5_farPair_51 fX12_more_281
  refine zp2_bii (t_word hI h) (fun s v t v' q => ?_)
  obtain ⟨h0, e1, rv, qc, qm⟩ := q
  have e1 : v' = v := e1
  subst e1
  have F0 : zF s t := hF.of (qc.1 36 1 rfl) (qm.1 3 1 rfl)
  refine zp2_ckl (zp2_bvl (fun s1 f1 => zp2_ckr ?_))
  have h1 : zTT I s1 t := by rw [f1]; exact h0.onC hI (Or.inr rfl) (zrg_w (by decide) (by decide) (z_r16 _))
  have F1 : zF s1 t := F0.of (by rw [f1]; rfl) rfl
  have wz : ∀ s3 : zSt, s3.1 36 20 = s1.1 36 20 → s3 = zsi s3 36 20 ((v' + 1) &&& 65535) := fun s3 e3 => by
    have e : s3.1 36 20 = (v' + 1) &&& 65535 := by rw [e3, f1]; rfl
    rw [← e]; exact zsi_own.symm
  rcases par with ⟨e1, e2⟩ | ⟨e1, e2⟩
  · rw [e1, e2]
    refine zp2_ifl (fun _ => zp2_ifr (fun _ => ?_) (fun q => absurd rfl q)) (fun q => absurd rfl q)
    refine zp2_sm (t_rp h1 hp) (fun w rw1 => ?_)
    refine zp2_buu (t_wword h1.1 rfl rfl rw1) (fun s3 t3 q => zp2_ckr (zp2_bvr (fun t4 g4 => zp2_some ?_)))
    obtain ⟨hm, qc3, qm3⟩ := q
    rw [wz s3 (qc3.1 36 20 rfl), g4]
    exact zEnq.wz hI (h1.mem hI hm qc3 qm3) (F1.of (qc3.1 36 1 rfl) (qm3.1 3 1 rfl)) rfl (z_r16 _)
  · rw [e1, e2]
    refine zp2_ifl (fun q => absurd q (by decide)) (fun _ => zp2_ifr (fun q => absurd q (by decide)) (fun _ => ?_))
    refine zp2_sm (t_rword h1.1 rfl) (fun w rw1 => ?_)
    refine zp2_buu (t_rpTo hI h1 rfl) (fun s3 t3 q => zp2_ckr (zp2_bvr (fun t4 g4 => zp2_some ?_)))
    obtain ⟨h3, qc3, qm3⟩ := q
    rw [wz s3 (qc3.1 36 20 rfl), g4]
    exact zEnq.wz hI h3 (F1.of (qc3.1 36 1 rfl) (qm3.1 3 1 rfl)) rfl (z_r16 _)
/-! neg -/
theorem p_does2 {b : Int32} : zpc (fX12_does μ 2 b) (fun r => r = zsi (zsi μ 3 1 (mF (μ.1 3 1) (hS (μ.1 3 0) b 0) (cX ((μ.1 3 0 - b) - 0)) (((μ.1 3 0 - b) - 0) &&& 255) (oX ((sg (μ.1 3 0) - sg b) - 0)) 1)) 3 0 (((μ.1 3 0 - b) - 0) &&& 255)) := by
  unfold fX12_does fX12_does_101 fX12_does_111 fX12_does_120 fX12_does_132
  refine zpc_ck (zpc_bv (fun a ea => ?_))
  subst ea
  exact zpc_if (fun _ => zpc_if (fun q => absurd q (by decide)) (fun _ => zpc_if (fun q => absurd q (by decide)) (fun _ => zpc_if (fun _ => zpc_if (fun _ => p_subM (by decide)) (fun q => absurd rfl q)) (fun q => absurd (by decide) q)))) (fun q => absurd (by decide) q)
theorem t_neg (hI : zIoK I) (h : zTT I σ μ) (hF : zF σ μ) (hW : zWzz σ μ) : zp2 (zck (zin 0 29) (zbi (fX5_difference σ 0 (zgi σ 36 (0 : Int32).toNatClampNeg) 0) (fun σ18 v19 => zck (zin 0 29) (zbv (zsi σ18 36 ((0 : Int32).toNatClampNeg) v19) (fun σ20 => some (σ20, (8 : Int32))))))) (zck (zin 0 1048) (zbv (zgi μ 3 (0 : Int32).toNatClampNeg) (fun v31 => zck (zin 0 1048) (zbv (zsi μ 3 ((0 : Int32).toNatClampNeg) 0) (fun σ32 => zbu (fX12_does σ32 2 v31) (fun σ33 => some (σ33, (8 : Int32)))))))) (zEnq I) := by
  have ea : μ.1 3 0 = σ.1 36 0 := h.eq (by decide)
  have ef : μ.1 3 1 = σ.1 36 1 := hF
  have ha : zr 0 255 (σ.1 36 0) := h.b (by decide)
  have hf : zr 0 255 (σ.1 36 1) := h.b (by decide)
  have c0 : zr 0 1 (0 : Int32) := zr_c (by decide)
  have z0 : zr 0 255 (0 : Int32) := zr_c (by decide)
  have cC : zpc (fX5_difference σ 0 (zgi σ 36 (0 : Int32).toNatClampNeg) 0) (fun r => r = (zsi σ 36 1 (cdif 0 (σ.1 36 0) 0), ((0 - σ.1 36 0) - 0) &&& 255)) := p_difC
  refine zp2_ckl (zp2_bil cC (fun s1 v1 e1 => ?_))
  cases e1
  refine zp2_ckl (zp2_bvl (fun s2 f2 => zp2_ckr (zp2_bvr (fun x ex => zp2_ckr (zp2_bvr (fun t1 g1 => zp2_bur p_does2 (fun t2 e2 => zp2_some ?_)))))))
  have ex : x = σ.1 36 0 := ex.trans ea
  subst ex
  have g0 : t1.1 3 0 = 0 := by rw [g1]; rfl
  have gf : t1.1 3 1 = σ.1 36 1 := by rw [g1]; exact ef
  have eF : mF (t1.1 3 1) (hS (t1.1 3 0) (σ.1 36 0) 0) (cX ((t1.1 3 0 - σ.1 36 0) - 0)) (((t1.1 3 0 - σ.1 36 0) - 0) &&& 255) (oX ((sg (t1.1 3 0) - sg (σ.1 36 0)) - 0)) 1 = cdif 0 (σ.1 36 0) 0 := by
    rw [g0, gf, fl_mF hf, ← v_dif z0 ha c0]
    rfl
  rw [eF, g0] at e2
  exact zEnq_af hI h hW (by rw [f2]; exact zQ.wi (zQ.wi zQ.rf rfl) rfl) (by rw [e2, g1]; exact zQ.wi (zQ.wi (zQ.wi zQ.rf rfl) rfl) rfl) (by rw [f2]; rfl) (by rw [f2]; rfl) (by rw [e2]; rfl) (by rw [e2]; rfl) rfl rfl (z_r8 _) (cdif_r z0 ha c0)
theorem t_retn (hI : zIoK I) (h : zTT I σ μ) (hF : zF σ μ) : zp2 (zbi (fX5_pop σ ) (fun σ21 v22 => zbu (fX5_goTo σ21 v22) (fun σ23 => zck (zin 24 29) (zck (zin 23 29) (zbv (zsi σ23 36 ((23 : Int32).toNatClampNeg) (zgi σ23 36 (24 : Int32).toNatClampNeg)) (fun σ24 => some (σ24, (14 : Int32)))))))) (zbi (fX12_pop μ ) (fun σ34 v35 => zck (zin 19 1048) (zbv (zsi σ34 3 ((19 : Int32).toNatClampNeg) v35) (fun σ36 => zck (zin 19 1048) (zck (zin 20 1048) (zbv (zsi σ36 3 ((20 : Int32).toNatClampNeg) (zgi σ36 3 (19 : Int32).toNatClampNeg)) (fun σ37 => zck (zin 24 1048) (zck (zin 23 1048) (zbv (zsi σ37 3 ((23 : Int32).toNatClampNeg) (zgi σ37 3 (24 : Int32).toNatClampNeg)) (fun σ38 => some (σ38, (14 : Int32)))))))))))) (zEnq I) := by
  refine zp2_bii (t_pop hI h) (fun s v t v' q => ?_)
  obtain ⟨h1, e1, rv, qc, qm⟩ := q
  have e1 : v' = v := e1
  subst e1
  refine zp2_bul p_goC (fun s2 e2 => zp2_ckl (zp2_ckl (zp2_bvl (fun s3 f3 => zp2_ckr (zp2_bvr (fun t1 g1 => zp2_ckr (zp2_ckr (zp2_bvr (fun t2 g2 => zp2_ckr (zp2_ckr (zp2_bvr (fun t3 g3 => zp2_some ?_))))))))))))
  have g2 : t2 = zsi (zsi t 3 19 v') 3 20 v' := by rw [g2, g1]; rfl
  have z := zEnq.go hI h1 (hF.of (qc.1 36 1 rfl) (qm.1 3 1 rfl)) rv (b := 0)
  have zT' : zTT I s2 t2 := by rw [e2, g2]; exact z.1
  have zF' : zF s2 t2 := by rw [e2, g2]; exact z.2.1
  have zW' : zWzz s2 t2 := by rw [e2, g2]; exact z.2.2.1
  subst f3
  subst g3
  exact ⟨zT'.upd hI [23] (zQ.wi zQ.rf rfl) (zQ.wi zQ.rf rfl) rfl (zAl1 ⟨zT'.eq (j := 24) (by decide), zrg_1 (by decide) (by decide) ((zT'.g (j := 24) (by decide)).2.2.2.1 (by decide) (by decide))⟩), zF', zW', rfl⟩
theorem v_im : ∀ i : Fin 8, (zmax 0 ((Int32.ofNat i.val &&& 3) - 1) = if 2 ≤ zrem (Int32.ofNat i.val) 4 then zrem (Int32.ofNat i.val) 4 - 1 else 0) ∧ 0 ≤ (zmax 0 ((Int32.ofNat i.val &&& 3) - 1)).toInt ∧ (zmax 0 ((Int32.ofNat i.val &&& 3) - 1)).toInt ≤ 2 := by decide +kernel
theorem t_im (hI : zIoK I) (h : zTT I σ μ) (hF : zF σ μ) (hW : zWzz σ μ) {y : Int32} (hy : zr 0 7 y) : zp2 (zck (zin 25 29) (zbv (zsi σ 36 ((25 : Int32).toNatClampNeg) (zmax 0 ((y &&& 3) - 1))) (fun σ25 => some (σ25, (8 : Int32))))) (zck (decide (¬ (4 : Int32) = 0)) (if 2 ≤ (zrem y 4) then zck (decide (¬ (4 : Int32) = 0)) (fX12_more_387 μ ((zrem y 4) - 1) 25) else fX12_more_387 μ 0 25)) (zEnq I) := by
  have v : (zmax 0 ((y &&& 3) - 1) = if 2 ≤ zrem y 4 then zrem y 4 - 1 else 0) ∧ zr 0 2 (zmax 0 ((y &&& 3) - 1)) := by
    obtain ⟨i, e⟩ := z_fin8 hy
    subst e
    exact v_im i
  obtain ⟨v1, v2⟩ := v
  have fin : ∀ x : Int32, zmax 0 ((y &&& 3) - 1) = x → zp2 (zck (zin 25 29) (zbv (zsi σ 36 ((25 : Int32).toNatClampNeg) (zmax 0 ((y &&& 3) - 1))) (fun σ25 => some (σ25, (8 : Int32))))) (fX12_more_387 μ x 25) (zEnq I) := fun x e => by
    unfold fX12_more_387
    refine zp2_ckl (zp2_bvl (fun s f => zp2_ckr (zp2_bvr (fun t g => zp2_some ?_))))
    rw [e] at f v2
    subst f
    subst g
    exact ⟨h.upd hI [25] (zQ.wi zQ.rf rfl) (zQ.wi zQ.rf rfl) rfl (zAl1 ⟨rfl, ⟨fun q => absurd q (by decide), fun _ q => absurd q (by decide), fun _ q => absurd q (by decide), fun _ q => absurd q (by decide), fun _ => v2, fun q _ => absurd q (by decide)⟩⟩), hF, hW, rfl⟩
  refine zp2_ckr ?_
  by_cases q : 2 ≤ zrem y 4
  · rw [if_pos q] at v1
    exact zp2_ifr (fun _ => zp2_ckr (fin _ v1)) (fun r => absurd q r)
  · rw [if_neg q] at v1
    exact zp2_ifr (fun r => absurd r q) (fun _ => fin _ v1)
end ZED
end ZJN1
section ZJN2
/-! ED: SPECIALS -/
theorem v_rld : ∀ i : Fin 256, ∀ k : Fin 16, (((Int32.ofNat i.val <<< ((4 : Int32) &&& 31)) ||| Int32.ofNat k.val) &&& 255 = ((Int32.ofNat i.val <<< ((4 : Int32) &&& 31)) &&& 255) ||| Int32.ofNat k.val) := by decide +kernel
theorem v_rld2 : ∀ i : Fin 256, ∀ k : Fin 16, 0 ≤ (((Int32.ofNat i.val <<< ((4 : Int32) &&& 31)) &&& 255) ||| Int32.ofNat k.val).toInt ∧ (((Int32.ofNat i.val <<< ((4 : Int32) &&& 31)) &&& 255) ||| Int32.ofNat k.val).toInt ≤ 255 := by decide +kernel
theorem v_rrd : ∀ i : Fin 256, ∀ k : Fin 16, 0 ≤ ((Int32.ofNat k.val <<< ((4 : Int32) &&& 31)) ||| (Int32.ofNat i.val >>> ((4 : Int32) &&& 31))).toInt ∧ ((Int32.ofNat k.val <<< ((4 : Int32) &&& 31)) ||| (Int32.ofNat i.val >>> ((4 : Int32) &&& 31))).toInt ≤ 255 := by decide +kernel
theorem v_sh4 : ∀ i : Fin 256, 0 ≤ (Int32.ofNat i.val >>> ((4 : Int32) &&& 31)).toInt ∧ (Int32.ofNat i.val >>> ((4 : Int32) &&& 31)).toInt ≤ 255 := by decide +kernel
theorem z_r15 (x : Int32) : ∃ k : Fin 16, x &&& 15 = Int32.ofNat k.val := by
  have h : zr 0 15 (x &&& 15) := zr_andr (lo := 0) (hi := 15) (zr_c (lo := 15) (hi := 15) (by decide)) (by decide)
  obtain ⟨h0, h1⟩ := h
  obtain ⟨i, hi⟩ : ∃ i : Nat, (x &&& 15).toInt = i := ⟨(x &&& 15).toInt.toNat, by omega⟩
  exact ⟨⟨i, by omega⟩, z_ofN hi⟩
section ZSP
variable {I : zSt → zSt → Prop} {σ μ : zSt}
theorem p_220 {f y : Int32} : zpc (fX12_specials_220 (zsi μ 3 1 f) y) (fun r => r = (zsi μ 3 1 (pt (pt f 4 0) 1 0), if 4 ≤ y then 18 else 9)) := by
  unfold fX12_specials_220 fX12_specials_244
  refine zpc_bu p_put (fun s e => ?_)
  subst e
  refine zpc_bu p_put (fun s e => ?_)
  subst e
  exact zpc_if (fun q => zpc_some (by rw [if_pos q])) (fun q => zpc_some (by rw [if_neg q]))
theorem t_ir (hI : zIoK I) (h : zTT I σ μ) (hF : zF σ μ) (hW : zWzz σ μ) {y v : Int32} (hy : ¬ 4 ≤ y) (rv : zr 0 255 v) {k : Int32} (hk : zgi μ 3 k.toNatClampNeg = v) : zp2 (fX5_moreOfA_99 σ v 0) (fX12_specials_64 μ y k 0) (zEnq I) := by
  have ef : μ.1 3 1 = σ.1 36 1 := hF
  have e24 : μ.1 3 24 = σ.1 36 24 := h.eq (by decide)
  have hf : zr 0 255 (σ.1 36 1) := h.b (by decide)
  have cC : zpc (fX5_moreOfA_99 σ v 0) (fun r => r = (zsi (zsi σ 36 0 v) 36 1 (((σ.1 36 1 &&& 1) ||| cby v) ||| (if σ.1 36 24 = 1 then 4 else 0)), 9)) := by
    unfold fX5_moreOfA_99
    refine zpc_ck (zpc_bv (fun s1 f1 => zpc_ck (zpc_ck ?_)))
    have g0 : zgi s1 36 (0 : Int32).toNatClampNeg = v := by rw [f1]; rfl
    have g1 : zgi s1 36 (1 : Int32).toNatClampNeg = σ.1 36 1 := by rw [f1]; rfl
    have g24 : zgi s1 36 (24 : Int32).toNatClampNeg = σ.1 36 24 := by rw [f1]; rfl
    rw [g0, g1]
    refine zpc_bi p_byC (fun s2 v2 e2 => ?_)
    cases e2
    rw [g24]
    refine zpc_ck (zpc_jx (K := fun x => fX5_moreOfA_139 s1 x ((σ.1 36 1 &&& 1) ||| cby v) 1) (a := 4) (b := 0) rfl rfl (fun x ex => ?_))
    unfold fX5_moreOfA_139
    refine zpc_ck (zpc_bv (fun s3 f3 => zpc_some ?_))
    rw [f3, f1, ex]
    rfl
  have cM : zpc (fX12_specials_64 μ y k 0) (fun r => r = (zsi (zsi μ 3 0 v) 3 1 (pt (pt (pt (gby (σ.1 36 1) v) 2 (if σ.1 36 24 = 1 then 1 else 0)) 4 0) 1 0), 9)) := by
    unfold fX12_specials_64
    refine zpc_ck (zpc_ck (zpc_bv (fun s1 f1 => zpc_ck ?_)))
    rw [hk] at f1
    have g0 : zgi s1 3 (0 : Int32).toNatClampNeg = v := by rw [f1]; rfl
    have g1 : s1.1 3 1 = σ.1 36 1 := by rw [f1]; exact ef
    rw [g0]
    refine zpc_bu p_by' (fun s2 e2 => zpc_ck ?_)
    rw [g1] at e2
    subst e2
    have g24 : zgi (zsi s1 3 1 (gby (σ.1 36 1) v)) 3 (24 : Int32).toNatClampNeg = σ.1 36 24 := by rw [f1]; exact e24
    rw [g24]
    refine zpc_jx (K := fun x => fX12_specials_94 (zsi s1 3 1 (gby (σ.1 36 1) v)) y x 2) (a := 1) (b := 0) rfl rfl (fun x ex => ?_)
    unfold fX12_specials_94
    refine zpc_bu p_put (fun s3 e3 => ?_)
    subst e3
    intro r er
    rw [p_220 r er, if_neg hy, f1, ex]
    rfl
  intro r r' er er'
  rw [cC r er, cM r' er', v_ir hf rv]
  exact zEnq_af hI h hW (zQ.wi (zQ.wi zQ.rf rfl) rfl) (zQ.wi (zQ.wi zQ.rf rfl) rfl) rfl rfl rfl rfl rfl rfl rv (r_ir hf rv)
/-- behind RLD and RRD: A, and the flags -/
theorem t_rldd (hI : zIoK I) (h : zTT I σ μ) (hF : zF σ μ) (hW : zWzz σ μ) {y s0 s1 : Int32} (hy : 4 ≤ y) (rv : zr 0 255 (s1 ||| s0)) : zp2 (zbu (fX5_turnDigits_102 σ s0 s1 0) (fun s => some (s, (18 : Int32)))) (fX12_specials_194 μ y s0 s1 0) (zEnq I) := by
  have ef : μ.1 3 1 = σ.1 36 1 := hF
  have hf : zr 0 255 (σ.1 36 1) := h.b (by decide)
  have cC : zpc (fX5_turnDigits_102 σ s0 s1 0) (fun r => r = zsi (zsi σ 36 0 (s1 ||| s0)) 36 1 (((σ.1 36 1 &&& 1) ||| cby (s1 ||| s0)) ||| cpar (s1 ||| s0))) := by
    unfold fX5_turnDigits_102
    refine zpc_ck (zpc_bv (fun t1 f1 => zpc_ck (zpc_ck ?_)))
    have g0 : zgi t1 36 (0 : Int32).toNatClampNeg = s1 ||| s0 := by rw [f1]; rfl
    have g1 : zgi t1 36 (1 : Int32).toNatClampNeg = σ.1 36 1 := by rw [f1]; rfl
    rw [g0, g1]
    refine zpc_bi p_byC (fun s2 v2 e2 => ?_)
    cases e2
    rw [g0]
    refine zpc_ck (zpc_bi p_parC (fun s2 v2 e2 => ?_))
    cases e2
    refine zpc_ck (zpc_bv (fun s3 f3 => zpc_some ?_))
    rw [f3, f1]
    rfl
  have cM : zpc (fX12_specials_194 μ y s0 s1 0) (fun r => r = (zsi (zsi μ 3 0 (s1 ||| s0)) 3 1 (pt (pt (pt (gby (σ.1 36 1) (s1 ||| s0)) 2 (gev (s1 ||| s0))) 4 0) 1 0), 18)) := by
    unfold fX12_specials_194
    refine zpc_ck (zpc_bv (fun t1 f1 => zpc_ck ?_))
    have g0 : zgi t1 3 (0 : Int32).toNatClampNeg = s1 ||| s0 := by rw [f1]; rfl
    have g1 : t1.1 3 1 = σ.1 36 1 := by rw [f1]; exact ef
    rw [g0]
    refine zpc_bu p_by' (fun s2 e2 => zpc_ck ?_)
    rw [g1] at e2
    subst e2
    rw [show zgi (zsi t1 3 1 (gby (σ.1 36 1) (s1 ||| s0))) 3 (0 : Int32).toNatClampNeg = s1 ||| s0 from g0]
    refine zpc_bi p_even (fun s3 v3 e3 => ?_)
    cases e3
    refine zpc_bu p_put (fun s3 e3 => ?_)
    subst e3
    intro r er
    rw [p_220 r er, if_pos hy, f1]
    rfl
  refine zp2_bul cC (fun s es => ?_)
  intro r r' er er'
  cases er
  rw [cM r' er', v_in hf rv, es]
  exact zEnq_af hI h hW (zQ.wi (zQ.wi zQ.rf rfl) rfl) (zQ.wi (zQ.wi zQ.rf rfl) rfl) rfl rfl rfl rfl rfl rfl rv (r_in hf rv)
theorem z_ua {α : Type} {o : Option zSt} {f : zSt → Option zSt} {g : zSt → Option α} : zbu (zbu o f) g = zbu o (fun s => zbu (f s) g) := by
  cases o with
  | none => rfl
  | some s => rfl
theorem t_dig4 (hI : zIoK I) (h : zTT I σ μ) (hF : zF σ μ) : zp2 (fX5_moreOfA_155 σ 1) (fX12_specials μ 4) (zEnq I) := by
  unfold fX5_moreOfA_155 fX5_turnDigits fX12_specials
  refine zp2_ifr (fun _ => zp2_ifr (fun _ => zp2_ifr (fun _ => ?_) (fun q => absurd (by decide) q)) (fun q => absurd (by decide) q)) (fun q => absurd (by decide) q)
  have tp := t_pair6 h
  refine zp2_bulp (P := fun s b => zEnq I (s, 18) b) ?_ (fun s b q => zp2_some q)
  refine zp2_sm tp (fun v rv => ?_)
  refine zp2_ckr (zp2_bvr (fun t1 g1 => ?_))
  have h1 : zTT I σ t1 := by rw [g1]; exact h.onM hI (Or.inr rfl)
  refine zp2_rd h1.1 rfl (fun b rb => zp2_ckl (zp2_bvl (fun v12 e12 => zp2_ckl (zp2_bvl (fun s2 f2 => zp2_ckr (zp2_bvr (fun v18 e18 => ?_)))))))
  have ea : zgi t1 3 (0 : Int32).toNatClampNeg = zgi σ 36 (0 : Int32).toNatClampNeg := h1.eq (j := 0) (by decide)
  have ev : v18 = v12 := by rw [e18, e12, ea]
  subst ev
  have h2 : zTT I s2 t1 := by rw [f2]; exact h1.onC hI (Or.inr rfl) (zrg_w (by decide) (by decide) (z_r16 _))
  have F2 : zF s2 t1 := by rw [f2, g1]; exact hF
  have W2 : zWzz s2 t1 := by rw [f2, g1]; rfl
  obtain ⟨k, ek⟩ := z_r15 (zgi σ 36 (0 : Int32).toNatClampNeg)
  rw [← e12] at ek
  obtain ⟨i, ei⟩ := z_byteF rb
  refine zp2_ifl (fun q => absurd q (by decide)) (fun _ => zp2_ifr (fun _ => ?_) (fun q => absurd rfl q))
  unfold fX5_turnDigits_70 fX12_specials_161
  have rW : zr 0 255 ((v18 <<< ((4 : Int32) &&& 31)) ||| (b >>> ((4 : Int32) &&& 31))) := by
    rw [ek, ei]
    exact v_rrd i k
  refine zp2_wr h2.1 rfl (z_m255 rW) rW (fun s3 t3 hm q1 q2 => zp2_ckl (zp2_ckr ?_))
  have h3 := h2.mem hI hm q1 q2
  have F3 : zF s3 t3 := F2.of (q1.1 36 1 rfl) (q2.1 3 1 rfl)
  have W3 : zWzz s3 t3 := W2.of (q1.1 36 20 rfl) (q2.1 3 20 rfl)
  have ea3 : zgi t3 3 (0 : Int32).toNatClampNeg = zgi s3 36 (0 : Int32).toNatClampNeg := h3.eq (j := 0) (by decide)
  rw [ea3]
  refine zp2_ifl (fun q => absurd q (by decide)) (fun _ => zp2_ifr (fun _ => ?_) (fun q => absurd rfl q))
  have rA : zr 0 255 (((zgi s3 36 (0 : Int32).toNatClampNeg) &&& 240) ||| (b &&& 15)) := z_ob (zr_andr (lo := 0) (hi := 255) (zr_c (lo := 240) (hi := 240) (by decide)) (by decide)) (zr_andr (lo := 0) (hi := 255) (zr_c (lo := 15) (hi := 15) (by decide)) (by decide))
  have t := t_rldd hI h3 F3 W3 (y := 4) (by decide) rA
  intro r r' er er'
  refine t (r, 18) r' ?_ er'
  rw [er]
  rfl
theorem t_dig5 (hI : zIoK I) (h : zTT I σ μ) (hF : zF σ μ) : zp2 (fX5_moreOfA_155 σ 0) (fX12_specials μ 5) (zEnq I) := by
  unfold fX5_moreOfA_155 fX5_turnDigits fX12_specials
  refine zp2_ifr (fun _ => zp2_ifr (fun _ => zp2_ifr (fun _ => ?_) (fun q => absurd (by decide) q)) (fun q => absurd (by decide) q)) (fun q => absurd (by decide) q)
  have tp := t_pair6 h
  refine zp2_bulp (P := fun s b => zEnq I (s, 18) b) ?_ (fun s b q => zp2_some q)
  refine zp2_sm tp (fun v rv => ?_)
  refine zp2_ckr (zp2_bvr (fun t1 g1 => ?_))
  have h1 : zTT I σ t1 := by rw [g1]; exact h.onM hI (Or.inr rfl)
  refine zp2_rd h1.1 rfl (fun b rb => zp2_ckl (zp2_bvl (fun v12 e12 => zp2_ckl (zp2_bvl (fun s2 f2 => zp2_ckr (zp2_bvr (fun v18 e18 => ?_)))))))
  have ea : zgi t1 3 (0 : Int32).toNatClampNeg = zgi σ 36 (0 : Int32).toNatClampNeg := h1.eq (j := 0) (by decide)
  have ev : v18 = v12 := by rw [e18, e12, ea]
  subst ev
  have h2 : zTT I s2 t1 := by rw [f2]; exact h1.onC hI (Or.inr rfl) (zrg_w (by decide) (by decide) (z_r16 _))
  have F2 : zF s2 t1 := by rw [f2, g1]; exact hF
  have W2 : zWzz s2 t1 := by rw [f2, g1]; rfl
  obtain ⟨k, ek⟩ := z_r15 (zgi σ 36 (0 : Int32).toNatClampNeg)
  rw [← e12] at ek
  obtain ⟨i, ei⟩ := z_byteF rb
  refine zp2_ifl (fun _ => zp2_ifr (fun q => absurd q (by decide)) (fun _ => ?_)) (fun q => absurd rfl q)
  unfold fX5_turnDigits_70 fX12_specials_161
  have rW : zr 0 255 (((b <<< ((4 : Int32) &&& 31)) &&& 255) ||| v18) := by
    rw [ek, ei]
    exact v_rld2 i k
  refine zp2_wr h2.1 rfl (by rw [ek, ei]; exact v_rld i k) rW (fun s3 t3 hm q1 q2 => zp2_ckl (zp2_ckr ?_))
  have h3 := h2.mem hI hm q1 q2
  have F3 : zF s3 t3 := F2.of (q1.1 36 1 rfl) (q2.1 3 1 rfl)
  have W3 : zWzz s3 t3 := W2.of (q1.1 36 20 rfl) (q2.1 3 20 rfl)
  have ea3 : zgi t3 3 (0 : Int32).toNatClampNeg = zgi s3 36 (0 : Int32).toNatClampNeg := h3.eq (j := 0) (by decide)
  rw [ea3]
  refine zp2_ifl (fun _ => zp2_ifr (fun q => absurd q (by decide)) (fun _ => ?_)) (fun q => absurd rfl q)
  have rA : zr 0 255 (((zgi s3 36 (0 : Int32).toNatClampNeg) &&& 240) ||| (b >>> ((4 : Int32) &&& 31))) := z_ob (zr_andr (lo := 0) (hi := 255) (zr_c (lo := 240) (hi := 240) (by decide)) (by decide)) (by rw [ei]; exact v_sh4 i)
  have t := t_rldd hI h3 F3 W3 (y := 5) (by decide) rA
  intro r r' er er'
  refine t (r, 18) r' ?_ er'
  rw [er]
  rfl
theorem t_spec (hI : zIoK I) (h : zTT I σ μ) (hF : zF σ μ) (hW : zWzz σ μ) {y : Int32} (hy : zr 0 7 y) : zp2 (fX5_moreOfA σ y) (fX12_specials μ y) (zEnq I) := by
  have ea : zgi μ 3 (0 : Int32).toNatClampNeg = zgi σ 36 (0 : Int32).toNatClampNeg := h.eq (j := 0) (by decide)
  have ha : zr 0 255 (σ.1 36 0) := h.b (by decide)
  rcases zr_hd (c := 0) hy rfl with e | hy
  · subst e
    unfold fX5_moreOfA fX12_specials fX12_specials_28
    refine zp2_ifl (fun _ => ?_) (fun q => absurd rfl q)
    refine zp2_ifr (fun _ => zp2_ifr (fun q => absurd q (by decide)) (fun _ => zp2_ifr (fun _ => ?_) (fun q => absurd rfl q))) (fun q => absurd (by decide) q)
    refine zp2_ckl (zp2_ckl (zp2_bvl (fun s f => zp2_ckr (zp2_ckr (zp2_bvr (fun t g => zp2_some ?_))))))
    rw [ea] at g
    subst f
    subst g
    exact ⟨h.upd hI [21] (zQ.wi zQ.rf rfl) (zQ.wi zQ.rf rfl) rfl (zAl1 ⟨rfl, zrg_b (Or.inr (Or.inl rfl)) ha⟩), hF, hW, rfl⟩
  rcases zr_hd (c := 1) hy rfl with e | hy
  · subst e
    unfold fX5_moreOfA fX12_specials fX12_specials_28
    refine zp2_ifl (fun q => absurd q (by decide)) (fun _ => zp2_ifl (fun _ => ?_) (fun q => absurd rfl q))
    refine zp2_ifr (fun _ => zp2_ifr (fun q => absurd q (by decide)) (fun _ => zp2_ifr (fun q => absurd q (by decide)) (fun _ => ?_))) (fun q => absurd (by decide) q)
    refine zp2_ckl (zp2_ckl (zp2_bvl (fun s f => zp2_ckr (zp2_ckr (zp2_bvr (fun t g => zp2_some ?_))))))
    rw [ea] at g
    subst f
    subst g
    exact ⟨h.upd hI [22] (zQ.wi zQ.rf rfl) (zQ.wi zQ.rf rfl) rfl (zAl1 ⟨rfl, zrg_b (Or.inr (Or.inr rfl)) ha⟩), hF, hW, rfl⟩
  rcases zr_hd (c := 2) hy rfl with e | hy
  · subst e
    unfold fX5_moreOfA fX12_specials fX5_moreOfA_72
    refine zp2_ifl (fun q => absurd q (by decide)) (fun _ => zp2_ifl (fun q => absurd q (by decide)) (fun _ => zp2_ifl (fun _ => ?_) (fun q => absurd rfl q)))
    refine zp2_ifl (fun _ => ?_) (fun q => absurd rfl q)
    refine zp2_ifr (fun _ => zp2_ifr (fun _ => zp2_ifr (fun q => absurd q (by decide)) (fun _ => zp2_ifr (fun _ => ?_) (fun q => absurd rfl q))) (fun q => absurd (by decide) q)) (fun q => absurd (by decide) q)
    exact zp2_ckl (t_ir hI h hF hW (by decide) ((h.g (j := 21) (by decide)).2.2.1 (by decide) (by decide)) (h.eq (j := 21) (by decide)))
  rcases zr_hd (c := 3) hy rfl with e | hy
  · subst e
    unfold fX5_moreOfA fX12_specials fX5_moreOfA_72
    refine zp2_ifl (fun q => absurd q (by decide)) (fun _ => zp2_ifl (fun q => absurd q (by decide)) (fun _ => zp2_ifl (fun q => absurd q (by decide)) (fun _ => zp2_ifl (fun _ => ?_) (fun q => absurd rfl q))))
    refine zp2_ifl (fun q => absurd q (by decide)) (fun _ => ?_)
    refine zp2_ifr (fun _ => zp2_ifr (fun _ => zp2_ifr (fun q => absurd q (by decide)) (fun _ => zp2_ifr (fun q => absurd q (by decide)) (fun _ => ?_))) (fun q => absurd (by decide) q)) (fun q => absurd (by decide) q)
    exact zp2_ckl (t_ir hI h hF hW (by decide) ((h.g (j := 22) (by decide)).2.2.1 (by decide) (by decide)) (h.eq (j := 22) (by decide)))
  rcases zr_hd (c := 4) hy rfl with e | hy
  · subst e
    unfold fX5_moreOfA fX5_moreOfA_144
    refine zp2_ifl (fun q => absurd q (by decide)) (fun _ => zp2_ifl (fun q => absurd q (by decide)) (fun _ => zp2_ifl (fun q => absurd q (by decide)) (fun _ => zp2_ifl (fun q => absurd q (by decide)) (fun _ => zp2_ifl (fun _ => ?_) (fun q => absurd rfl q)))))
    refine zp2_ifl (fun _ => ?_) (fun q => absurd rfl q)
    exact t_dig4 hI h hF
  rcases zr_hd (c := 5) hy rfl with e | hy
  · subst e
    unfold fX5_moreOfA fX5_moreOfA_144
    refine zp2_ifl (fun q => absurd q (by decide)) (fun _ => zp2_ifl (fun q => absurd q (by decide)) (fun _ => zp2_ifl (fun q => absurd q (by decide)) (fun _ => zp2_ifl (fun q => absurd q (by decide)) (fun _ => zp2_ifl (fun q => absurd q (by decide)) (fun _ => zp2_ifl (fun _ => ?_) (fun q => absurd rfl q))))))
    refine zp2_ifl (fun q => absurd q (by decide)) (fun _ => ?_)
    exact t_dig5 hI h hF
  have n : ∀ k : Int32, k.toInt < 6 → ¬ y = k := fun k hk e => by rw [e] at hy; have := hy.1; omega
  have n5 : ¬ y ≤ 5 := fun q => by have := Int32.le_iff_toInt_le.mp q; have := hy.1; have c : (5 : Int32).toInt = 5 := rfl; omega
  unfold fX5_moreOfA fX12_specials
  exact zp2_ifl (fun q => absurd q (n 0 (by decide))) (fun _ => zp2_ifl (fun q => absurd q (n 1 (by decide))) (fun _ => zp2_ifl (fun q => absurd q (n 2 (by decide))) (fun _ => zp2_ifl (fun q => absurd q (n 3 (by decide))) (fun _ => zp2_ifl (fun q => absurd q (n 4 (by decide))) (fun _ => zp2_ifl (fun q => absurd q (n 5 (by decide))) (fun _ => zp2_ifr (fun q => absurd q n5) (fun _ => zp2_some ⟨h, hF, hW, rfl⟩)))))))
theorem v_blk : ∀ i : Fin 256, (Int32.ofNat i.val >>> ((6 : Int32) &&& 31) = 2 ∧ ¬ (Int32.ofNat i.val >>> ((3 : Int32) &&& 31)) &&& 7 ≤ 3 ∧ ¬ 4 ≤ Int32.ofNat i.val &&& 7) ↔ Int32.ofNat i.val &&& 228 = 160 := by decide +kernel
theorem z_blk {op : Int32} (h : zr 0 255 op) : (op >>> ((6 : Int32) &&& 31) = 2 ∧ ¬ (op >>> ((3 : Int32) &&& 31)) &&& 7 ≤ 3 ∧ ¬ 4 ≤ op &&& 7) ↔ op &&& 228 = 160 := by
  obtain ⟨i, e⟩ := z_byteF h
  subst e
  exact v_blk i
theorem t_ed (hI : zIoK I) (hPo : zPorts I) (h : zTT I σ μ) (hF : zF σ μ) (hW : zWzz σ μ) (hp : zPlc σ μ) {op : Int32} (ho : zr 0 255 op) (hb : ¬ op &&& 228 = 160) : zp2 (fX5_behindEd σ op) (fX12_more μ op) (zEnq I) := by
  have hy : zr 0 7 ((op >>> ((3 : Int32) &&& 31)) &&& 7) := z_r7 _
  have hz : zr 0 7 (op &&& 7) := z_r7 _
  have nb := fun q => hb ((z_blk ho).mp q)
  have eM : fX12_more μ op = fX12_more_42 μ (op >>> ((6 : Int32) &&& 31)) ((op >>> ((3 : Int32) &&& 31)) &&& 7) (op &&& 7) := by
    unfold fX12_more
    show (if op >>> ((6 : Int32) &&& 31) = 2 then (if (op >>> ((3 : Int32) &&& 31)) &&& 7 ≤ 3 then fX12_more_42 μ (op >>> ((6 : Int32) &&& 31)) ((op >>> ((3 : Int32) &&& 31)) &&& 7) (op &&& 7) else if 4 ≤ op &&& 7 then fX12_more_42 μ (op >>> ((6 : Int32) &&& 31)) ((op >>> ((3 : Int32) &&& 31)) &&& 7) (op &&& 7) else zbi (fX12_blocks μ ((op >>> ((3 : Int32) &&& 31)) &&& 7) (op &&& 7)) (fun σ44 v45 => some (σ44, v45))) else fX12_more_42 μ (op >>> ((6 : Int32) &&& 31)) ((op >>> ((3 : Int32) &&& 31)) &&& 7) (op &&& 7)) = _
    by_cases a : op >>> ((6 : Int32) &&& 31) = 2
    · rw [if_pos a]
      by_cases b : (op >>> ((3 : Int32) &&& 31)) &&& 7 ≤ 3
      · rw [if_pos b]
      · rw [if_neg b]
        by_cases c : 4 ≤ op &&& 7
        · rw [if_pos c]
        · exact absurd ⟨a, b, c⟩ nb
    · rw [if_neg a]
  rw [eM]
  unfold fX5_behindEd fX12_more_42 fX5_behindEd_160
  refine zp2_if (fun _ => ?_) (fun _ => zp2_some ⟨h, hF, hW, rfl⟩)
  refine zp2_bvl (fun y ey => ?_)
  rw [← ey] at hy ⊢
  clear ey eM nb hb ho
  generalize op &&& 7 = z at hz
  rcases zr_hd (c := 0) hz rfl with e | hz
  · subst e
    exact zp2_ifl (fun _ => zp2_ifr (fun _ => t_edin hI hPo h hF hp hy) (fun q => absurd rfl q)) (fun q => absurd rfl q)
  rcases zr_hd (c := 1) hz rfl with e | hz
  · subst e
    exact zp2_ifl (fun q => absurd q (by decide)) (fun _ => zp2_ifl (fun _ => zp2_ifr (fun q => absurd q (by decide)) (fun _ => zp2_ifr (fun _ => t_edout hI hPo h hF hp hy) (fun q => absurd rfl q))) (fun q => absurd rfl q))
  rcases zr_hd (c := 2) hz rfl with e | hz
  · subst e
    obtain ⟨par, hpp⟩ := z_par hy
    refine zp2_ifl (fun q => absurd q (by decide)) (fun _ => zp2_ifl (fun q => absurd q (by decide)) (fun _ => zp2_ifl (fun _ => zp2_ifr (fun q => absurd q (by decide)) (fun _ => zp2_ifr (fun q => absurd q (by decide)) (fun _ => zp2_ifr (fun _ => zp2_ckr ?_) (fun q => absurd rfl q)))) (fun q => absurd rfl q)))
    rcases par with ⟨e1, e2⟩ | ⟨e1, e2⟩
    · rw [e1, e2]
      exact zp2_ifl (fun _ => zp2_ifr (fun q => absurd q (by decide)) (fun _ => zp2_bilp (t_wdS hI h hF hpp) (fun s v b q => zp2_some q))) (fun q => absurd rfl q)
    · rw [e1, e2]
      exact zp2_ifl (fun q => absurd q (by decide)) (fun _ => zp2_ifr (fun _ => zp2_bilp (t_wdA hI h hF hpp) (fun s v b q => zp2_some q)) (fun q => absurd rfl q))
  rcases zr_hd (c := 3) hz rfl with e | hz
  · subst e
    exact zp2_ifl (fun q => absurd q (by decide)) (fun _ => zp2_ifl (fun q => absurd q (by decide)) (fun _ => zp2_ifl (fun q => absurd q (by decide)) (fun _ => zp2_ifl (fun _ => zp2_ifr (fun q => absurd q (by decide)) (fun _ => zp2_ifr (fun q => absurd q (by decide)) (fun _ => zp2_ifr (fun q => absurd q (by decide)) (fun _ => zp2_ifr (fun _ => zp2_bilp (t_edfar hI h hF hy) (fun s v b q => zp2_some q)) (fun q => absurd rfl q))))) (fun q => absurd rfl q))))
  rcases zr_hd (c := 4) hz rfl with e | hz
  · subst e
    exact zp2_ifl (fun q => absurd q (by decide)) (fun _ => zp2_ifl (fun q => absurd q (by decide)) (fun _ => zp2_ifl (fun q => absurd q (by decide)) (fun _ => zp2_ifl (fun q => absurd q (by decide)) (fun _ => zp2_ifl (fun _ => zp2_ifr (fun q => absurd q (by decide)) (fun _ => zp2_ifr (fun q => absurd q (by decide)) (fun _ => zp2_ifr (fun q => absurd q (by decide)) (fun _ => zp2_ifr (fun q => absurd q (by decide)) (fun _ => zp2_ifr (fun _ => t_neg hI h hF hW) (fun q => absurd rfl q)))))) (fun q => absurd rfl q)))))
  rcases zr_hd (c := 5) hz rfl with e | hz
  · subst e
    exact zp2_ifl (fun q => absurd q (by decide)) (fun _ => zp2_ifl (fun q => absurd q (by decide)) (fun _ => zp2_ifl (fun q => absurd q (by decide)) (fun _ => zp2_ifl (fun q => absurd q (by decide)) (fun _ => zp2_ifl (fun q => absurd q (by decide)) (fun _ => zp2_ifl (fun _ => zp2_ifr (fun q => absurd q (by decide)) (fun _ => zp2_ifr (fun q => absurd q (by decide)) (fun _ => zp2_ifr (fun q => absurd q (by decide)) (fun _ => zp2_ifr (fun q => absurd q (by decide)) (fun _ => zp2_ifr (fun q => absurd q (by decide)) (fun _ => zp2_ifr (fun _ => t_retn hI h hF) (fun q => absurd rfl q))))))) (fun q => absurd rfl q))))))
  rcases zr_hd (c := 6) hz rfl with e | hz
  · subst e
    exact zp2_ifl (fun q => absurd q (by decide)) (fun _ => zp2_ifl (fun q => absurd q (by decide)) (fun _ => zp2_ifl (fun q => absurd q (by decide)) (fun _ => zp2_ifl (fun q => absurd q (by decide)) (fun _ => zp2_ifl (fun q => absurd q (by decide)) (fun _ => zp2_ifl (fun q => absurd q (by decide)) (fun _ => zp2_ifl (fun _ => zp2_ifr (fun q => absurd q (by decide)) (fun _ => zp2_ifr (fun q => absurd q (by decide)) (fun _ => zp2_ifr (fun q => absurd q (by decide)) (fun _ => zp2_ifr (fun q => absurd q (by decide)) (fun _ => zp2_ifr (fun q => absurd q (by decide)) (fun _ => zp2_ifr (fun q => absurd q (by decide)) (fun _ => zp2_ifr (fun _ => t_im hI h hF hW hy) (fun q => absurd rfl q)))))))) (fun q => absurd rfl q)))))))
  rcases zr_hd (c := 7) hz rfl with e | hz
  · subst e
    exact zp2_ifl (fun q => absurd q (by decide)) (fun _ => zp2_ifl (fun q => absurd q (by decide)) (fun _ => zp2_ifl (fun q => absurd q (by decide)) (fun _ => zp2_ifl (fun q => absurd q (by decide)) (fun _ => zp2_ifl (fun q => absurd q (by decide)) (fun _ => zp2_ifl (fun q => absurd q (by decide)) (fun _ => zp2_ifl (fun q => absurd q (by decide)) (fun _ => zp2_ifr (fun q => absurd q (by decide)) (fun _ => zp2_ifr (fun q => absurd q (by decide)) (fun _ => zp2_ifr (fun q => absurd q (by decide)) (fun _ => zp2_ifr (fun q => absurd q (by decide)) (fun _ => zp2_ifr (fun q => absurd q (by decide)) (fun _ => zp2_ifr (fun q => absurd q (by decide)) (fun _ => zp2_ifr (fun q => absurd q (by decide)) (fun _ => zp2_bii (t_spec hI h hF hW hy) (fun s v t w q => zp2_some q)))))))))))))))
  exact zr_no9 hz (by decide)
end ZSP
end ZJN2
section ZJN3
/-! THE BLOCKS -/
theorem zbt_l1 : ∀ i, i < 32 → ((2 : Int32).toBitVec.getLsbD i = decide (i = 1)) := by decide
theorem zbt_m1 {x : Int32} : x &&& 2 = bif zbt 1 x then 2 else 0 := by
  refine Int32.toBitVec_inj.1 (BitVec.eq_of_getLsbD_eq (fun i hi => ?_))
  rw [Int32.toBitVec_and, BitVec.getLsbD_and, zbt_l1 i hi]
  unfold zbt
  by_cases q : i = 1
  · subst q
    cases h : x.toBitVec.getLsbD 1 <;> rfl
  · rw [decide_eq_false q, Bool.and_false]
    cases h : x.toBitVec.getLsbD 1
    · exact (BitVec.getLsbD_zero (w := 32)).symm
    · exact ((zbt_l1 i hi).trans (decide_eq_false q)).symm
theorem z_x5 {x : Int32} : bc (if x &&& 2 = 0 then 0 else 1) = zbt 1 x := by
  rw [zbt_m1]
  cases zbt 1 x <;> rfl
theorem z_x3 {x : Int32} : bc (if x &&& 8 = 0 then 0 else 1) = zbt 3 x := by
  rw [zbt_m3]
  cases zbt 3 x <;> rfl
theorem z_x5s {x : Int32} : (x &&& 2) <<< ((4 : Int32) &&& 31) = bif zbt 1 x then 32 else 0 := by
  rw [zbt_m1]
  cases zbt 1 x <;> rfl
theorem v_193f : ∀ i : Fin 256, Int32.ofNat i.val &&& 193 = ((bif decide (¬ Int32.ofNat i.val &&& 128 = 0) then 128 else 0) ||| (bif decide (¬ Int32.ofNat i.val &&& 64 = 0) then 64 else 0)) ||| (bif decide (¬ Int32.ofNat i.val &&& 1 = 0) then 1 else 0) := by decide +kernel
theorem z_193 {f : Int32} (h : zr 0 255 f) : f &&& 193 = ((bif decide (¬ f &&& 128 = 0) then 128 else 0) ||| (bif decide (¬ f &&& 64 = 0) then 64 else 0)) ||| (bif decide (¬ f &&& 1 = 0) then 1 else 0) := by
  obtain ⟨i, e⟩ := z_byteF h
  rw [e]
  exact v_193f i
theorem v_ldB : ∀ b7 b6 b5 b3 b2 b0 : Bool, zfl b7 b6 b5 false b3 b2 false b0 = (((((bif b7 then 128 else 0) ||| (bif b6 then 64 else 0)) ||| (bif b0 then 1 else 0)) ||| (bif b5 then 32 else 0)) ||| (bif b3 then 8 else 0)) ||| (bif b2 then 4 else 0) := by decide
theorem v_cpiB : ∀ i : Fin 256, ∀ h x y n c : Bool, zfl (d7 (Int32.ofNat i.val)) (d6 (Int32.ofNat i.val)) x h y n true c = (((((((bif c then 1 else 0) ||| (Int32.ofNat i.val &&& 128)) ||| (if Int32.ofNat i.val = 0 then 64 else 0)) ||| (bif h then 16 else 0)) ||| (bif x then 32 else 0)) ||| (bif y then 8 else 0)) ||| (bif n then 4 else 0)) ||| 2 := by decide +kernel
theorem v_tellf : ∀ i : Fin 256, ((Int32.ofNat i.val >>> ((6 : Int32) &&& 31)) &&& 2 = bif bc (if Int32.ofNat i.val ≤ 127 then 0 else 1) then 2 else 0) ∧ (cpar (Int32.ofNat i.val) = bif bc (gev (Int32.ofNat i.val)) then 4 else 0) := by decide +kernel
theorem v_tellB : ∀ b7 b6 b5 h b3 b2 n : Bool, zfl b7 b6 b5 h b3 b2 n h = ((zfl b7 b6 b5 false b3 false false false ||| (bif n then 2 else 0)) ||| (bif h then 17 else 0)) ||| (bif b2 then 4 else 0) := by decide
theorem v_bk2 : ∀ i : Fin 256, Int32.ofNat i.val &&& 228 = 160 → (Int32.ofNat i.val &&& 3 = Int32.ofNat i.val &&& 7 ∧ ((Int32.ofNat i.val &&& 8 = 0 ∧ zrem ((Int32.ofNat i.val >>> ((3 : Int32) &&& 31)) &&& 7) 2 = 0) ∨ (Int32.ofNat i.val &&& 8 = 8 ∧ zrem ((Int32.ofNat i.val >>> ((3 : Int32) &&& 31)) &&& 7) 2 = 1)) ∧ (Int32.ofNat i.val &&& 16 = 0 ↔ (Int32.ofNat i.val >>> ((3 : Int32) &&& 31)) &&& 7 < 6) ∧ (Int32.ofNat i.val &&& 2 = 0 ↔ ¬ 2 ≤ Int32.ofNat i.val &&& 7) ∧ (Int32.ofNat i.val &&& 7).toInt ≤ 3) := by decide +kernel
section ZBL
variable {I : zSt → zSt → Prop} {σ μ : zSt}
theorem t_bk77 (hI : zIoK I) (h : zTT I σ μ) (hF : zF σ μ) (hW : zWzz σ μ) {op y z v : Int32} (k1 : op &&& 16 = 0 ↔ y < 6) (k2 : op &&& 2 = 0 ↔ ¬ 2 ≤ z) : zp2 (fX5_block_77 σ op v) (fX12_blocks_584 μ y z v) (zEnq I) := by
  unfold fX5_block_77 fX12_blocks_584 fX5_block_88 fX12_blocks_595 fX5_block_135 fX12_blocks_641
  have e16 : zEnq I (σ, 16) (μ, 16) := ⟨h, hF, hW, rfl⟩
  by_cases v0 : v = 0
  · refine zp2_ifl (fun _ => zp2_ifr (fun _ => zp2_some e16) (fun _ => zp2_ifr (fun _ => zp2_some e16) (fun q => absurd v0 q))) (fun q => absurd v0 q)
  refine zp2_ifl (fun q => absurd q v0) (fun _ => ?_)
  by_cases y6 : y < 6
  · exact zp2_ifl (fun _ => zp2_ifr (fun _ => zp2_some e16) (fun q => absurd y6 q)) (fun q => absurd (k1.mpr y6) q)
  refine zp2_ifl (fun q => absurd (k1.mp q) y6) (fun _ => zp2_ifr (fun q => absurd q y6) (fun _ => zp2_ifr (fun q => absurd q v0) (fun _ => ?_)))
  refine zp2_ckl (zp2_ckl (zp2_bvl (fun s1 f1 => zp2_ckr (zp2_ckr (zp2_bvr (fun t1 g1 => ?_))))))
  rw [show zgi μ 3 (19 : Int32).toNatClampNeg = zgi σ 36 (19 : Int32).toNatClampNeg from h.eq (j := 19) (by decide)] at g1
  have h1 : zTT I s1 t1 := by rw [f1, g1]; exact h.upd hI [19] (zQ.wi zQ.rf rfl) (zQ.wi zQ.rf rfl) rfl (zAl1 ⟨rfl, zrg_w (by decide) (by decide) (z_r16 _)⟩)
  have F1 : zF s1 t1 := by rw [f1, g1]; exact hF
  have W1 : zWzz s1 t1 := by rw [f1, g1]; exact hW
  by_cases z2 : 2 ≤ z
  · exact zp2_ifl (fun q => absurd z2 (k2.mp q)) (fun _ => zp2_ifr (fun _ => zp2_some ⟨h1, F1, W1, rfl⟩) (fun q => absurd z2 q))
  · refine zp2_ifl (fun _ => zp2_ifr (fun q => absurd q z2) (fun _ => ?_)) (fun q => absurd (k2.mpr z2) q)
    refine zp2_ckl (zp2_ckl (zp2_bvl (fun s2 f2 => zp2_ckr (zp2_ckr (zp2_bvr (fun t2 g2 => zp2_some ?_))))))
    rw [f2, g2]
    exact zEnq.wz hI h1 F1 (by rw [show zgi t1 3 (19 : Int32).toNatClampNeg = zgi s1 36 (19 : Int32).toNatClampNeg from h1.eq (j := 19) (by decide)]) (z_r16 _)
/-- the class has done its step: what is left of both -/
noncomputable def zBkk (I : zSt → zSt → Prop) (op : Int32) (r : zSt × Int32) (b : zSt × Int32) : Prop := ∀ a, fX5_block_77 r.1 op r.2 = some a → zEnq I a b
theorem zBkk.of {op : Int32} {s : zSt} {v : Int32} {p : Option (zSt × Int32)} (h : zp2 (fX5_block_77 s op v) p (zEnq I)) : zp2 (some (s, v)) p (zBkk I op) := by
  intro a b ea eb
  cases ea
  exact fun x ex => h x b ex eb
theorem t_mv {j : Nat} (hW : zWzz σ μ) (hF : zF σ μ) {s t : zSt} (hj : j = 2 ∨ j = 4 ∨ j = 6) (qc : zQ [] [(36, j, j), (36, j + 1, j + 1)] [] [] σ s) (qm : zQ [] [(3, j, j), (3, j + 1, j + 1)] [] [] μ t) : zF s t ∧ zWzz s t := by
  rcases hj with e | e | e <;> subst e <;> exact ⟨hF.of (qc.1 36 1 rfl) (qm.1 3 1 rfl), hW.of (qc.1 36 20 rfl) (qm.1 3 20 rfl)⟩
/-- a pair is counted on -/
theorem t_cnt2 (hI : zIoK I) (h : zTT I σ μ) (hF : zF σ μ) (hW : zWzz σ μ) {g : Int32 → Int32} {α β : Type} {Q : α → β → Prop} {f : zSt → Option α} {k : zSt → Option β} (c : ∀ s t, zTT I s t → zF s t → zWzz s t → s.1 36 0 = σ.1 36 0 → zp2 (f s) (k t) Q) : zp2 (zbi (fX5_pairAt σ 2) (fun s v => zbu (fX5_putPairAt s 2 (g v)) f)) (zbi (fX12_pair μ 2) (fun s v => zbu (fX12_pairTo s 2 (g v)) k)) Q := by
  refine zp2_sm (t_pair2 h) (fun v rv => zp2_buu (t_pairTo2 hI h rfl) (fun s t q => ?_))
  obtain ⟨h1, qc, qm⟩ := q
  obtain ⟨F1, W1⟩ := t_mv (j := 2) hW hF (by decide) qc qm
  exact c s t h1 F1 W1 (qc.1 36 0 rfl)
theorem t_cnt4 (hI : zIoK I) (h : zTT I σ μ) (hF : zF σ μ) (hW : zWzz σ μ) {g : Int32 → Int32} {α β : Type} {Q : α → β → Prop} {f : zSt → Option α} {k : zSt → Option β} (c : ∀ s t, zTT I s t → zF s t → zWzz s t → s.1 36 0 = σ.1 36 0 → zp2 (f s) (k t) Q) : zp2 (zbi (fX5_pairAt σ 4) (fun s v => zbu (fX5_putPairAt s 4 (g v)) f)) (zbi (fX12_pair μ 4) (fun s v => zbu (fX12_pairTo s 4 (g v)) k)) Q := by
  refine zp2_sm (t_pair4 h) (fun v rv => zp2_buu (t_pairTo4 hI h rfl) (fun s t q => ?_))
  obtain ⟨h1, qc, qm⟩ := q
  obtain ⟨F1, W1⟩ := t_mv (j := 4) hW hF (by decide) qc qm
  exact c s t h1 F1 W1 (qc.1 36 0 rfl)
theorem t_cnt6 (hI : zIoK I) (h : zTT I σ μ) (hF : zF σ μ) (hW : zWzz σ μ) {g : Int32 → Int32} {α β : Type} {Q : α → β → Prop} {f : zSt → Option α} {k : zSt → Option β} (c : ∀ s t, zTT I s t → zF s t → zWzz s t → s.1 36 0 = σ.1 36 0 → zp2 (f s) (k t) Q) : zp2 (zbi (fX5_pairAt σ 6) (fun s v => zbu (fX5_putPairAt s 6 (g v)) f)) (zbi (fX12_pair μ 6) (fun s v => zbu (fX12_pairTo s 6 (g v)) k)) Q := by
  refine zp2_sm (t_pair6 h) (fun v rv => zp2_buu (t_pairTo6 hI h rfl) (fun s t q => ?_))
  obtain ⟨h1, qc, qm⟩ := q
  obtain ⟨F1, W1⟩ := t_mv (j := 6) hW hF (by decide) qc qm
  exact c s t h1 F1 W1 (qc.1 36 0 rfl)
theorem p_b249 {y z f g : Int32} (hz : z = 0 ∨ z = 1) {b7 b6 b5 b4 b3 b2 b1 b0 : Bool} (hf : f = zfl b7 b6 b5 b4 b3 b2 b1 b0) {Q : zSt × Int32 → Prop} (c : zpc (fX12_blocks_584 (zsi μ 3 1 (zfl b7 b6 b5 b4 b3 (bc (if ((μ.1 3 2 <<< ((8 : Int32) &&& 31)) ||| μ.1 3 3) = 0 then 0 else 1)) (bc g) b0)) y z (if ((μ.1 3 2 <<< ((8 : Int32) &&& 31)) ||| μ.1 3 3) = 0 then 0 else if z = 0 then 1 else bif b6 then 0 else 1)) Q) : zpc (fX12_blocks_249 (zsi μ 3 1 f) y z g 1) Q := by
  subst hf
  unfold fX12_blocks_249
  refine zpc_bu p_put (fun s e => ?_)
  rw [pt_1] at e
  subst e
  refine zpc_bi p_pM2 (fun s v e => ?_)
  cases e
  show zpc (if ((μ.1 3 2 <<< ((8 : Int32) &&& 31)) ||| μ.1 3 3) = 0 then fX12_blocks_267 (zsi μ 3 1 (zfl b7 b6 b5 b4 b3 b2 (decide (¬ g = 0)) b0)) y z 0 2 else fX12_blocks_267 (zsi μ 3 1 (zfl b7 b6 b5 b4 b3 b2 (decide (¬ g = 0)) b0)) y z 1 2) Q
  by_cases q : ((μ.1 3 2 <<< ((8 : Int32) &&& 31)) ||| μ.1 3 3) = 0
  · rw [if_pos q] at c ⊢
    rw [if_pos q] at c
    unfold fX12_blocks_267 fX12_blocks_296 fX12_blocks_297
    refine zpc_bu p_put (fun s e => ?_)
    rw [pt_2] at e
    subst e
    refine zpc_bi p_flag (fun s v e => ?_)
    cases e
    rw [show (zsi μ 3 1 (zfl b7 b6 b5 b4 b3 (decide (¬ (0 : Int32) = 0)) (decide (¬ g = 0)) b0)).1 3 1 = zfl b7 b6 b5 b4 b3 false (decide (¬ g = 0)) b0 from rfl, fl_g2]
    exact zpc_if (fun q => absurd q (by decide)) (fun _ => c)
  · rw [if_neg q] at c ⊢
    rw [if_neg q] at c
    unfold fX12_blocks_267 fX12_blocks_296 fX12_blocks_297 fX12_blocks_292
    refine zpc_bu p_put (fun s e => ?_)
    rw [pt_2] at e
    subst e
    refine zpc_bi p_flag (fun s v e => ?_)
    cases e
    rw [show (zsi μ 3 1 (zfl b7 b6 b5 b4 b3 (decide (¬ (1 : Int32) = 0)) (decide (¬ g = 0)) b0)).1 3 1 = zfl b7 b6 b5 b4 b3 true (decide (¬ g = 0)) b0 from rfl, fl_g2]
    refine zpc_if (fun _ => ?_) (fun q => absurd rfl q)
    rcases hz with e | e
    · subst e
      exact zpc_if (fun _ => c) (fun q => absurd rfl q)
    · subst e
      refine zpc_if (fun q => absurd q (by decide)) (fun _ => zpc_bi p_flag (fun s v e => ?_))
      cases e
      rw [show (zsi μ 3 1 (zfl b7 b6 b5 b4 b3 (decide (¬ (1 : Int32) = 0)) (decide (¬ g = 0)) b0)).1 3 1 = zfl b7 b6 b5 b4 b3 true (decide (¬ g = 0)) b0 from rfl, fl_g6]
      cases b6
      · exact zpc_if (fun _ => c) (fun q => absurd rfl q)
      · exact zpc_if (fun q => absurd q (by decide)) (fun _ => c)
theorem p_b202 {y z f x : Int32} (hz : z = 0 ∨ z = 1) {b7 b6 b5 b4 b3 b2 b1 b0 : Bool} (hf : f = zfl b7 b6 b5 b4 b3 b2 b1 b0) {Q : zSt × Int32 → Prop} (c : zpc (fX12_blocks_584 (zsi μ 3 1 (zfl b7 b6 (zbt 1 x) b4 (zbt 3 x) (bc (if ((μ.1 3 2 <<< ((8 : Int32) &&& 31)) ||| μ.1 3 3) = 0 then 0 else 1)) (bc z) b0)) y z (if ((μ.1 3 2 <<< ((8 : Int32) &&& 31)) ||| μ.1 3 3) = 0 then 0 else if z = 0 then 1 else bif b6 then 0 else 1)) Q) : zpc (fX12_blocks_202 (zsi μ 3 1 f) y z x) Q := by
  subst hf
  unfold fX12_blocks_202
  refine zpc_jx (K := fun g => fX12_blocks_216 (zsi μ 3 1 (zfl b7 b6 b5 b4 b3 b2 b1 b0)) y z x g 5) (a := 0) (b := 1) rfl rfl (fun g eg => ?_)
  unfold fX12_blocks_216
  refine zpc_bu p_put (fun s e => ?_)
  rw [pt_5] at e
  subst e
  refine zpc_jx (K := fun k => fX12_blocks_234 (zsi μ 3 1 (zfl b7 b6 (decide (¬ g = 0)) b4 b3 b2 b1 b0)) y z k 3) (a := 0) (b := 1) rfl rfl (fun k ek => ?_)
  unfold fX12_blocks_234
  refine zpc_bu p_put (fun s e => ?_)
  rw [pt_3] at e
  subst e
  have e5 : decide (¬ g = 0) = zbt 1 x := by rw [eg]; exact z_x5
  have e3 : decide (¬ k = 0) = zbt 3 x := by rw [ek]; exact z_x3
  rw [e5, e3]
  rcases hz with e | e
  · subst e
    exact zpc_if (fun q => absurd q (by decide)) (fun _ => p_b249 (Or.inl rfl) rfl c)
  · subst e
    exact zpc_if (fun _ => p_b249 (Or.inr rfl) rfl c) (fun q => absurd rfl q)
theorem t_copy (hI : zIoK I) (h : zTT I σ μ) (hF : zF σ μ) (hW : zWzz σ μ) {op y d : Int32} (k1 : op &&& 16 = 0 ↔ y < 6) (k2 : op &&& 2 = 0 ↔ ¬ 2 ≤ (0 : Int32)) : zp2 (zbi (fX5_copyOne σ d) (fun σ3 v4 => fX5_block_77 σ3 op v4)) (fX12_blocks_11 μ y 0 d) (zEnq I) := by
  refine zp2_bilp (P := zBkk I op) ?_ (fun s v b q a b' ea eb => by cases eb; exact q a ea)
  unfold fX5_copyOne fX12_blocks_11
  refine zp2_ifr (fun q => absurd q (by decide)) (fun _ => ?_)
  refine zp2_sm (t_pair6 h) (fun a ra => zp2_rd h.1 rfl (fun b rb => zp2_ifr (fun _ => ?_) (fun q => absurd rfl q)))
  refine zp2_sm (t_pair4 h) (fun e re => zp2_wr h.1 rfl (z_m255 rb) rb (fun s1 t1 hm q1 q2 => ?_))
  have h1 := h.mem hI hm q1 q2
  have F1 : zF s1 t1 := hF.of (q1.1 36 1 rfl) (q2.1 3 1 rfl)
  have W1 : zWzz s1 t1 := hW.of (q1.1 36 20 rfl) (q2.1 3 20 rfl)
  unfold fX12_blocks_44
  refine t_cnt6 hI h1 F1 W1 (g := fun v => v + d) (fun s2 t2 h2 F2 W2 _ => zp2_ifr (fun _ => ?_) (fun q => absurd rfl q))
  refine t_cnt4 hI h2 F2 W2 (g := fun v => v + d) (fun s3 t3 h3 F3 W3 _ => ?_)
  unfold fX12_blocks_74
  refine t_cnt2 hI h3 F3 W3 (g := fun v => v - 1) (fun s4 t4 h4 F4 W4 _ => zp2_ifr (fun _ => zp2_ckr ?_) (fun q => absurd rfl q))
  have hf : zr 0 255 (s4.1 36 1) := h4.b (by decide)
  have ef : t4.1 3 1 = s4.1 36 1 := F4
  have ea : zgi t4 3 (0 : Int32).toNatClampNeg = s4.1 36 0 := h4.eq (j := 0) (by decide)
  unfold fX12_blocks_111
  rw [ea]
  refine zp2_ifr (fun q => absurd q (by decide)) (fun _ => zp2_bur p_put' (fun t5 e5 => ?_))
  rw [ef, fl_of hf, pt_4] at e5
  subst e5
  -- the class
  have cC : zpc (zbi (fX5_pairAt s4 2) (fun σ19 v20 => if v20 = 0 then fX5_copyOne_78 σ19 b 0 else fX5_copyOne_78 σ19 b 1)) (fun r => r = (zsi s4 36 1 ((((s4.1 36 1 &&& 193) ||| (((s4.1 36 0 + b) &&& 2) <<< ((4 : Int32) &&& 31))) ||| ((s4.1 36 0 + b) &&& 8)) ||| (if ((s4.1 36 2 <<< ((8 : Int32) &&& 31)) ||| s4.1 36 3) = 0 then 0 else 4)), if ((s4.1 36 2 <<< ((8 : Int32) &&& 31)) ||| s4.1 36 3) = 0 then 0 else 1)) := by
    refine zpc_bi p_pC2 (fun s v e => ?_)
    cases e
    have nx : ∀ c g : Int32, (c = 0 → g = 0) → (¬ c = 0 → g = 4) → zpc (fX5_copyOne_78 s4 b c) (fun r => r = (zsi s4 36 1 ((((s4.1 36 1 &&& 193) ||| (((s4.1 36 0 + b) &&& 2) <<< ((4 : Int32) &&& 31))) ||| ((s4.1 36 0 + b) &&& 8)) ||| g), c)) := fun c g g0 g4 => by
      unfold fX5_copyOne_78 fX5_copyOne_126
      refine zpc_ck (zpc_bv (fun x ex => zpc_ck (zpc_if (fun q => zpc_ck (zpc_bv (fun s5 f5 => zpc_ck (zpc_some ?_)))) (fun q => zpc_ck (zpc_bv (fun s5 f5 => zpc_ck (zpc_some ?_)))))))
      · rw [f5, ex, g0 q]; rfl
      · rw [f5, ex, g4 q]; rfl
    refine zpc_if (fun q => ?_) (fun q => ?_)
    · rw [if_pos q, if_pos q]; exact nx 0 0 (fun _ => rfl) (fun q => absurd rfl q)
    · rw [if_neg q, if_neg q]; exact nx 1 4 (fun q => absurd q (by decide)) (fun _ => rfl)
  intro r r' er er'
  have ec := cC r er
  subst ec
  refine zBkk.of ?_ _ r' rfl er'
  intro a' b' ea' eb'
  -- the reference
  have e2 : t4.1 3 2 = s4.1 36 2 := h4.eq (by decide)
  have e3 : t4.1 3 3 = s4.1 36 3 := h4.eq (by decide)
  refine p_b202 (Or.inl rfl) rfl (Q := fun b => zEnq I a' b) (fun b2 eb2 => ?_) b' eb'
  rw [e2, e3] at eb2
  have eN : ∀ n : Int32, (if n = 0 then (0 : Int32) else 4) = bif bc (if n = 0 then 0 else 1) then 4 else 0 := fun n => by
    by_cases q : n = 0
    · rw [if_pos q, if_pos q]; rfl
    · rw [if_neg q, if_neg q]; rfl
  have eF : zfl (decide (¬ s4.1 36 1 &&& 128 = 0)) (decide (¬ s4.1 36 1 &&& 64 = 0)) (zbt 1 (s4.1 36 0 + b)) (decide (¬ (0 : Int32) = 0)) (zbt 3 (s4.1 36 0 + b)) (bc (if ((s4.1 36 2 <<< ((8 : Int32) &&& 31)) ||| s4.1 36 3) = 0 then 0 else 1)) (bc 0) (decide (¬ s4.1 36 1 &&& 1 = 0)) = (((s4.1 36 1 &&& 193) ||| (((s4.1 36 0 + b) &&& 2) <<< ((4 : Int32) &&& 31))) ||| ((s4.1 36 0 + b) &&& 8)) ||| (if ((s4.1 36 2 <<< ((8 : Int32) &&& 31)) ||| s4.1 36 3) = 0 then 0 else 4) := by
    rw [z_193 hf, z_x5s, zbt_m3, eN, ← v_ldB]
    rfl
  rw [eF, if_pos (rfl : (0 : Int32) = 0)] at eb2
  have rF : zr 0 255 ((((s4.1 36 1 &&& 193) ||| (((s4.1 36 0 + b) &&& 2) <<< ((4 : Int32) &&& 31))) ||| ((s4.1 36 0 + b) &&& 8)) ||| (if ((s4.1 36 2 <<< ((8 : Int32) &&& 31)) ||| s4.1 36 3) = 0 then 0 else 4)) := by
    rw [← eF]
    exact zfl_r _ _ _ _ _ _ _ _
  exact t_bk77 hI ((h4.onC hI (Or.inl rfl) (zrg_b (Or.inl (by decide)) rF)).onM hI (Or.inl rfl)) rfl W4 k1 k2 a' b2 ea' eb2
theorem z_mod8 {x g : Int32} {k : Nat} (hk : k = 1 ∨ k = 3) (hx : zr (-255) 255 x) (hg : zr 0 1 g) : zbt k ((x &&& 255) - g) = zbt k (x - g) := by
  have w := z_w8 (v := x) rfl ⟨by have := hx.1; omega, by have := hx.2; omega⟩
  have x0 := hx.1
  have x1 := hx.2
  have g0 := hg.1
  have g1 := hg.2
  have e1 : ((x &&& 255) - g).toInt = (x &&& 255).toInt - g.toInt := z_tsub (z_r8 x) hg (by decide)
  have e2 : (x - g).toInt = x.toInt - g.toInt := z_tsub hx hg (by decide)
  have t1 := z_tc ((x &&& 255) - g)
  have t2 := z_tc (x - g)
  rw [zbt_n, zbt_n]
  rcases hk with e | e <;> subst e
  · have n : (2 : Nat) ^ 1 = 2 := by decide
    rw [n]
    exact decide_eq_decide.mpr (by omega)
  · have n : (2 : Nat) ^ 3 = 8 := by decide
    rw [n]
    exact decide_eq_decide.mpr (by omega)
theorem v_h4 : ∀ h : Bool, (bif h then (16 : Int32) else 0) >>> ((4 : Int32) &&& 31) = bif h then 1 else 0 := by decide
theorem t_cmp (hI : zIoK I) (h : zTT I σ μ) (hF : zF σ μ) (hW : zWzz σ μ) {op y d : Int32} (k1 : op &&& 16 = 0 ↔ y < 6) (k2 : op &&& 2 = 0 ↔ ¬ 2 ≤ (1 : Int32)) : zp2 (zbi (fX5_compareOne σ d) (fun σ3 v4 => fX5_block_77 σ3 op v4)) (fX12_blocks_11 μ y 1 d) (zEnq I) := by
  refine zp2_bilp (P := zBkk I op) ?_ (fun s v b q a b' ea eb => by cases eb; exact q a ea)
  unfold fX5_compareOne fX12_blocks_11
  refine zp2_ifr (fun q => absurd q (by decide)) (fun _ => ?_)
  refine zp2_sm (t_pair6 h) (fun a ra => zp2_rd h.1 rfl (fun b rb => zp2_ifr (fun q => absurd q (by decide)) (fun _ => ?_)))
  refine zp2_ckl (zp2_bvl (fun w ew => zp2_ckl (zp2_bvl (fun hh eh => ?_))))
  have ew : w = (σ.1 36 0 - b) &&& 255 := ew
  have eh : hh = ((σ.1 36 0 ^^^ b) ^^^ w) &&& 16 := eh
  unfold fX12_blocks_44
  refine t_cnt6 hI h hF hW (g := fun v => v + d) (fun s2 t2 h2 F2 W2 a2 => zp2_ifr (fun q => absurd q (by decide)) (fun _ => ?_))
  unfold fX12_blocks_74
  refine t_cnt2 hI h2 F2 W2 (g := fun v => v - 1) (fun s4 t4 h4 F4 W4 a4 => zp2_ifr (fun q => absurd q (by decide)) (fun _ => zp2_ckr ?_))
  unfold fX12_blocks_111
  refine zp2_ifr (fun _ => zp2_ckr (zp2_ckr (zp2_bvr (fun t5 g5 => zp2_ckr ?_)))) (fun q => absurd rfl q)
  refine zp2_ckl (zp2_ckl (zp2_bvl (fun s5 f5 => ?_)))
  rw [show zgi t4 3 (20 : Int32).toNatClampNeg = zgi s4 36 (20 : Int32).toNatClampNeg from W4] at g5
  have zz := zEnq.wz hI h4 F4 (v := ((zgi s4 36 (20 : Int32).toNatClampNeg) + d) &&& 65535) rfl (z_r16 _) (b := 0)
  have f5' : s5 = zsi s4 36 20 (((zgi s4 36 (20 : Int32).toNatClampNeg) + d) &&& 65535) := f5
  have g5' : t5 = zsi t4 3 20 (((zgi s4 36 (20 : Int32).toNatClampNeg) + d) &&& 65535) := g5
  have h5 : zTT I s5 t5 := by rw [f5', g5']; exact zz.1
  have F5 : zF s5 t5 := by rw [f5', g5']; exact zz.2.1
  have W5 : zWzz s5 t5 := by rw [f5', g5']; exact zz.2.2.1
  have a5 : s5.1 36 0 = σ.1 36 0 := by rw [f5']; exact a4.trans a2
  have aM : zgi t5 3 (0 : Int32).toNatClampNeg = σ.1 36 0 := (h5.eq (j := 0) (by decide)).trans a5
  have aM4 : zgi t4 3 (0 : Int32).toNatClampNeg = σ.1 36 0 := (h4.eq (j := 0) (by decide)).trans (a4.trans a2)
  rw [aM, aM4]
  have hf : zr 0 255 (s5.1 36 1) := h5.b (by decide)
  have ef : t5.1 3 1 = s5.1 36 1 := F5
  have rA : zr 0 255 (σ.1 36 0) := h.b (by decide)
  clear f5 g5 f5' g5' zz
  generalize σ.1 36 0 = A at *
  have rw1 : zr 0 255 w := by rw [ew]; exact z_r8 _
  -- half
  have m1 : (A &&& 15).toInt = A.toInt % 16 := z_mask (k := 4) rA.1 rfl (by decide)
  have m2 : (b &&& 15).toInt = b.toInt % 16 := z_mask (k := 4) rb.1 rfl (by decide)
  have r15 : ∀ x : Int32, zr 0 15 (x &&& 15) := fun x => zr_andr (lo := 0) (hi := 15) (zr_c (lo := 15) (hi := 15) (by decide)) (by decide)
  have eS : hS A b 0 = if (b &&& 15) ≤ (A &&& 15) then 0 else 1 := by
    unfold hS
    have e1 : ((A &&& 15) - (b &&& 15)).toInt = (A &&& 15).toInt - (b &&& 15).toInt := z_tsub (r15 _) (r15 _) (by decide)
    rw [Int32.sub_zero]
    have c0 : (0 : Int32).toInt = 0 := rfl
    by_cases q : (b &&& 15) ≤ (A &&& 15)
    · have q1 := Int32.le_iff_toInt_le.mp q
      rw [if_pos q, if_pos (Int32.le_iff_toInt_le.mpr (by omega))]
    · have q1 := Int32.lt_iff_toInt_lt.mp (z_nle q)
      rw [if_neg q, if_neg (fun r => by have := Int32.le_iff_toInt_le.mp r; omega)]
  have eH : hh = bif bc (if (b &&& 15) ≤ (A &&& 15) then 0 else 1) then 16 else 0 := by
    have v := v_hS (a := A) (b := b) (c := 0) (zr_c (by decide))
    rw [eS, Int32.sub_zero, ← ew, ← eh] at v
    exact v
  -- the class
  have cC : zpc (zbi (fX5_pairAt s5 2) (fun σ16 v17 => if v17 = 0 then fX5_compareOne_100 σ16 w hh 0 else fX5_compareOne_100 σ16 w hh 1)) (fun r => r = (zsi s5 36 1 ((((((((s5.1 36 1 &&& 1) ||| (w &&& 128)) ||| (if w = 0 then 64 else 0)) ||| hh) ||| (((w - (hh >>> ((4 : Int32) &&& 31))) &&& 2) <<< ((4 : Int32) &&& 31))) ||| ((w - (hh >>> ((4 : Int32) &&& 31))) &&& 8)) ||| (if ((s5.1 36 2 <<< ((8 : Int32) &&& 31)) ||| s5.1 36 3) = 0 then 0 else 4)) ||| 2), if ((s5.1 36 2 <<< ((8 : Int32) &&& 31)) ||| s5.1 36 3) = 0 then 0 else if w = 0 then 0 else 1)) := by
    refine zpc_bi p_pC2 (fun s v e => ?_)
    cases e
    have nx : ∀ c g : Int32, (c = 0 → g = 0) → (¬ c = 0 → g = 4) → zpc (fX5_compareOne_100 s5 w hh c) (fun r => r = (zsi s5 36 1 ((((((((s5.1 36 1 &&& 1) ||| (w &&& 128)) ||| (if w = 0 then 64 else 0)) ||| hh) ||| (((w - (hh >>> ((4 : Int32) &&& 31))) &&& 2) <<< ((4 : Int32) &&& 31))) ||| ((w - (hh >>> ((4 : Int32) &&& 31))) &&& 8)) ||| g) ||| 2), if c = 0 then 0 else if w = 0 then 0 else 1)) := fun c g g0 g4 => by
      unfold fX5_compareOne_100
      refine zpc_bv (fun x ex => zpc_ck ?_)
      subst ex
      refine zpc_jx (K := fun u => fX5_compareOne_139 s5 w hh c (w - (hh >>> ((4 : Int32) &&& 31))) u (((zgi s5 36 (1 : Int32).toNatClampNeg) &&& 1) ||| (w &&& 128)) 1) (a := 64) (b := 0) rfl rfl (fun u eu => ?_)
      unfold fX5_compareOne_139 fX5_compareOne_166 fX5_compareOne_183 fX5_compareOne_184
      rw [← eu]
      refine zpc_if (fun q => zpc_ck (zpc_bv (fun s6 f6 => zpc_if (fun _ => zpc_ck (zpc_some ?_)) (fun r => absurd q r)))) (fun q => zpc_ck (zpc_bv (fun s6 f6 => zpc_if (fun r => absurd r q) (fun _ => zpc_if (fun q2 => zpc_ck (zpc_some ?_)) (fun q2 => zpc_ck (zpc_some ?_))))))
      · rw [f6, if_pos q, g0 q]; rfl
      · rw [f6, if_neg q, if_pos q2, g4 q]; rfl
      · rw [f6, if_neg q, if_neg q2, g4 q]; rfl
    refine zpc_if (fun q => ?_) (fun q => ?_)
    · rw [if_pos q, if_pos q]; exact nx 0 0 (fun _ => rfl) (fun q => absurd rfl q)
    · rw [if_neg q, if_neg q]; exact nx 1 4 (fun q => absurd q (by decide)) (fun _ => rfl)
  intro r r' er er'
  have ec := cC r er
  subst ec
  refine zBkk.of ?_ _ r' rfl er'
  intro a' b' ea' eb'
  -- the reference
  have e2 : t5.1 3 2 = s5.1 36 2 := h5.eq (by decide)
  have e3 : t5.1 3 3 = s5.1 36 3 := h5.eq (by decide)
  have cM : zpc (if (b &&& 15) ≤ (A &&& 15) then fX12_blocks_159 t5 y 1 (A - b) 0 else fX12_blocks_159 t5 y 1 (A - b) 1) (fun x => zEnq I a' x) := by
    refine zpc_jx (K := fun g => fX12_blocks_159 t5 y 1 (A - b) g) (a := 0) (b := 1) rfl rfl (fun g eg => ?_)
    have rg : zr 0 1 g := by
      rw [eg]
      by_cases q : (b &&& 15) ≤ (A &&& 15)
      · rw [if_pos q]; exact zr_c (by decide)
      · rw [if_neg q]; exact zr_c (by decide)
    unfold fX12_blocks_159
    rw [← ew]
    refine zpc_bu p_by' (fun t6 e6 => ?_)
    rw [ef, fl_of hf, fl_by] at e6
    subst e6
    refine zpc_bu p_put (fun t6 e6 => ?_)
    rw [pt_4] at e6
    subst e6
    have nx : zpc (fX12_blocks_190 (zsi t5 3 1 (zfl (d7 w) (d6 w) (d5 w) (decide (¬ g = 0)) (d3 w) (decide (¬ s5.1 36 1 &&& 4 = 0)) (decide (¬ s5.1 36 1 &&& 2 = 0)) (decide (¬ s5.1 36 1 &&& 1 = 0)))) y 1 g (A - b)) (fun x => zEnq I a' x) := by
      unfold fX12_blocks_190
      refine zpc_bv (fun x ex => ?_)
      refine p_b202 (Or.inr rfl) rfl (fun b2 eb2 => ?_)
      rw [e2, e3] at eb2
      have eN : ∀ n : Int32, (if n = 0 then (0 : Int32) else 4) = bif bc (if n = 0 then 0 else 1) then 4 else 0 := fun n => by
        by_cases q : n = 0
        · rw [if_pos q, if_pos q]; rfl
        · rw [if_neg q, if_neg q]; rfl
      have eg1 : (bif bc g then (1 : Int32) else 0) = g := by
        obtain ⟨i, ei⟩ := z_bit1 rg
        have k : ∀ i : Fin 2, (bif bc (Int32.ofNat i.val) then (1 : Int32) else 0) = Int32.ofNat i.val := by decide
        rw [ei]
        exact k i
      have eh2 : hh = bif bc g then 16 else 0 := by rw [eH, eg]
      have ex2 : w - (hh >>> ((4 : Int32) &&& 31)) = w - g := by rw [eh2, v_h4, eg1]
      have rd : zr (-255) 255 (A - b) := zr_sub (lo := -255) (hi := 255) rA rb (by decide)
      have z1 : zbt 1 (w - g) = zbt 1 x := by rw [ex, ew]; exact z_mod8 (Or.inl rfl) rd rg
      have z3 : zbt 3 (w - g) = zbt 3 x := by rw [ex, ew]; exact z_mod8 (Or.inr rfl) rd rg
      have eF : zfl (d7 w) (d6 w) (zbt 1 x) (decide (¬ g = 0)) (zbt 3 x) (bc (if ((s5.1 36 2 <<< ((8 : Int32) &&& 31)) ||| s5.1 36 3) = 0 then 0 else 1)) (bc 1) (decide (¬ s5.1 36 1 &&& 1 = 0)) = (((((((s5.1 36 1 &&& 1) ||| (w &&& 128)) ||| (if w = 0 then 64 else 0)) ||| hh) ||| (((w - (hh >>> ((4 : Int32) &&& 31))) &&& 2) <<< ((4 : Int32) &&& 31))) ||| ((w - (hh >>> ((4 : Int32) &&& 31))) &&& 8)) ||| (if ((s5.1 36 2 <<< ((8 : Int32) &&& 31)) ||| s5.1 36 3) = 0 then 0 else 4)) ||| 2 := by
        conv => rhs; rw [ex2, z_x5s, zbt_m3, eN, z1, z3, z_f1 hf, eh2]
        obtain ⟨i, ei⟩ := z_byteF rw1
        rw [ei, ← v_cpiB i]
        rfl
      have e6 : (bif d6 w then (0 : Int32) else 1) = if w = 0 then 0 else 1 := by
        unfold d6
        by_cases q : w = 0
        · rw [if_pos q, if_pos q]; rfl
        · rw [if_neg q, if_neg q]; rfl
      rw [eF, if_neg (show ¬ (1 : Int32) = 0 by decide), e6] at eb2
      have rF : zr 0 255 ((((((((s5.1 36 1 &&& 1) ||| (w &&& 128)) ||| (if w = 0 then 64 else 0)) ||| hh) ||| (((w - (hh >>> ((4 : Int32) &&& 31))) &&& 2) <<< ((4 : Int32) &&& 31))) ||| ((w - (hh >>> ((4 : Int32) &&& 31))) &&& 8)) ||| (if ((s5.1 36 2 <<< ((8 : Int32) &&& 31)) ||| s5.1 36 3) = 0 then 0 else 4)) ||| 2) := by
        rw [← eF]
        exact zfl_r _ _ _ _ _ _ _ _
      exact t_bk77 hI ((h5.onC hI (Or.inl rfl) (zrg_b (Or.inl (by decide)) rF)).onM hI (Or.inl rfl)) rfl W5 k1 k2 a' b2 ea' eb2
    by_cases g0 : g = 0
    · rw [if_pos g0]
      rw [g0] at nx ⊢
      exact nx
    · have g1 : g = 1 := by
        obtain ⟨i, ei⟩ := z_bit1 rg
        have : ∀ i : Fin 2, ¬ Int32.ofNat i.val = 0 → Int32.ofNat i.val = 1 := by decide
        rw [ei] at g0 ⊢
        exact this i g0
      rw [if_neg g0]
      rw [g1] at nx ⊢
      exact nx
  exact cM b' eb'
end ZBL
end ZJN3
