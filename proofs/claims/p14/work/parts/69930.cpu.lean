/-! THE FIRST QUARTER -/
theorem zp2_sm {α β : Type} {σ μ : zSt} {o p : Option (zSt × Int32)} {f : zSt → Int32 → Option α} {g : zSt → Int32 → Option β} {Q : α → β → Prop} {lo hi : Int} (h : zp2 o p (fun r r' => r.1 = σ ∧ r'.1 = μ ∧ r'.2 = r.2 ∧ zr lo hi r.2)) (k : ∀ v, zr lo hi v → zp2 (f σ v) (g μ v) Q) : zp2 (zbi o f) (zbi p g) Q := by
  refine zp2_bii h (fun s v t w q => ?_)
  obtain ⟨q1, q2, q3, q4⟩ := q
  have q1 : s = σ := q1
  have q2 : t = μ := q2
  have q3 : w = v := q3
  subst q1
  subst q2
  subst q3
  exact k w q4
theorem z_tc (x : Int32) : (0 ≤ x.toInt ∧ (x.toBitVec.toNat : Int) = x.toInt) ∨ (x.toInt < 0 ∧ (x.toBitVec.toNat : Int) = x.toInt + 4294967296) := by
  by_cases h : 0 ≤ x.toInt
  · exact Or.inl ⟨h, by rw [z_tN h]⟩
  · refine Or.inr ⟨by omega, ?_⟩
    have e : x.toInt = x.toBitVec.toInt := rfl
    have c := BitVec.toInt_eq_toNat_cond x.toBitVec
    rw [e] at h ⊢
    rw [c] at h ⊢
    by_cases q : 2 * x.toBitVec.toNat < 2 ^ 32
    · rw [if_pos q] at h; omega
    · rw [if_neg q]; omega
def zbt (k : Nat) (x : Int32) : Bool := x.toBitVec.getLsbD k
theorem zbt_n {k : Nat} {x : Int32} : zbt k x = decide (x.toBitVec.toNat / 2 ^ k % 2 = 1) := by
  unfold zbt
  rw [← BitVec.testBit_toNat, Nat.testBit_eq_decide_div_mod_eq]
theorem zbt_xor {k : Nat} {x y : Int32} : zbt k (x ^^^ y) = (zbt k x ^^ zbt k y) := by
  unfold zbt
  rw [Int32.toBitVec_xor, BitVec.getLsbD_xor]
theorem zbt_and {k : Nat} {x y : Int32} : zbt k (x &&& y) = (zbt k x && zbt k y) := by
  unfold zbt
  rw [Int32.toBitVec_and, BitVec.getLsbD_and]
theorem zbt_sar {k n : Nat} {x s : Int32} (hs : (s.toBitVec.smod 32).toNat = n) (h : n + k < 32) : zbt k (x >>> s) = zbt (n + k) x := by
  unfold zbt
  have e : (x >>> s).toBitVec = x.toBitVec.sshiftRight (s.toBitVec.smod 32).toNat := rfl
  rw [e, hs, BitVec.getLsbD_sshiftRight, if_pos h, show decide (32 ≤ k) = false from decide_eq_false (by omega)]
  rfl
theorem zbt_l4 : ∀ i, i < 32 → ((16 : Int32).toBitVec.getLsbD i = decide (i = 4)) := by decide
theorem zbt_m4 {x : Int32} : x &&& 16 = bif zbt 4 x then 16 else 0 := by
  refine Int32.toBitVec_inj.1 (BitVec.eq_of_getLsbD_eq (fun i hi => ?_))
  rw [Int32.toBitVec_and, BitVec.getLsbD_and, zbt_l4 i hi]
  unfold zbt
  by_cases q : i = 4
  · subst q
    cases h : x.toBitVec.getLsbD 4 <;> rfl
  · rw [decide_eq_false q, Bool.and_false]
    cases h : x.toBitVec.getLsbD 4
    · exact (BitVec.getLsbD_zero (w := 32)).symm
    · exact ((zbt_l4 i hi).trans (decide_eq_false q)).symm
theorem zbt_l0 : ∀ i, i < 32 → ((1 : Int32).toBitVec.getLsbD i = decide (i = 0)) := by decide
theorem zbt_m0 {x : Int32} : x &&& 1 = bif zbt 0 x then 1 else 0 := by
  refine Int32.toBitVec_inj.1 (BitVec.eq_of_getLsbD_eq (fun i hi => ?_))
  rw [Int32.toBitVec_and, BitVec.getLsbD_and, zbt_l0 i hi]
  unfold zbt
  by_cases q : i = 0
  · subst q
    cases h : x.toBitVec.getLsbD 0 <;> rfl
  · rw [decide_eq_false q, Bool.and_false]
    cases h : x.toBitVec.getLsbD 0
    · exact (BitVec.getLsbD_zero (w := 32)).symm
    · exact ((zbt_l0 i hi).trans (decide_eq_false q)).symm
theorem zbt_l7 : ∀ i, i < 32 → ((128 : Int32).toBitVec.getLsbD i = decide (i = 7)) := by decide
theorem zbt_m7 {x : Int32} : x &&& 128 = bif zbt 7 x then 128 else 0 := by
  refine Int32.toBitVec_inj.1 (BitVec.eq_of_getLsbD_eq (fun i hi => ?_))
  rw [Int32.toBitVec_and, BitVec.getLsbD_and, zbt_l7 i hi]
  unfold zbt
  by_cases q : i = 7
  · subst q
    cases h : x.toBitVec.getLsbD 7 <;> rfl
  · rw [decide_eq_false q, Bool.and_false]
    cases h : x.toBitVec.getLsbD 7
    · exact (BitVec.getLsbD_zero (w := 32)).symm
    · exact ((zbt_l7 i hi).trans (decide_eq_false q)).symm
theorem zbt_l15 : ∀ i, i < 32 → ((32768 : Int32).toBitVec.getLsbD i = decide (i = 15)) := by decide
theorem zbt_m15 {x : Int32} : x &&& 32768 = bif zbt 15 x then 32768 else 0 := by
  refine Int32.toBitVec_inj.1 (BitVec.eq_of_getLsbD_eq (fun i hi => ?_))
  rw [Int32.toBitVec_and, BitVec.getLsbD_and, zbt_l15 i hi]
  unfold zbt
  by_cases q : i = 15
  · subst q
    cases h : x.toBitVec.getLsbD 15 <;> rfl
  · rw [decide_eq_false q, Bool.and_false]
    cases h : x.toBitVec.getLsbD 15
    · exact (BitVec.getLsbD_zero (w := 32)).symm
    · exact ((zbt_l15 i hi).trans (decide_eq_false q)).symm
theorem v_h12 {a b v X : Int32} {c : Int} (ha : zr 0 65535 a) (hb : zr 0 65535 b) (hv : v.toInt = a.toInt + b.toInt + c) (hc : 0 ≤ c ∧ c ≤ 1) (hX : X = (a ^^^ b) ^^^ v) {K : Prop} {d : Decidable K} (hK : K ↔ a.toInt % 4096 + b.toInt % 4096 + c ≤ 4095) : (X >>> ((8 : Int32) &&& 31)) &&& 16 = bif bc (@ite _ K d 0 1) then 16 else 0 := by
  rw [zbt_m4, zbt_sar (n := 8) rfl (by decide), hX, zbt_xor, zbt_xor, zbt_n, zbt_n, zbt_n]
  have a0 := ha.1
  have a1 := ha.2
  have b0 := hb.1
  have b1 := hb.2
  have ta := z_tc a
  have tb := z_tc b
  have tv := z_tc v
  show (bif (decide (a.toBitVec.toNat / 4096 % 2 = 1) ^^ decide (b.toBitVec.toNat / 4096 % 2 = 1)) ^^ decide (v.toBitVec.toNat / 4096 % 2 = 1) then (16 : Int32) else 0) = _
  by_cases k : K
  · have k1 := hK.mp k
    rw [if_pos k]
    by_cases p : a.toBitVec.toNat / 4096 % 2 = 1 <;> by_cases q : b.toBitVec.toNat / 4096 % 2 = 1 <;> by_cases r : v.toBitVec.toNat / 4096 % 2 = 1 <;> first | (exfalso; omega) | (rw [decide_eq_true_eq.mpr p] <;> skip; skip) | skip
    all_goals (simp only [p, q, r, decide_true, decide_false]; rfl)
  · have k1 : ¬ a.toInt % 4096 + b.toInt % 4096 + c ≤ 4095 := fun q => k (hK.mpr q)
    rw [if_neg k]
    by_cases p : a.toBitVec.toNat / 4096 % 2 = 1 <;> by_cases q : b.toBitVec.toNat / 4096 % 2 = 1 <;> by_cases r : v.toBitVec.toNat / 4096 % 2 = 1 <;> first | (exfalso; omega) | skip
    all_goals (simp only [p, q, r, decide_true, decide_false]; rfl)
theorem v_405 : ∀ i : Fin 512, Int32.ofNat i.val &&& 40 = (bif d5 (Int32.ofNat i.val) then 32 else 0) ||| (bif d3 (Int32.ofNat i.val) then 8 else 0) := by decide +kernel
theorem v_ahB : ∀ b7 b6 b5 h b3 b2 c : Bool, zfl b7 b6 b5 h b3 b2 false c = (((((bif b7 then 128 else 0) ||| (bif b6 then 64 else 0)) ||| (bif b2 then 4 else 0)) ||| ((bif b5 then 32 else 0) ||| (bif b3 then 8 else 0))) ||| (bif h then 16 else 0)) ||| (bif c then 1 else 0) := by decide
theorem v_17 {v : Int32} (h : zr 0 131071 v) : v >>> ((16 : Int32) &&& 31) = bif bc (if v ≤ 65535 then 0 else 1) then 1 else 0 := by
  have e := z_quo (k := 16) (s := (16 : Int32) &&& 31) h.1 rfl
  have h0 := h.1
  have h1 := h.2
  have c : (65535 : Int32).toInt = 65535 := rfl
  have e : (v >>> ((16 : Int32) &&& 31)).toInt = v.toInt / 65536 := e
  refine Int32.toInt_inj.mp ?_
  rw [e]
  by_cases q : v ≤ 65535
  · have q1 := Int32.le_iff_toInt_le.mp q
    rw [if_pos q]
    show v.toInt / 65536 = 0
    omega
  · have q1 := Int32.lt_iff_toInt_lt.mp (z_nle q)
    rw [if_neg q]
    show v.toInt / 65536 = 1
    omega
theorem z_x512 {v : Int32} (h : zr 0 131071 v) : (v >>> ((8 : Int32) &&& 31)) &&& 40 = (bif d5 (v >>> ((8 : Int32) &&& 31)) then 32 else 0) ||| (bif d3 (v >>> ((8 : Int32) &&& 31)) then 8 else 0) := by
  have e : (v >>> ((8 : Int32) &&& 31)).toInt = v.toInt / 256 := z_quo (k := 8) (s := (8 : Int32) &&& 31) h.1 rfl
  have h0 := h.1
  have h1 := h.2
  generalize v >>> ((8 : Int32) &&& 31) = x at e
  obtain ⟨i, hi⟩ : ∃ i : Nat, x.toInt = i := ⟨x.toInt.toNat, by omega⟩
  rw [z_ofN hi]
  exact v_405 ⟨i, by omega⟩
theorem v_i8f : ∀ i : Fin 256, (Int32.ofNat i.val).toInt8.toInt32 = sg (Int32.ofNat i.val) := by decide +kernel
theorem z_i8s {v : Int32} (h : zr 0 255 v) : v.toInt8.toInt32 = sg v := by
  obtain ⟨i, e⟩ := z_byteF h
  subst e
  exact v_i8f i
theorem zAl4 {P : Nat → Prop} {a b c d : Nat} (p : P a) (q : P b) (r : P c) (s : P d) : zall [a, b, c, d] P := zAlc p (zAl3 q r s)
section ZQ1
variable {I : zSt → zSt → Prop} {σ μ : zSt}
theorem zTT.mem (hI : zIoK I) (h : zTT I σ μ) {s t : zSt} (hm : zM2 s t) (q1 : zQ [15, 17, 19] [] [] [] σ s) (q2 : zQ [5, 6] [(3, 29, 32)] [] [] μ t) : zTT I s t := h.fin hI [] hm (q1.mono rfl rfl) (q2.mono rfl rfl) rfl zAl0 (h.2.2.1.of (q1.1 7 4 rfl) (q2.1 0 31 rfl))
theorem t_go (hI : zIoK I) (h : zTT I σ μ) {d : Int32} : zp2 (fX5_goTo σ (((zgi σ 36 (19 : Int32).toNatClampNeg) + d) &&& 65535)) (fX12_jump μ d) (fun r r' => zTT I r r' ∧ zWzz r r' ∧ zQ [] [(36, 19, 20)] [] [] σ r ∧ zQ [] [(3, 19, 20)] [] [] μ r') := by
  unfold fX5_goTo fX12_jump
  refine zp2_ckl (zp2_bvl (fun s1 f1 => zp2_ckl (zp2_bvl (fun s2 f2 => zp2_ckr (zp2_ckr (zp2_bvr (fun t1 g1 => zp2_ckr (zp2_ckr (zp2_bvr (fun t2 g2 => zp2_some ?_))))))))))
  have e : μ.1 3 19 = σ.1 36 19 := h.eq (by decide)
  have g2 : t2 = zsi (zsi μ 3 19 ((σ.1 36 19 + d) &&& 65535)) 3 20 ((σ.1 36 19 + d) &&& 65535) := by
    rw [g2, g1, ← e]; rfl
  have f2 : s2 = zsi (zsi σ 36 19 ((σ.1 36 19 + d) &&& 65535)) 36 20 ((σ.1 36 19 + d) &&& 65535) := by
    rw [f2, f1]; rfl
  subst f2
  subst g2
  exact ⟨h.upd hI [19, 20] (zQ.wi (zQ.wi zQ.rf rfl) rfl) (zQ.wi (zQ.wi zQ.rf rfl) rfl) rfl (zAl2 ⟨rfl, zrg_w (by decide) (by decide) (z_r16 _)⟩ ⟨rfl, zrg_w (by decide) (by decide) (z_r16 _)⟩), rfl, zQ.wi (zQ.wi zQ.rf rfl) rfl, zQ.wi (zQ.wi zQ.rf rfl) rfl⟩
theorem t_nr0 (hI : zIoK I) (h : zTT I σ μ) (hF : zF σ μ) (hW : zWzz σ μ) {y d : Int32} : zp2 (fX5_near_92 σ y d 0) (fX12_zero_109 μ y d 0) (zEnq I) := by
  unfold fX5_near_92 fX12_zero_109
  refine zp2_ifl (fun _ => zp2_ifr (fun _ => ?_) (fun q => absurd rfl q)) (fun q => absurd rfl q)
  unfold fX5_near_112 fX12_zero_122
  refine zp2_ifl (fun _ => ?_) (fun q => absurd rfl q)
  unfold fX5_near_123
  by_cases y2 : y = 2
  · rw [if_pos y2, if_pos y2]
    exact zp2_ifr (fun _ => zp2_some ⟨h, hF, hW, rfl⟩) (fun q => absurd rfl q)
  · rw [if_neg y2, if_neg y2]
    exact zp2_ifr (fun _ => zp2_some ⟨h, hF, hW, rfl⟩) (fun q => absurd rfl q)
theorem t_nr1 (hI : zIoK I) (h : zTT I σ μ) (hF : zF σ μ) (hW : zWzz σ μ) {y d : Int32} : zp2 (fX5_near_92 σ y d 1) (fX12_zero_109 μ y d 1) (zEnq I) := by
  unfold fX5_near_92 fX12_zero_109
  refine zp2_ifl (fun q => absurd q (by decide)) (fun _ => zp2_ifr (fun q => absurd q (by decide)) (fun _ => zp2_ckl (zp2_buu (t_go hI h) (fun s t q => ?_))))
  obtain ⟨h1, w1, qc, qm⟩ := q
  have f1 : zF s t := hF.of (qc.1 36 1 rfl) (qm.1 3 1 rfl)
  unfold fX5_near_112 fX12_zero_122
  refine zp2_ifl (fun q => absurd q (by decide)) (fun _ => ?_)
  unfold fX5_near_123
  by_cases y2 : y = 2
  · rw [if_pos y2, if_pos y2]
    exact zp2_ifr (fun q => absurd q (by decide)) (fun _ => zp2_some ⟨h1, f1, w1, rfl⟩)
  · rw [if_neg y2, if_neg y2]
    exact zp2_ifr (fun q => absurd q (by decide)) (fun _ => zp2_some ⟨h1, f1, w1, rfl⟩)
theorem p_cwC0 : zpc (fX5_changeWithOther σ 0) (fun r => r = zsi (zsi σ 36 0 (σ.1 36 8)) 36 8 (σ.1 36 0)) := by
  unfold fX5_changeWithOther
  exact zpc_ck (zpc_bv (fun v ev => zpc_ck (zpc_ck (zpc_bv (fun s es => zpc_ck (zpc_bv (fun s2 e2 => zpc_some (by rw [e2, es, ev]; rfl))))))))
theorem p_cwM0 : zpc (fX12_change μ 0 8) (fun r => r = zsi (zsi μ 3 0 (μ.1 3 8)) 3 8 (μ.1 3 0)) := by
  unfold fX12_change
  exact zpc_ck (zpc_bv (fun v ev => zpc_ck (zpc_ck (zpc_bv (fun s es => zpc_ck (zpc_bv (fun s2 e2 => zpc_some (by rw [e2, es, ev]; rfl))))))))
theorem p_cwC1 : zpc (fX5_changeWithOther σ 1) (fun r => r = zsi (zsi σ 36 1 (σ.1 36 9)) 36 9 (σ.1 36 1)) := by
  unfold fX5_changeWithOther
  exact zpc_ck (zpc_bv (fun v ev => zpc_ck (zpc_ck (zpc_bv (fun s es => zpc_ck (zpc_bv (fun s2 e2 => zpc_some (by rw [e2, es, ev]; rfl))))))))
theorem p_cwM1 : zpc (fX12_change μ 1 9) (fun r => r = zsi (zsi μ 3 1 (μ.1 3 9)) 3 9 (μ.1 3 1)) := by
  unfold fX12_change
  exact zpc_ck (zpc_bv (fun v ev => zpc_ck (zpc_ck (zpc_bv (fun s es => zpc_ck (zpc_bv (fun s2 e2 => zpc_some (by rw [e2, es, ev]; rfl))))))))
theorem p_cwC2 : zpc (fX5_changeWithOther σ 2) (fun r => r = zsi (zsi σ 36 2 (σ.1 36 10)) 36 10 (σ.1 36 2)) := by
  unfold fX5_changeWithOther
  exact zpc_ck (zpc_bv (fun v ev => zpc_ck (zpc_ck (zpc_bv (fun s es => zpc_ck (zpc_bv (fun s2 e2 => zpc_some (by rw [e2, es, ev]; rfl))))))))
theorem p_cwM2 : zpc (fX12_change μ 2 10) (fun r => r = zsi (zsi μ 3 2 (μ.1 3 10)) 3 10 (μ.1 3 2)) := by
  unfold fX12_change
  exact zpc_ck (zpc_bv (fun v ev => zpc_ck (zpc_ck (zpc_bv (fun s es => zpc_ck (zpc_bv (fun s2 e2 => zpc_some (by rw [e2, es, ev]; rfl))))))))
theorem p_cwC3 : zpc (fX5_changeWithOther σ 3) (fun r => r = zsi (zsi σ 36 3 (σ.1 36 11)) 36 11 (σ.1 36 3)) := by
  unfold fX5_changeWithOther
  exact zpc_ck (zpc_bv (fun v ev => zpc_ck (zpc_ck (zpc_bv (fun s es => zpc_ck (zpc_bv (fun s2 e2 => zpc_some (by rw [e2, es, ev]; rfl))))))))
theorem p_cwM3 : zpc (fX12_change μ 3 11) (fun r => r = zsi (zsi μ 3 3 (μ.1 3 11)) 3 11 (μ.1 3 3)) := by
  unfold fX12_change
  exact zpc_ck (zpc_bv (fun v ev => zpc_ck (zpc_ck (zpc_bv (fun s es => zpc_ck (zpc_bv (fun s2 e2 => zpc_some (by rw [e2, es, ev]; rfl))))))))
theorem p_cwC4 : zpc (fX5_changeWithOther σ 4) (fun r => r = zsi (zsi σ 36 4 (σ.1 36 12)) 36 12 (σ.1 36 4)) := by
  unfold fX5_changeWithOther
  exact zpc_ck (zpc_bv (fun v ev => zpc_ck (zpc_ck (zpc_bv (fun s es => zpc_ck (zpc_bv (fun s2 e2 => zpc_some (by rw [e2, es, ev]; rfl))))))))
theorem p_cwM4 : zpc (fX12_change μ 4 12) (fun r => r = zsi (zsi μ 3 4 (μ.1 3 12)) 3 12 (μ.1 3 4)) := by
  unfold fX12_change
  exact zpc_ck (zpc_bv (fun v ev => zpc_ck (zpc_ck (zpc_bv (fun s es => zpc_ck (zpc_bv (fun s2 e2 => zpc_some (by rw [e2, es, ev]; rfl))))))))
theorem p_cwC5 : zpc (fX5_changeWithOther σ 5) (fun r => r = zsi (zsi σ 36 5 (σ.1 36 13)) 36 13 (σ.1 36 5)) := by
  unfold fX5_changeWithOther
  exact zpc_ck (zpc_bv (fun v ev => zpc_ck (zpc_ck (zpc_bv (fun s es => zpc_ck (zpc_bv (fun s2 e2 => zpc_some (by rw [e2, es, ev]; rfl))))))))
theorem p_cwM5 : zpc (fX12_change μ 5 13) (fun r => r = zsi (zsi μ 3 5 (μ.1 3 13)) 3 13 (μ.1 3 5)) := by
  unfold fX12_change
  exact zpc_ck (zpc_bv (fun v ev => zpc_ck (zpc_ck (zpc_bv (fun s es => zpc_ck (zpc_bv (fun s2 e2 => zpc_some (by rw [e2, es, ev]; rfl))))))))
theorem p_cwC6 : zpc (fX5_changeWithOther σ 6) (fun r => r = zsi (zsi σ 36 6 (σ.1 36 14)) 36 14 (σ.1 36 6)) := by
  unfold fX5_changeWithOther
  exact zpc_ck (zpc_bv (fun v ev => zpc_ck (zpc_ck (zpc_bv (fun s es => zpc_ck (zpc_bv (fun s2 e2 => zpc_some (by rw [e2, es, ev]; rfl))))))))
theorem p_cwM6 : zpc (fX12_change μ 6 14) (fun r => r = zsi (zsi μ 3 6 (μ.1 3 14)) 3 14 (μ.1 3 6)) := by
  unfold fX12_change
  exact zpc_ck (zpc_bv (fun v ev => zpc_ck (zpc_ck (zpc_bv (fun s es => zpc_ck (zpc_bv (fun s2 e2 => zpc_some (by rw [e2, es, ev]; rfl))))))))
theorem p_cwC7 : zpc (fX5_changeWithOther σ 7) (fun r => r = zsi (zsi σ 36 7 (σ.1 36 15)) 36 15 (σ.1 36 7)) := by
  unfold fX5_changeWithOther
  exact zpc_ck (zpc_bv (fun v ev => zpc_ck (zpc_ck (zpc_bv (fun s es => zpc_ck (zpc_bv (fun s2 e2 => zpc_some (by rw [e2, es, ev]; rfl))))))))
theorem p_cwM7 : zpc (fX12_change μ 7 15) (fun r => r = zsi (zsi μ 3 7 (μ.1 3 15)) 3 15 (μ.1 3 7)) := by
  unfold fX12_change
  exact zpc_ck (zpc_bv (fun v ev => zpc_ck (zpc_ck (zpc_bv (fun s es => zpc_ck (zpc_bv (fun s2 e2 => zpc_some (by rw [e2, es, ev]; rfl))))))))
theorem t_cw0 (hI : zIoK I) (h : zTT I σ μ) : zp2 (fX5_changeWithOther σ 0) (fX12_change μ 0 8) (fun r r' => zTT I r r' ∧ zQ [] [(36, 0, 0), (36, 8, 8)] [] [] σ r ∧ zQ [] [(3, 0, 0), (3, 8, 8)] [] [] μ r') := by
  intro r r' er er'
  rw [p_cwC0 r er, p_cwM0 r' er']
  exact ⟨h.upd hI [0, 8] (zQ.wi (zQ.wi zQ.rf rfl) rfl) (zQ.wi (zQ.wi zQ.rf rfl) rfl) rfl (zAl2 ⟨h.eq (j := 8) (by decide), zrg_b (Or.inl (by decide)) (h.b (j := 8) (by decide))⟩ ⟨h.eq (j := 0) (by decide), zrg_b (Or.inl (by decide)) (h.b (j := 0) (by decide))⟩), zQ.wi (zQ.wi zQ.rf rfl) rfl, zQ.wi (zQ.wi zQ.rf rfl) rfl⟩
theorem t_cw2 (hI : zIoK I) (h : zTT I σ μ) : zp2 (fX5_changeWithOther σ 2) (fX12_change μ 2 10) (fun r r' => zTT I r r' ∧ zQ [] [(36, 2, 2), (36, 10, 10)] [] [] σ r ∧ zQ [] [(3, 2, 2), (3, 10, 10)] [] [] μ r') := by
  intro r r' er er'
  rw [p_cwC2 r er, p_cwM2 r' er']
  exact ⟨h.upd hI [2, 10] (zQ.wi (zQ.wi zQ.rf rfl) rfl) (zQ.wi (zQ.wi zQ.rf rfl) rfl) rfl (zAl2 ⟨h.eq (j := 10) (by decide), zrg_b (Or.inl (by decide)) (h.b (j := 10) (by decide))⟩ ⟨h.eq (j := 2) (by decide), zrg_b (Or.inl (by decide)) (h.b (j := 2) (by decide))⟩), zQ.wi (zQ.wi zQ.rf rfl) rfl, zQ.wi (zQ.wi zQ.rf rfl) rfl⟩
theorem t_cw3 (hI : zIoK I) (h : zTT I σ μ) : zp2 (fX5_changeWithOther σ 3) (fX12_change μ 3 11) (fun r r' => zTT I r r' ∧ zQ [] [(36, 3, 3), (36, 11, 11)] [] [] σ r ∧ zQ [] [(3, 3, 3), (3, 11, 11)] [] [] μ r') := by
  intro r r' er er'
  rw [p_cwC3 r er, p_cwM3 r' er']
  exact ⟨h.upd hI [3, 11] (zQ.wi (zQ.wi zQ.rf rfl) rfl) (zQ.wi (zQ.wi zQ.rf rfl) rfl) rfl (zAl2 ⟨h.eq (j := 11) (by decide), zrg_b (Or.inl (by decide)) (h.b (j := 11) (by decide))⟩ ⟨h.eq (j := 3) (by decide), zrg_b (Or.inl (by decide)) (h.b (j := 3) (by decide))⟩), zQ.wi (zQ.wi zQ.rf rfl) rfl, zQ.wi (zQ.wi zQ.rf rfl) rfl⟩
theorem t_cw4 (hI : zIoK I) (h : zTT I σ μ) : zp2 (fX5_changeWithOther σ 4) (fX12_change μ 4 12) (fun r r' => zTT I r r' ∧ zQ [] [(36, 4, 4), (36, 12, 12)] [] [] σ r ∧ zQ [] [(3, 4, 4), (3, 12, 12)] [] [] μ r') := by
  intro r r' er er'
  rw [p_cwC4 r er, p_cwM4 r' er']
  exact ⟨h.upd hI [4, 12] (zQ.wi (zQ.wi zQ.rf rfl) rfl) (zQ.wi (zQ.wi zQ.rf rfl) rfl) rfl (zAl2 ⟨h.eq (j := 12) (by decide), zrg_b (Or.inl (by decide)) (h.b (j := 12) (by decide))⟩ ⟨h.eq (j := 4) (by decide), zrg_b (Or.inl (by decide)) (h.b (j := 4) (by decide))⟩), zQ.wi (zQ.wi zQ.rf rfl) rfl, zQ.wi (zQ.wi zQ.rf rfl) rfl⟩
theorem t_cw5 (hI : zIoK I) (h : zTT I σ μ) : zp2 (fX5_changeWithOther σ 5) (fX12_change μ 5 13) (fun r r' => zTT I r r' ∧ zQ [] [(36, 5, 5), (36, 13, 13)] [] [] σ r ∧ zQ [] [(3, 5, 5), (3, 13, 13)] [] [] μ r') := by
  intro r r' er er'
  rw [p_cwC5 r er, p_cwM5 r' er']
  exact ⟨h.upd hI [5, 13] (zQ.wi (zQ.wi zQ.rf rfl) rfl) (zQ.wi (zQ.wi zQ.rf rfl) rfl) rfl (zAl2 ⟨h.eq (j := 13) (by decide), zrg_b (Or.inl (by decide)) (h.b (j := 13) (by decide))⟩ ⟨h.eq (j := 5) (by decide), zrg_b (Or.inl (by decide)) (h.b (j := 5) (by decide))⟩), zQ.wi (zQ.wi zQ.rf rfl) rfl, zQ.wi (zQ.wi zQ.rf rfl) rfl⟩
theorem t_cw6 (hI : zIoK I) (h : zTT I σ μ) : zp2 (fX5_changeWithOther σ 6) (fX12_change μ 6 14) (fun r r' => zTT I r r' ∧ zQ [] [(36, 6, 6), (36, 14, 14)] [] [] σ r ∧ zQ [] [(3, 6, 6), (3, 14, 14)] [] [] μ r') := by
  intro r r' er er'
  rw [p_cwC6 r er, p_cwM6 r' er']
  exact ⟨h.upd hI [6, 14] (zQ.wi (zQ.wi zQ.rf rfl) rfl) (zQ.wi (zQ.wi zQ.rf rfl) rfl) rfl (zAl2 ⟨h.eq (j := 14) (by decide), zrg_b (Or.inl (by decide)) (h.b (j := 14) (by decide))⟩ ⟨h.eq (j := 6) (by decide), zrg_b (Or.inl (by decide)) (h.b (j := 6) (by decide))⟩), zQ.wi (zQ.wi zQ.rf rfl) rfl, zQ.wi (zQ.wi zQ.rf rfl) rfl⟩
theorem t_cw7 (hI : zIoK I) (h : zTT I σ μ) : zp2 (fX5_changeWithOther σ 7) (fX12_change μ 7 15) (fun r r' => zTT I r r' ∧ zQ [] [(36, 7, 7), (36, 15, 15)] [] [] σ r ∧ zQ [] [(3, 7, 7), (3, 15, 15)] [] [] μ r') := by
  intro r r' er er'
  rw [p_cwC7 r er, p_cwM7 r' er']
  exact ⟨h.upd hI [7, 15] (zQ.wi (zQ.wi zQ.rf rfl) rfl) (zQ.wi (zQ.wi zQ.rf rfl) rfl) rfl (zAl2 ⟨h.eq (j := 15) (by decide), zrg_b (Or.inl (by decide)) (h.b (j := 15) (by decide))⟩ ⟨h.eq (j := 7) (by decide), zrg_b (Or.inl (by decide)) (h.b (j := 7) (by decide))⟩), zQ.wi (zQ.wi zQ.rf rfl) rfl, zQ.wi (zQ.wi zQ.rf rfl) rfl⟩
theorem t_cw1 (hI : zIoK I) (h : zTT I σ μ) (hF : zF σ μ) : zp2 (fX5_changeWithOther σ 1) (fX12_change μ 1 9) (fun r r' => zTT I r r' ∧ zF r r' ∧ zQ [] [(36, 1, 1), (36, 9, 9)] [] [] σ r ∧ zQ [] [(3, 1, 1), (3, 9, 9)] [] [] μ r') := by
  intro r r' er er'
  rw [p_cwC1 r er, p_cwM1 r' er']
  exact ⟨h.upd hI [1, 9] (zQ.wi (zQ.wi zQ.rf rfl) rfl) (zQ.wi (zQ.wi zQ.rf rfl) rfl) rfl (zAl2 ⟨h.eq (j := 9) (by decide), zrg_b (Or.inl (by decide)) (h.b (j := 9) (by decide))⟩ ⟨hF, zrg_b (Or.inl (by decide)) (h.b (j := 1) (by decide))⟩), h.eq (j := 9) (by decide), zQ.wi (zQ.wi zQ.rf rfl) rfl, zQ.wi (zQ.wi zQ.rf rfl) rfl⟩
theorem t_near (hI : zIoK I) (h : zTT I σ μ) (hF : zF σ μ) (hW : zWzz σ μ) {y : Int32} (hy : zr 0 7 y) : zp2 (fX5_near σ y) (fX12_zero μ y 0) (zEnq I) := by
  unfold fX5_near fX12_zero
  refine zp2_bvr (fun p _ => zp2_ifr (fun _ => ?_) (fun q => absurd rfl q))
  rcases zr_hd (c := 0) hy rfl with e | hy
  · subst e
    exact zp2_ifl (fun q => absurd q (by decide)) (fun _ => zp2_ifl (fun q => absurd q (by decide)) (fun _ => zp2_ifr (fun _ => zp2_some ⟨h, hF, hW, rfl⟩) (fun q => absurd rfl q)))
  rcases zr_hd (c := 1) hy rfl with e | hy
  · subst e
    refine zp2_ifl (fun q => absurd q (by decide)) (fun _ => zp2_ifl (fun _ => zp2_ifr (fun q => absurd q (by decide)) (fun _ => zp2_ifr (fun _ => ?_) (fun q => absurd rfl q))) (fun q => absurd rfl q))
    refine zp2_buu (t_cw0 hI h) (fun s t q => ?_)
    obtain ⟨h1, qc, qm⟩ := q
    refine zp2_buu (t_cw1 hI h1 (hF.of (qc.1 36 1 rfl) (qm.1 3 1 rfl))) (fun s2 t2 q2 => zp2_some ?_)
    obtain ⟨h2, f2, qc2, qm2⟩ := q2
    exact ⟨h2, f2, hW.of ((qc2.1 36 20 rfl).trans (qc.1 36 20 rfl)) ((qm2.1 3 20 rfl).trans (qm.1 3 20 rfl)), rfl⟩
  have y2 : 2 ≤ y := Int32.le_iff_toInt_le.mpr (by have := hy.1; have c : (2 : Int32).toInt = 2 := rfl; omega)
  have n0 : ¬ y = 0 := fun e => by rw [e] at y2; exact absurd y2 (by decide)
  have n1 : ¬ y = 1 := fun e => by rw [e] at y2; exact absurd y2 (by decide)
  refine zp2_ifl (fun _ => zp2_ifr (fun q => absurd q n0) (fun _ => zp2_ifr (fun q => absurd q n1) (fun _ => ?_))) (fun q => absurd y2 q)
  refine zp2_bii (t_next hI h) (fun s v t v' q => ?_)
  obtain ⟨h1, e1, rv, qc, qm⟩ := q
  have e1 : v' = v := e1
  subst e1
  have f1 : zF s t := hF.of (qc.1 36 1 rfl) (qm.1 3 1 rfl)
  have w1 : zWzz s t := hW.of (qc.1 36 20 rfl) (qm.1 3 20 rfl)
  refine zp2_bir p_signed (fun t1 v1 et => ?_)
  cases et
  refine zp2_bvl (fun d ed => ?_)
  have ed : d = if 128 ≤ v' then v' - 256 else v' := ed.trans (z_i8s rv)
  rw [← ed]
  unfold fX5_near_48 fX5_near_52 fX5_near_53 fX5_near_91 fX12_zero_67 fX12_zero_104
  rcases zr_hd (c := 2) hy rfl with e | hy
  · subst e
    refine zp2_ifl (fun q => absurd q (by decide)) (fun _ => zp2_ifl (fun _ => zp2_ifl (fun _ => zp2_ifr (fun _ => ?_) (fun q => absurd rfl q)) (fun q => absurd rfl q)) (fun q => absurd (by decide) q))
    refine zp2_ckl (zp2_ckl (zp2_bvl (fun s2 f2 => zp2_ckl (zp2_ckr (zp2_ckr (zp2_bvr (fun t2 g2 => zp2_ifr (fun _ => zp2_ckr ?_) (fun q => absurd rfl q))))))))
    have eb : t2.1 3 2 = s2.1 36 2 := by
      rw [f2, g2]
      show (t.1 3 2 - 1) &&& 255 = (s.1 36 2 - 1) &&& 255
      rw [h1.eq (by decide)]
    have h2 : zTT I s2 t2 := h1.upd hI [2] (by rw [f2]; exact zQ.wi zQ.rf rfl) (by rw [g2]; exact zQ.wi zQ.rf rfl) rfl (zAl1 ⟨eb, by rw [f2]; exact zrg_b (Or.inl (by decide)) (z_r8 _)⟩)
    have f3 : zF s2 t2 := f1.of (by rw [f2]; rfl) (by rw [g2]; rfl)
    have w3 : zWzz s2 t2 := w1.of (by rw [f2]; rfl) (by rw [g2]; rfl)
    by_cases b0 : s2.1 36 2 = 0
    · exact zp2_ifl (fun _ => zp2_ifr (fun _ => t_nr0 hI h2 f3 w3) (fun q => absurd (eb.trans b0) q)) (fun q => absurd b0 q)
    · exact zp2_ifl (fun q => absurd q b0) (fun _ => zp2_ifr (fun q => absurd (eb.symm.trans q) b0) (fun _ => t_nr1 hI h2 f3 w3))
  rcases zr_hd (c := 3) hy rfl with e | hy
  · subst e
    exact zp2_ifl (fun _ => zp2_ifl (fun q => absurd q (by decide)) (fun _ => zp2_ifr (fun q => absurd q (by decide)) (fun _ => zp2_ifr (fun q => absurd q (by decide)) (fun _ => zp2_ifr (fun _ => t_nr1 hI h1 f1 w1) (fun q => absurd rfl q))))) (fun q => absurd rfl q)
  have y4 : ¬ y ≤ 3 := fun q => by have := Int32.le_iff_toInt_le.mp q; have := hy.1; have c : (3 : Int32).toInt = 3 := rfl; omega
  have n2 : ¬ y = 2 := fun e => y4 (by rw [e]; decide)
  have n3 : ¬ y = 3 := fun e => y4 (by rw [e]; decide)
  have r4 : zr 0 7 (y - 4) := zr_sub (lo := 0) (hi := 7) hy (zr_c (lo := 4) (hi := 4) (x := 4) (by decide)) (by decide)
  refine zp2_ifl (fun q => absurd q n3) (fun _ => zp2_ifl (fun q => absurd q y4) (fun _ => zp2_ifr (fun q => absurd q n2) (fun _ => zp2_ifr (fun q => absurd q n2) (fun _ => zp2_ifr (fun q => absurd q n3) (fun _ => ?_)))))
  refine zp2_bii (t_cc f1 (h1.b (j := 1) (by decide)) r4) (fun s2 v2 t2 v3 q => ?_)
  obtain ⟨q1, q2, q3, q4⟩ := q
  have q1 : s2 = s := q1
  have q2 : t2 = t := q2
  have q3 : v3 = v2 := q3
  subst q1
  subst q2
  subst q3
  exact zp2_if (fun _ => zp2_ifl (fun q => absurd q n2) (fun _ => t_nr0 hI h1 f1 w1)) (fun _ => zp2_ifl (fun q => absurd q n2) (fun _ => t_nr1 hI h1 f1 w1))
/-! ld rp, nn; add hl, rp; inc, dec rp -/
theorem t_ldrp (hI : zIoK I) (h : zTT I σ μ) (hF : zF σ μ) (hW : zWzz σ μ) {p : Int32} : zp2 (fX5_loadPair σ p) (zbi (fX12_nextWord μ ) (fun σ21 v22 => zbu (fX12_rpTo σ21 p v22) (fun σ23 => some (σ23, (10 : Int32))))) (zEnq I) := by
  unfold fX5_loadPair
  refine zp2_bii (t_word hI h) (fun s v t v' q => ?_)
  obtain ⟨h1, e1, rv, qc, qm⟩ := q
  refine zp2_buu (t_rpTo hI h1 e1) (fun s2 t2 q2 => zp2_some ?_)
  obtain ⟨h2, qc2, qm2⟩ := q2
  exact ⟨h2, hF.of ((qc2.1 36 1 rfl).trans (qc.1 36 1 rfl)) ((qm2.1 3 1 rfl).trans (qm.1 3 1 rfl)), hW.of ((qc2.1 36 20 rfl).trans (qc.1 36 20 rfl)) ((qm2.1 3 20 rfl).trans (qm.1 3 20 rfl)), rfl⟩
theorem p_ahM {t : zSt} {v : Int32} {K : Prop} {d : Decidable K} : zpc (@ite _ K d (fX12_zero_249 t v 0 4) (fX12_zero_249 t v 1 4)) (fun r => r = (zsi t 3 1 (gxy (pt (pt (pt (t.1 3 1) 4 (@ite _ K d 0 1)) 0 (if v ≤ 65535 then 0 else 1)) 1 0) (v >>> ((8 : Int32) &&& 31))), 11)) := by
  refine zpc_j (K := fun g => fX12_zero_249 t v g 4) (a := 0) (b := 1) (fun g eg => ?_)
  unfold fX12_zero_249
  refine zpc_bu p_put' (fun s es => ?_)
  subst es
  refine zpc_j (K := fun c => fX12_zero_266 (zsi t 3 1 (pt (t.1 3 1) 4 g)) v c 0) (a := 0) (b := 1) (fun c ec => ?_)
  unfold fX12_zero_266
  refine zpc_bu p_put (fun s es => ?_)
  subst es
  refine zpc_bu p_put (fun s es => ?_)
  subst es
  refine zpc_bu p_xy (fun s es => zpc_some ?_)
  rw [es, eg, ec]
theorem t_addhl (hI : zIoK I) (h : zTT I σ μ) (hF : zF σ μ) {y p : Int32} (hp : zr 0 3 p) : zp2 (fX5_addPair σ p) (fX12_zero_178 μ y 1 p) (zEnq I) := by
  unfold fX5_addPair fX12_zero_178
  refine zp2_ifr (fun _ => zp2_sm (t_hl h) (fun a' ra => zp2_sm (t_rp h hp) (fun b' rb => ?_))) (fun q => absurd rfl q)
  refine zp2_bvl (fun v ev => zp2_ckl (zp2_bvl (fun s2 f2 => zp2_ckr (zp2_bvr (fun t2 g2 => zp2_bvr (fun v' ev' => ?_))))))
  have ev2 : v' = v := ev'.trans ev.symm
  subst ev2
  have h1 : zTT I s2 t2 := h.upd hI [20] (by rw [f2]; exact zQ.wi zQ.rf rfl) (by rw [g2]; exact zQ.wi zQ.rf rfl) rfl (zAl1 ⟨by rw [f2, g2]; rfl, by rw [f2]; exact zrg_w (by decide) (by decide) (z_r16 _)⟩)
  have w1 : zWzz s2 t2 := by rw [f2, g2]; rfl
  have f1 : zF s2 t2 := hF.of (by rw [f2]; rfl) (by rw [g2]; rfl)
  refine zp2_buu (t_hlTo hI h1 (v := v') (w := v') rfl) (fun s3 t3 q => ?_)
  obtain ⟨h3, qc, qm⟩ := q
  have f3 : zF s3 t3 := f1.of (qc.1 36 1 rfl) (qm.1 3 1 rfl)
  have w3 : zWzz s3 t3 := w1.of (qc.1 36 20 rfl) (qm.1 3 20 rfl)
  have hf : zr 0 255 (s3.1 36 1) := h3.b (by decide)
  refine zp2_ckl (zp2_ckl (zp2_bvl (fun s4 f4 => ?_)))
  intro r r' er er'
  cases er
  rw [p_ahM r' er']
  have tv : v'.toInt = a'.toInt + b'.toInt := by rw [ev']; exact z_tadd ra rb (by decide)
  have rv : zr 0 131071 v' := by rw [ev']; exact zr_add (lo := 0) (hi := 131071) ra rb (by decide)
  have m1 : (a' &&& 4095).toInt = a'.toInt % 4096 := z_mask (k := 12) ra.1 rfl (by decide)
  have m2 : (b' &&& 4095).toInt = b'.toInt % 4096 := z_mask (k := 12) rb.1 rfl (by decide)
  have a12 : ∀ x : Int32, zr 0 4095 (x &&& 4095) := fun x => zr_andr (lo := 0) (hi := 4095) (zr_c (lo := 4095) (hi := 4095) (by decide)) (by decide)
  have m3 : ((a' &&& 4095) + (b' &&& 4095)).toInt = (a' &&& 4095).toInt + (b' &&& 4095).toInt := z_tadd (a12 _) (a12 _) (by decide)
  have c4 : (4095 : Int32).toInt = 4095 := rfl
  have hh := v_h12 (a := a') (b := b') (v := v') (X := (a' ^^^ b') ^^^ v') (c := 0) (K := ((a' &&& 4095) + (b' &&& 4095)) ≤ 4095) (d := inferInstance) ra rb (by omega) (by decide) rfl (by rw [Int32.le_iff_toInt_le]; omega)
  have eF : t3.1 3 1 = s3.1 36 1 := f3
  have e : gxy (pt (pt (pt (s3.1 36 1) 4 (if ((a' &&& 4095) + (b' &&& 4095)) ≤ 4095 then 0 else 1)) 0 (if v' ≤ 65535 then 0 else 1)) 1 0) (v' >>> ((8 : Int32) &&& 31)) = (((s3.1 36 1 &&& 196) ||| ((v' >>> ((8 : Int32) &&& 31)) &&& 40)) ||| ((((a' ^^^ b') ^^^ v') >>> ((8 : Int32) &&& 31)) &&& 16)) ||| (v' >>> ((16 : Int32) &&& 31)) := by
    rw [hh, z_196 hf, z_x512 rv, v_17 rv, ← v_ahB]
    conv => lhs; rw [fl_of hf, pt_4, pt_0, pt_1, fl_xy]
    rfl
  have rF : zr 0 255 ((((s3.1 36 1 &&& 196) ||| ((v' >>> ((8 : Int32) &&& 31)) &&& 40)) ||| ((((a' ^^^ b') ^^^ v') >>> ((8 : Int32) &&& 31)) &&& 16)) ||| (v' >>> ((16 : Int32) &&& 31))) := by
    rw [hh, z_196 hf, z_x512 rv, v_17 rv, ← v_ahB]
    exact zfl_r _ _ _ _ _ _ _ _
  rw [eF, e, f4]
  exact ⟨(h3.onC hI (Or.inl rfl) (zrg_b (Or.inl (by decide)) rF)).onM hI (Or.inl rfl), rfl, w3, rfl⟩
theorem t_incrp (hI : zIoK I) (h : zTT I σ μ) (hF : zF σ μ) (hW : zWzz σ μ) {p c : Int32} (hp : zr 0 3 p) : zp2 (zbi (fX5_pair σ p) (fun s v => fX5_firstQuarter_110 s c v p)) (zbi (fX12_rp μ p) (fun t v => fX12_zero_328 t c v p)) (zEnq I) := by
  refine zp2_bii (t_rp h hp) (fun s1 b t1 b' q => ?_)
  obtain ⟨q1, q2, q3, rb⟩ := q
  have q1 : s1 = σ := q1
  have q2 : t1 = μ := q2
  have q3 : b' = b := q3
  subst q1
  subst q2
  subst q3
  unfold fX5_firstQuarter_110 fX12_zero_328
  refine zp2_buu (t_rpTo hI h rfl) (fun s2 t2 q2 => zp2_some ?_)
  obtain ⟨h2, qc2, qm2⟩ := q2
  exact ⟨h2, hF.of (qc2.1 36 1 rfl) (qm2.1 3 1 rfl), hW.of (qc2.1 36 20 rfl) (qm2.1 3 20 rfl), rfl⟩
theorem t_ldn (hI : zIoK I) (h : zTT I σ μ) (hF : zF σ μ) (hW : zWzz σ μ) (hp : zPlc σ μ) {y : Int32} (hy : zr 0 7 y) : zp2 (zbi (fX5_fetch σ ) (fun s v => zbu (fX5_putOne s y v) (fun s2 => if y = 6 then fX5_firstQuarter_193 s2 10 else fX5_firstQuarter_193 s2 7))) (fX12_singles μ y 6) (zEnq I) := by
  unfold fX12_singles
  refine zp2_ifr (fun _ => zp2_bii (t_next hI h) (fun s v t v' q => ?_)) (fun q => absurd rfl q)
  obtain ⟨h1, e1, rv, qc, qm⟩ := q
  have e1 : v' = v := e1
  subst e1
  refine zp2_buu (t_putOne hI h1 (hp.of (qc.1 7 5 rfl) (qc.1 36 6 rfl) (qc.1 36 7 rfl) (qm.1 3 20 rfl) (qm.1 0 32 rfl)) hy (z_m255 rv) rv) (fun s2 t2 q2 => ?_)
  obtain ⟨h2, qc2, qm2⟩ := q2
  have f2 : zF s2 t2 := hF.of ((qc2.1 36 1 rfl).trans (qc.1 36 1 rfl)) ((qm2.1 3 1 rfl).trans (qm.1 3 1 rfl))
  have w2 : zWzz s2 t2 := hW.of ((qc2.1 36 20 rfl).trans (qc.1 36 20 rfl)) ((qm2.1 3 20 rfl).trans (qm.1 3 20 rfl))
  unfold fX5_firstQuarter_193 fX12_singles_28
  exact zp2_if (fun _ => zp2_some ⟨h2, f2, w2, rfl⟩) (fun _ => zp2_some ⟨h2, f2, w2, rfl⟩)
end ZQ1
