section ZJN0
/-! SAFE: ranges of numbers, and what a pure function comes to -/
noncomputable def zr (lo hi : Int) (x : Int32) : Prop := lo ≤ x.toInt ∧ x.toInt ≤ hi
noncomputable def zrl (lo hi : Int) (x : Int64) : Prop := lo ≤ x.toInt ∧ x.toInt ≤ hi
noncomputable def zok {α : Type} (o : Option α) (P : α → Prop) : Prop := ∃ a, o = some a ∧ P a
theorem zok_some {α : Type} {a : α} {P : α → Prop} (h : P a) : zok (some a) P := ⟨a, rfl, h⟩
theorem zok_mono {α : Type} {o : Option α} {P Q : α → Prop} (h : zok o P) (k : ∀ a, P a → Q a) : zok o Q := by
  obtain ⟨a, e, ha⟩ := h
  exact ⟨a, e, k a ha⟩
theorem zok_ck {α : Type} {b : Bool} {x : Option α} {P : α → Prop} (hb : b = true) (h : zok x P) : zok (zck b x) P := by subst hb; exact h
theorem zok_bv {α β : Type} {x : α} {f : α → Option β} {P : β → Prop} (h : ∀ y, y = x → zok (f y) P) : zok (zbv x f) P := h x rfl
theorem zok_br {β : Type} {x : Int32} {f : Int32 → Option β} {P : β → Prop} {lo hi : Int} (hx : zr lo hi x) (h : ∀ y, y = x → zr lo hi y → zok (f y) P) : zok (zbv x f) P := h x rfl hx
theorem zok_bl {β : Type} {x : Int64} {f : Int64 → Option β} {P : β → Prop} {lo hi : Int} (hx : zrl lo hi x) (h : ∀ y, y = x → zrl lo hi y → zok (f y) P) : zok (zbv x f) P := h x rfl hx
theorem zok_bs {β : Type} {x : zSt} {f : zSt → Option β} {P : β → Prop} {I : zSt → Prop} (hx : I x) (h : ∀ y, y = x → I y → zok (f y) P) : zok (zbv x f) P := h x rfl hx
theorem zok_bi {α : Type} {o : Option (zSt × Int32)} {f : zSt → Int32 → Option α} {Q : zSt × Int32 → Prop} {P : α → Prop} (h : zok o Q) (k : ∀ σ v, Q (σ, v) → zok (f σ v) P) : zok (zbi o f) P := by
  obtain ⟨⟨σ, v⟩, e, ha⟩ := h
  subst e
  exact k σ v ha
theorem zok_bll {α : Type} {o : Option (zSt × Int64)} {f : zSt → Int64 → Option α} {Q : zSt × Int64 → Prop} {P : α → Prop} (h : zok o Q) (k : ∀ σ v, Q (σ, v) → zok (f σ v) P) : zok (zbl o f) P := by
  obtain ⟨⟨σ, v⟩, e, ha⟩ := h
  subst e
  exact k σ v ha
theorem zok_bk {α : Type} {o : Option (zSt × Nat)} {f : zSt → Nat → Option α} {Q : zSt × Nat → Prop} {P : α → Prop} (h : zok o Q) (k : ∀ σ v, Q (σ, v) → zok (f σ v) P) : zok (zbk o f) P := by
  obtain ⟨⟨σ, v⟩, e, ha⟩ := h
  subst e
  exact k σ v ha
theorem zok_bu {α : Type} {o : Option zSt} {f : zSt → Option α} {Q : zSt → Prop} {P : α → Prop} (h : zok o Q) (k : ∀ σ, Q σ → zok (f σ) P) : zok (zbu o f) P := by
  obtain ⟨σ, e, ha⟩ := h
  subst e
  exact k σ ha
theorem zok_if {α : Type} {c : Prop} {d : Decidable c} {x y : Option α} {P : α → Prop} (h1 : c → zok x P) (h2 : ¬ c → zok y P) : zok (@ite _ c d x y) P := by
  by_cases h : c
  · rw [if_pos h]; exact h1 h
  · rw [if_neg h]; exact h2 h
/-- answers: a state with I and a number with Q; the same state and a number with Q -/
noncomputable def zAi (I : zSt → Prop) (Q : Int32 → Prop) (r : zSt × Int32) : Prop := I r.1 ∧ Q r.2
noncomputable def zAL (I : zSt → Prop) (Q : Int64 → Prop) (r : zSt × Int64) : Prop := I r.1 ∧ Q r.2
noncomputable def zAk (I : zSt → Prop) (Q : Nat → Prop) (r : zSt × Nat) : Prop := I r.1 ∧ Q r.2
noncomputable def zPi (σ : zSt) (Q : Int32 → Prop) (r : zSt × Int32) : Prop := r.1 = σ ∧ Q r.2
noncomputable def zPl (σ : zSt) (Q : Int64 → Prop) (r : zSt × Int64) : Prop := r.1 = σ ∧ Q r.2
noncomputable def zPk (σ : zSt) (Q : Nat → Prop) (r : zSt × Nat) : Prop := r.1 = σ ∧ Q r.2
noncomputable def zPu (σ : zSt) (r : zSt) : Prop := r = σ
theorem zok_ai {α : Type} {o : Option (zSt × Int32)} {f : zSt → Int32 → Option α} {I : zSt → Prop} {Q : Int32 → Prop} {P : α → Prop} (h : zok o (zAi I Q)) (k : ∀ σ v, I σ → Q v → zok (f σ v) P) : zok (zbi o f) P := zok_bi h (fun σ v q => k σ v q.1 q.2)
theorem zok_al {α : Type} {o : Option (zSt × Int64)} {f : zSt → Int64 → Option α} {I : zSt → Prop} {Q : Int64 → Prop} {P : α → Prop} (h : zok o (zAL I Q)) (k : ∀ σ v, I σ → Q v → zok (f σ v) P) : zok (zbl o f) P := zok_bll h (fun σ v q => k σ v q.1 q.2)
theorem zok_ak {α : Type} {o : Option (zSt × Nat)} {f : zSt → Nat → Option α} {I : zSt → Prop} {Q : Nat → Prop} {P : α → Prop} (h : zok o (zAk I Q)) (k : ∀ σ v, I σ → Q v → zok (f σ v) P) : zok (zbk o f) P := zok_bk h (fun σ v q => k σ v q.1 q.2)
theorem zok_pi {α : Type} {o : Option (zSt × Int32)} {f : zSt → Int32 → Option α} {Q : Int32 → Prop} {P : α → Prop} {σ : zSt} (h : zok o (zPi σ Q)) (k : ∀ v, Q v → zok (f σ v) P) : zok (zbi o f) P := zok_bi h (fun σ1 v q => by obtain ⟨q1, q2⟩ := q; cases q1; exact k v q2)
theorem zok_pl {α : Type} {o : Option (zSt × Int64)} {f : zSt → Int64 → Option α} {Q : Int64 → Prop} {P : α → Prop} {σ : zSt} (h : zok o (zPl σ Q)) (k : ∀ v, Q v → zok (f σ v) P) : zok (zbl o f) P := zok_bll h (fun σ1 v q => by obtain ⟨q1, q2⟩ := q; cases q1; exact k v q2)
theorem zok_pk {α : Type} {o : Option (zSt × Nat)} {f : zSt → Nat → Option α} {Q : Nat → Prop} {P : α → Prop} {σ : zSt} (h : zok o (zPk σ Q)) (k : ∀ v, Q v → zok (f σ v) P) : zok (zbk o f) P := zok_bk h (fun σ1 v q => by obtain ⟨q1, q2⟩ := q; cases q1; exact k v q2)
theorem zok_pu {α : Type} {o : Option zSt} {f : zSt → Option α} {P : α → Prop} {σ : zSt} (h : zok o (zPu σ)) (k : zok (f σ) P) : zok (zbu o f) P := zok_bu h (fun σ1 q => by cases q; exact k)
theorem zok_sai {I : zSt → Prop} {Q : Int32 → Prop} {σ : zSt} {v : Int32} (hi : I σ) (hq : Q v) : zok (some (σ, v)) (zAi I Q) := ⟨_, rfl, hi, hq⟩
theorem zok_sal {I : zSt → Prop} {Q : Int64 → Prop} {σ : zSt} {v : Int64} (hi : I σ) (hq : Q v) : zok (some (σ, v)) (zAL I Q) := ⟨_, rfl, hi, hq⟩
theorem zok_sak {I : zSt → Prop} {Q : Nat → Prop} {σ : zSt} {v : Nat} (hi : I σ) (hq : Q v) : zok (some (σ, v)) (zAk I Q) := ⟨_, rfl, hi, hq⟩
theorem zok_spi {Q : Int32 → Prop} {σ : zSt} {v : Int32} (hq : Q v) : zok (some (σ, v)) (zPi σ Q) := ⟨_, rfl, rfl, hq⟩
theorem zok_spl {Q : Int64 → Prop} {σ : zSt} {v : Int64} (hq : Q v) : zok (some (σ, v)) (zPl σ Q) := ⟨_, rfl, rfl, hq⟩
theorem zok_spk {Q : Nat → Prop} {σ : zSt} {v : Nat} (hq : Q v) : zok (some (σ, v)) (zPk σ Q) := ⟨_, rfl, rfl, hq⟩
theorem zok_spu {σ : zSt} : zok (some σ) (zPu σ) := ⟨_, rfl, rfl⟩
theorem zok_pai {o : Option (zSt × Int32)} {I : zSt → Prop} {Q : Int32 → Prop} {σ : zSt} (hi : I σ) (h : zok o (zPi σ Q)) : zok o (zAi I Q) := zok_mono h (fun r q => ⟨q.1.symm ▸ hi, q.2⟩)
theorem zok_pal {o : Option (zSt × Int64)} {I : zSt → Prop} {Q : Int64 → Prop} {σ : zSt} (hi : I σ) (h : zok o (zPl σ Q)) : zok o (zAL I Q) := zok_mono h (fun r q => ⟨q.1.symm ▸ hi, q.2⟩)
theorem zok_pak {o : Option (zSt × Nat)} {I : zSt → Prop} {Q : Nat → Prop} {σ : zSt} (hi : I σ) (h : zok o (zPk σ Q)) : zok o (zAk I Q) := zok_mono h (fun r q => ⟨q.1.symm ▸ hi, q.2⟩)
theorem zok_pau {o : Option zSt} {I : zSt → Prop} {σ : zSt} (hi : I σ) (h : zok o (zPu σ)) : zok o I := zok_mono h (fun r q => by cases q; exact hi)
/-! numbers -/
theorem zr_any {x : Int32} : zr (-2147483648) 2147483647 x := by
  have h1 := Int32.le_toInt x
  have h2 := Int32.toInt_lt x
  exact ⟨by omega, by omega⟩
theorem zrl_any {x : Int64} : zrl (-9223372036854775808) 9223372036854775807 x := by
  have h1 := Int64.le_toInt x
  have h2 := Int64.toInt_lt x
  exact ⟨by omega, by omega⟩
theorem zr_w {a b lo hi : Int} {x : Int32} (h : zr a b x) (c : lo ≤ a ∧ b ≤ hi) : zr lo hi x := ⟨Int.le_trans c.1 h.1, Int.le_trans h.2 c.2⟩
theorem zrl_w {a b lo hi : Int} {x : Int64} (h : zrl a b x) (c : lo ≤ a ∧ b ≤ hi) : zrl lo hi x := ⟨Int.le_trans c.1 h.1, Int.le_trans h.2 c.2⟩
theorem zr_c {lo hi : Int} {x : Int32} (c : lo ≤ x.toInt ∧ x.toInt ≤ hi) : zr lo hi x := c
theorem zrl_c {lo hi : Int} {x : Int64} (c : lo ≤ x.toInt ∧ x.toInt ≤ hi) : zrl lo hi x := c
theorem zr_no {lo hi : Int} {x : Int32} {P : Prop} (h : zr lo hi x) (c : hi < lo) : P := by
  have h1 := h.1
  have h2 := h.2
  exfalso; omega
theorem z_bm {x : Int} (h1 : -2147483648 ≤ x) (h2 : x ≤ 2147483647) : x.bmod (2 ^ 32) = x := Int.bmod_eq_of_le (by omega) (by omega)
theorem z_bml {x : Int} (h1 : -9223372036854775808 ≤ x) (h2 : x ≤ 9223372036854775807) : x.bmod (2 ^ 64) = x := Int.bmod_eq_of_le (by omega) (by omega)
theorem z_tadd {x y : Int32} {a b c d : Int} (hx : zr a b x) (hy : zr c d y) (h : -2147483648 ≤ a + c ∧ b + d ≤ 2147483647) : (x + y).toInt = x.toInt + y.toInt := by
  obtain ⟨h1, h2⟩ := hx
  obtain ⟨h3, h4⟩ := hy
  rw [Int32.toInt_add]; exact z_bm (by omega) (by omega)
theorem z_tsub {x y : Int32} {a b c d : Int} (hx : zr a b x) (hy : zr c d y) (h : -2147483648 ≤ a - d ∧ b - c ≤ 2147483647) : (x - y).toInt = x.toInt - y.toInt := by
  obtain ⟨h1, h2⟩ := hx
  obtain ⟨h3, h4⟩ := hy
  rw [Int32.toInt_sub]; exact z_bm (by omega) (by omega)
theorem zr_add {lo hi : Int} {x y : Int32} {a b c d : Int} (hx : zr a b x) (hy : zr c d y) (h : -2147483648 ≤ a + c ∧ b + d ≤ 2147483647 ∧ lo ≤ a + c ∧ b + d ≤ hi) : zr lo hi (x + y) := by
  have e := z_tadd hx hy ⟨h.1, h.2.1⟩
  obtain ⟨h1, h2⟩ := hx
  obtain ⟨h3, h4⟩ := hy
  unfold zr; rw [e]; omega
theorem zr_sub {lo hi : Int} {x y : Int32} {a b c d : Int} (hx : zr a b x) (hy : zr c d y) (h : -2147483648 ≤ a - d ∧ b - c ≤ 2147483647 ∧ lo ≤ a - d ∧ b - c ≤ hi) : zr lo hi (x - y) := by
  have e := z_tsub hx hy ⟨h.1, h.2.1⟩
  obtain ⟨h1, h2⟩ := hx
  obtain ⟨h3, h4⟩ := hy
  unfold zr; rw [e]; omega
theorem zr_neg {lo hi : Int} {x : Int32} {a b : Int} (hx : zr a b x) (h : -2147483648 ≤ -b ∧ -a ≤ 2147483647 ∧ lo ≤ -b ∧ -a ≤ hi) : zr lo hi (-x) := by
  obtain ⟨h1, h2⟩ := hx
  unfold zr
  rw [Int32.toInt_neg, z_bm (by omega) (by omega)]; omega
theorem z_tmul {x y : Int32} {a b c d : Int} (hx : zr a b x) (hy : zr c d y) (h : 0 ≤ a ∧ 0 ≤ c ∧ b * d ≤ 2147483647) : (x * y).toInt = x.toInt * y.toInt := by
  obtain ⟨h1, h2⟩ := hx
  obtain ⟨h3, h4⟩ := hy
  have e : 0 ≤ x.toInt * y.toInt := Int.mul_nonneg (by omega) (by omega)
  have e1 : x.toInt * y.toInt ≤ b * d := Int.mul_le_mul h2 h4 (by omega) (by omega)
  rw [Int32.toInt_mul]; exact z_bm (by omega) (by omega)
theorem zr_mul {lo hi : Int} {x y : Int32} {a b c d : Int} (hx : zr a b x) (hy : zr c d y) (h : 0 ≤ a ∧ 0 ≤ c ∧ b * d ≤ 2147483647 ∧ lo ≤ a * c ∧ b * d ≤ hi) : zr lo hi (x * y) := by
  have e := z_tmul hx hy ⟨h.1, h.2.1, h.2.2.1⟩
  obtain ⟨h1, h2⟩ := hx
  obtain ⟨h3, h4⟩ := hy
  have e1 : x.toInt * y.toInt ≤ b * d := Int.mul_le_mul h2 h4 (by omega) (by omega)
  have e2 : a * c ≤ x.toInt * y.toInt := Int.mul_le_mul h1 h3 (by omega) (by omega)
  unfold zr; rw [e]; omega
theorem z_tN {x : Int32} (h : 0 ≤ x.toInt) : (x.toBitVec.toNat : Int) = x.toInt := by
  have e : x.toInt = x.toBitVec.toInt := rfl
  rw [e] at h ⊢
  rw [BitVec.toInt_eq_toNat_of_msb]
  · cases hm : x.toBitVec.msb with
    | false => rfl
    | true => exact absurd (BitVec.toInt_neg_of_msb_true hm) (by omega)
theorem z_Nt {x : Int32} {n : Nat} (h : x.toBitVec.toNat = n) (hn : n < 2147483648) : x.toInt = n := by
  have e : x.toInt = x.toBitVec.toInt := rfl
  rw [e, BitVec.toInt_eq_toNat_of_lt (by omega), h]
theorem zr_andr {m lo hi : Int} {x y : Int32} {c : Int} (hy : zr c m y) (h : 0 ≤ c ∧ lo ≤ 0 ∧ m ≤ hi) : zr lo hi (x &&& y) := by
  have hy0 : 0 ≤ y.toInt := by have := hy.1; omega
  have e := z_tN hy0
  have l : (x &&& y).toBitVec.toNat ≤ y.toBitVec.toNat := by rw [Int32.toBitVec_and, BitVec.toNat_and]; exact Nat.and_le_right
  have hlt := Int32.toInt_lt y
  have e1 := z_Nt (x := x &&& y) rfl (by omega)
  have := hy.2
  unfold zr; rw [e1]; omega
theorem zr_andl {m lo hi : Int} {x y : Int32} {c : Int} (hx : zr c m x) (h : 0 ≤ c ∧ lo ≤ 0 ∧ m ≤ hi) : zr lo hi (x &&& y) := by
  rw [Int32.and_comm]; exact zr_andr hx h
theorem z_orlt {a b k : Nat} (ha : a < 2 ^ k) (hb : b < 2 ^ k) : a ||| b < 2 ^ k := Nat.or_lt_two_pow ha hb
theorem z_xorlt {a b k : Nat} (ha : a < 2 ^ k) (hb : b < 2 ^ k) : a ^^^ b < 2 ^ k := Nat.xor_lt_two_pow ha hb
theorem zr_or {lo hi : Int} (k : Nat) {x y : Int32} {a b c d : Int} (hx : zr a b x) (hy : zr c d y) (h : 0 ≤ a ∧ 0 ≤ c ∧ b < ((2 ^ k : Nat) : Int) ∧ d < ((2 ^ k : Nat) : Int) ∧ k ≤ 31 ∧ lo ≤ 0 ∧ ((2 ^ k : Nat) : Int) ≤ hi + 1) : zr lo hi (x ||| y) := by
  obtain ⟨h1, h2⟩ := hx
  obtain ⟨h3, h4⟩ := hy
  obtain ⟨k1, k2, k3, k4, k5, k6, k7⟩ := h
  have e1 := z_tN (x := x) (by omega)
  have e2 := z_tN (x := y) (by omega)
  have l := z_orlt (k := k) (a := x.toBitVec.toNat) (b := y.toBitVec.toNat) (by omega) (by omega)
  have e : (x ||| y).toBitVec.toNat = x.toBitVec.toNat ||| y.toBitVec.toNat := by rw [Int32.toBitVec_or, BitVec.toNat_or]
  have p : (2 : Nat) ^ k ≤ 2 ^ 31 := Nat.pow_le_pow_right (by decide) k5
  have e3 := z_Nt e (by omega)
  unfold zr; rw [e3]; omega
theorem zr_xor {lo hi : Int} (k : Nat) {x y : Int32} {a b c d : Int} (hx : zr a b x) (hy : zr c d y) (h : 0 ≤ a ∧ 0 ≤ c ∧ b < ((2 ^ k : Nat) : Int) ∧ d < ((2 ^ k : Nat) : Int) ∧ k ≤ 31 ∧ lo ≤ 0 ∧ ((2 ^ k : Nat) : Int) ≤ hi + 1) : zr lo hi (x ^^^ y) := by
  obtain ⟨h1, h2⟩ := hx
  obtain ⟨h3, h4⟩ := hy
  obtain ⟨k1, k2, k3, k4, k5, k6, k7⟩ := h
  have e1 := z_tN (x := x) (by omega)
  have e2 := z_tN (x := y) (by omega)
  have l := z_xorlt (k := k) (a := x.toBitVec.toNat) (b := y.toBitVec.toNat) (by omega) (by omega)
  have e : (x ^^^ y).toBitVec.toNat = x.toBitVec.toNat ^^^ y.toBitVec.toNat := by rw [Int32.toBitVec_xor, BitVec.toNat_xor]
  have p : (2 : Nat) ^ k ≤ 2 ^ 31 := Nat.pow_le_pow_right (by decide) k5
  have e3 := z_Nt e (by omega)
  unfold zr; rw [e3]; omega
/-- right, by any number: no number that is not below 0 grows -/
theorem zr_shra {lo hi : Int} {x s : Int32} {a b : Int} (hx : zr a b x) (h : 0 ≤ a ∧ lo ≤ 0 ∧ b ≤ hi) : zr lo hi (x >>> s) := by
  have e := pk_shr x s _ rfl
  obtain ⟨h1, h2⟩ := hx
  have p : (0 : Int) < 2 ^ (s.toBitVec.smod 32).toNat := Int.pow_pos (by decide)
  have l1 : 0 ≤ x.toInt >>> (s.toBitVec.smod 32).toNat := by rw [Int.shiftRight_eq_div_pow]; exact Int.ediv_nonneg (by omega) (Int.le_of_lt (by exact_mod_cast p))
  have l2 : x.toInt >>> (s.toBitVec.smod 32).toNat ≤ x.toInt := by rw [Int.shiftRight_eq_div_pow]; exact Int.ediv_le_self _ (by omega)
  unfold zr; rw [e]; omega
theorem zr_shr {lo hi : Int} (k : Nat) {x s : Int32} {a b : Int} (hs : (s.toBitVec.smod 32).toNat = k) (hx : zr a b x) (h : lo ≤ a / ((2 ^ k : Nat) : Int) ∧ b / ((2 ^ k : Nat) : Int) ≤ hi) : zr lo hi (x >>> s) := by
  have e := pk_shr x s k hs
  obtain ⟨h1, h2⟩ := hx
  have p : (0 : Int) < ((2 ^ k : Nat) : Int) := by exact_mod_cast Nat.two_pow_pos k
  have l1 := Int.ediv_le_ediv p h1
  have l2 := Int.ediv_le_ediv p h2
  unfold zr; rw [e, Int.shiftRight_eq_div_pow]; omega
theorem z_tdiv {x y : Int32} {a b : Int} (c : Int) (hy : y.toInt = c) (hx : zr a b x) (h : 0 ≤ a ∧ 0 < c) : (x / y).toInt = x.toInt / c := by
  obtain ⟨h1, h2⟩ := hx
  have hl := Int32.toInt_lt x
  have e : x.toInt.tdiv c = x.toInt / c := Int.tdiv_eq_ediv_of_nonneg (by omega)
  have l1 : 0 ≤ x.toInt / c := Int.ediv_nonneg (by omega) (by omega)
  have l2 : x.toInt / c ≤ x.toInt := Int.ediv_le_self _ (by omega)
  rw [Int32.toInt_div, hy, e]; exact z_bm (by omega) (by omega)
theorem zr_div {lo hi : Int} {x y : Int32} {a b : Int} (c : Int) (hy : y.toInt = c) (hx : zr a b x) (h : 0 ≤ a ∧ 0 < c ∧ lo ≤ a / c ∧ b / c ≤ hi) : zr lo hi (x / y) := by
  have e := z_tdiv c hy hx ⟨h.1, h.2.1⟩
  have l1 := Int.ediv_le_ediv h.2.1 hx.1
  have l2 := Int.ediv_le_ediv h.2.1 hx.2
  unfold zr; rw [e]; omega
theorem z_trem {x y : Int32} {a b : Int} (c : Int) (hy : y.toInt = c) (hx : zr a b x) (h : 0 ≤ a ∧ 0 < c) : (zrem x y).toInt = x.toInt % c := by
  have e := z_tdiv c hy hx h
  have h1 := hx.1
  have l1 : 0 ≤ x.toInt / c := Int.ediv_nonneg (by omega) (by omega)
  have m := Int.mul_ediv_add_emod x.toInt c
  have m1 := Int.emod_nonneg x.toInt (b := c) (by omega)
  have hl := Int32.toInt_lt x
  have cm : c * (x.toInt / c) = x.toInt / c * c := Int.mul_comm _ _
  have p : 0 ≤ x.toInt / c * c := Int.mul_nonneg l1 (by omega)
  have em : (x / y * y).toInt = x.toInt / c * c := by rw [Int32.toInt_mul, e, hy]; exact z_bm (by omega) (by omega)
  unfold zrem
  rw [Int32.toInt_sub, em, z_bm (by omega) (by omega)]; omega
theorem zr_rem {lo hi : Int} {x y : Int32} {a b : Int} (c : Int) (hy : y.toInt = c) (hx : zr a b x) (h : 0 ≤ a ∧ 0 < c ∧ lo ≤ 0 ∧ (c - 1 ≤ hi ∨ b ≤ hi)) : zr lo hi (zrem x y) := by
  have e := z_trem c hy hx ⟨h.1, h.2.1⟩
  have m1 := Int.emod_nonneg x.toInt (b := c) (by omega)
  have m2 := Int.emod_lt_of_pos x.toInt h.2.1
  have m3 : x.toInt % c ≤ x.toInt := by
    have m := Int.mul_ediv_add_emod x.toInt c
    have l1 : 0 ≤ c * (x.toInt / c) := Int.mul_nonneg (by omega) (Int.ediv_nonneg (by have := hx.1; omega) (by omega))
    omega
  have := hx.2
  unfold zr; rw [e]; omega
theorem zr_max {lo hi : Int} {x y : Int32} {a b c d : Int} (hx : zr a b x) (hy : zr c d y) (h : (lo ≤ a ∨ lo ≤ c) ∧ b ≤ hi ∧ d ≤ hi) : zr lo hi (zmax x y) := by
  obtain ⟨h1, h2⟩ := hx
  obtain ⟨h3, h4⟩ := hy
  unfold zmax zr
  split
  · next q => have := Int32.lt_iff_toInt_lt.mp q; omega
  · next q => have : ¬ x.toInt < y.toInt := fun r => q (Int32.lt_iff_toInt_lt.mpr r); omega
theorem zr_min {lo hi : Int} {x y : Int32} {a b c d : Int} (hx : zr a b x) (hy : zr c d y) (h : (b ≤ hi ∨ d ≤ hi) ∧ lo ≤ a ∧ lo ≤ c) : zr lo hi (zmin x y) := by
  obtain ⟨h1, h2⟩ := hx
  obtain ⟨h3, h4⟩ := hy
  unfold zmin zr
  split
  · next q => have := Int32.lt_iff_toInt_lt.mp q; omega
  · next q => have : ¬ y.toInt < x.toInt := fun r => q (Int32.lt_iff_toInt_lt.mpr r); omega
theorem zr_i8 {lo hi : Int} {x : Int32} (h : lo ≤ -128 ∧ 127 ≤ hi) : zr lo hi (x.toInt8.toInt32) := by
  have h1 := Int8.le_toInt x.toInt8
  have h2 := Int8.toInt_lt x.toInt8
  unfold zr; rw [Int8.toInt_toInt32]; omega
/-! longs -/
theorem zrl_i {a b : Int} {x : Int32} (h : zr a b x) : zrl a b x.toInt64 := by unfold zrl; rw [Int32.toInt_toInt64]; exact h
theorem zr_l {a b lo hi : Int} {x : Int64} (h : zrl a b x) (c : -2147483648 ≤ a ∧ b ≤ 2147483647 ∧ lo ≤ a ∧ b ≤ hi) : zr lo hi x.toInt32 := by
  obtain ⟨h1, h2⟩ := h
  unfold zr; rw [Int64.toInt_toInt32, z_bm (by omega) (by omega)]; omega
theorem z_tladd {x y : Int64} {a b c d : Int} (hx : zrl a b x) (hy : zrl c d y) (h : -9223372036854775808 ≤ a + c ∧ b + d ≤ 9223372036854775807) : (x + y).toInt = x.toInt + y.toInt := by
  obtain ⟨h1, h2⟩ := hx
  obtain ⟨h3, h4⟩ := hy
  rw [Int64.toInt_add]; exact z_bml (by omega) (by omega)
theorem z_tldiv {x y : Int64} {a b : Int} (c : Int) (hy : y.toInt = c) (hx : zrl a b x) (h : 0 ≤ a ∧ 0 < c) : (x / y).toInt = x.toInt / c := by
  obtain ⟨h1, h2⟩ := hx
  have hl := Int64.toInt_lt x
  have e : x.toInt.tdiv c = x.toInt / c := Int.tdiv_eq_ediv_of_nonneg (by omega)
  have l1 : 0 ≤ x.toInt / c := Int.ediv_nonneg (by omega) (by omega)
  have l2 : x.toInt / c ≤ x.toInt := Int.ediv_le_self _ (by omega)
  rw [Int64.toInt_div, hy, e]; exact z_bml (by omega) (by omega)
theorem zrl_div {lo hi : Int} {x y : Int64} {a b : Int} (c : Int) (hy : y.toInt = c) (hx : zrl a b x) (h : 0 ≤ a ∧ 0 < c ∧ lo ≤ a / c ∧ b / c ≤ hi) : zrl lo hi (x / y) := by
  have e := z_tldiv c hy hx ⟨h.1, h.2.1⟩
  have l1 := Int.ediv_le_ediv h.2.1 hx.1
  have l2 := Int.ediv_le_ediv h.2.1 hx.2
  unfold zrl; rw [e]; omega
theorem z_tlrem {x y : Int64} {a b : Int} (c : Int) (hy : y.toInt = c) (hx : zrl a b x) (h : 0 ≤ a ∧ 0 < c) : (zreml x y).toInt = x.toInt % c := by
  have e := z_tldiv c hy hx h
  have h1 := hx.1
  have l1 : 0 ≤ x.toInt / c := Int.ediv_nonneg (by omega) (by omega)
  have m := Int.mul_ediv_add_emod x.toInt c
  have m1 := Int.emod_nonneg x.toInt (b := c) (by omega)
  have hl := Int64.toInt_lt x
  have cm : c * (x.toInt / c) = x.toInt / c * c := Int.mul_comm _ _
  have p : 0 ≤ x.toInt / c * c := Int.mul_nonneg l1 (by omega)
  have em : (x / y * y).toInt = x.toInt / c * c := by rw [Int64.toInt_mul, e, hy]; exact z_bml (by omega) (by omega)
  unfold zreml
  rw [Int64.toInt_sub, em, z_bml (by omega) (by omega)]; omega
theorem zrl_rem {lo hi : Int} {x y : Int64} {a b : Int} (c : Int) (hy : y.toInt = c) (hx : zrl a b x) (h : 0 ≤ a ∧ 0 < c ∧ lo ≤ 0 ∧ c - 1 ≤ hi) : zrl lo hi (zreml x y) := by
  have e := z_tlrem c hy hx ⟨h.1, h.2.1⟩
  have m1 := Int.emod_nonneg x.toInt (b := c) (by omega)
  have m2 := Int.emod_lt_of_pos x.toInt h.2.1
  unfold zrl; rw [e]; omega
/-! ways -/
theorem z_nlt {x y : Int32} (q : ¬ x < y) : y ≤ x := Int32.le_iff_toInt_le.mpr (Int.not_lt.mp (fun r => q (Int32.lt_iff_toInt_lt.mpr r)))
theorem z_nle {x y : Int32} (q : ¬ x ≤ y) : y < x := Int32.lt_iff_toInt_lt.mpr (Int.not_le.mp (fun r => q (Int32.le_iff_toInt_le.mpr r)))
theorem zc_ltl {x y : Int32} {a b c d : Int} (hi : Int) (q : x < y) (hx : zr a b x) (hy : zr c d y) (h : d - 1 ≤ hi) : zr a hi x := by
  have := Int32.lt_iff_toInt_lt.mp q
  have h1 := hx.1
  have h2 := hy.2
  exact ⟨h1, by omega⟩
theorem zc_ltr {x y : Int32} {a b c d : Int} (lo : Int) (q : x < y) (hx : zr a b x) (hy : zr c d y) (h : lo ≤ a + 1) : zr lo d y := by
  have := Int32.lt_iff_toInt_lt.mp q
  have h1 := hx.1
  have h2 := hy.2
  exact ⟨by omega, h2⟩
theorem zc_lel {x y : Int32} {a b c d : Int} (hi : Int) (q : x ≤ y) (hx : zr a b x) (hy : zr c d y) (h : d ≤ hi) : zr a hi x := by
  have := Int32.le_iff_toInt_le.mp q
  have h1 := hx.1
  have h2 := hy.2
  exact ⟨h1, by omega⟩
theorem zc_ler {x y : Int32} {a b c d : Int} (lo : Int) (q : x ≤ y) (hx : zr a b x) (hy : zr c d y) (h : lo ≤ a) : zr lo d y := by
  have := Int32.le_iff_toInt_le.mp q
  have h1 := hx.1
  have h2 := hy.2
  exact ⟨by omega, h2⟩
theorem zc_eql {x y : Int32} {a b c d : Int} (lo hi : Int) (q : x = y) (hx : zr a b x) (hy : zr c d y) (h : (lo ≤ a ∨ lo ≤ c) ∧ (b ≤ hi ∨ d ≤ hi)) : zr lo hi x := by
  subst q
  obtain ⟨h1, h2⟩ := hx
  obtain ⟨h3, h4⟩ := hy
  exact ⟨by omega, by omega⟩
theorem zc_eqr {x y : Int32} {a b c d : Int} (lo hi : Int) (q : x = y) (hx : zr a b x) (hy : zr c d y) (h : (lo ≤ a ∨ lo ≤ c) ∧ (b ≤ hi ∨ d ≤ hi)) : zr lo hi y := by
  subst q
  obtain ⟨h1, h2⟩ := hx
  obtain ⟨h3, h4⟩ := hy
  exact ⟨by omega, by omega⟩
theorem zc_nel {x y : Int32} {a b c d : Int} (lo hi : Int) (q : ¬ x = y) (hx : zr a b x) (hy : zr c d y) (h : c = d ∧ ((lo = a ∧ hi = b) ∨ (c = a ∧ lo = a + 1 ∧ hi = b) ∨ (c = b ∧ lo = a ∧ hi = b - 1))) : zr lo hi x := by
  have : ¬ x.toInt = y.toInt := fun r => q (Int32.toInt_inj.mp r)
  obtain ⟨h1, h2⟩ := hx
  obtain ⟨h3, h4⟩ := hy
  exact ⟨by omega, by omega⟩
theorem z_cmp_lt {x y : Int64} : lg_cmp x y < 0 ↔ x.toInt < y.toInt := by
  unfold lg_cmp
  split
  · next q => have := Int64.lt_iff_toInt_lt.mp q; exact ⟨fun h => absurd h (by decide), fun h => by omega⟩
  · next q =>
    have q1 : ¬ y.toInt < x.toInt := fun r => q (Int64.lt_iff_toInt_lt.mpr r)
    split
    · next q2 => subst q2; exact ⟨fun h => absurd h (by decide), fun h => by omega⟩
    · next q2 =>
      have : ¬ x.toInt = y.toInt := fun r => q2 (Int64.toInt_inj.mp r)
      exact ⟨fun _ => by omega, fun _ => by decide⟩
theorem z_cmp_gt {x y : Int64} : 0 < lg_cmp x y ↔ y.toInt < x.toInt := by
  unfold lg_cmp
  split
  · next q => have := Int64.lt_iff_toInt_lt.mp q; exact ⟨fun _ => this, fun _ => by decide⟩
  · next q =>
    have q1 : ¬ y.toInt < x.toInt := fun r => q (Int64.lt_iff_toInt_lt.mpr r)
    split
    · exact ⟨fun h => absurd h (by decide), fun h => by omega⟩
    · exact ⟨fun h => absurd h (by decide), fun h => by omega⟩
theorem z_cmp_eq {x y : Int64} : lg_cmp x y = 0 ↔ x = y := by
  unfold lg_cmp
  split
  · next q =>
    have := Int64.lt_iff_toInt_lt.mp q
    exact ⟨fun h => absurd h (by decide), fun h => by subst h; omega⟩
  · split
    · next q2 => exact ⟨fun _ => q2, fun _ => rfl⟩
    · next q2 => exact ⟨fun h => absurd h (by decide), fun h => absurd h q2⟩
theorem z_cmp_ge {x y : Int64} : 0 ≤ lg_cmp x y ↔ y.toInt ≤ x.toInt := by
  have h := @z_cmp_lt x y
  constructor
  · intro q
    have : ¬ lg_cmp x y < 0 := fun r => by
      have a := Int32.lt_iff_toInt_lt.mp r
      have b := Int32.le_iff_toInt_le.mp q
      omega
    exact Int.not_lt.mp (fun r => this (h.mpr r))
  · intro q
    exact z_nlt (fun r => by have := h.mp r; omega)
/-! checks -/
theorem zin_ok {i : Int32} {n : Nat} {lo hi : Int} (h : zr lo hi i) (c : 0 ≤ lo ∧ hi < n) : zin i n = true := by
  obtain ⟨h1, h2⟩ := h
  have e0 : (0 : Int32).toInt = 0 := rfl
  have a1 : ¬ i < 0 := fun r => by have := Int32.lt_iff_toInt_lt.mp r; omega
  have e : i.toNatClampNeg = i.toInt.toNat := rfl
  have a2 : ¬ n ≤ i.toNatClampNeg := by rw [e]; omega
  simp [zin, a1, a2]
theorem zbo_ok {x : Int32} {lo hi : Int} (h : zr lo hi x) (c : 0 ≤ lo ∧ hi ≤ 1) : zbo x = true := by
  obtain ⟨h1, h2⟩ := h
  have e0 : (0 : Int32).toInt = 0 := rfl
  have e1 : (1 : Int32).toInt = 1 := rfl
  have : x = 0 ∨ x = 1 := by
    by_cases q : x.toInt = 0
    · exact Or.inl (Int32.toInt_inj.mp (by omega))
    · exact Or.inr (Int32.toInt_inj.mp (by omega))
  rcases this with rfl | rfl <;> rfl
theorem zdv_ok {x : Int32} {lo hi : Int} (h : zr lo hi x) (c : 0 < lo ∨ hi < 0) : decide (¬ x = 0) = true := by
  obtain ⟨h1, h2⟩ := h
  have e0 : (0 : Int32).toInt = 0 := rfl
  refine decide_eq_true (fun r => ?_)
  rw [r] at h1 h2
  omega
theorem zdvl_ok {x : Int64} {lo hi : Int} (h : zrl lo hi x) (c : 0 < lo ∨ hi < 0) : decide (¬ x = 0) = true := by
  obtain ⟨h1, h2⟩ := h
  have e0 : (0 : Int64).toInt = 0 := rfl
  refine decide_eq_true (fun r => ?_)
  rw [r] at h1 h2
  omega
theorem z_ix {i : Int32} {a b : Int} {c d : Nat} (h : zr a b i) (h1 : 0 ≤ a ∧ (c : Int) ≤ a ∧ b ≤ (d : Int)) : c ≤ i.toNatClampNeg ∧ i.toNatClampNeg ≤ d := by
  obtain ⟨h2, h3⟩ := h
  have e : i.toNatClampNeg = i.toInt.toNat := rfl
  rw [e]; omega
end ZJN0
section ZJN1
/-! SAFE 1: invariants of a state: ranges by segments (cell, from, to, lo, hi), frozen cells, one special cell -/
noncomputable abbrev zSeg : Type := Nat × Nat × Nat × Int × Int
noncomputable def zSg (S : List zSeg) (σ : zSt) : Prop := ∀ s ∈ S, ∀ j, s.2.1 ≤ j → j ≤ s.2.2.1 → zr s.2.2.2.1 s.2.2.2.2 (σ.1 s.1 j)
noncomputable def zFz (Z : List (Nat × Nat)) (G : Nat → Int) (σ : zSt) : Prop := ∀ (i : Nat) (z : Nat × Nat), Z[i]? = some z → (σ.1 z.1 z.2).toInt = G i
noncomputable def zFl (Z : List (Nat × Nat)) (G : Nat → Int) (σ : zSt) : Prop := ∀ (i : Nat) (z : Nat × Nat), Z[i]? = some z → (σ.2 z.1 z.2).toInt = G (100 + i)
/-- a cell that is v0, or 16 and more -/
noncomputable def zSp (q : Nat × Nat × Int) (σ : zSt) : Prop := (σ.1 q.1 q.2.1).toInt = q.2.2 ∨ 16 ≤ (σ.1 q.1 q.2.1).toInt
noncomputable def zIV (S : List zSeg) (Z ZL : List (Nat × Nat)) (q : Nat × Nat × Int) (G : Nat → Int) (σ : zSt) : Prop := zSg S σ ∧ zFz Z G σ ∧ zFl ZL G σ ∧ zSp q σ
theorem zsi_ne {σ : zSt} {k j : Nat} {v : Int32} {k1 : Nat} (h : ¬ k1 = k) : (zsi σ k j v).1 k1 = σ.1 k1 := by
  have e : Nat.beq k1 k = false := Bool.eq_false_iff.mpr (fun r => h (Nat.eq_of_beq_eq_true r))
  show (bif Nat.beq k1 k then upd (σ.1 k1) j v else σ.1 k1) = _
  rw [e]; rfl
theorem zsi_eq {σ : zSt} {k j : Nat} {v : Int32} : (zsi σ k j v).1 k = upd (σ.1 k) j v := by
  show (bif Nat.beq k k then upd (σ.1 k) j v else σ.1 k) = _
  rw [show Nat.beq k k = true from Nat.beq_refl k]; rfl
theorem zsi_ej {σ : zSt} {k j : Nat} {v : Int32} : (zsi σ k j v).1 k j = v := by rw [zsi_eq]; exact if_pos rfl
theorem zsi_nj {σ : zSt} {k j j1 : Nat} {v : Int32} (h : ¬ j1 = j) : (zsi σ k j v).1 k j1 = σ.1 k j1 := by rw [zsi_eq]; exact if_neg h
theorem zsi_at {σ : zSt} {k j k1 j1 : Nat} {v : Int32} : (zsi σ k j v).1 k1 j1 = if k1 = k ∧ j1 = j then v else σ.1 k1 j1 := by
  by_cases h : k1 = k
  · subst h
    by_cases hj : j1 = j
    · subst hj; rw [zsi_ej, if_pos ⟨rfl, rfl⟩]
    · rw [zsi_nj hj, if_neg (fun r => hj r.2)]
  · rw [zsi_ne h, if_neg (fun r => h r.1)]
theorem zsl_at {σ : zSt} {k j k1 j1 : Nat} {v : Int64} : (zsl σ k j v).2 k1 j1 = if k1 = k ∧ j1 = j then v else σ.2 k1 j1 := by
  show (bif Nat.beq k1 k then vp_updL (σ.2 k1) j v else σ.2 k1) j1 = _
  by_cases h : k1 = k
  · subst h
    rw [show Nat.beq k1 k1 = true from Nat.beq_refl k1]
    show (if j1 = j then v else σ.2 k1 j1) = _
    by_cases hj : j1 = j
    · rw [if_pos hj, if_pos ⟨rfl, hj⟩]
    · rw [if_neg hj, if_neg (fun r => hj r.2)]
  · have e : Nat.beq k1 k = false := Bool.eq_false_iff.mpr (fun r => h (Nat.eq_of_beq_eq_true r))
    rw [e, if_neg (fun r => h r.1)]; rfl
noncomputable def zWi (S : List zSeg) (Z : List (Nat × Nat)) (q : Nat × Nat × Int) (k a b : Nat) (lo hi : Int) : Bool :=
  (S.all (fun s => !Nat.beq s.1 k || (Nat.blt b s.2.1 || (Nat.blt s.2.2.1 a || (decide (s.2.2.2.1 ≤ lo) && decide (hi ≤ s.2.2.2.2))))) && Z.all (fun z => !Nat.beq z.1 k || (Nat.blt b z.2 || Nat.blt z.2 a))) && (!Nat.beq q.1 k || (Nat.blt b q.2.1 || Nat.blt q.2.1 a))
theorem z_out {k k1 a b j j1 : Nat} {x : Bool} (hj : a ≤ j ∧ j ≤ b) (h : (!Nat.beq k1 k || (Nat.blt b j1 || Nat.blt j1 a)) = true) : ¬ (k1 = k ∧ j1 = j) := by
  intro r
  obtain ⟨r1, r2⟩ := r
  subst r1; subst r2
  rw [show Nat.beq k1 k1 = true from Nat.beq_refl k1] at h
  simp only [Bool.not_true, Bool.false_or, Bool.or_eq_true, Nat.blt_eq] at h
  omega
section ZIV
variable {S : List zSeg} {Z ZL : List (Nat × Nat)} {q : Nat × Nat × Int} {G : Nat → Int} {σ : zSt}
theorem zIV_i {k j : Nat} {v : Int32} {lo hi : Int} (a b : Nat) (h : zIV S Z ZL q G σ) (hj : a ≤ j ∧ j ≤ b) (hv : zr lo hi v) (c : zWi S Z q k a b lo hi = true) : zIV S Z ZL q G (zsi σ k j v) := by
  obtain ⟨h1, h2, h3, h4⟩ := h
  rw [zWi, Bool.and_eq_true, Bool.and_eq_true, List.all_eq_true, List.all_eq_true] at c
  obtain ⟨⟨c1, c2⟩, c3⟩ := c
  refine ⟨fun s hs j1 l1 l2 => ?_, fun i z hz => ?_, h3, ?_⟩
  · rw [zsi_at]
    by_cases r : s.1 = k ∧ j1 = j
    · rw [if_pos r]
      obtain ⟨r1, r2⟩ := r
      have c4 := c1 s hs
      rw [r1, show Nat.beq k k = true from Nat.beq_refl k] at c4
      simp only [Bool.not_true, Bool.false_or, Bool.or_eq_true, Bool.and_eq_true, Nat.blt_eq, decide_eq_true_eq] at c4
      obtain ⟨v1, v2⟩ := hv
      exact ⟨by omega, by omega⟩
    · rw [if_neg r]; exact h1 s hs j1 l1 l2
  · rw [zsi_at, if_neg (z_out (x := true) hj (c2 z (List.mem_of_getElem? hz)))]
    exact h2 i z hz
  · unfold zSp
    rw [zsi_at, if_neg (z_out (x := true) hj c3)]
    exact h4
noncomputable def zWk (S : List zSeg) (Z : List (Nat × Nat)) (q : Nat × Nat × Int) (k : Nat) : Bool := (S.all (fun s => !Nat.beq s.1 k) && Z.all (fun z => !Nat.beq z.1 k)) && !Nat.beq q.1 k
theorem z_nb {a b : Nat} (h : (!Nat.beq a b) = true) : ¬ a = b := by
  intro r
  subst r
  rw [show Nat.beq a a = true from Nat.beq_refl a] at h
  exact absurd h (by decide)
theorem zIV_k {k j : Nat} {v : Int32} (h : zIV S Z ZL q G σ) (c : zWk S Z q k = true) : zIV S Z ZL q G (zsi σ k j v) := by
  obtain ⟨h1, h2, h3, h4⟩ := h
  rw [zWk, Bool.and_eq_true, Bool.and_eq_true, List.all_eq_true, List.all_eq_true] at c
  obtain ⟨⟨c1, c2⟩, c3⟩ := c
  refine ⟨fun s hs j1 l1 l2 => ?_, fun i z hz => ?_, h3, ?_⟩
  · rw [zsi_ne (z_nb (c1 s hs))]; exact h1 s hs j1 l1 l2
  · rw [zsi_ne (z_nb (c2 z (List.mem_of_getElem? hz)))]; exact h2 i z hz
  · unfold zSp; rw [zsi_ne (z_nb c3)]; exact h4
theorem zIV_l {k j : Nat} {v : Int64} (a b : Nat) (h : zIV S Z ZL q G σ) (hj : a ≤ j ∧ j ≤ b) (c : ZL.all (fun z => !Nat.beq z.1 k || (Nat.blt b z.2 || Nat.blt z.2 a)) = true) : zIV S Z ZL q G (zsl σ k j v) := by
  obtain ⟨h1, h2, h3, h4⟩ := h
  rw [List.all_eq_true] at c
  refine ⟨h1, h2, fun i z hz => ?_, h4⟩
  rw [zsl_at, if_neg (z_out (x := true) hj (c z (List.mem_of_getElem? hz)))]
  exact h3 i z hz
/-- the special cell -/
noncomputable def zWs (S : List zSeg) (Z : List (Nat × Nat)) (q : Nat × Nat × Int) (lo hi : Int) : Bool :=
  S.all (fun s => !Nat.beq s.1 q.1 || (Nat.blt q.2.1 s.2.1 || (Nat.blt s.2.2.1 q.2.1 || (decide (s.2.2.2.1 ≤ lo) && decide (hi ≤ s.2.2.2.2))))) && Z.all (fun z => !Nat.beq z.1 q.1 || (Nat.blt q.2.1 z.2 || Nat.blt z.2 q.2.1))
theorem zIV_s {v : Int32} {lo hi : Int} (h : zIV S Z ZL q G σ) (hv : zr lo hi v) (c : zWs S Z q lo hi = true) (hs : v.toInt = q.2.2 ∨ 16 ≤ v.toInt) : zIV S Z ZL q G (zsi σ q.1 q.2.1 v) := by
  obtain ⟨h1, h2, h3, h4⟩ := h
  rw [zWs, Bool.and_eq_true, List.all_eq_true, List.all_eq_true] at c
  obtain ⟨c1, c2⟩ := c
  refine ⟨fun s hs j1 l1 l2 => ?_, fun i z hz => ?_, h3, ?_⟩
  · rw [zsi_at]
    by_cases r : s.1 = q.1 ∧ j1 = q.2.1
    · rw [if_pos r]
      obtain ⟨r1, r2⟩ := r
      have c4 := c1 s hs
      rw [r1, show Nat.beq q.1 q.1 = true from Nat.beq_refl _] at c4
      simp only [Bool.not_true, Bool.false_or, Bool.or_eq_true, Bool.and_eq_true, Nat.blt_eq, decide_eq_true_eq] at c4
      obtain ⟨v1, v2⟩ := hv
      exact ⟨by omega, by omega⟩
    · rw [if_neg r]; exact h1 s hs j1 l1 l2
  · rw [zsi_at, if_neg (z_out (x := true) (a := q.2.1) (b := q.2.1) ⟨Nat.le_refl _, Nat.le_refl _⟩ (c2 z (List.mem_of_getElem? hz)))]
    exact h2 i z hz
  · unfold zSp; rw [zsi_ej]; exact hs
noncomputable def zWc (S : List zSeg) (Z : List (Nat × Nat)) (q : Nat × Nat × Int) (k0 k1 : Nat) : Bool :=
  (S.all (fun s => !Nat.beq s.1 k1 || S.any (fun t => Nat.beq t.1 k0 && (Nat.beq t.2.1 s.2.1 && (Nat.beq t.2.2.1 s.2.2.1 && (decide (t.2.2.2.1 = s.2.2.2.1) && decide (t.2.2.2.2 = s.2.2.2.2)))))) && Z.all (fun z => !Nat.beq z.1 k1)) && !Nat.beq q.1 k1
theorem zcpi_ne {k0 k1 sp dp n k : Nat} (h : ¬ k = k1) : (zcpi σ k0 k1 sp dp n).1 k = σ.1 k := by
  have e : Nat.beq k k1 = false := Bool.eq_false_iff.mpr (fun r => h (Nat.eq_of_beq_eq_true r))
  show (bif Nat.beq k k1 then va_cpy (σ.1 k0) (σ.1 k) sp dp n else σ.1 k) = _
  rw [e]; rfl
theorem zcpi_eq {k0 k1 n j : Nat} : (zcpi σ k0 k1 0 0 n).1 k1 j = if j < n then σ.1 k0 j else σ.1 k1 j := by
  show (bif Nat.beq k1 k1 then va_cpy (σ.1 k0) (σ.1 k1) 0 0 n else σ.1 k1) j = _
  rw [show Nat.beq k1 k1 = true from Nat.beq_refl k1]
  show (if 0 ≤ j ∧ j < 0 + n then σ.1 k0 (0 + (j - 0)) else σ.1 k1 j) = _
  by_cases h : j < n
  · rw [if_pos h, if_pos ⟨Nat.zero_le _, by omega⟩, show 0 + (j - 0) = j by omega]
  · rw [if_neg h, if_neg (fun r => h (by omega))]
theorem zIV_c {k0 k1 sp dp n : Nat} (h : zIV S Z ZL q G σ) (c : zWc S Z q k0 k1 = true) (e0 : sp = 0) (e1 : dp = 0) : zIV S Z ZL q G (zcpi σ k0 k1 sp dp n) := by
  subst e0; subst e1
  obtain ⟨h1, h2, h3, h4⟩ := h
  rw [zWc, Bool.and_eq_true, Bool.and_eq_true, List.all_eq_true, List.all_eq_true] at c
  obtain ⟨⟨c1, c2⟩, c3⟩ := c
  refine ⟨fun s hs j1 l1 l2 => ?_, fun i z hz => ?_, h3, ?_⟩
  · by_cases r : s.1 = k1
    · have c4 := c1 s hs
      have d := h1 s hs j1 l1 l2
      rw [r] at c4 d ⊢
      rw [show Nat.beq k1 k1 = true from Nat.beq_refl k1] at c4
      simp only [Bool.not_true, Bool.false_or, List.any_eq_true, Bool.and_eq_true, decide_eq_true_eq] at c4
      obtain ⟨t, ht, t1, t2, t3, t4, t5⟩ := c4
      have t1 := Nat.eq_of_beq_eq_true t1
      have t2 := Nat.eq_of_beq_eq_true t2
      have t3 := Nat.eq_of_beq_eq_true t3
      have d2 := h1 t ht j1 (by omega) (by omega)
      rw [t1, t4, t5] at d2
      rw [zcpi_eq]
      split
      · exact d2
      · exact d
    · rw [zcpi_ne r]; exact h1 s hs j1 l1 l2
  · rw [zcpi_ne (z_nb (c2 z (List.mem_of_getElem? hz)))]; exact h2 i z hz
  · unfold zSp; rw [zcpi_ne (z_nb c3)]; exact h4
theorem zIV_cl {k0 k1 sp dp n : Nat} (h : zIV S Z ZL q G σ) (c : ZL.all (fun z => !Nat.beq z.1 k1) = true) : zIV S Z ZL q G (zcpl σ k0 k1 sp dp n) := by
  obtain ⟨h1, h2, h3, h4⟩ := h
  rw [List.all_eq_true] at c
  refine ⟨h1, h2, fun i z hz => ?_, h4⟩
  have e : Nat.beq z.1 k1 = false := Bool.eq_false_iff.mpr (fun r => z_nb (c z (List.mem_of_getElem? hz)) (Nat.eq_of_beq_eq_true r))
  have e2 : (zcpl σ k0 k1 sp dp n).2 z.1 = σ.2 z.1 := by
    show (bif Nat.beq z.1 k1 then va_cpy (σ.2 k0) (σ.2 z.1) sp dp n else σ.2 z.1) = _
    rw [e]; rfl
  rw [e2]; exact h3 i z hz
end ZIV
/-! facts behind a write -/
theorem z_tr {σ σ1 : zSt} {k j : Nat} {v : Int32} {k1 j1 : Nat} {lo hi : Int} (e : σ1 = zsi σ k j v) (c : Nat.beq k1 k = false) (h : zr lo hi (zgi σ k1 j1)) : zr lo hi (zgi σ1 k1 j1) := by
  subst e
  have n : ¬ k1 = k := fun r => by subst r; rw [show Nat.beq k1 k1 = true from Nat.beq_refl k1] at c; exact absurd c (by decide)
  unfold zgi at h ⊢
  rw [zsi_ne n]; exact h
theorem z_trj {σ σ1 : zSt} {k j : Nat} {v : Int32} {j1 : Nat} {lo hi : Int} (e : σ1 = zsi σ k j v) (c : ¬ j1 = j) (h : zr lo hi (zgi σ k j1)) : zr lo hi (zgi σ1 k j1) := by
  subst e
  unfold zgi at h ⊢
  rw [zsi_nj c]; exact h
theorem z_own {σ σ1 : zSt} {k j : Nat} {v : Int32} {lo hi : Int} (e : σ1 = zsi σ k j v) (h : zr lo hi v) : zr lo hi (zgi σ1 k j) := by subst e; unfold zgi; rw [zsi_ej]; exact h
/-! more numbers -/
theorem z_ixlt {i : Int32} {a b : Int} {d : Nat} (h : zr a b i) (h1 : 0 ≤ a ∧ b < (d : Int)) : i.toNatClampNeg < d := by
  obtain ⟨h2, h3⟩ := h
  have e : i.toNatClampNeg = i.toInt.toNat := rfl
  rw [e]; omega
theorem zr_remv {lo hi : Int} {x y : Int32} {a b c d : Int} (hx : zr a b x) (hy : zr c d y) (h : 0 ≤ a ∧ 0 < c ∧ lo ≤ 0 ∧ d - 1 ≤ hi) : zr lo hi (zrem x y) := by
  have hy1 := hy.1
  have hy2 := hy.2
  have e := z_trem y.toInt rfl hx ⟨h.1, by omega⟩
  have m1 := Int.emod_nonneg x.toInt (b := y.toInt) (by omega)
  have m2 := Int.emod_lt_of_pos x.toInt (b := y.toInt) (by omega)
  unfold zr; rw [e]; omega
theorem zr_shl {lo hi : Int} (k : Nat) {x s : Int32} {a b : Int} (hs : (s.toBitVec.smod 32).toNat = k) (hx : zr a b x) (h : 0 ≤ a ∧ k < 31 ∧ b * ((2 ^ k : Nat) : Int) ≤ 2147483647 ∧ lo ≤ a * ((2 ^ k : Nat) : Int) ∧ b * ((2 ^ k : Nat) : Int) ≤ hi) : zr lo hi (x <<< s) := by
  obtain ⟨h1, h2⟩ := hx
  obtain ⟨k1, k2, k3, k4, k5⟩ := h
  have e0 := z_tN (x := x) (by omega)
  have p : (0 : Int) ≤ ((2 ^ k : Nat) : Int) := Int.natCast_nonneg _
  have l1 : a * ((2 ^ k : Nat) : Int) ≤ x.toInt * ((2 ^ k : Nat) : Int) := Int.mul_le_mul_of_nonneg_right h1 p
  have l2 : x.toInt * ((2 ^ k : Nat) : Int) ≤ b * ((2 ^ k : Nat) : Int) := Int.mul_le_mul_of_nonneg_right h2 p
  have l0 : 0 ≤ a * ((2 ^ k : Nat) : Int) := Int.mul_nonneg k1 p
  have e1 : (x <<< s).toBitVec = x.toBitVec <<< (s.toBitVec.smod 32).toNat := rfl
  have e3 : ((x.toBitVec.toNat * 2 ^ k : Nat) : Int) = x.toInt * ((2 ^ k : Nat) : Int) := by rw [Int.natCast_mul, e0]
  have e2 : (x <<< s).toBitVec.toNat = x.toBitVec.toNat * 2 ^ k := by
    rw [e1, hs, BitVec.toNat_shiftLeft, Nat.shiftLeft_eq, Nat.mod_eq_of_lt (by omega)]
  have e4 := z_Nt e2 (by omega)
  unfold zr; rw [e4, e3]; omega
theorem z_s31 : ∀ n : Nat, n < 32 → (((Int32.ofNat n) &&& 31).toBitVec.smod 32).toNat = n := by decide
theorem zr_shld {lo hi : Int} {x y : Int32} {a b c d : Int} (hx : zr a b x) (hy : zr c d y) (h : 0 ≤ a ∧ 0 ≤ c ∧ d < 31 ∧ lo ≤ 0 ∧ b * ((2 ^ d.toNat : Nat) : Int) ≤ 2147483647 ∧ b * ((2 ^ d.toNat : Nat) : Int) ≤ hi) : zr lo hi (x <<< (y &&& 31)) := by
  obtain ⟨k1, k2, k3, k4, k5, k6⟩ := h
  have y1 := hy.1
  have y2 := hy.2
  have hx1 := hx.1
  have hx2 := hx.2
  obtain ⟨n, hn⟩ : ∃ n : Nat, y.toInt = n := ⟨y.toInt.toNat, by omega⟩
  have ey : y = Int32.ofNat n := Int32.toInt_inj.mp (by rw [Int32.toInt_ofNat_of_lt (by omega), hn])
  have hs := z_s31 n (by omega)
  rw [← ey] at hs
  have pw : (2 : Nat) ^ n ≤ 2 ^ d.toNat := Nat.pow_le_pow_right (by decide) (by omega)
  have pi : ((2 ^ n : Nat) : Int) ≤ ((2 ^ d.toNat : Nat) : Int) := Int.ofNat_le.mpr pw
  have b0 : 0 ≤ b := by omega
  have l : b * ((2 ^ n : Nat) : Int) ≤ b * ((2 ^ d.toNat : Nat) : Int) := Int.mul_le_mul_of_nonneg_left pi b0
  exact zr_shl n hs hx ⟨k1, by omega, by omega, Int.le_trans k4 (Int.mul_nonneg k1 (Int.natCast_nonneg _)), by omega⟩
theorem zrl_max {lo hi : Int} {x y : Int64} {a b c d : Int} (hx : zrl a b x) (hy : zrl c d y) (h : (lo ≤ a ∨ lo ≤ c) ∧ b ≤ hi ∧ d ≤ hi) : zrl lo hi (zmaxl x y) := by
  obtain ⟨h1, h2⟩ := hx
  obtain ⟨h3, h4⟩ := hy
  unfold zmaxl zrl
  split
  · next q => have := Int64.lt_iff_toInt_lt.mp q; omega
  · next q => have : ¬ y.toInt < x.toInt := fun r => q (Int64.lt_iff_toInt_lt.mpr r); omega
/-! String constants -/
theorem zkN_r {m : Nat} {l : List Nat} {n : Nat} (h : n ∈ l) (c : (l.all (fun i => Nat.ble (zkL i) m) && Nat.ble m 2147483647) = true) : zr 0 m (zkN n) := by
  rw [Bool.and_eq_true, List.all_eq_true] at c
  have c1 := Nat.le_of_ble_eq_true (c.1 n h)
  have c2 := Nat.le_of_ble_eq_true c.2
  have e : (zkN n).toInt = zkL n := Int32.toInt_ofNat_of_lt (by omega)
  unfold zr; rw [e]; omega
theorem z_kL : ∀ n, zkL n < 2147483648 := by
  intro n
  by_cases h : n < 179
  · have : ∀ i : Fin 179, zkL i.val < 2147483648 := by decide +kernel
    exact this ⟨n, h⟩
  · have e : zkL n = zkL 178 := by
      obtain ⟨k, rfl⟩ : ∃ k, n = 179 + k := ⟨n - 179, by omega⟩
      rw [Nat.add_comm]; rfl
    rw [e]; decide +kernel
theorem zin_k {n : Nat} {x : Int32} {a b : Int} (q : ¬ zkN n ≤ x) (h : zr a b x) (c : 0 ≤ a) : zin x (zkL n) = true := by
  have l := z_kL n
  have e : (zkN n).toInt = zkL n := Int32.toInt_ofNat_of_lt (by omega)
  have q1 := Int32.lt_iff_toInt_lt.mp (z_nle q)
  have h1 := h.1
  exact zin_ok (lo := x.toInt) (hi := x.toInt) ⟨Int.le_refl _, Int.le_refl _⟩ ⟨by omega, by omega⟩
theorem z_memlt {n m : Nat} {l : List Nat} (h : n ∈ l) (c : l.all (fun i => Nat.blt i m) = true) : n < m := by
  rw [List.all_eq_true] at c
  exact Nat.blt_eq.mp (c n h)
theorem z_memsub {n : Nat} {l l1 : List Nat} (h : n ∈ l) (c : l.all (fun i => l1.contains i) = true) : n ∈ l1 := by
  rw [List.all_eq_true] at c
  exact List.contains_iff_mem.mp (c n h)
/-- the state of an answer that may be a throw -/
noncomputable def zRis (r : zRi) : zSt := match r with | Sum.inl x => x.1 | Sum.inr x => x.1
noncomputable def zRls (r : zRl) : zSt := match r with | Sum.inl x => x.1 | Sum.inr x => x.1
noncomputable def zRus (r : zRu) : zSt := match r with | Sum.inl x => x | Sum.inr x => x.1
theorem z_su {U a b : Int} {x : Int32} (h : zr a b x) (c : U - a < 2000000) : U - x.toInt < (zfuel : Nat) := by
  have h1 := h.1
  unfold zfuel; omega
theorem z_sd {U a b : Int} {x : Int32} (h : zr a b x) (c : b - U < 2000000) : x.toInt - U < (zfuel : Nat) := by
  have h1 := h.2
  unfold zfuel; omega
theorem z_trr {σ σ1 : zSt} {k j : Nat} {v : Int32} {j1 a b : Nat} {lo hi : Int} (e : σ1 = zsi σ k j v) (hj : a ≤ j ∧ j ≤ b) (c : j1 < a ∨ b < j1) (h : zr lo hi (zgi σ k j1)) : zr lo hi (zgi σ1 k j1) := z_trj e (by omega) h
theorem z_shl1 : ∀ n : Fin 14, 1 ≤ (zlshl 1 (Int32.ofNat n.val)).toInt ∧ (zlshl 1 (Int32.ofNat n.val)).toInt ≤ 8192 := by decide
theorem zrl_shl {lo hi : Int} {y : Int32} {c d : Int} (hy : zr c d y) (h : 0 ≤ c ∧ d < 14 ∧ lo ≤ 1 ∧ 8192 ≤ hi) : zrl lo hi (zlshl 1 y) := by
  obtain ⟨k2, k3, k4, k5⟩ := h
  have y1 := hy.1
  have y2 := hy.2
  obtain ⟨n, hn⟩ : ∃ n : Nat, y.toInt = n := ⟨y.toInt.toNat, by omega⟩
  have ey : y = Int32.ofNat n := Int32.toInt_inj.mp (by rw [Int32.toInt_ofNat_of_lt (by omega), hn])
  have q := z_shl1 ⟨n, by omega⟩
  rw [← ey] at q
  exact ⟨by omega, by omega⟩
/-! SAFE 2: writes that change frozen cells -/
noncomputable def zWz (Z : List (Nat × Nat)) (l : List Nat) (k a b : Nat) : Bool := (List.range Z.length).all (fun i => match Z[i]? with | none => true | some z => (!Nat.beq z.1 k || (Nat.blt b z.2 || Nat.blt z.2 a)) || l.contains i)
noncomputable def zWe (S : List zSeg) (Z : List (Nat × Nat)) (q : Nat × Nat × Int) (l : List Nat) (k a b : Nat) (lo hi : Int) : Bool := (zWi S [] q k a b lo hi && zWz Z l k a b) && Nat.ble Z.length 100
theorem zIV_e {S : List zSeg} {Z ZL : List (Nat × Nat)} {q : Nat × Nat × Int} {G : Nat → Int} {σ : zSt} {l : List Nat} {k j : Nat} {v : Int32} {lo hi : Int} (a b : Nat) (h : zIV S Z ZL q G σ) (hj : a ≤ j ∧ j ≤ b) (hv : zr lo hi v) (c : zWe S Z q l k a b lo hi = true) : ∃ G', zIV S Z ZL q G' (zsi σ k j v) ∧ ∀ i, ¬ i ∈ l → G' i = G i := by
  obtain ⟨h1, h2, h3, h4⟩ := h
  rw [zWe, Bool.and_eq_true, Bool.and_eq_true] at c
  obtain ⟨⟨c1, c2⟩, c3⟩ := c
  have c3 := Nat.le_of_ble_eq_true c3
  have base : zIV S [] ZL q G (zsi σ k j v) := zIV_i a b ⟨h1, fun i z hz => by simp at hz, h3, h4⟩ hj hv c1
  refine ⟨fun i => if i < 100 then (match Z[i]? with | none => G i | some z => ((zsi σ k j v).1 z.1 z.2).toInt) else G i, ⟨base.1, fun i z hz => ?_, fun i z hz => ?_, base.2.2.2⟩, fun i hi => ?_⟩
  · have hl : i < Z.length := (List.getElem?_eq_some_iff.mp hz).1
    show _ = if i < 100 then (match Z[i]? with | none => G i | some z => ((zsi σ k j v).1 z.1 z.2).toInt) else G i
    rw [if_pos (by omega), hz]
  · show _ = if 100 + i < 100 then _ else _
    rw [if_neg (by omega)]
    exact base.2.2.1 i z hz
  · show (if i < 100 then (match Z[i]? with | none => G i | some z => ((zsi σ k j v).1 z.1 z.2).toInt) else G i) = G i
    by_cases g : i < 100
    · rw [if_pos g]
      cases hz : Z[i]? with
      | none => rfl
      | some z =>
        have hl : i < Z.length := (List.getElem?_eq_some_iff.mp hz).1
        rw [zWz, List.all_eq_true] at c2
        have c4 := c2 i (List.mem_range.mpr hl)
        rw [hz] at c4
        have c5 : (!Nat.beq z.1 k || (Nat.blt b z.2 || Nat.blt z.2 a)) = true := by
          have c6 := (Bool.or_eq_true _ _).mp c4
          rcases c6 with c6 | c6
          · exact c6
          · exact absurd (List.contains_iff_mem.mp c6) hi
        show ((zsi σ k j v).1 z.1 z.2).toInt = G i
        rw [zsi_at, if_neg (z_out (x := true) hj c5)]
        exact h2 i z hz
    · rw [if_neg g]
/-- a write into a row all of whose places have one range -/
noncomputable def zWu (S : List zSeg) (Z : List (Nat × Nat)) (q : Nat × Nat × Int) (k : Nat) (lo hi : Int) : Bool := (S.all (fun s => !Nat.beq s.1 k || (decide (s.2.2.2.1 ≤ lo) && decide (hi ≤ s.2.2.2.2))) && Z.all (fun z => !Nat.beq z.1 k)) && !Nat.beq q.1 k
theorem zIV_u {S : List zSeg} {Z ZL : List (Nat × Nat)} {q : Nat × Nat × Int} {G : Nat → Int} {σ : zSt} {k j : Nat} {v : Int32} {lo hi : Int} (h : zIV S Z ZL q G σ) (hv : zr lo hi v) (c : zWu S Z q k lo hi = true) : zIV S Z ZL q G (zsi σ k j v) := by
  obtain ⟨h1, h2, h3, h4⟩ := h
  rw [zWu, Bool.and_eq_true, Bool.and_eq_true, List.all_eq_true, List.all_eq_true] at c
  obtain ⟨⟨c1, c2⟩, c3⟩ := c
  refine ⟨fun s hs j1 l1 l2 => ?_, fun i z hz => ?_, h3, ?_⟩
  · rw [zsi_at]
    by_cases r : s.1 = k ∧ j1 = j
    · rw [if_pos r]
      obtain ⟨r1, r2⟩ := r
      have c4 := c1 s hs
      rw [r1, show Nat.beq k k = true from Nat.beq_refl k] at c4
      simp only [Bool.not_true, Bool.false_or, Bool.and_eq_true, decide_eq_true_eq] at c4
      obtain ⟨v1, v2⟩ := hv
      exact ⟨by omega, by omega⟩
    · rw [if_neg r]; exact h1 s hs j1 l1 l2
  · rw [zsi_ne (z_nb (c2 z (List.mem_of_getElem? hz)))]; exact h2 i z hz
  · unfold zSp; rw [zsi_ne (z_nb c3)]; exact h4
theorem z_trp {σ σ1 : zSt} {x v : Int32} {j k1 j1 : Nat} {lo hi : Int} (e : σ1 = zsi σ (ztp x) j v) (c : (Nat.beq k1 13 || Nat.beq k1 14) = false) (h : zr lo hi (zgi σ k1 j1)) : zr lo hi (zgi σ1 k1 j1) := by
  have c1 := (Bool.or_eq_false_iff.mp c)
  unfold ztp at e
  split at e
  · exact z_tr e c1.1 h
  · exact z_tr e c1.2 h
theorem z_getD {P : Int32 → Prop} {l : List Int32} {d : Int32} (h : ∀ x ∈ l, P x) (h0 : P d) (j : Nat) : P (l.getD j d) := by
  rw [List.getD_eq_getElem?_getD]
  cases q : l[j]? with
  | none => exact h0
  | some x => exact h x (List.mem_of_getElem? q)
noncomputable def zRik (l : List Nat) (r : zRi) : Prop := match r with | Sum.inl _ => True | Sum.inr x => x.2 ∈ l
noncomputable def zTi (I : zSt → Prop) (l : List Nat) (r : zRi) : Prop := I (zRis r) ∧ zRik l r
theorem zok_ti0 {I : zSt → Prop} {l : List Nat} {σ : zSt} {v : Int32} (h : I σ) : zok (some ((Sum.inl (σ, v)) : zRi)) (zTi I l) := ⟨_, rfl, h, trivial⟩
theorem zok_ti1 {I : zSt → Prop} {l : List Nat} {σ : zSt} {k : Nat} (h : I σ) (c : k ∈ l) : zok (some (Sum.inr (σ, k) : zRi)) (zTi I l) := ⟨_, rfl, h, c⟩
noncomputable def zRlk (l : List Nat) (r : zRl) : Prop := match r with | Sum.inl _ => True | Sum.inr x => x.2 ∈ l
noncomputable def zTl (I : zSt → Prop) (l : List Nat) (r : zRl) : Prop := I (zRls r) ∧ zRlk l r
theorem zok_tl0 {I : zSt → Prop} {l : List Nat} {σ : zSt} {v : Int64} (h : I σ) : zok (some ((Sum.inl (σ, v)) : zRl)) (zTl I l) := ⟨_, rfl, h, trivial⟩
theorem zok_tl1 {I : zSt → Prop} {l : List Nat} {σ : zSt} {k : Nat} (h : I σ) (c : k ∈ l) : zok (some (Sum.inr (σ, k) : zRl)) (zTl I l) := ⟨_, rfl, h, c⟩
noncomputable def zRuk (l : List Nat) (r : zRu) : Prop := match r with | Sum.inl _ => True | Sum.inr x => x.2 ∈ l
noncomputable def zTu (I : zSt → Prop) (l : List Nat) (r : zRu) : Prop := I (zRus r) ∧ zRuk l r
theorem zok_tu0 {I : zSt → Prop} {l : List Nat} {σ : zSt} (h : I σ) : zok (some ((Sum.inl σ) : zRu)) (zTu I l) := ⟨_, rfl, h, trivial⟩
theorem zok_tu1 {I : zSt → Prop} {l : List Nat} {σ : zSt} {k : Nat} (h : I σ) (c : k ∈ l) : zok (some (Sum.inr (σ, k) : zRu)) (zTu I l) := ⟨_, rfl, h, c⟩
end ZJN1
section ZJN2
noncomputable def sC : List zSeg := [(1, 2, 2, 0, 262656), (1, 3, 3, 0, 512), (1, 4, 4, 0, 262144), (1, 5, 5, 0, 16), (1, 7, 7, -1, 32752), (7, 4, 4, 6, 17), (7, 5, 5, 0, 65535), (40, 8, 8, 0, 8), (41, 8, 8, 0, 8), (10, 2, 2, 0, 32), (5, 3, 3, 0, 8), (13, 0, 262655, 0, 255), (14, 0, 262655, 0, 255), (15, 0, 8191, 0, 255), (16, 0, 8191, 0, 255), (17, 0, 32767, 0, 255), (18, 0, 32767, 0, 255), (19, 0, 3, 0, 255), (20, 0, 3, 0, 255), (21, 0, 16383, 0, 255), (22, 0, 16383, 0, 255), (36, 0, 15, 0, 255), (36, 16, 20, 0, 65535), (36, 21, 22, 0, 255), (36, 23, 24, 0, 1), (36, 25, 25, 0, 2), (36, 26, 28, 0, 1), (36, 0, 20, 0, 65535), (37, 0, 15, 0, 255), (37, 16, 20, 0, 65535), (37, 21, 22, 0, 255), (37, 23, 24, 0, 1), (37, 25, 25, 0, 2), (37, 26, 28, 0, 1), (37, 0, 20, 0, 65535), (23, 0, 10, 0, 255), (23, 11, 11, 0, 16383), (23, 12, 12, 0, 3), (23, 13, 13, 0, 255), (23, 14, 14, 0, 1), (23, 15, 15, 0, 255), (23, 19, 19, 0, 255), (23, 21, 21, 0, 227), (23, 26, 26, 0, 255), (23, 32, 95, 0, 255), (24, 0, 10, 0, 255), (24, 11, 11, 0, 16383), (24, 12, 12, 0, 3), (24, 13, 13, 0, 255), (24, 14, 14, 0, 1), (24, 15, 15, 0, 255), (24, 19, 19, 0, 255), (24, 21, 21, 0, 227), (24, 26, 26, 0, 255), (24, 32, 95, 0, 255), (34, 0, 6, 0, 255), (34, 10, 11, 0, 1), (35, 0, 6, 0, 255), (35, 10, 11, 0, 1), (30, 17, 17, 0, 7), (31, 17, 17, 0, 7), (32, 64, 64, 0, 3), (33, 64, 64, 0, 3)]
noncomputable def zZC : List (Nat × Nat) := [(1, 2), (0, 11), (0, 0)]
noncomputable def zLC : List (Nat × Nat) := []
noncomputable def zQC : Nat × Nat × Int := (7, 4, 6)
noncomputable def zIC (G : Nat → Int) (σ : zSt) : Prop := zIV sC zZC zLC zQC G σ
noncomputable def zPC (σ : zSt) : Prop := zSg sC σ ∧ zSp zQC σ
noncomputable def zEC (l : List Nat) (G : Nat → Int) (σ : zSt) : Prop := ∃ G1, zIC G1 σ ∧ ∀ i, ¬ i ∈ l → G1 i = G i
section ZSC
variable {G : Nat → Int} {σ : zSt} {l : List Nat}
theorem zIC.sg (h : zIC G σ) : zSg sC σ := h.1
theorem zIC.sp (h : zIC G σ) : zSp zQC σ := h.2.2.2
theorem zIC.fz (h : zIC G σ) : zFz zZC G σ := h.2.1
theorem zIC.fl (h : zIC G σ) : zFl zLC G σ := h.2.2.1
theorem zIC.P (h : zIC G σ) : zPC σ := ⟨h.sg, h.sp⟩
theorem zPC.sg (h : zPC σ) : zSg sC σ := h.1
theorem zPC.sp (h : zPC σ) : zSp zQC σ := h.2
theorem zIC.E (h : zIC G σ) : zEC l G σ := ⟨G, h, fun _ _ => rfl⟩
theorem zEC.sg (h : zEC l G σ) : zSg sC σ := by obtain ⟨G1, h1, _⟩ := h; exact h1.sg
theorem zEC.sp (h : zEC l G σ) : zSp zQC σ := by obtain ⟨G1, h1, _⟩ := h; exact h1.sp
theorem zEC.P (h : zEC l G σ) : zPC σ := by obtain ⟨G1, h1, _⟩ := h; exact h1.P
theorem zIC.wi {k j : Nat} {v : Int32} {lo hi : Int} (h : zIC G σ) (a b : Nat) (hj : a ≤ j ∧ j ≤ b) (hv : zr lo hi v) (c : zWi sC zZC zQC k a b lo hi = true) : zIC G (zsi σ k j v) := zIV_i a b h hj hv c
theorem zIC.wk {k j : Nat} {v : Int32} (h : zIC G σ) (c : zWk sC zZC zQC k = true) : zIC G (zsi σ k j v) := zIV_k h c
theorem zIC.wl {k j : Nat} {v : Int64} (h : zIC G σ) (a b : Nat) (hj : a ≤ j ∧ j ≤ b) (c : zLC.all (fun z => !Nat.beq z.1 k || (Nat.blt b z.2 || Nat.blt z.2 a)) = true) : zIC G (zsl σ k j v) := zIV_l a b h hj c
theorem zIC.wc {k0 k1 sp dp n : Nat} (h : zIC G σ) (c : zWc sC zZC zQC k0 k1 = true) (e0 : sp = 0) (e1 : dp = 0) : zIC G (zcpi σ k0 k1 sp dp n) := zIV_c h c e0 e1
theorem zIC.wcl {k0 k1 sp dp n : Nat} (h : zIC G σ) (c : zLC.all (fun z => !Nat.beq z.1 k1) = true) : zIC G (zcpl σ k0 k1 sp dp n) := zIV_cl h c
theorem zIC.sp0 {v : Int32} {lo hi : Int} (h : zIC G σ) (hv : zr lo hi v) (c : (decide (lo = 6 ∧ hi = 6) && zWs sC zZC zQC lo hi) = true) : zIC G (zsi σ 7 4 v) := by
  rw [Bool.and_eq_true] at c
  have e := of_decide_eq_true c.1
  have h1 := hv.1
  have h2 := hv.2
  exact zIV_s h hv c.2 (Or.inl (by show v.toInt = 6; omega))
theorem zIC.sp1 {v : Int32} {lo hi : Int} (h : zIC G σ) (hv : zr lo hi v) (c : (decide (16 ≤ lo) && zWs sC zZC zQC lo hi) = true) : zIC G (zsi σ 7 4 v) := by
  rw [Bool.and_eq_true] at c
  have e := of_decide_eq_true c.1
  have h1 := hv.1
  exact zIV_s h hv c.2 (Or.inr (by omega))
theorem zIC.we {k j : Nat} {v : Int32} {lo hi : Int} (h : zIC G σ) (a b : Nat) (hj : a ≤ j ∧ j ≤ b) (hv : zr lo hi v) (c : zWe sC zZC zQC l k a b lo hi = true) : zEC l G (zsi σ k j v) := zIV_e a b h hj hv c
theorem zEC.lift {σ1 : zSt} (h : zEC l G σ) (k : ∀ G1, zIC G1 σ → zIC G1 σ1) : zEC l G σ1 := by obtain ⟨G1, h1, g1⟩ := h; exact ⟨G1, k G1 h1, g1⟩
theorem zEC.wi {k j : Nat} {v : Int32} {lo hi : Int} (h : zEC l G σ) (a b : Nat) (hj : a ≤ j ∧ j ≤ b) (hv : zr lo hi v) (c : zWe sC zZC zQC l k a b lo hi = true) : zEC l G (zsi σ k j v) := by
  obtain ⟨G1, h1, g1⟩ := h
  obtain ⟨G2, h2, g2⟩ := h1.we a b hj hv c
  exact ⟨G2, h2, fun i hi => (g2 i hi).trans (g1 i hi)⟩
theorem zEC.wk {k j : Nat} {v : Int32} (h : zEC l G σ) (c : zWk sC zZC zQC k = true) : zEC l G (zsi σ k j v) := h.lift (fun _ h1 => h1.wk c)
theorem zEC.wl {k j : Nat} {v : Int64} (h : zEC l G σ) (a b : Nat) (hj : a ≤ j ∧ j ≤ b) (c : zLC.all (fun z => !Nat.beq z.1 k || (Nat.blt b z.2 || Nat.blt z.2 a)) = true) : zEC l G (zsl σ k j v) := h.lift (fun _ h1 => h1.wl a b hj c)
theorem zEC.sub {l1 : List Nat} (h : zEC l1 G σ) (c : l1.all (fun i => l.contains i) = true) : zEC l G σ := by
  obtain ⟨G1, h1, g1⟩ := h
  rw [List.all_eq_true] at c
  exact ⟨G1, h1, fun i hi => g1 i (fun r => hi (List.contains_iff_mem.mp (c i r)))⟩
theorem zEC.uEi {o : Option (zSt × Int32)} {Q : Int32 → Prop} {l1 : List Nat} (h : zEC l G σ) (c : l1.all (fun i => l.contains i) = true) (k : ∀ G1, zEC l1 G1 σ → zok o (zAi (zEC l1 G1) Q)) : zok o (zAi (zEC l G) Q) := by
  obtain ⟨G1, h1, g1⟩ := h
  rw [List.all_eq_true] at c
  have k1 : ∀ x, zEC l1 G1 x → zEC l G x := fun x hx => by
    obtain ⟨G2, h2, g2⟩ := hx
    exact ⟨G2, h2, fun i hi => (g2 i (fun r => hi (List.contains_iff_mem.mp (c i r)))).trans (g1 i hi)⟩
  exact zok_mono (k G1 h1.E) (fun r q => ⟨k1 _ q.1, q.2⟩)
theorem zEC.upu {o : Option zSt} (h : zEC l G σ) (k : ∀ G1, zIC G1 σ → zok o (zIC G1)) : zok o (zEC l G) := by
  obtain ⟨G1, h1, g1⟩ := h
  exact zok_mono (k G1 h1) (fun r q => ⟨G1, q, g1⟩)
theorem zEC.upTi {o : Option zRi} {ks : List Nat} (h : zEC l G σ) (k : ∀ G1, zIC G1 σ → zok o (zTi (zIC G1) ks)) : zok o (zTi (zEC l G) ks) := by
  obtain ⟨G1, h1, g1⟩ := h
  exact zok_mono (k G1 h1) (fun r q => ⟨⟨G1, q.1, g1⟩, q.2⟩)
theorem rC_0 (h : zSg sC σ) (j : Nat) (hj : 2 ≤ j ∧ j ≤ 2) : zr (0) (262656) (zgi σ 1 j) := h _ (List.mem_of_getElem? (i := 0) rfl) j hj.1 hj.2
theorem rC_1 (h : zSg sC σ) (j : Nat) (hj : 3 ≤ j ∧ j ≤ 3) : zr (0) (512) (zgi σ 1 j) := h _ (List.mem_of_getElem? (i := 1) rfl) j hj.1 hj.2
theorem rC_2 (h : zSg sC σ) (j : Nat) (hj : 4 ≤ j ∧ j ≤ 4) : zr (0) (262144) (zgi σ 1 j) := h _ (List.mem_of_getElem? (i := 2) rfl) j hj.1 hj.2
theorem rC_3 (h : zSg sC σ) (j : Nat) (hj : 5 ≤ j ∧ j ≤ 5) : zr (0) (16) (zgi σ 1 j) := h _ (List.mem_of_getElem? (i := 3) rfl) j hj.1 hj.2
theorem rC_4 (h : zSg sC σ) (j : Nat) (hj : 7 ≤ j ∧ j ≤ 7) : zr (-1) (32752) (zgi σ 1 j) := h _ (List.mem_of_getElem? (i := 4) rfl) j hj.1 hj.2
theorem rC_5 (h : zSg sC σ) (j : Nat) (hj : 4 ≤ j ∧ j ≤ 4) : zr (6) (17) (zgi σ 7 j) := h _ (List.mem_of_getElem? (i := 5) rfl) j hj.1 hj.2
theorem rC_6 (h : zSg sC σ) (j : Nat) (hj : 5 ≤ j ∧ j ≤ 5) : zr (0) (65535) (zgi σ 7 j) := h _ (List.mem_of_getElem? (i := 6) rfl) j hj.1 hj.2
theorem rC_7 (h : zSg sC σ) (j : Nat) (hj : 8 ≤ j ∧ j ≤ 8) : zr (0) (8) (zgi σ 40 j) := h _ (List.mem_of_getElem? (i := 7) rfl) j hj.1 hj.2
theorem rC_9 (h : zSg sC σ) (j : Nat) (hj : 2 ≤ j ∧ j ≤ 2) : zr (0) (32) (zgi σ 10 j) := h _ (List.mem_of_getElem? (i := 9) rfl) j hj.1 hj.2
theorem rC_10 (h : zSg sC σ) (j : Nat) (hj : 3 ≤ j ∧ j ≤ 3) : zr (0) (8) (zgi σ 5 j) := h _ (List.mem_of_getElem? (i := 10) rfl) j hj.1 hj.2
theorem rC_11 (h : zSg sC σ) (j : Nat) (hj : 0 ≤ j ∧ j ≤ 262655) : zr (0) (255) (zgi σ 13 j) := h _ (List.mem_of_getElem? (i := 11) rfl) j hj.1 hj.2
theorem rC_12 (h : zSg sC σ) (j : Nat) (hj : 0 ≤ j ∧ j ≤ 262655) : zr (0) (255) (zgi σ 14 j) := h _ (List.mem_of_getElem? (i := 12) rfl) j hj.1 hj.2
theorem rC_13 (h : zSg sC σ) (j : Nat) (hj : 0 ≤ j ∧ j ≤ 8191) : zr (0) (255) (zgi σ 15 j) := h _ (List.mem_of_getElem? (i := 13) rfl) j hj.1 hj.2
theorem rC_15 (h : zSg sC σ) (j : Nat) (hj : 0 ≤ j ∧ j ≤ 32767) : zr (0) (255) (zgi σ 17 j) := h _ (List.mem_of_getElem? (i := 15) rfl) j hj.1 hj.2
theorem rC_17 (h : zSg sC σ) (j : Nat) (hj : 0 ≤ j ∧ j ≤ 3) : zr (0) (255) (zgi σ 19 j) := h _ (List.mem_of_getElem? (i := 17) rfl) j hj.1 hj.2
theorem rC_19 (h : zSg sC σ) (j : Nat) (hj : 0 ≤ j ∧ j ≤ 16383) : zr (0) (255) (zgi σ 21 j) := h _ (List.mem_of_getElem? (i := 19) rfl) j hj.1 hj.2
theorem rC_21 (h : zSg sC σ) (j : Nat) (hj : 0 ≤ j ∧ j ≤ 15) : zr (0) (255) (zgi σ 36 j) := h _ (List.mem_of_getElem? (i := 21) rfl) j hj.1 hj.2
theorem rC_22 (h : zSg sC σ) (j : Nat) (hj : 16 ≤ j ∧ j ≤ 20) : zr (0) (65535) (zgi σ 36 j) := h _ (List.mem_of_getElem? (i := 22) rfl) j hj.1 hj.2
theorem rC_23 (h : zSg sC σ) (j : Nat) (hj : 21 ≤ j ∧ j ≤ 22) : zr (0) (255) (zgi σ 36 j) := h _ (List.mem_of_getElem? (i := 23) rfl) j hj.1 hj.2
theorem rC_24 (h : zSg sC σ) (j : Nat) (hj : 23 ≤ j ∧ j ≤ 24) : zr (0) (1) (zgi σ 36 j) := h _ (List.mem_of_getElem? (i := 24) rfl) j hj.1 hj.2
theorem rC_25 (h : zSg sC σ) (j : Nat) (hj : 25 ≤ j ∧ j ≤ 25) : zr (0) (2) (zgi σ 36 j) := h _ (List.mem_of_getElem? (i := 25) rfl) j hj.1 hj.2
theorem rC_26 (h : zSg sC σ) (j : Nat) (hj : 26 ≤ j ∧ j ≤ 28) : zr (0) (1) (zgi σ 36 j) := h _ (List.mem_of_getElem? (i := 26) rfl) j hj.1 hj.2
theorem rC_35 (h : zSg sC σ) (j : Nat) (hj : 0 ≤ j ∧ j ≤ 10) : zr (0) (255) (zgi σ 23 j) := h _ (List.mem_of_getElem? (i := 35) rfl) j hj.1 hj.2
theorem rC_37 (h : zSg sC σ) (j : Nat) (hj : 12 ≤ j ∧ j ≤ 12) : zr (0) (3) (zgi σ 23 j) := h _ (List.mem_of_getElem? (i := 37) rfl) j hj.1 hj.2
theorem rC_38 (h : zSg sC σ) (j : Nat) (hj : 13 ≤ j ∧ j ≤ 13) : zr (0) (255) (zgi σ 23 j) := h _ (List.mem_of_getElem? (i := 38) rfl) j hj.1 hj.2
theorem rC_39 (h : zSg sC σ) (j : Nat) (hj : 14 ≤ j ∧ j ≤ 14) : zr (0) (1) (zgi σ 23 j) := h _ (List.mem_of_getElem? (i := 39) rfl) j hj.1 hj.2
theorem rC_40 (h : zSg sC σ) (j : Nat) (hj : 15 ≤ j ∧ j ≤ 15) : zr (0) (255) (zgi σ 23 j) := h _ (List.mem_of_getElem? (i := 40) rfl) j hj.1 hj.2
theorem rC_42 (h : zSg sC σ) (j : Nat) (hj : 21 ≤ j ∧ j ≤ 21) : zr (0) (227) (zgi σ 23 j) := h _ (List.mem_of_getElem? (i := 42) rfl) j hj.1 hj.2
theorem rC_43 (h : zSg sC σ) (j : Nat) (hj : 26 ≤ j ∧ j ≤ 26) : zr (0) (255) (zgi σ 23 j) := h _ (List.mem_of_getElem? (i := 43) rfl) j hj.1 hj.2
theorem rC_55 (h : zSg sC σ) (j : Nat) (hj : 0 ≤ j ∧ j ≤ 6) : zr (0) (255) (zgi σ 34 j) := h _ (List.mem_of_getElem? (i := 55) rfl) j hj.1 hj.2
theorem rC_56 (h : zSg sC σ) (j : Nat) (hj : 10 ≤ j ∧ j ≤ 11) : zr (0) (1) (zgi σ 34 j) := h _ (List.mem_of_getElem? (i := 56) rfl) j hj.1 hj.2
theorem rC_59 (h : zSg sC σ) (j : Nat) (hj : 17 ≤ j ∧ j ≤ 17) : zr (0) (7) (zgi σ 30 j) := h _ (List.mem_of_getElem? (i := 59) rfl) j hj.1 hj.2
theorem rC_61 (h : zSg sC σ) (j : Nat) (hj : 64 ≤ j ∧ j ≤ 64) : zr (0) (3) (zgi σ 32 j) := h _ (List.mem_of_getElem? (i := 61) rfl) j hj.1 hj.2
theorem xC_sp {lo hi : Int} (h : zSp zQC σ) (hr : zr lo hi (zgi σ 7 4)) (c : 6 < lo ∧ hi ≤ 17) : zr 16 17 (zgi σ 7 4) := by
  obtain ⟨r1, r2⟩ := hr
  unfold zgi at r1 r2 ⊢
  rcases h with h | h
  · have h : (σ.1 7 4).toInt = 6 := h
    exfalso; omega
  · have h : 16 ≤ (σ.1 7 4).toInt := h
    exact ⟨h, by omega⟩
end ZSC
theorem rC_tp {σ : zSt} {x : Int32} (h : zSg sC σ) (j : Nat) (hj : j < 262656) : zr 0 255 (zgi σ (ztp x) j) := by
  unfold ztp
  split
  · exact rC_11 h j ⟨Nat.zero_le _, by omega⟩
  · exact rC_12 h j ⟨Nat.zero_le _, by omega⟩
theorem zIC.tp {G : Nat → Int} {σ : zSt} {x v : Int32} {j : Nat} {lo hi : Int} (h : zIC G σ) (hv : zr lo hi v) (c : 0 ≤ lo ∧ hi ≤ 255) : zIC G (zsi σ (ztp x) j v) := by
  have hv := zr_w (lo := 0) (hi := 255) hv c
  unfold ztp
  split
  · exact zIV_u h hv (by decide +kernel)
  · exact zIV_u h hv (by decide +kernel)
theorem zEC.tp {G : Nat → Int} {σ : zSt} {l : List Nat} {x v : Int32} {j : Nat} {lo hi : Int} (h : zEC l G σ) (hv : zr lo hi v) (c : 0 ≤ lo ∧ hi ≤ 255) : zEC l G (zsi σ (ztp x) j v) := h.lift (fun _ h1 => h1.tp hv c)
theorem s_rangeCheck {σ : zSt} {x0 x1 x2 : Int32} {a b c d e f : Int} (h0 : zr a b x0) (h1 : zr c d x1) (h2 : zr e f x2) (q : d ≤ e ∧ 0 ≤ c ∧ f ≤ a) : zok (fJ7_rangeCheck_23922 σ x0 x1 x2) (zPu σ) := by
  obtain ⟨a1, a2⟩ := h0
  obtain ⟨b1, b2⟩ := h1
  obtain ⟨c1, c2⟩ := h2
  have z0 : (0 : Int32).toInt = 0 := rfl
  unfold fJ7_rangeCheck_23922
  rw [if_pos (Int32.le_iff_toInt_le.mpr (by omega)), if_pos (Int32.le_iff_toInt_le.mpr (by omega)), if_pos (Int32.le_iff_toInt_le.mpr (by omega))]
  exact zok_spu
theorem z_ef {σ : zSt} {x1 x4 : Int32} (h : zSg sC σ) (hx4 : zr 0 7 x4) (q1 : ¬ ((zgi σ 10 2) - x4) ≤ x1) (q2 : ¬ x1 < 0) : zin (x1 + x4) 32 = true := by
  have hl := rC_9 h 2 (by decide)
  have e := z_tsub hl hx4 (by decide)
  have a := Int32.lt_iff_toInt_lt.mp (z_nle q1)
  have b := Int32.le_iff_toInt_le.mp (z_nlt q2)
  have e0 : (0 : Int32).toInt = 0 := rfl
  rw [e] at a
  have hx1 : zr 0 32 x1 := ⟨by omega, by have := hl.2; have := hx4.1; omega⟩
  have e2 := z_tadd hx1 hx4 (by decide)
  refine zin_ok (lo := (x1 + x4).toInt) (hi := (x1 + x4).toInt) ⟨Int.le_refl _, Int.le_refl _⟩ ⟨?_, ?_⟩
  · rw [e2]; have := hx4.1; omega
  · rw [e2]; have := hl.2; omega
theorem zt1_r (j : Nat) : zr (0) (32752) (zt1 j) := z_getD (P := zr 0 32752) (fun x h => by simp only [List.mem_cons, List.not_mem_nil, or_false] at h; rcases h with rfl | rfl | rfl <;> exact zr_c (by decide)) (zr_c (by decide)) j
theorem z_m8 {x : Int32} (h : zr (8192) (262656) x) (q : zr 0 0 (zrem x 8192)) : zr (8192) (262144) x := by
  have e := z_trem (y := 8192) 8192 (by decide) h (by decide)
  have a := q.1
  have b := q.2
  have h1 := h.1
  have h2 := h.2
  rw [e] at a b
  exact ⟨h1, by omega⟩
end ZJN2
section ZJN3
theorem s_X6_keep_k11 {G : Nat → Int} {σ : zSt} (hσ : zIC G σ) : zok (fX6_keep_k11 σ ) (zIC G) := by
  unfold fX6_keep_k11
  refine zok_ck (by decide) ?_
  refine zok_bs (hσ.wcl (by decide)) (fun σ1 e2 i1 => ?_)
  refine zok_bs (i1.wk (by decide)) (fun σ2 e4 i3 => ?_)
  refine zok_bs (i3.wk (by decide)) (fun σ3 e6 i5 => ?_)
  exact zok_some i5
theorem s_X6_keep_k12 {G : Nat → Int} {σ : zSt} (hσ : zIC G σ) : zok (fX6_keep_k12 σ ) (zIC G) := by
  unfold fX6_keep_k12
  refine zok_ck (by decide) ?_
  refine zok_bs (hσ.wcl (by decide)) (fun σ1 e2 i1 => ?_)
  refine zok_bs (i1.wk (by decide)) (fun σ2 e4 i3 => ?_)
  refine zok_bs (i3.wk (by decide)) (fun σ3 e6 i5 => ?_)
  exact zok_some i5
theorem s_X0_keep {G : Nat → Int} {σ : zSt} (hσ : zIC G σ) : zok (fX0_keep σ ) (zIC G) := by
  unfold fX0_keep
  refine zok_ck (by decide) ?_
  refine zok_bs (hσ.wcl (by decide)) (fun σ1 e2 i1 => ?_)
  refine zok_bu (s_X6_keep_k11 i1) (fun σ2 i3 => ?_)
  refine zok_bu (s_X6_keep_k12 i3) (fun σ3 i4 => ?_)
  exact zok_some i4
theorem s_X6_bringBack_k11 {G : Nat → Int} {σ : zSt} (hσ : zIC G σ) : zok (fX6_bringBack_k11 σ ) (zIC G) := by
  unfold fX6_bringBack_k11
  refine zok_ck (by decide) ?_
  refine zok_bs (hσ.wcl (by decide)) (fun σ1 e2 i1 => ?_)
  refine zok_bs (i1.wk (by decide)) (fun σ2 e4 i3 => ?_)
  refine zok_bs (i3.wk (by decide)) (fun σ3 e6 i5 => ?_)
  exact zok_some i5
theorem s_X6_bringBack_k12 {G : Nat → Int} {σ : zSt} (hσ : zIC G σ) : zok (fX6_bringBack_k12 σ ) (zIC G) := by
  unfold fX6_bringBack_k12
  refine zok_ck (by decide) ?_
  refine zok_bs (hσ.wcl (by decide)) (fun σ1 e2 i1 => ?_)
  refine zok_bs (i1.wk (by decide)) (fun σ2 e4 i3 => ?_)
  refine zok_bs (i3.wk (by decide)) (fun σ3 e6 i5 => ?_)
  exact zok_some i5
theorem s_X0_bringBack {G : Nat → Int} {σ : zSt} (hσ : zIC G σ) : zok (fX0_bringBack σ ) (zIC G) := by
  unfold fX0_bringBack
  refine zok_ck (by decide) ?_
  refine zok_bs (hσ.wcl (by decide)) (fun σ1 e2 i1 => ?_)
  refine zok_bu (s_X6_bringBack_k11 i1) (fun σ2 i3 => ?_)
  refine zok_bu (s_X6_bringBack_k12 i3) (fun σ3 i4 => ?_)
  exact zok_some i4
theorem s_X0_count_20 {σ : zSt} (hσ : zPC σ) {s0 : Int64} : zok (fX0_count_20 σ s0) (zPl σ (fun v : Int64 => True)) := by
  unfold fX0_count_20
  exact zok_spl trivial
theorem s_X0_count {σ : zSt} (hσ : zPC σ) {x1 : Int32} (h_x1 : zr (0) (3) x1) : zok (fX0_count σ x1) (zPl σ (fun v : Int64 => True)) := by
  unfold fX0_count
  refine zok_if (fun q1 => ?_) (fun q1 => ?_)
  · exact zr_no (zc_ltl (-1) q1 h_x1 (zr_c (lo := 0) (hi := 0) (by decide)) (by decide)) (by decide)
  refine zok_if (fun q2 => ?_) (fun q2 => ?_)
  · exact zr_no (zc_lel (3) q2 (zr_c (lo := 7) (hi := 7) (by decide)) h_x1 (by decide)) (by decide)
  refine zok_ck (zin_ok h_x1 (by decide)) ?_
  exact (s_X0_count_20 hσ)
theorem s_X0_countPicture {G : Nat → Int} {σ : zSt} (hσ : zIC G σ) : zok (fX0_countPicture σ ) (zIC G) := by
  unfold fX0_countPicture
  refine zok_ck rfl ?_
  refine zok_ck rfl ?_
  refine zok_bs (hσ.wl 2 2 (by decide) (by decide)) (fun σ1 e2 i1 => ?_)
  exact zok_some i1
theorem s_X7_moveTone_57 {G : Nat → Int} {σ : zSt} (hσ : zIC G σ) {x1 : Int32} (h_x1 : zr (0) (2) x1) {x2 : Int32} : zok (fX7_moveTone_57 σ x1 x2) (zIC G) := by
  unfold fX7_moveTone_57
  refine zok_ck (zin_ok (zr_add (lo := 3) (hi := 5) (zr_c (lo := 3) (hi := 3) (by decide)) h_x1 (by decide)) (by decide)) ?_
  refine zok_bs (hσ.wi 3 5 (z_ix (zr_add (lo := 3) (hi := 5) (zr_c (lo := 3) (hi := 3) (by decide)) h_x1 (by decide)) (by decide)) zr_any (by decide +kernel)) (fun σ1 e2 i1 => ?_)
  exact zok_some i1
theorem s_X7_moveTone_56 {G : Nat → Int} {σ : zSt} (hσ : zIC G σ) {x1 : Int32} (h_x1 : zr (0) (2) x1) {x2 : Int32} {s0 : Int32} {s1 : Int32} (h_s1 : zr (6) (8) s1) : zok (fX7_moveTone_56 σ x1 x2 s0 s1) (zIC G) := by
  unfold fX7_moveTone_56
  refine zok_ck (zin_ok h_s1 (by decide)) ?_
  refine zok_bs (hσ.wi 6 8 (z_ix h_s1 (by decide)) zr_any (by decide +kernel)) (fun σ2 e2 i1 => ?_)
  exact (s_X7_moveTone_57 i1 h_x1)
theorem s_X7_moveTone {G : Nat → Int} {σ : zSt} (hσ : zIC G σ) {x1 : Int32} (h_x1 : zr (0) (2) x1) : zok (fX7_moveTone σ x1) (zIC G) := by
  unfold fX7_moveTone
  refine zok_ck (zin_ok (zr_add (lo := 3) (hi := 5) (zr_c (lo := 3) (hi := 3) (by decide)) h_x1 (by decide)) (by decide)) ?_
  refine zok_br (zr_max (lo := 0) (hi := 2147483647) (zr_c (lo := 0) (hi := 0) (by decide)) zr_any (by decide)) (fun v3 e2 h1 => ?_)
  refine zok_if (fun q3 => ?_) (fun q3 => ?_)
  · have h4 := zc_eql (0) (0) q3 h1 (zr_c (lo := 0) (hi := 0) (by decide)) (by decide)
    refine zok_ck (zin_ok (zr_add (lo := 0) (hi := 2) (zr_c (lo := 0) (hi := 0) (by decide)) h_x1 (by decide)) (by decide)) ?_
    refine zok_bv (fun v4 e6 => ?_)
    refine zok_if (fun q7 => ?_) (fun q7 => ?_)
    · have h8 := zc_ltr (2) q7 (zr_c (lo := 1) (hi := 1) (by decide)) zr_any (by decide)
      refine zok_ck (zin_ok (zr_add (lo := 6) (hi := 8) (zr_c (lo := 6) (hi := 6) (by decide)) h_x1 (by decide)) (by decide)) ?_
      exact (s_X7_moveTone_56 hσ h_x1 (zr_add (lo := 6) (hi := 8) (zr_c (lo := 6) (hi := 6) (by decide)) h_x1 (by decide)))
    have h9 := zc_lel (1) (z_nlt q7) zr_any (zr_c (lo := 1) (hi := 1) (by decide)) (by decide)
    exact (s_X7_moveTone_56 hσ h_x1 (zr_add (lo := 6) (hi := 8) (zr_c (lo := 6) (hi := 6) (by decide)) h_x1 (by decide)))
  have h10 := zc_nel (1) (2147483647) q3 h1 (zr_c (lo := 0) (hi := 0) (by decide)) (by decide)
  exact (s_X7_moveTone_57 hσ h_x1)
theorem s_X7_moveNoise_136 {σ : zSt} (hσ : zPC σ) : zok (fX7_moveNoise_136 σ ) (zPu σ) := by
  unfold fX7_moveNoise_136
  exact zok_spu
theorem s_X7_moveNoise_120 {G : Nat → Int} {σ : zSt} (hσ : zIC G σ) {x2 : Int32} {s0 : Int32} (h_s0 : zr (0) (1) s0) : zok (fX7_moveNoise_120 σ x2 s0) (zIC G) := by
  unfold fX7_moveNoise_120
  refine zok_ck rfl ?_
  refine zok_bs (hσ.wi 16 16 (by decide) zr_any (by decide +kernel)) (fun σ1 e2 i1 => ?_)
  exact zok_pau i1 (s_X7_moveNoise_136 i1.P)
theorem s_X7_moveNoise_65 {G : Nat → Int} {σ : zSt} (hσ : zIC G σ) {s0 : Int32} {s1 : Int32} (h_s1 : zr (14) (14) s1) : zok (fX7_moveNoise_65 σ s0 s1) (zIC G) := by
  unfold fX7_moveNoise_65
  refine zok_ck (zin_ok h_s1 (by decide)) ?_
  refine zok_bs (hσ.wi 14 14 (z_ix h_s1 (by decide)) zr_any (by decide +kernel)) (fun σ2 e2 i1 => ?_)
  refine zok_ck rfl ?_
  refine zok_ck rfl ?_
  refine zok_bs (i1.wi 15 15 (by decide) zr_any (by decide +kernel)) (fun σ3 e4 i3 => ?_)
  refine zok_ck rfl ?_
  refine zok_if (fun q5 => ?_) (fun q5 => ?_)
  · have h6 := zc_eql (1) (1) q5 zr_any (zr_c (lo := 1) (hi := 1) (by decide)) (by decide)
    refine zok_ck rfl ?_
    refine zok_bv (fun v4 e8 => ?_)
    refine zok_ck rfl ?_
    refine zok_if (fun q9 => ?_) (fun q9 => ?_)
    · have h10 := zc_ler (4) q9 (zr_c (lo := 4) (hi := 4) (by decide)) zr_any (by decide)
      exact (s_X7_moveNoise_120 i3 (zr_andr (lo := 0) (hi := 1) (zr_c (lo := 1) (hi := 1) (by decide)) (by decide)))
    have h11 := zc_ltl (3) (z_nle q9) zr_any (zr_c (lo := 4) (hi := 4) (by decide)) (by decide)
    exact (s_X7_moveNoise_120 i3 (zr_andr (lo := 0) (hi := 1) (zr_c (lo := 1) (hi := 1) (by decide)) (by decide)))
  exact zok_pau i3 (s_X7_moveNoise_136 i3.P)
theorem s_X7_moveNoise {G : Nat → Int} {σ : zSt} (hσ : zIC G σ) : zok (fX7_moveNoise σ ) (zIC G) := by
  unfold fX7_moveNoise
  refine zok_ck rfl ?_
  refine zok_ck rfl ?_
  refine zok_bs (hσ.wi 14 14 (by decide) (zr_max (lo := 0) (hi := 2147483647) (zr_c (lo := 0) (hi := 0) (by decide)) zr_any (by decide)) (by decide +kernel)) (fun σ5 e2 i1 => ?_)
  refine zok_ck rfl ?_
  refine zok_if (fun q3 => ?_) (fun q3 => ?_)
  · have h4 := zc_lel (0) q3 (z_own e2 (zr_max (lo := 0) (hi := 2147483647) (zr_c (lo := 0) (hi := 0) (by decide)) zr_any (by decide))) (zr_c (lo := 0) (hi := 0) (by decide)) (by decide)
    refine zok_ck rfl ?_
    refine zok_br (zr_andr (lo := 0) (hi := 3) (zr_c (lo := 3) (hi := 3) (by decide)) (by decide)) (fun v6 e6 h5 => ?_)
    refine zok_if (fun q7 => ?_) (fun q7 => ?_)
    · have h8 := zc_eql (3) (3) q7 h5 (zr_c (lo := 3) (hi := 3) (by decide)) (by decide)
      refine zok_ck rfl ?_
      exact (s_X7_moveNoise_65 i1 (zr_c (lo := 14) (hi := 14) (by decide)))
    have h9 := zc_nel (0) (2) q7 h5 (zr_c (lo := 3) (hi := 3) (by decide)) (by decide)
    exact (s_X7_moveNoise_65 i1 (zr_c (lo := 14) (hi := 14) (by decide)))
  have h10 := zc_ltr (1) (z_nle q3) (zr_c (lo := 0) (hi := 0) (by decide)) (z_own e2 (zr_max (lo := 0) (hi := 2147483647) (zr_c (lo := 0) (hi := 0) (by decide)) zr_any (by decide))) (by decide)
  exact zok_some i1
theorem s_X7_nextSample_87 {σ : zSt} {k28 : zSt → Int32 → Int32 → Int32 → Option (zSt × Int32)} {Mk28 : Int} (hk28 : ∀ (x1 : Int32) (x2 : Int32) (x3 : Int32), zr (0) (4) x3 → (4) - x3.toInt < Mk28 → zok (k28 σ x1 x2 x3) (zPi σ (fun v : Int32 => True))) (hσ : zPC σ) {x1 : Int32} {x2 : Int32} {x3 : Int32} (h_x3 : zr (0) (3) x3) {s0 : Int32} (hMk28 : (4) - x3.toInt ≤ Mk28) : zok (fX7_nextSample_87 k28 σ x1 x2 x3 s0) (zPi σ (fun v : Int32 => True)) := by
  unfold fX7_nextSample_87
  refine zok_ck rfl ?_
  refine zok_bv (fun v1 e2 => ?_)
  refine zok_ck rfl ?_
  refine zok_bv (fun v2 e4 => ?_)
  refine zok_br (zr_add (lo := 1) (hi := 4) h_x3 (zr_c (lo := 1) (hi := 1) (by decide)) (by decide)) (fun v3 e6 h5 => ?_)
  exact hk28 _ _ _  (zr_w h5 (by decide)) (by rw [e6]; have := z_tadd (y := (1 : Int32)) h_x3 (zr_c (lo := 1) (hi := 1) (by decide)) (by decide); have e9 : (1 : Int32).toInt = 1 := rfl; omega) 
theorem s_X7_nextSample_59 {σ : zSt} {k28 : zSt → Int32 → Int32 → Int32 → Option (zSt × Int32)} {Mk28 : Int} (hk28 : ∀ (x1 : Int32) (x2 : Int32) (x3 : Int32), zr (0) (4) x3 → (4) - x3.toInt < Mk28 → zok (k28 σ x1 x2 x3) (zPi σ (fun v : Int32 => True))) (hσ : zPC σ) {x1 : Int32} {x2 : Int32} {x3 : Int32} (h_x3 : zr (0) (3) x3) {s0 : Int32} (hMk28 : (4) - x3.toInt ≤ Mk28) : zok (fX7_nextSample_59 k28 σ x1 x2 x3 s0) (zPi σ (fun v : Int32 => True)) := by
  unfold fX7_nextSample_59
  refine zok_if (fun q1 => ?_) (fun q1 => ?_)
  · have h2 := zc_eql (1) (1) q1 zr_any (zr_c (lo := 1) (hi := 1) (by decide)) (by decide)
    refine zok_ck (zin_ok (zr_add (lo := 9) (hi := 12) (zr_c (lo := 9) (hi := 9) (by decide)) h_x3 (by decide)) (by decide)) ?_
    refine zok_ck (zin_ok (zr_andr (lo := 0) (hi := 15) (zr_c (lo := 15) (hi := 15) (by decide)) (by decide)) (by decide)) ?_
    exact (s_X7_nextSample_87 hk28 hσ h_x3 hMk28)
  exact (s_X7_nextSample_87 hk28 hσ h_x3 hMk28)
theorem s_X7_nextSample_28_body {σ : zSt} {k28 : zSt → Int32 → Int32 → Int32 → Option (zSt × Int32)} {Mk28 : Int} (hk28 : ∀ (x1 : Int32) (x2 : Int32) (x3 : Int32), zr (0) (4) x3 → (4) - x3.toInt < Mk28 → zok (k28 σ x1 x2 x3) (zPi σ (fun v : Int32 => True))) (hσ : zPC σ) {x1 : Int32} {x2 : Int32} {x3 : Int32} (h_x3 : zr (0) (4) x3) (hMk28 : (4) - x3.toInt ≤ Mk28) : zok (fX7_nextSample_28_body k28 σ x1 x2 x3) (zPi σ (fun v : Int32 => True)) := by
  unfold fX7_nextSample_28_body
  refine zok_if (fun q1 => ?_) (fun q1 => ?_)
  · have h2 := zc_ler (4) q1 (zr_c (lo := 4) (hi := 4) (by decide)) h_x3 (by decide)
    exact zok_spi trivial
  have h3 := zc_ltl (3) (z_nle q1) h_x3 (zr_c (lo := 4) (hi := 4) (by decide)) (by decide)
  refine zok_if (fun q4 => ?_) (fun q4 => ?_)
  · have h5 := zc_eql (3) (3) q4 h3 (zr_c (lo := 3) (hi := 3) (by decide)) (by decide)
    refine zok_ck rfl ?_
    exact (s_X7_nextSample_59 hk28 hσ (zr_w h5 (by decide)) hMk28)
  have h6 := zc_nel (0) (2) q4 h3 (zr_c (lo := 3) (hi := 3) (by decide)) (by decide)
  refine zok_ck (zin_ok (zr_add (lo := 6) (hi := 8) (zr_c (lo := 6) (hi := 6) (by decide)) h6 (by decide)) (by decide)) ?_
  exact (s_X7_nextSample_59 hk28 hσ (zr_w h6 (by decide)) hMk28)
theorem s_X7_nextSample_28 {σ : zSt} (hσ : zPC σ) : ∀ (n : Nat) {x1 : Int32} {x2 : Int32} {x3 : Int32} (h_x3 : zr (0) (4) x3) (hm : (4) - x3.toInt < n), zok (fX7_nextSample_28 n σ x1 x2 x3) (zPi σ (fun v : Int32 => True)) := by
  intro n
  induction n with
  | zero => intro x1 x2 x3 h_x3 hm ; have h9 := h_x3.1; have h8 := h_x3.2; exfalso; omega
  | succ n ih => intro x1 x2 x3 h_x3 hm ; exact s_X7_nextSample_28_body (fun x1 x2 x3 h_x3 hm1 => ih h_x3 (by omega)) hσ h_x3 (Int.le_refl _)
theorem s_X7_nextSample_2_body {G : Nat → Int} {σ : zSt} {k2 : zSt → Int32 → Option (zSt × Int32)} {Mk2 : Int} (hk2 : ∀ (σ : zSt) (x1 : Int32), zIC G σ → zr (0) (3) x1 → (3) - x1.toInt < Mk2 → zok (k2 σ x1) (zAi (zIC G) (fun v : Int32 => True))) (hσ : zIC G σ) {x1 : Int32} (h_x1 : zr (0) (3) x1) (hMk2 : (3) - x1.toInt ≤ Mk2) : zok (fX7_nextSample_2_body k2 σ x1) (zAi (zIC G) (fun v : Int32 => True)) := by
  unfold fX7_nextSample_2_body
  refine zok_if (fun q1 => ?_) (fun q1 => ?_)
  · have h2 := zc_ler (3) q1 (zr_c (lo := 3) (hi := 3) (by decide)) h_x1 (by decide)
    refine zok_bu (s_X7_moveNoise hσ) (fun σ4 i3 => ?_)
    exact zok_pai i3 (s_X7_nextSample_28 i3.P zfuel (zr_w (zr_c (lo := 0) (hi := 0) (by decide)) (by decide)) (by decide))
  have h4 := zc_ltl (2) (z_nle q1) h_x1 (zr_c (lo := 3) (hi := 3) (by decide)) (by decide)
  refine zok_bu (s_X7_moveTone hσ h4) (fun σ5 i5 => ?_)
  refine zok_br (zr_add (lo := 1) (hi := 3) h4 (zr_c (lo := 1) (hi := 1) (by decide)) (by decide)) (fun v6 e7 h6 => ?_)
  exact hk2 _ _ i5 (zr_w h6 (by decide)) (by rw [e7]; have := z_tadd (y := (1 : Int32)) h4 (zr_c (lo := 1) (hi := 1) (by decide)) (by decide); have e9 : (1 : Int32).toInt = 1 := rfl; omega) 
theorem s_X7_nextSample_2 {G : Nat → Int} : ∀ (n : Nat) {σ : zSt} (hσ : zIC G σ) {x1 : Int32} (h_x1 : zr (0) (3) x1) (hm : (3) - x1.toInt < n), zok (fX7_nextSample_2 n σ x1) (zAi (zIC G) (fun v : Int32 => True)) := by
  intro n
  induction n with
  | zero => intro σ hσ x1 h_x1 hm ; have h9 := h_x1.1; have h8 := h_x1.2; exfalso; omega
  | succ n ih => intro σ hσ x1 h_x1 hm ; exact s_X7_nextSample_2_body (fun σ x1 hσ h_x1 hm1 => ih hσ h_x1 (by omega)) hσ h_x1 (Int.le_refl _)
theorem s_X7_nextSample {G : Nat → Int} {σ : zSt} (hσ : zIC G σ) : zok (fX7_nextSample σ ) (zAi (zIC G) (fun v : Int32 => True)) := by
  unfold fX7_nextSample
  exact (s_X7_nextSample_2 zfuel hσ (zr_w (zr_c (lo := 0) (hi := 0) (by decide)) (by decide)) (by decide))
theorem s_X6_add_k11_56 {σ : zSt} (hσ : zPC σ) : zok (fX6_add_k11_56 σ ) (zPu σ) := by
  unfold fX6_add_k11_56
  exact zok_spu
theorem s_X6_add_k11 {G : Nat → Int} {σ : zSt} (hσ : zIC G σ) {x1 : Int64} (h_x1 : zrl (-2147483648) (2147483647) x1) : zok (fX6_add_k11 σ x1) (zIC G) := by
  unfold fX6_add_k11
  refine zok_ck (zin_ok (zr_andr (lo := 0) (hi := 4095) (zr_c (lo := 4095) (hi := 4095) (by decide)) (by decide)) (by decide)) ?_
  refine zok_bs (hσ.wl 0 4095 (z_ix (zr_andr (lo := 0) (hi := 4095) (zr_c (lo := 4095) (hi := 4095) (by decide)) (by decide)) (by decide)) (by decide)) (fun σ1 e2 i1 => ?_)
  refine zok_if (fun q3 => ?_) (fun q3 => ?_)
  · have h4 := zc_ler (4096) q3 (zr_c (lo := 4096) (hi := 4096) (by decide)) zr_any (by decide)
    refine zok_bs (i1.wk (by decide)) (fun σ2 e6 i5 => ?_)
    exact zok_pau i5 (s_X6_add_k11_56 i5.P)
  have h7 := zc_ltl (4095) (z_nle q3) zr_any (zr_c (lo := 4096) (hi := 4096) (by decide)) (by decide)
  refine zok_bs (i1.wk (by decide)) (fun σ3 e9 i8 => ?_)
  exact zok_pau i8 (s_X6_add_k11_56 i8.P)
theorem s_X0_addSample {G : Nat → Int} {σ : zSt} (hσ : zIC G σ) : zok (fX0_addSample σ ) (zIC G) := by
  unfold fX0_addSample
  refine zok_ai (s_X7_nextSample hσ) (fun σ1 v2 i1 h2 => ?_)
  refine zok_bu (s_X6_add_k11 i1 (zrl_i zr_any)) (fun σ3 i3 => ?_)
  refine zok_ck rfl ?_
  refine zok_ck rfl ?_
  refine zok_bs (i3.wl 3 3 (by decide) (by decide)) (fun σ4 e5 i4 => ?_)
  refine zok_ck rfl ?_
  refine zok_ck rfl ?_
  refine zok_bs (i4.wl 4 4 (by decide) (by decide)) (fun σ5 e7 i6 => ?_)
  refine zok_ck rfl ?_
  refine zok_ck rfl ?_
  refine zok_bs (i6.wl 5 5 (by decide) (by decide)) (fun σ6 e9 i8 => ?_)
  refine zok_ck rfl ?_
  refine zok_ck rfl ?_
  refine zok_bs (i8.wl 6 6 (by decide) (by decide)) (fun σ7 e11 i10 => ?_)
  exact zok_some i10
theorem s_X10_takeOwnPatch_7_body {G : Nat → Int} {σ : zSt} {k7 : zSt → Int32 → Option (zSt)} {Mk7 : Int} (hk7 : ∀ (σ : zSt) (x1 : Int32), zIC G σ → zr (0) (8) x1 → (8) - x1.toInt < Mk7 → zok (k7 σ x1) (zIC G)) (hσ : zIC G σ) {x1 : Int32} (h_x1 : zr (0) (8) x1) (hMk7 : (8) - x1.toInt ≤ Mk7) : zok (fX10_takeOwnPatch_7_body k7 σ x1) (zIC G) := by
  unfold fX10_takeOwnPatch_7_body
  refine zok_if (fun q1 => ?_) (fun q1 => ?_)
  · have h2 := zc_ler (8) q1 (zr_c (lo := 8) (hi := 8) (by decide)) h_x1 (by decide)
    exact zok_some hσ
  have h3 := zc_ltl (7) (z_nle q1) h_x1 (zr_c (lo := 8) (hi := 8) (by decide)) (by decide)
  refine zok_ck (zin_ok h3 (by decide)) ?_
  refine zok_bs (hσ.wl 7 7 (by decide) (by decide)) (fun σ1 e5 i4 => ?_)
  refine zok_br (zr_add (lo := 1) (hi := 8) h3 (zr_c (lo := 1) (hi := 1) (by decide)) (by decide)) (fun v2 e7 h6 => ?_)
  exact hk7 _ _ i4 (zr_w h6 (by decide)) (by rw [e7]; have := z_tadd (y := (1 : Int32)) h3 (zr_c (lo := 1) (hi := 1) (by decide)) (by decide); have e9 : (1 : Int32).toInt = 1 := rfl; omega) 
theorem s_X10_takeOwnPatch_7 {G : Nat → Int} : ∀ (n : Nat) {σ : zSt} (hσ : zIC G σ) {x1 : Int32} (h_x1 : zr (0) (8) x1) (hm : (8) - x1.toInt < n), zok (fX10_takeOwnPatch_7 n σ x1) (zIC G) := by
  intro n
  induction n with
  | zero => intro σ hσ x1 h_x1 hm ; have h9 := h_x1.1; have h8 := h_x1.2; exfalso; omega
  | succ n ih => intro σ hσ x1 h_x1 hm ; exact s_X10_takeOwnPatch_7_body (fun σ x1 hσ h_x1 hm1 => ih hσ h_x1 (by omega)) hσ h_x1 (Int.le_refl _)
theorem s_X10_takeOwnPatch {G : Nat → Int} {σ : zSt} (hσ : zIC G σ) : zok (fX10_takeOwnPatch σ ) (zIC G) := by
  unfold fX10_takeOwnPatch
  refine zok_bs (hσ.wl 7 7 (by decide) (by decide)) (fun σ3 e2 i1 => ?_)
  exact (s_X10_takeOwnPatch_7 zfuel i1 (zr_w (zr_c (lo := 0) (hi := 0) (by decide)) (by decide)) (by decide))
theorem s_X10_takeChannel_110 {G : Nat → Int} {σ : zSt} (hσ : zIC G σ) {s0 : Int64} : zok (fX10_takeChannel_110 σ s0) (zIC G) := by
  unfold fX10_takeChannel_110
  refine zok_bs (hσ.wl 6 6 (by decide) (by decide)) (fun σ1 e2 i1 => ?_)
  exact zok_some i1
theorem s_X10_takeChannel_106 {G : Nat → Int} {σ : zSt} (hσ : zIC G σ) : zok (fX10_takeChannel_106 σ ) (zIC G) := by
  unfold fX10_takeChannel_106
  exact (s_X10_takeChannel_110 hσ)
theorem s_X10_takeChannel_82 {G : Nat → Int} {σ : zSt} (hσ : zIC G σ) {s0 : Int32} (h_s0 : zr (-134217728) (134217727) s0) : zok (fX10_takeChannel_82 σ s0) (zIC G) := by
  unfold fX10_takeChannel_82
  refine zok_if (fun q1 => ?_) (fun q1 => ?_)
  · have h2 := zc_lel (0) q1 h_s0 (zr_c (lo := 0) (hi := 0) (by decide)) (by decide)
    exact (s_X10_takeChannel_106 hσ)
  have h3 := zc_ltr (1) (z_nle q1) (zr_c (lo := 0) (hi := 0) (by decide)) h_s0 (by decide)
  refine zok_if (fun q4 => ?_) (fun q4 => ?_)
  · have h5 := zc_ltr (19) q4 (zr_c (lo := 18) (hi := 18) (by decide)) h3 (by decide)
    exact (s_X10_takeChannel_106 hσ)
  have h6 := zc_lel (18) (z_nlt q4) h3 (zr_c (lo := 18) (hi := 18) (by decide)) (by decide)
  refine zok_ck (zin_ok (zr_sub (lo := 0) (hi := 17) h6 (zr_c (lo := 1) (hi := 1) (by decide)) (by decide)) (by decide)) ?_
  exact (s_X10_takeChannel_110 hσ)
theorem s_X10_takeChannel_71 {G : Nat → Int} {σ : zSt} (hσ : zIC G σ) {x1 : Int32} (h_x1 : zr (0) (8) x1) : zok (fX10_takeChannel_71 σ x1) (zIC G) := by
  unfold fX10_takeChannel_71
  refine zok_ck (zin_ok (zr_add (lo := 48) (hi := 56) (zr_c (lo := 48) (hi := 48) (by decide)) h_x1 (by decide)) (by decide)) ?_
  exact (s_X10_takeChannel_82 hσ (zr_shr (lo := -134217728) (hi := 134217727) 4 (by decide) zr_any (by decide)))
theorem s_X10_takeChannel {G : Nat → Int} {σ : zSt} (hσ : zIC G σ) {x1 : Int32} (h_x1 : zr (0) (8) x1) : zok (fX10_takeChannel σ x1) (zIC G) := by
  unfold fX10_takeChannel
  refine zok_bs (hσ.wi 3 3 (by decide) h_x1 (by decide +kernel)) (fun σ2 e2 i1 => ?_)
  refine zok_ck (zin_ok (zr_add (lo := 16) (hi := 24) (zr_c (lo := 16) (hi := 16) (by decide)) h_x1 (by decide)) (by decide)) ?_
  refine zok_ck (zin_ok (zr_add (lo := 32) (hi := 40) (zr_c (lo := 32) (hi := 32) (by decide)) h_x1 (by decide)) (by decide)) ?_
  refine zok_bs (i1.wi 4 4 (by decide) zr_any (by decide +kernel)) (fun σ3 e4 i3 => ?_)
  refine zok_ck (zin_ok (zr_add (lo := 32) (hi := 40) (zr_c (lo := 32) (hi := 32) (by decide)) h_x1 (by decide)) (by decide)) ?_
  refine zok_bs (i3.wi 5 5 (by decide) (zr_andr (lo := 0) (hi := 7) (zr_c (lo := 7) (hi := 7) (by decide)) (by decide)) (by decide +kernel)) (fun σ4 e6 i5 => ?_)
  refine zok_if (fun q7 => ?_) (fun q7 => ?_)
  · have h8 := zc_eql (0) (0) q7 zr_any (zr_c (lo := 0) (hi := 0) (by decide)) (by decide)
    exact (s_X10_takeChannel_71 i5 h_x1)
  refine zok_if (fun q9 => ?_) (fun q9 => ?_)
  · have h10 := zc_ltl (5) q9 h_x1 (zr_c (lo := 6) (hi := 6) (by decide)) (by decide)
    exact (s_X10_takeChannel_71 i5 (zr_w h10 (by decide)))
  have h11 := zc_ler (6) (z_nlt q9) (zr_c (lo := 6) (hi := 6) (by decide)) h_x1 (by decide)
  exact (s_X10_takeChannel_82 i5 (zr_w (zr_add (lo := 16) (hi := 18) (zr_c (lo := 10) (hi := 10) (by decide)) h11 (by decide)) (by decide)))
theorem s_X10_isOn_131 {σ : zSt} (hσ : zPC σ) {s0 : Int32} (h_s0 : zr (0) (1) s0) : zok (fX10_isOn_131 σ s0) (zPi σ (fun v : Int32 => zr (0) (1) v)) := by
  unfold fX10_isOn_131
  refine zok_ck (zbo_ok h_s0 (by decide)) ?_
  exact zok_spi h_s0
theorem s_X10_isOn_122 {σ : zSt} (hσ : zPC σ) {s0 : Int32} (h_s0 : zr (2) (4) s0) {s1 : Int32} : zok (fX10_isOn_122 σ s0 s1) (zPi σ (fun v : Int32 => zr (0) (1) v)) := by
  unfold fX10_isOn_122
  refine zok_if (fun q1 => ?_) (fun q1 => ?_)
  · have h2 := zc_eql (0) (0) q1 (zr_andr (lo := 0) (hi := 4) h_s0 (by decide)) (zr_c (lo := 0) (hi := 0) (by decide)) (by decide)
    exact (s_X10_isOn_131 hσ (zr_w (zr_c (lo := 0) (hi := 0) (by decide)) (by decide)))
  have h3 := zc_nel (1) (4) q1 (zr_andr (lo := 0) (hi := 4) h_s0 (by decide)) (zr_c (lo := 0) (hi := 0) (by decide)) (by decide)
  exact (s_X10_isOn_131 hσ (zr_w (zr_c (lo := 1) (hi := 1) (by decide)) (by decide)))
theorem s_X10_isOn_105 {σ : zSt} (hσ : zPC σ) {s0 : Int32} (h_s0 : zr (0) (1) s0) : zok (fX10_isOn_105 σ s0) (zPi σ (fun v : Int32 => zr (0) (1) v)) := by
  unfold fX10_isOn_105
  refine zok_ck (zbo_ok h_s0 (by decide)) ?_
  exact zok_spi h_s0
theorem s_X10_isOn_96 {σ : zSt} (hσ : zPC σ) {s0 : Int32} (h_s0 : zr (1) (8) s0) {s1 : Int32} : zok (fX10_isOn_96 σ s0 s1) (zPi σ (fun v : Int32 => zr (0) (1) v)) := by
  unfold fX10_isOn_96
  refine zok_if (fun q1 => ?_) (fun q1 => ?_)
  · have h2 := zc_eql (0) (0) q1 (zr_andr (lo := 0) (hi := 8) h_s0 (by decide)) (zr_c (lo := 0) (hi := 0) (by decide)) (by decide)
    exact (s_X10_isOn_105 hσ (zr_w (zr_c (lo := 0) (hi := 0) (by decide)) (by decide)))
  have h3 := zc_nel (1) (8) q1 (zr_andr (lo := 0) (hi := 8) h_s0 (by decide)) (zr_c (lo := 0) (hi := 0) (by decide)) (by decide)
  exact (s_X10_isOn_105 hσ (zr_w (zr_c (lo := 1) (hi := 1) (by decide)) (by decide)))
theorem s_X10_isOn_78 {σ : zSt} (hσ : zPC σ) {s0 : Int32} (h_s0 : zr (0) (1) s0) : zok (fX10_isOn_78 σ s0) (zPi σ (fun v : Int32 => zr (0) (1) v)) := by
  unfold fX10_isOn_78
  refine zok_ck (zbo_ok h_s0 (by decide)) ?_
  exact zok_spi h_s0
theorem s_X10_isOn {σ : zSt} (hσ : zPC σ) {x1 : Int32} (h_x1 : zr (0) (1) x1) : zok (fX10_isOn σ x1) (zPi σ (fun v : Int32 => zr (0) (1) v)) := by
  unfold fX10_isOn
  refine zok_ck (zin_ok (zr_add (lo := 32) (hi := 40) (zr_c (lo := 32) (hi := 32) (by decide)) (rC_10 hσ.sg _ (by decide)) (by decide)) (by decide)) ?_
  refine zok_if (fun q1 => ?_) (fun q1 => ?_)
  · have h2 := zc_eql (0) (0) q1 (zr_andr (lo := 0) (hi := 16) (zr_c (lo := 16) (hi := 16) (by decide)) (by decide)) (zr_c (lo := 0) (hi := 0) (by decide)) (by decide)
    refine zok_if (fun q3 => ?_) (fun q3 => ?_)
    · have h4 := zc_eql (0) (0) q3 zr_any (zr_c (lo := 0) (hi := 0) (by decide)) (by decide)
      refine zok_ck rfl ?_
      exact zok_spi (zr_w (zr_c (lo := 0) (hi := 0) (by decide)) (by decide))
    refine zok_if (fun q5 => ?_) (fun q5 => ?_)
    · have h6 := zc_eql (6) (6) q5 (rC_10 hσ.sg _ (by decide)) (zr_c (lo := 6) (hi := 6) (by decide)) (by decide)
      refine zok_ck rfl ?_
      refine zok_if (fun q7 => ?_) (fun q7 => ?_)
      · have h8 := zc_eql (0) (0) q7 (zr_andr (lo := 0) (hi := 16) (zr_c (lo := 16) (hi := 16) (by decide)) (by decide)) (zr_c (lo := 0) (hi := 0) (by decide)) (by decide)
        exact (s_X10_isOn_78 hσ (zr_w (zr_c (lo := 0) (hi := 0) (by decide)) (by decide)))
      have h9 := zc_nel (1) (16) q7 (zr_andr (lo := 0) (hi := 16) (zr_c (lo := 16) (hi := 16) (by decide)) (by decide)) (zr_c (lo := 0) (hi := 0) (by decide)) (by decide)
      exact (s_X10_isOn_78 hσ (zr_w (zr_c (lo := 1) (hi := 1) (by decide)) (by decide)))
    refine zok_if (fun q10 => ?_) (fun q10 => ?_)
    · have h11 := zc_eql (7) (7) q10 (rC_10 hσ.sg _ (by decide)) (zr_c (lo := 7) (hi := 7) (by decide)) (by decide)
      refine zok_ck rfl ?_
      refine zok_if (fun q12 => ?_) (fun q12 => ?_)
      · have h13 := zc_eql (0) (0) q12 h_x1 (zr_c (lo := 0) (hi := 0) (by decide)) (by decide)
        exact (s_X10_isOn_96 hσ (zr_w (zr_c (lo := 1) (hi := 1) (by decide)) (by decide)))
      have h14 := zc_nel (1) (1) q12 h_x1 (zr_c (lo := 0) (hi := 0) (by decide)) (by decide)
      exact (s_X10_isOn_96 hσ (zr_w (zr_c (lo := 8) (hi := 8) (by decide)) (by decide)))
    refine zok_if (fun q15 => ?_) (fun q15 => ?_)
    · have h16 := zc_eql (8) (8) q15 (rC_10 hσ.sg _ (by decide)) (zr_c (lo := 8) (hi := 8) (by decide)) (by decide)
      refine zok_ck rfl ?_
      refine zok_if (fun q17 => ?_) (fun q17 => ?_)
      · have h18 := zc_eql (0) (0) q17 h_x1 (zr_c (lo := 0) (hi := 0) (by decide)) (by decide)
        exact (s_X10_isOn_122 hσ (zr_w (zr_c (lo := 4) (hi := 4) (by decide)) (by decide)))
      have h19 := zc_nel (1) (1) q17 h_x1 (zr_c (lo := 0) (hi := 0) (by decide)) (by decide)
      exact (s_X10_isOn_122 hσ (zr_w (zr_c (lo := 2) (hi := 2) (by decide)) (by decide)))
    have h20 := zc_nel (0) (7) q15 (rC_10 hσ.sg _ (by decide)) (zr_c (lo := 8) (hi := 8) (by decide)) (by decide)
    refine zok_ck rfl ?_
    exact zok_spi (zr_w (zr_c (lo := 0) (hi := 0) (by decide)) (by decide))
  have h21 := zc_nel (1) (16) q1 (zr_andr (lo := 0) (hi := 16) (zr_c (lo := 16) (hi := 16) (by decide)) (by decide)) (zr_c (lo := 0) (hi := 0) (by decide)) (by decide)
  refine zok_ck rfl ?_
  exact zok_spi (zr_w (zr_c (lo := 1) (hi := 1) (by decide)) (by decide))
theorem s_X10_part {σ : zSt} (hσ : zPC σ) {x1 : Int32} (h_x1 : zr (0) (7) x1) : zok (fX10_part σ x1) (zPi σ (fun v : Int32 => zr (0) (255) v)) := by
  unfold fX10_part
  exact zok_spi (zr_andr (lo := 0) (hi := 255) (zr_c (lo := 255) (hi := 255) (by decide)) (by decide))
theorem s_X10_rateIn_126 {σ : zSt} (hσ : zPC σ) {s0 : Int32} (h_s0 : zr (0) (15) s0) : zok (fX10_rateIn_126 σ s0) (zPi σ (fun v : Int32 => zr (0) (15) v)) := by
  unfold fX10_rateIn_126
  exact zok_spi h_s0
theorem s_X10_rateIn_94 {σ : zSt} (hσ : zPC σ) {s0 : Int32} (h_s0 : zr (0) (15) s0) : zok (fX10_rateIn_94 σ s0) (zPi σ (fun v : Int32 => zr (0) (15) v)) := by
  unfold fX10_rateIn_94
  exact zok_spi h_s0
theorem s_X10_rateIn_16 {σ : zSt} (hσ : zPC σ) {x1 : Int32} {x2 : Int32} (h_x2 : zr (0) (1) x2) {s0 : Int32} (h_s0 : zr (0) (1) s0) : zok (fX10_rateIn_16 σ x1 x2 s0) (zPi σ (fun v : Int32 => zr (0) (15) v)) := by
  unfold fX10_rateIn_16
  refine zok_pi (s_X10_part hσ (zr_w (zr_add (lo := 6) (hi := 7) (zr_c (lo := 6) (hi := 6) (by decide)) h_x2 (by decide)) (by decide))) (fun v2 h1 => ?_)
  refine zok_br (zr_andr (lo := 0) (hi := 15) (zr_c (lo := 15) (hi := 15) (by decide)) (by decide)) (fun v3 e3 h2 => ?_)
  refine zok_if (fun q4 => ?_) (fun q4 => ?_)
  · have h5 := zc_eql (0) (0) q4 zr_any (zr_c (lo := 0) (hi := 0) (by decide)) (by decide)
    exact zok_spi (zr_w (zr_c (lo := 12) (hi := 12) (by decide)) (by decide))
  refine zok_if (fun q6 => ?_) (fun q6 => ?_)
  · have h7 := zc_eql (1) (1) q6 zr_any (zr_c (lo := 1) (hi := 1) (by decide)) (by decide)
    refine zok_pi (s_X10_part hσ (zr_w (zr_add (lo := 4) (hi := 5) (zr_c (lo := 4) (hi := 4) (by decide)) h_x2 (by decide)) (by decide))) (fun v5 h8 => ?_)
    exact zok_spi (zr_shr (lo := 0) (hi := 15) 4 (by decide) h8 (by decide))
  refine zok_if (fun q9 => ?_) (fun q9 => ?_)
  · have h10 := zc_eql (2) (2) q9 zr_any (zr_c (lo := 2) (hi := 2) (by decide)) (by decide)
    refine zok_pi (s_X10_part hσ (zr_w (zr_add (lo := 4) (hi := 5) (zr_c (lo := 4) (hi := 4) (by decide)) h_x2 (by decide)) (by decide))) (fun v7 h11 => ?_)
    exact zok_spi (zr_andr (lo := 0) (hi := 15) (zr_c (lo := 15) (hi := 15) (by decide)) (by decide))
  refine zok_if (fun q12 => ?_) (fun q12 => ?_)
  · have h13 := zc_eql (3) (3) q12 zr_any (zr_c (lo := 3) (hi := 3) (by decide)) (by decide)
    refine zok_if (fun q14 => ?_) (fun q14 => ?_)
    · have h15 := zc_eql (0) (0) q14 h_s0 (zr_c (lo := 0) (hi := 0) (by decide)) (by decide)
      exact (s_X10_rateIn_94 hσ h2)
    have h16 := zc_nel (1) (1) q14 h_s0 (zr_c (lo := 0) (hi := 0) (by decide)) (by decide)
    exact (s_X10_rateIn_94 hσ (zr_w (zr_c (lo := 0) (hi := 0) (by decide)) (by decide)))
  refine zok_ck (zin_ok (zr_add (lo := 32) (hi := 40) (zr_c (lo := 32) (hi := 32) (by decide)) (rC_10 hσ.sg _ (by decide)) (by decide)) (by decide)) ?_
  refine zok_if (fun q17 => ?_) (fun q17 => ?_)
  · have h18 := zc_eql (0) (0) q17 (zr_andr (lo := 0) (hi := 32) (zr_c (lo := 32) (hi := 32) (by decide)) (by decide)) (zr_c (lo := 0) (hi := 0) (by decide)) (by decide)
    refine zok_if (fun q19 => ?_) (fun q19 => ?_)
    · have h20 := zc_eql (0) (0) q19 h_s0 (zr_c (lo := 0) (hi := 0) (by decide)) (by decide)
      exact (s_X10_rateIn_126 hσ (zr_w (zr_c (lo := 7) (hi := 7) (by decide)) (by decide)))
    have h21 := zc_nel (1) (1) q19 h_s0 (zr_c (lo := 0) (hi := 0) (by decide)) (by decide)
    exact (s_X10_rateIn_126 hσ h2)
  have h22 := zc_nel (1) (32) q17 (zr_andr (lo := 0) (hi := 32) (zr_c (lo := 32) (hi := 32) (by decide)) (by decide)) (zr_c (lo := 0) (hi := 0) (by decide)) (by decide)
  exact zok_spi (zr_w (zr_c (lo := 5) (hi := 5) (by decide)) (by decide))
theorem s_X10_rateIn {σ : zSt} (hσ : zPC σ) {x1 : Int32} {x2 : Int32} (h_x2 : zr (0) (1) x2) : zok (fX10_rateIn σ x1 x2) (zPi σ (fun v : Int32 => zr (0) (15) v)) := by
  unfold fX10_rateIn
  refine zok_pi (s_X10_part hσ (zr_w h_x2 (by decide))) (fun v9 h1 => ?_)
  refine zok_if (fun q2 => ?_) (fun q2 => ?_)
  · have h3 := zc_eql (0) (0) q2 (zr_andr (lo := 0) (hi := 32) (zr_c (lo := 32) (hi := 32) (by decide)) (by decide)) (zr_c (lo := 0) (hi := 0) (by decide)) (by decide)
    exact (s_X10_rateIn_16 hσ h_x2 (zr_w (zr_c (lo := 0) (hi := 0) (by decide)) (by decide)))
  have h4 := zc_nel (1) (32) q2 (zr_andr (lo := 0) (hi := 32) (zr_c (lo := 32) (hi := 32) (by decide)) (by decide)) (zr_c (lo := 0) (hi := 0) (by decide)) (by decide)
  exact (s_X10_rateIn_16 hσ h_x2 (zr_w (zr_c (lo := 1) (hi := 1) (by decide)) (by decide)))
theorem s_X10_slowTick {σ : zSt} (hσ : zPC σ) : zok (fX10_slowTick σ ) (zPi σ (fun v : Int32 => zr (0) (6) v)) := by
  unfold fX10_slowTick
  refine zok_ck rfl ?_
  exact zok_spi (zr_mul (lo := 0) (hi := 6) (zr_c (lo := 2) (hi := 2) (by decide)) (zr_andr (lo := 0) (hi := 3) (zr_c (lo := 3) (hi := 3) (by decide)) (by decide)) (by decide))
theorem s_X10_tickAt_53 {σ : zSt} (hσ : zPC σ) {s0 : Int32} (h_s0 : zr (0) (1) s0) : zok (fX10_tickAt_53 σ s0) (zPi σ (fun v : Int32 => zr (0) (1) v)) := by
  unfold fX10_tickAt_53
  exact zok_spi h_s0
theorem s_X10_tickAt_26 {σ : zSt} (hσ : zPC σ) {x2 : Int32} {x3 : Int32} {s0 : Int32} (h_s0 : zr (0) (1) s0) : zok (fX10_tickAt_26 σ x2 x3 s0) (zPi σ (fun v : Int32 => zr (0) (1) v)) := by
  unfold fX10_tickAt_26
  refine zok_if (fun q1 => ?_) (fun q1 => ?_)
  · have h2 := zc_eql (0) (0) q1 h_s0 (zr_c (lo := 0) (hi := 0) (by decide)) (by decide)
    exact (s_X10_tickAt_53 hσ (zr_w (zr_c (lo := 0) (hi := 0) (by decide)) (by decide)))
  have h3 := zc_nel (1) (1) q1 h_s0 (zr_c (lo := 0) (hi := 0) (by decide)) (by decide)
  refine zok_ck rfl ?_
  exact (s_X10_tickAt_53 hσ (zr_andr (lo := 0) (hi := 1) (zr_c (lo := 1) (hi := 1) (by decide)) (by decide)))
theorem s_X10_tickAt {σ : zSt} (hσ : zPC σ) {x1 : Int32} (h_x1 : zr (-2147483648) (14) x1) {x2 : Int32} : zok (fX10_tickAt σ x1 x2) (zPi σ (fun v : Int32 => zr (0) (1) v)) := by
  unfold fX10_tickAt
  refine zok_bv (fun v1 e2 => ?_)
  refine zok_ck rfl ?_
  refine zok_if (fun q3 => ?_) (fun q3 => ?_)
  · have h4 := zc_eql (0) (0) q3 zr_any (zr_c (lo := 0) (hi := 0) (by decide)) (by decide)
    exact (s_X10_tickAt_26 hσ (zr_w (zr_c (lo := 1) (hi := 1) (by decide)) (by decide)))
  exact (s_X10_tickAt_26 hσ (zr_w (zr_c (lo := 0) (hi := 0) (by decide)) (by decide)))
theorem s_X10_louder_56 {σ : zSt} (hσ : zPC σ) {s0 : Int32} : zok (fX10_louder_56 σ s0) (zPi σ (fun v : Int32 => True)) := by
  unfold fX10_louder_56
  exact zok_spi trivial
theorem s_X10_louder {σ : zSt} (hσ : zPC σ) {x1 : Int32} {x2 : Int32} (h_x2 : zr (-2147483648) (15) x2) {x3 : Int32} : zok (fX10_louder σ x1 x2 x3) (zPi σ (fun v : Int32 => True)) := by
  unfold fX10_louder
  refine zok_if (fun q1 => ?_) (fun q1 => ?_)
  · have h2 := zc_eql (15) (15) q1 h_x2 (zr_c (lo := 15) (hi := 15) (by decide)) (by decide)
    exact zok_spi trivial
  have h3 := zc_nel (-2147483648) (14) q1 h_x2 (zr_c (lo := 15) (hi := 15) (by decide)) (by decide)
  refine zok_if (fun q4 => ?_) (fun q4 => ?_)
  · have h5 := zc_ltl (11) q4 h3 (zr_c (lo := 12) (hi := 12) (by decide)) (by decide)
    refine zok_pi (s_X10_tickAt hσ (zr_w h5 (by decide))) (fun v2 h6 => ?_)
    refine zok_if (fun q7 => ?_) (fun q7 => ?_)
    · have h8 := zc_eql (1) (1) q7 h6 (zr_c (lo := 1) (hi := 1) (by decide)) (by decide)
      refine zok_ck (by decide) ?_
      exact (s_X10_louder_56 hσ)
    have h9 := zc_nel (0) (0) q7 h6 (zr_c (lo := 1) (hi := 1) (by decide)) (by decide)
    exact (s_X10_louder_56 hσ)
  have h10 := zc_ler (12) (z_nlt q4) (zr_c (lo := 12) (hi := 12) (by decide)) h3 (by decide)
  refine zok_pi (s_X10_slowTick hσ) (fun v4 h11 => ?_)
  exact zok_spi trivial
theorem s_X10_softer {σ : zSt} (hσ : zPC σ) {x1 : Int32} (h_x1 : zr (-2147483648) (15) x1) {x2 : Int32} : zok (fX10_softer σ x1 x2) (zPi σ (fun v : Int32 => zr (0) (2) v)) := by
  unfold fX10_softer
  refine zok_if (fun q1 => ?_) (fun q1 => ?_)
  · have h2 := zc_eql (13) (13) q1 h_x1 (zr_c (lo := 13) (hi := 13) (by decide)) (by decide)
    refine zok_pi (s_X10_slowTick hσ) (fun v2 h3 => ?_)
    refine zok_ck rfl ?_
    exact zok_spi (zr_w (zr_andr (lo := 0) (hi := 1) (zr_c (lo := 1) (hi := 1) (by decide)) (by decide)) (by decide))
  refine zok_if (fun q4 => ?_) (fun q4 => ?_)
  · have h5 := zc_eql (14) (14) q4 h_x1 (zr_c (lo := 14) (hi := 14) (by decide)) (by decide)
    refine zok_pi (s_X10_slowTick hσ) (fun v4 h6 => ?_)
    exact zok_spi (zr_w (zr_add (lo := 1) (hi := 2) (zr_andr (lo := 0) (hi := 1) (zr_c (lo := 1) (hi := 1) (by decide)) (by decide)) (zr_c (lo := 1) (hi := 1) (by decide)) (by decide)) (by decide))
  refine zok_if (fun q7 => ?_) (fun q7 => ?_)
  · have h8 := zc_eql (15) (15) q7 h_x1 (zr_c (lo := 15) (hi := 15) (by decide)) (by decide)
    exact zok_spi (zr_w (zr_c (lo := 2) (hi := 2) (by decide)) (by decide))
  have h9 := zc_nel (-2147483648) (14) q7 h_x1 (zr_c (lo := 15) (hi := 15) (by decide)) (by decide)
  refine zok_pi (s_X10_tickAt hσ h9) (fun v6 h10 => ?_)
  exact zok_spi (zr_w h10 (by decide))
theorem s_X10_moveLevel_148 {σ : zSt} (hσ : zPC σ) : zok (fX10_moveLevel_148 σ ) (zPu σ) := by
  unfold fX10_moveLevel_148
  exact zok_spu
theorem s_X10_moveLevel_52 {G : Nat → Int} {σ : zSt} (hσ : zIC G σ) {x1 : Int32} (h_x1 : zr (128) (264) x1) {x3 : Int32} (h_x3 : zr (1) (15) x3) {x4 : Int32} : zok (fX10_moveLevel_52 σ x1 x3 x4) (zIC G) := by
  unfold fX10_moveLevel_52
  refine zok_ck (by decide) ?_
  refine zok_br (zr_min (lo := -2147483648) (hi := 15) (zr_c (lo := 15) (hi := 15) (by decide)) zr_any (by decide)) (fun v1 e2 h1 => ?_)
  refine zok_ck (zin_ok (zr_andr (lo := 0) (hi := 3) (zr_c (lo := 3) (hi := 3) (by decide)) (by decide)) (by decide)) ?_
  refine zok_bv (fun v2 e4 => ?_)
  refine zok_ck (zin_ok (zr_add (lo := 129) (hi := 265) h_x1 (zr_c (lo := 1) (hi := 1) (by decide)) (by decide)) (by decide)) ?_
  refine zok_if (fun q5 => ?_) (fun q5 => ?_)
  · have h6 := zc_eql (1) (1) q5 zr_any (zr_c (lo := 1) (hi := 1) (by decide)) (by decide)
    refine zok_ck (zin_ok (zr_add (lo := 128) (hi := 264) h_x1 (zr_c (lo := 0) (hi := 0) (by decide)) (by decide)) (by decide)) ?_
    refine zok_pi (s_X10_louder hσ.P h1) (fun v7 h7 => ?_)
    refine zok_ck (zin_ok (zr_add (lo := 128) (hi := 264) h_x1 (zr_c (lo := 0) (hi := 0) (by decide)) (by decide)) (by decide)) ?_
    refine zok_bs (hσ.wi 128 264 (z_ix (zr_add (lo := 128) (hi := 264) h_x1 (zr_c (lo := 0) (hi := 0) (by decide)) (by decide)) (by decide)) (zr_max (lo := 0) (hi := 2147483647) (zr_c (lo := 0) (hi := 0) (by decide)) zr_any (by decide)) (by decide +kernel)) (fun σ8 e9 i8 => ?_)
    exact zok_pau i8 (s_X10_moveLevel_148 i8.P)
  refine zok_ck (zin_ok (zr_add (lo := 128) (hi := 264) h_x1 (zr_c (lo := 0) (hi := 0) (by decide)) (by decide)) (by decide)) ?_
  refine zok_pi (s_X10_softer hσ.P h1) (fun v4 h10 => ?_)
  refine zok_ck (zin_ok (zr_add (lo := 128) (hi := 264) h_x1 (zr_c (lo := 0) (hi := 0) (by decide)) (by decide)) (by decide)) ?_
  refine zok_bs (hσ.wi 128 264 (z_ix (zr_add (lo := 128) (hi := 264) h_x1 (zr_c (lo := 0) (hi := 0) (by decide)) (by decide)) (by decide)) (zr_min (lo := -2147483648) (hi := 127) (zr_c (lo := 127) (hi := 127) (by decide)) zr_any (by decide)) (by decide +kernel)) (fun σ5 e12 i11 => ?_)
  exact zok_pau i11 (s_X10_moveLevel_148 i11.P)
theorem s_X10_moveLevel {G : Nat → Int} {σ : zSt} (hσ : zIC G σ) {x1 : Int32} (h_x1 : zr (128) (264) x1) {x2 : Int32} (h_x2 : zr (0) (1) x2) : zok (fX10_moveLevel σ x1 x2) (zIC G) := by
  unfold fX10_moveLevel
  refine zok_ck (zin_ok (zr_add (lo := 129) (hi := 265) h_x1 (zr_c (lo := 1) (hi := 1) (by decide)) (by decide)) (by decide)) ?_
  refine zok_pi (s_X10_rateIn hσ.P h_x2) (fun v10 h1 => ?_)
  refine zok_if (fun q2 => ?_) (fun q2 => ?_)
  · have h3 := zc_eql (0) (0) q2 h1 (zr_c (lo := 0) (hi := 0) (by decide)) (by decide)
    exact zok_some hσ
  have h4 := zc_nel (1) (15) q2 h1 (zr_c (lo := 0) (hi := 0) (by decide)) (by decide)
  refine zok_bv (fun v11 e6 => ?_)
  refine zok_pi (s_X10_part hσ.P (zr_w h_x2 (by decide))) (fun v13 h7 => ?_)
  refine zok_if (fun q8 => ?_) (fun q8 => ?_)
  · have h9 := zc_eql (0) (0) q8 (zr_andr (lo := 0) (hi := 16) (zr_c (lo := 16) (hi := 16) (by decide)) (by decide)) (zr_c (lo := 0) (hi := 0) (by decide)) (by decide)
    refine zok_ck (by decide) ?_
    refine zok_bv (fun v14 e11 => ?_)
    exact (s_X10_moveLevel_52 hσ h_x1 h4)
  have h12 := zc_nel (1) (16) q8 (zr_andr (lo := 0) (hi := 16) (zr_c (lo := 16) (hi := 16) (by decide)) (by decide)) (zr_c (lo := 0) (hi := 0) (by decide)) (by decide)
  exact (s_X10_moveLevel_52 hσ h_x1 h4)
theorem s_X10_moveState_96 {σ : zSt} (hσ : zPC σ) : zok (fX10_moveState_96 σ ) (zPu σ) := by
  unfold fX10_moveState_96
  exact zok_spu
theorem s_X10_moveState_73 {G : Nat → Int} {σ : zSt} (hσ : zIC G σ) {x1 : Int32} (h_x1 : zr (128) (264) x1) {x2 : Int32} (h_x2 : zr (0) (15) x2) {x3 : Int32} {x4 : Int32} : zok (fX10_moveState_73 σ x1 x2 x3 x4) (zIC G) := by
  unfold fX10_moveState_73
  refine zok_if (fun q1 => ?_) (fun q1 => ?_)
  · have h2 := zc_eql (2) (2) q1 zr_any (zr_c (lo := 2) (hi := 2) (by decide)) (by decide)
    refine zok_ck (by decide) ?_
    refine zok_if (fun q3 => ?_) (fun q3 => ?_)
    · have h4 := zc_ltl (14) q3 zr_any h_x2 (by decide)
      exact zok_pau hσ (s_X10_moveState_96 hσ.P)
    have h5 := zc_ler (0) (z_nlt q3) h_x2 zr_any (by decide)
    refine zok_ck (zin_ok (zr_add (lo := 129) (hi := 265) h_x1 (zr_c (lo := 1) (hi := 1) (by decide)) (by decide)) (by decide)) ?_
    refine zok_bs (hσ.wi 129 265 (z_ix (zr_add (lo := 129) (hi := 265) h_x1 (zr_c (lo := 1) (hi := 1) (by decide)) (by decide)) (by decide)) (zr_c (lo := 3) (hi := 3) (by decide)) (by decide +kernel)) (fun σ1 e7 i6 => ?_)
    exact zok_pau i6 (s_X10_moveState_96 i6.P)
  exact zok_pau hσ (s_X10_moveState_96 hσ.P)
theorem s_X10_moveState_51 {G : Nat → Int} {σ : zSt} (hσ : zIC G σ) {x1 : Int32} (h_x1 : zr (128) (264) x1) {x2 : Int32} (h_x2 : zr (0) (15) x2) {x3 : Int32} {x4 : Int32} : zok (fX10_moveState_51 σ x1 x2 x3 x4) (zIC G) := by
  unfold fX10_moveState_51
  refine zok_if (fun q1 => ?_) (fun q1 => ?_)
  · have h2 := zc_eql (1) (1) q1 zr_any (zr_c (lo := 1) (hi := 1) (by decide)) (by decide)
    refine zok_if (fun q3 => ?_) (fun q3 => ?_)
    · have h4 := zc_eql (0) (0) q3 zr_any (zr_c (lo := 0) (hi := 0) (by decide)) (by decide)
      refine zok_ck (zin_ok (zr_add (lo := 129) (hi := 265) h_x1 (zr_c (lo := 1) (hi := 1) (by decide)) (by decide)) (by decide)) ?_
      refine zok_bs (hσ.wi 129 265 (z_ix (zr_add (lo := 129) (hi := 265) h_x1 (zr_c (lo := 1) (hi := 1) (by decide)) (by decide)) (by decide)) (zr_c (lo := 2) (hi := 2) (by decide)) (by decide +kernel)) (fun σ2 e6 i5 => ?_)
      exact zok_pau i5 (s_X10_moveState_96 i5.P)
    exact (s_X10_moveState_73 hσ h_x1 h_x2)
  exact (s_X10_moveState_73 hσ h_x1 h_x2)
theorem s_X10_moveState {G : Nat → Int} {σ : zSt} (hσ : zIC G σ) {x1 : Int32} (h_x1 : zr (128) (264) x1) {x2 : Int32} (h_x2 : zr (0) (15) x2) : zok (fX10_moveState σ x1 x2) (zIC G) := by
  unfold fX10_moveState
  refine zok_ck (zin_ok (zr_add (lo := 128) (hi := 264) h_x1 (zr_c (lo := 0) (hi := 0) (by decide)) (by decide)) (by decide)) ?_
  refine zok_bv (fun v3 e2 => ?_)
  refine zok_ck (zin_ok (zr_add (lo := 129) (hi := 265) h_x1 (zr_c (lo := 1) (hi := 1) (by decide)) (by decide)) (by decide)) ?_
  refine zok_bv (fun v4 e4 => ?_)
  refine zok_if (fun q5 => ?_) (fun q5 => ?_)
  · have h6 := zc_eql (0) (0) q5 zr_any (zr_c (lo := 0) (hi := 0) (by decide)) (by decide)
    refine zok_if (fun q7 => ?_) (fun q7 => ?_)
    · have h8 := zc_ltl (123) q7 zr_any (zr_c (lo := 124) (hi := 124) (by decide)) (by decide)
      exact (s_X10_moveState_51 hσ h_x1 h_x2)
    have h9 := zc_ler (124) (z_nlt q7) (zr_c (lo := 124) (hi := 124) (by decide)) zr_any (by decide)
    refine zok_ck (zin_ok (zr_add (lo := 129) (hi := 265) h_x1 (zr_c (lo := 1) (hi := 1) (by decide)) (by decide)) (by decide)) ?_
    refine zok_bs (hσ.wi 129 265 (z_ix (zr_add (lo := 129) (hi := 265) h_x1 (zr_c (lo := 1) (hi := 1) (by decide)) (by decide)) (by decide)) (zr_c (lo := 1) (hi := 1) (by decide)) (by decide +kernel)) (fun σ5 e11 i10 => ?_)
    refine zok_ck (zin_ok (zr_add (lo := 130) (hi := 266) h_x1 (zr_c (lo := 2) (hi := 2) (by decide)) (by decide)) (by decide)) ?_
    refine zok_bs (i10.wi 130 266 (z_ix (zr_add (lo := 130) (hi := 266) h_x1 (zr_c (lo := 2) (hi := 2) (by decide)) (by decide)) (by decide)) (zr_c (lo := 0) (hi := 0) (by decide)) (by decide +kernel)) (fun σ6 e13 i12 => ?_)
    exact zok_pau i12 (s_X10_moveState_96 i12.P)
  exact (s_X10_moveState_51 hσ h_x1 h_x2)
theorem s_X10_sway_56 {σ : zSt} (hσ : zPC σ) {x1 : Int32} : zok (fX10_sway_56 σ x1) (zPi σ (fun v : Int32 => True)) := by
  unfold fX10_sway_56
  refine zok_ck (by decide) ?_
  exact zok_spi trivial
theorem s_X10_sway_70 {σ : zSt} (hσ : zPC σ) : zok (fX10_sway_70 σ ) (zPi σ (fun v : Int32 => True)) := by
  unfold fX10_sway_70
  exact zok_spi trivial
theorem s_X10_sway_62 {σ : zSt} (hσ : zPC σ) {x1 : Int32} : zok (fX10_sway_62 σ x1) (zPi σ (fun v : Int32 => True)) := by
  unfold fX10_sway_62
  refine zok_ck (by decide) ?_
  exact zok_spi trivial
theorem s_X10_sway {σ : zSt} (hσ : zPC σ) {x1 : Int32} : zok (fX10_sway σ x1) (zPi σ (fun v : Int32 => True)) := by
  unfold fX10_sway
  refine zok_ck rfl ?_
  refine zok_if (fun q1 => ?_) (fun q1 => ?_)
  · have h2 := zc_eql (1) (1) q1 (zr_andr (lo := 0) (hi := 7) (zr_c (lo := 7) (hi := 7) (by decide)) (by decide)) (zr_c (lo := 1) (hi := 1) (by decide)) (by decide)
    exact (s_X10_sway_56 hσ)
  refine zok_if (fun q3 => ?_) (fun q3 => ?_)
  · have h4 := zc_eql (2) (2) q3 (zr_andr (lo := 0) (hi := 7) (zr_c (lo := 7) (hi := 7) (by decide)) (by decide)) (zr_c (lo := 2) (hi := 2) (by decide)) (by decide)
    exact zok_spi trivial
  refine zok_if (fun q5 => ?_) (fun q5 => ?_)
  · have h6 := zc_eql (3) (3) q5 (zr_andr (lo := 0) (hi := 7) (zr_c (lo := 7) (hi := 7) (by decide)) (by decide)) (zr_c (lo := 3) (hi := 3) (by decide)) (by decide)
    exact (s_X10_sway_56 hσ)
  refine zok_if (fun q7 => ?_) (fun q7 => ?_)
  · have h8 := zc_eql (4) (4) q7 (zr_andr (lo := 0) (hi := 7) (zr_c (lo := 7) (hi := 7) (by decide)) (by decide)) (zr_c (lo := 4) (hi := 4) (by decide)) (by decide)
    exact (s_X10_sway_70 hσ)
  refine zok_if (fun q9 => ?_) (fun q9 => ?_)
  · have h10 := zc_eql (5) (5) q9 (zr_andr (lo := 0) (hi := 7) (zr_c (lo := 7) (hi := 7) (by decide)) (by decide)) (zr_c (lo := 5) (hi := 5) (by decide)) (by decide)
    exact (s_X10_sway_62 hσ)
  refine zok_if (fun q11 => ?_) (fun q11 => ?_)
  · have h12 := zc_eql (6) (6) q11 (zr_andr (lo := 0) (hi := 7) (zr_c (lo := 7) (hi := 7) (by decide)) (by decide)) (zr_c (lo := 6) (hi := 6) (by decide)) (by decide)
    exact zok_spi trivial
  refine zok_if (fun q13 => ?_) (fun q13 => ?_)
  · have h14 := zc_eql (7) (7) q13 (zr_andr (lo := 0) (hi := 7) (zr_c (lo := 7) (hi := 7) (by decide)) (by decide)) (zr_c (lo := 7) (hi := 7) (by decide)) (by decide)
    exact (s_X10_sway_62 hσ)
  have h15 := zc_nel (0) (6) q13 (zr_andr (lo := 0) (hi := 7) (zr_c (lo := 7) (hi := 7) (by decide)) (by decide)) (zr_c (lo := 7) (hi := 7) (by decide)) (by decide)
  exact (s_X10_sway_70 hσ)
theorem s_X10_movePhase_22 {G : Nat → Int} {σ : zSt} (hσ : zIC G σ) {x1 : Int32} (h_x1 : zr (128) (264) x1) {x2 : Int32} (h_x2 : zr (0) (255) x2) {s0 : Int32} : zok (fX10_movePhase_22 σ x1 x2 s0) (zIC G) := by
  unfold fX10_movePhase_22
  refine zok_ck (zin_ok (zr_andr (lo := 0) (hi := 15) (zr_c (lo := 15) (hi := 15) (by decide)) (by decide)) (by decide)) ?_
  refine zok_ck (by decide) ?_
  refine zok_bv (fun v1 e2 => ?_)
  refine zok_ck (zin_ok (zr_add (lo := 130) (hi := 266) h_x1 (zr_c (lo := 2) (hi := 2) (by decide)) (by decide)) (by decide)) ?_
  refine zok_ck (zin_ok (zr_add (lo := 130) (hi := 266) h_x1 (zr_c (lo := 2) (hi := 2) (by decide)) (by decide)) (by decide)) ?_
  refine zok_bs (hσ.wi 130 266 (z_ix (zr_add (lo := 130) (hi := 266) h_x1 (zr_c (lo := 2) (hi := 2) (by decide)) (by decide)) (by decide)) (zr_andr (lo := 0) (hi := 524287) (zr_c (lo := 524287) (hi := 524287) (by decide)) (by decide)) (by decide +kernel)) (fun σ2 e4 i3 => ?_)
  exact zok_some i3
theorem s_X10_movePhase {G : Nat → Int} {σ : zSt} (hσ : zIC G σ) {x1 : Int32} (h_x1 : zr (128) (264) x1) {x2 : Int32} (h_x2 : zr (0) (255) x2) : zok (fX10_movePhase σ x1 x2) (zIC G) := by
  unfold fX10_movePhase
  refine zok_if (fun q1 => ?_) (fun q1 => ?_)
  · have h2 := zc_eql (0) (0) q1 (zr_andr (lo := 0) (hi := 64) (zr_c (lo := 64) (hi := 64) (by decide)) (by decide)) (zr_c (lo := 0) (hi := 0) (by decide)) (by decide)
    exact (s_X10_movePhase_22 hσ h_x1 h_x2)
  have h3 := zc_nel (1) (64) q1 (zr_andr (lo := 0) (hi := 64) (zr_c (lo := 64) (hi := 64) (by decide)) (by decide)) (zr_c (lo := 0) (hi := 0) (by decide)) (by decide)
  refine zok_ck (by decide) ?_
  refine zok_pi (s_X10_sway hσ.P) (fun v4 h4 => ?_)
  exact (s_X10_movePhase_22 hσ h_x1 h_x2)
theorem s_X10_drumPhase_115 {σ : zSt} (hσ : zPC σ) {s0 : Int32} (h_s0 : zr (-4194304) (4194303) s0) : zok (fX10_drumPhase_115 σ s0) (zPi σ (fun v : Int32 => zr (-4194304) (4194303) v)) := by
  unfold fX10_drumPhase_115
  exact zok_spi h_s0
theorem s_X10_drumPhase_155 {σ : zSt} (hσ : zPC σ) {s0 : Int32} (h_s0 : zr (52) (720) s0) : zok (fX10_drumPhase_155 σ s0) (zPi σ (fun v : Int32 => zr (-4194304) (4194303) v)) := by
  unfold fX10_drumPhase_155
  exact zok_spi (zr_w h_s0 (by decide))
theorem s_X10_drumPhase_193 {σ : zSt} (hσ : zPC σ) {s0 : Int32} (h_s0 : zr (0) (768) s0) : zok (fX10_drumPhase_193 σ s0) (zPi σ (fun v : Int32 => zr (-4194304) (4194303) v)) := by
  unfold fX10_drumPhase_193
  exact zok_spi (zr_w h_s0 (by decide))
theorem s_X10_drumPhase_82 {σ : zSt} (hσ : zPC σ) {x1 : Int32} (h_x1 : zr (-4194304) (4194303) x1) {x2 : Int32} (h_x2 : zr (0) (1) x2) {x5 : Int32} (h_x5 : zr (0) (1) x5) {s0 : Int32} (h_s0 : zr (0) (1) s0) : zok (fX10_drumPhase_82 σ x1 x2 x5 s0) (zPi σ (fun v : Int32 => zr (-4194304) (4194303) v)) := by
  unfold fX10_drumPhase_82
  refine zok_if (fun q1 => ?_) (fun q1 => ?_)
  · have h2 := zc_eql (8) (8) q1 (rC_10 hσ.sg _ (by decide)) (zr_c (lo := 8) (hi := 8) (by decide)) (by decide)
    refine zok_if (fun q3 => ?_) (fun q3 => ?_)
    · have h4 := zc_eql (0) (0) q3 h_x2 (zr_c (lo := 0) (hi := 0) (by decide)) (by decide)
      exact (s_X10_drumPhase_115 hσ h_x1)
    have h5 := zc_nel (1) (1) q3 h_x2 (zr_c (lo := 0) (hi := 0) (by decide)) (by decide)
    refine zok_if (fun q6 => ?_) (fun q6 => ?_)
    · have h7 := zc_eql (0) (0) q6 h_x5 (zr_c (lo := 0) (hi := 0) (by decide)) (by decide)
      exact (s_X10_drumPhase_115 hσ (zr_w (zr_c (lo := 256) (hi := 256) (by decide)) (by decide)))
    have h8 := zc_nel (1) (1) q6 h_x5 (zr_c (lo := 0) (hi := 0) (by decide)) (by decide)
    exact (s_X10_drumPhase_115 hσ (zr_w (zr_c (lo := 768) (hi := 768) (by decide)) (by decide)))
  have h9 := zc_nel (0) (7) q1 (rC_10 hσ.sg _ (by decide)) (zr_c (lo := 8) (hi := 8) (by decide)) (by decide)
  refine zok_if (fun q10 => ?_) (fun q10 => ?_)
  · have h11 := zc_eql (0) (0) q10 h_x2 (zr_c (lo := 0) (hi := 0) (by decide)) (by decide)
    refine zok_if (fun q12 => ?_) (fun q12 => ?_)
    · have h13 := zc_eql (0) (0) q12 h_x5 (zr_c (lo := 0) (hi := 0) (by decide)) (by decide)
      refine zok_if (fun q14 => ?_) (fun q14 => ?_)
      · have h15 := zc_eql (0) (0) q14 h_s0 (zr_c (lo := 0) (hi := 0) (by decide)) (by decide)
        exact (s_X10_drumPhase_155 hσ (zr_w (zr_c (lo := 208) (hi := 208) (by decide)) (by decide)))
      have h16 := zc_nel (1) (1) q14 h_s0 (zr_c (lo := 0) (hi := 0) (by decide)) (by decide)
      exact (s_X10_drumPhase_155 hσ (zr_w (zr_c (lo := 52) (hi := 52) (by decide)) (by decide)))
    have h17 := zc_nel (1) (1) q12 h_x5 (zr_c (lo := 0) (hi := 0) (by decide)) (by decide)
    refine zok_if (fun q18 => ?_) (fun q18 => ?_)
    · have h19 := zc_eql (0) (0) q18 h_s0 (zr_c (lo := 0) (hi := 0) (by decide)) (by decide)
      exact (s_X10_drumPhase_155 hσ (zr_w (zr_c (lo := 564) (hi := 564) (by decide)) (by decide)))
    have h20 := zc_nel (1) (1) q18 h_s0 (zr_c (lo := 0) (hi := 0) (by decide)) (by decide)
    exact (s_X10_drumPhase_155 hσ (zr_w (zr_c (lo := 720) (hi := 720) (by decide)) (by decide)))
  have h21 := zc_nel (1) (1) q10 h_x2 (zr_c (lo := 0) (hi := 0) (by decide)) (by decide)
  refine zok_if (fun q22 => ?_) (fun q22 => ?_)
  · have h23 := zc_eql (0) (0) q22 (zr_andr (lo := 0) (hi := 512) (zr_c (lo := 512) (hi := 512) (by decide)) (by decide)) (zr_c (lo := 0) (hi := 0) (by decide)) (by decide)
    refine zok_if (fun q24 => ?_) (fun q24 => ?_)
    · have h25 := zc_eql (0) (0) q24 h_s0 (zr_c (lo := 0) (hi := 0) (by decide)) (by decide)
      exact (s_X10_drumPhase_193 hσ (zr_w (zr_c (lo := 256) (hi := 256) (by decide)) (by decide)))
    have h26 := zc_nel (1) (1) q24 h_s0 (zr_c (lo := 0) (hi := 0) (by decide)) (by decide)
    exact (s_X10_drumPhase_193 hσ (zr_w (zr_c (lo := 0) (hi := 0) (by decide)) (by decide)))
  have h27 := zc_nel (1) (512) q22 (zr_andr (lo := 0) (hi := 512) (zr_c (lo := 512) (hi := 512) (by decide)) (by decide)) (zr_c (lo := 0) (hi := 0) (by decide)) (by decide)
  refine zok_if (fun q28 => ?_) (fun q28 => ?_)
  · have h29 := zc_eql (0) (0) q28 h_s0 (zr_c (lo := 0) (hi := 0) (by decide)) (by decide)
    exact (s_X10_drumPhase_193 hσ (zr_w (zr_c (lo := 512) (hi := 512) (by decide)) (by decide)))
  have h30 := zc_nel (1) (1) q28 h_s0 (zr_c (lo := 0) (hi := 0) (by decide)) (by decide)
  exact (s_X10_drumPhase_193 hσ (zr_w (zr_c (lo := 768) (hi := 768) (by decide)) (by decide)))
theorem s_X10_drumPhase_62 {σ : zSt} (hσ : zPC σ) {x1 : Int32} (h_x1 : zr (-4194304) (4194303) x1) {x2 : Int32} (h_x2 : zr (0) (1) x2) {s0 : Int32} (h_s0 : zr (0) (1) s0) : zok (fX10_drumPhase_62 σ x1 x2 s0) (zPi σ (fun v : Int32 => zr (-4194304) (4194303) v)) := by
  unfold fX10_drumPhase_62
  refine zok_ck rfl ?_
  refine zok_if (fun q1 => ?_) (fun q1 => ?_)
  · have h2 := zc_eql (1) (1) q1 (zr_andr (lo := 0) (hi := 1) (zr_c (lo := 1) (hi := 1) (by decide)) (by decide)) (zr_c (lo := 1) (hi := 1) (by decide)) (by decide)
    exact (s_X10_drumPhase_82 hσ h_x1 h_x2 h_s0 (zr_w (zr_c (lo := 1) (hi := 1) (by decide)) (by decide)))
  have h3 := zc_nel (0) (0) q1 (zr_andr (lo := 0) (hi := 1) (zr_c (lo := 1) (hi := 1) (by decide)) (by decide)) (zr_c (lo := 1) (hi := 1) (by decide)) (by decide)
  exact (s_X10_drumPhase_82 hσ h_x1 h_x2 h_s0 (zr_w (zr_c (lo := 0) (hi := 0) (by decide)) (by decide)))
theorem s_X10_drumPhase {σ : zSt} (hσ : zPC σ) {x1 : Int32} (h_x1 : zr (-4194304) (4194303) x1) {x2 : Int32} (h_x2 : zr (0) (1) x2) : zok (fX10_drumPhase σ x1 x2) (zPi σ (fun v : Int32 => zr (-4194304) (4194303) v)) := by
  unfold fX10_drumPhase
  refine zok_ck rfl ?_
  refine zok_br (zr_shr (lo := -4194304) (hi := 4194303) 9 (by decide) zr_any (by decide)) (fun v1 e2 h1 => ?_)
  refine zok_ck rfl ?_
  refine zok_br (zr_shr (lo := -4194304) (hi := 4194303) 9 (by decide) zr_any (by decide)) (fun v2 e4 h3 => ?_)
  refine zok_if (fun q5 => ?_) (fun q5 => ?_)
  · have h6 := zc_eql (0) (0) q5 (zr_andr (lo := 0) (hi := 1) (zr_c (lo := 1) (hi := 1) (by decide)) (by decide)) (zr_c (lo := 0) (hi := 0) (by decide)) (by decide)
    exact (s_X10_drumPhase_62 hσ h_x1 h_x2 (zr_w (zr_c (lo := 0) (hi := 0) (by decide)) (by decide)))
  have h7 := zc_nel (1) (1) q5 (zr_andr (lo := 0) (hi := 1) (zr_c (lo := 1) (hi := 1) (by decide)) (by decide)) (zr_c (lo := 0) (hi := 0) (by decide)) (by decide)
  exact (s_X10_drumPhase_62 hσ h_x1 h_x2 (zr_w (zr_c (lo := 1) (hi := 1) (by decide)) (by decide)))
theorem s_X10_turnedPhase_98 {σ : zSt} (hσ : zPC σ) {s0 : Int32} : zok (fX10_turnedPhase_98 σ s0) (zPi σ (fun v : Int32 => True)) := by
  unfold fX10_turnedPhase_98
  exact zok_spi trivial
theorem s_X10_turnedPhase_35 {σ : zSt} (hσ : zPC σ) {x1 : Int32} (h_x1 : zr (128) (264) x1) {x2 : Int32} (h_x2 : zr (0) (1) x2) {x3 : Int32} (h_x3 : zr (-4194304) (4194303) x3) : zok (fX10_turnedPhase_35 σ x1 x2 x3) (zPi σ (fun v : Int32 => True)) := by
  unfold fX10_turnedPhase_35
  refine zok_if (fun q1 => ?_) (fun q1 => ?_)
  · have h2 := zc_eql (1) (1) q1 h_x2 (zr_c (lo := 1) (hi := 1) (by decide)) (by decide)
    refine zok_ck (zin_ok (zr_add (lo := 123) (hi := 259) (zr_sub (lo := 120) (hi := 256) h_x1 (zr_c (lo := 8) (hi := 8) (by decide)) (by decide)) (zr_c (lo := 3) (hi := 3) (by decide)) (by decide)) (by decide)) ?_
    exact zok_spi trivial
  have h3 := zc_nel (0) (0) q1 h_x2 (zr_c (lo := 1) (hi := 1) (by decide)) (by decide)
  refine zok_pi (s_X10_part hσ (zr_w (zr_c (lo := 3) (hi := 3) (by decide)) (by decide))) (fun v2 h4 => ?_)
  refine zok_br (zr_andr (lo := 0) (hi := 7) (zr_c (lo := 7) (hi := 7) (by decide)) (by decide)) (fun v3 e6 h5 => ?_)
  refine zok_if (fun q7 => ?_) (fun q7 => ?_)
  · have h8 := zc_eql (0) (0) q7 h5 (zr_c (lo := 0) (hi := 0) (by decide)) (by decide)
    exact (s_X10_turnedPhase_98 hσ)
  have h9 := zc_nel (1) (7) q7 h5 (zr_c (lo := 0) (hi := 0) (by decide)) (by decide)
  refine zok_ck (zin_ok (zr_add (lo := 131) (hi := 267) h_x1 (zr_c (lo := 3) (hi := 3) (by decide)) (by decide)) (by decide)) ?_
  refine zok_ck (zin_ok (zr_add (lo := 132) (hi := 268) h_x1 (zr_c (lo := 4) (hi := 4) (by decide)) (by decide)) (by decide)) ?_
  exact (s_X10_turnedPhase_98 hσ)
theorem s_X10_turnedPhase {σ : zSt} (hσ : zPC σ) {x1 : Int32} (h_x1 : zr (128) (264) x1) {x2 : Int32} (h_x2 : zr (0) (1) x2) : zok (fX10_turnedPhase σ x1 x2) (zPi σ (fun v : Int32 => True)) := by
  unfold fX10_turnedPhase
  refine zok_ck (zin_ok (zr_add (lo := 130) (hi := 266) h_x1 (zr_c (lo := 2) (hi := 2) (by decide)) (by decide)) (by decide)) ?_
  refine zok_br (zr_shr (lo := -4194304) (hi := 4194303) 9 (by decide) zr_any (by decide)) (fun v4 e2 h1 => ?_)
  refine zok_if (fun q3 => ?_) (fun q3 => ?_)
  · have h4 := zc_eql (0) (0) q3 zr_any (zr_c (lo := 0) (hi := 0) (by decide)) (by decide)
    exact (s_X10_turnedPhase_35 hσ h_x1 h_x2 h1)
  refine zok_if (fun q5 => ?_) (fun q5 => ?_)
  · have h6 := zc_ltl (6) q5 (rC_10 hσ.sg _ (by decide)) (zr_c (lo := 7) (hi := 7) (by decide)) (by decide)
    exact (s_X10_turnedPhase_35 hσ h_x1 h_x2 h1)
  have h7 := zc_ler (7) (z_nlt q5) (zr_c (lo := 7) (hi := 7) (by decide)) (rC_10 hσ.sg _ (by decide)) (by decide)
  refine zok_pi (s_X10_drumPhase hσ h1 h_x2) (fun v6 h8 => ?_)
  exact zok_spi trivial
theorem s_X10_scaled_44 {σ : zSt} (hσ : zPC σ) {s0 : Int32} (h_s0 : zr (0) (2147483647) s0) : zok (fX10_scaled_44 σ s0) (zPi σ (fun v : Int32 => zr (0) (2147483647) v)) := by
  unfold fX10_scaled_44
  exact zok_spi h_s0
theorem s_X10_scaled {σ : zSt} (hσ : zPC σ) {x1 : Int32} (h_x1 : zr (0) (3) x1) : zok (fX10_scaled σ x1) (zPi σ (fun v : Int32 => zr (0) (2147483647) v)) := by
  unfold fX10_scaled
  refine zok_if (fun q1 => ?_) (fun q1 => ?_)
  · have h2 := zc_eql (0) (0) q1 h_x1 (zr_c (lo := 0) (hi := 0) (by decide)) (by decide)
    exact zok_spi (zr_w (zr_c (lo := 0) (hi := 0) (by decide)) (by decide))
  have h3 := zc_nel (1) (3) q1 h_x1 (zr_c (lo := 0) (hi := 0) (by decide)) (by decide)
  refine zok_ck (zin_ok (zr_andr (lo := 0) (hi := 15) (zr_c (lo := 15) (hi := 15) (by decide)) (by decide)) (by decide)) ?_
  refine zok_bv (fun v1 e5 => ?_)
  refine zok_if (fun q6 => ?_) (fun q6 => ?_)
  · have h7 := zc_lel (0) q6 zr_any (zr_c (lo := 0) (hi := 0) (by decide)) (by decide)
    exact (s_X10_scaled_44 hσ (zr_w (zr_c (lo := 0) (hi := 0) (by decide)) (by decide)))
  have h8 := zc_ltr (1) (z_nle q6) (zr_c (lo := 0) (hi := 0) (by decide)) zr_any (by decide)
  exact (s_X10_scaled_44 hσ (zr_shra (lo := 0) (hi := 2147483647) h8 (by decide)))
theorem s_X10_tremble_30 {σ : zSt} (hσ : zPC σ) {s0 : Int32} (h_s0 : zr (-2147483648) (105) s0) : zok (fX10_tremble_30 σ s0) (zPi σ (fun v : Int32 => True)) := by
  unfold fX10_tremble_30
  refine zok_ck (by decide) ?_
  exact zok_spi trivial
theorem s_X10_tremble {σ : zSt} (hσ : zPC σ) : zok (fX10_tremble σ ) (zPi σ (fun v : Int32 => True)) := by
  unfold fX10_tremble
  refine zok_ck rfl ?_
  refine zok_ck (by decide) ?_
  refine zok_ck (by decide) ?_
  refine zok_bv (fun v1 e2 => ?_)
  refine zok_if (fun q3 => ?_) (fun q3 => ?_)
  · have h4 := zc_ler (105) q3 (zr_c (lo := 105) (hi := 105) (by decide)) zr_any (by decide)
    exact (s_X10_tremble_30 hσ (zr_w (zr_sub (lo := -2147483437) (hi := 105) (zr_c (lo := 210) (hi := 210) (by decide)) h4 (by decide)) (by decide)))
  have h5 := zc_ltl (104) (z_nle q3) zr_any (zr_c (lo := 105) (hi := 105) (by decide)) (by decide)
  exact (s_X10_tremble_30 hσ (zr_w h5 (by decide)))
theorem s_X10_softness_124 {σ : zSt} (hσ : zPC σ) {x4 : Int32} : zok (fX10_softness_124 σ x4) (zPi σ (fun v : Int32 => zr (-2147483648) (127) v)) := by
  unfold fX10_softness_124
  exact zok_spi (zr_min (lo := -2147483648) (hi := 127) (zr_c (lo := 127) (hi := 127) (by decide)) zr_any (by decide))
theorem s_X10_softness_103 {σ : zSt} (hσ : zPC σ) {x2 : Int32} (h_x2 : zr (0) (1) x2) {x4 : Int32} : zok (fX10_softness_103 σ x2 x4) (zPi σ (fun v : Int32 => zr (-2147483648) (127) v)) := by
  unfold fX10_softness_103
  refine zok_pi (s_X10_part hσ (zr_w h_x2 (by decide))) (fun v2 h1 => ?_)
  refine zok_if (fun q2 => ?_) (fun q2 => ?_)
  · have h3 := zc_eql (0) (0) q2 (zr_andr (lo := 0) (hi := 128) (zr_c (lo := 128) (hi := 128) (by decide)) (by decide)) (zr_c (lo := 0) (hi := 0) (by decide)) (by decide)
    exact (s_X10_softness_124 hσ)
  have h4 := zc_nel (1) (128) q2 (zr_andr (lo := 0) (hi := 128) (zr_c (lo := 128) (hi := 128) (by decide)) (by decide)) (zr_c (lo := 0) (hi := 0) (by decide)) (by decide)
  refine zok_pi (s_X10_tremble hσ) (fun v4 h5 => ?_)
  refine zok_bv (fun v5 e7 => ?_)
  exact (s_X10_softness_124 hσ)
theorem s_X10_softness_88 {σ : zSt} (hσ : zPC σ) {x2 : Int32} (h_x2 : zr (0) (0) x2) {x4 : Int32} : zok (fX10_softness_88 σ x2 x4) (zPi σ (fun v : Int32 => zr (-2147483648) (127) v)) := by
  unfold fX10_softness_88
  refine zok_pi (s_X10_part hσ (zr_w (zr_c (lo := 2) (hi := 2) (by decide)) (by decide))) (fun v7 h1 => ?_)
  refine zok_bv (fun v8 e3 => ?_)
  exact (s_X10_softness_103 hσ (zr_w h_x2 (by decide)))
theorem s_X10_softness {σ : zSt} (hσ : zPC σ) {x1 : Int32} (h_x1 : zr (128) (264) x1) {x2 : Int32} (h_x2 : zr (0) (1) x2) : zok (fX10_softness σ x1 x2) (zPi σ (fun v : Int32 => zr (-2147483648) (127) v)) := by
  unfold fX10_softness
  refine zok_ck (zin_ok (zr_add (lo := 48) (hi := 56) (zr_c (lo := 48) (hi := 48) (by decide)) (rC_10 hσ.sg _ (by decide)) (by decide)) (by decide)) ?_
  refine zok_bv (fun v9 e2 => ?_)
  refine zok_ck (zin_ok (zr_add (lo := 128) (hi := 264) h_x1 (zr_c (lo := 0) (hi := 0) (by decide)) (by decide)) (by decide)) ?_
  refine zok_pi (s_X10_part hσ (zr_w (zr_add (lo := 2) (hi := 3) (zr_c (lo := 2) (hi := 2) (by decide)) h_x2 (by decide)) (by decide))) (fun v11 h3 => ?_)
  refine zok_pi (s_X10_scaled hσ (zr_shr (lo := 0) (hi := 3) 6 (by decide) h3 (by decide))) (fun v13 h4 => ?_)
  refine zok_bv (fun v14 e6 => ?_)
  refine zok_if (fun q7 => ?_) (fun q7 => ?_)
  · have h8 := zc_eql (1) (1) q7 h_x2 (zr_c (lo := 1) (hi := 1) (by decide)) (by decide)
    refine zok_bv (fun v16 e10 => ?_)
    exact (s_X10_softness_103 hσ (zr_w h8 (by decide)))
  have h11 := zc_nel (0) (0) q7 h_x2 (zr_c (lo := 1) (hi := 1) (by decide)) (by decide)
  refine zok_if (fun q12 => ?_) (fun q12 => ?_)
  · have h13 := zc_eql (0) (0) q12 zr_any (zr_c (lo := 0) (hi := 0) (by decide)) (by decide)
    exact (s_X10_softness_88 hσ h11)
  refine zok_if (fun q14 => ?_) (fun q14 => ?_)
  · have h15 := zc_ltl (6) q14 (rC_10 hσ.sg _ (by decide)) (zr_c (lo := 7) (hi := 7) (by decide)) (by decide)
    exact (s_X10_softness_88 hσ h11)
  have h16 := zc_ler (7) (z_nlt q14) (zr_c (lo := 7) (hi := 7) (by decide)) (rC_10 hσ.sg _ (by decide)) (by decide)
  refine zok_bv (fun v15 e18 => ?_)
  exact (s_X10_softness_103 hσ (zr_w h11 (by decide)))
theorem s_X10_waveAt_104 {σ : zSt} (hσ : zPC σ) {s0 : Int32} : zok (fX10_waveAt_104 σ s0) (zPi σ (fun v : Int32 => True)) := by
  unfold fX10_waveAt_104
  exact zok_spi trivial
theorem s_X10_waveAt_49 {σ : zSt} (hσ : zPC σ) {x1 : Int32} (h_x1 : zr (-2147483648) (127) x1) {x3 : Int32} (h_x3 : zr (0) (1) x3) {s0 : Int32} (h_s0 : zr (0) (255) s0) : zok (fX10_waveAt_49 σ x1 x3 s0) (zPi σ (fun v : Int32 => True)) := by
  unfold fX10_waveAt_49
  refine zok_ck (zin_ok h_s0 (by decide)) ?_
  refine zok_bv (fun v1 e2 => ?_)
  refine zok_ck (zin_ok (zr_sub (lo := 0) (hi := 255) (zr_c (lo := 255) (hi := 255) (by decide)) (zr_andr (lo := 0) (hi := 255) (zr_c (lo := 255) (hi := 255) (by decide)) (by decide)) (by decide)) (by decide)) ?_
  refine zok_bv (fun v2 e4 => ?_)
  refine zok_if (fun q5 => ?_) (fun q5 => ?_)
  · have h6 := zc_eql (0) (0) q5 h_x3 (zr_c (lo := 0) (hi := 0) (by decide)) (by decide)
    exact (s_X10_waveAt_104 hσ)
  have h7 := zc_nel (1) (1) q5 h_x3 (zr_c (lo := 0) (hi := 0) (by decide)) (by decide)
  exact (s_X10_waveAt_104 hσ)
theorem s_X10_waveAt_24 {σ : zSt} (hσ : zPC σ) {x0 : Int32} (h_x0 : zr (0) (1023) x0) {x1 : Int32} (h_x1 : zr (-2147483648) (127) x1) {x3 : Int32} (h_x3 : zr (0) (1) x3) : zok (fX10_waveAt_24 σ x0 x1 x3) (zPi σ (fun v : Int32 => True)) := by
  unfold fX10_waveAt_24
  refine zok_if (fun q1 => ?_) (fun q1 => ?_)
  · have h2 := zc_eql (0) (0) q1 (zr_andr (lo := 0) (hi := 256) (zr_c (lo := 256) (hi := 256) (by decide)) (by decide)) (zr_c (lo := 0) (hi := 0) (by decide)) (by decide)
    exact (s_X10_waveAt_49 hσ h_x1 h_x3 (zr_andr (lo := 0) (hi := 255) (zr_c (lo := 255) (hi := 255) (by decide)) (by decide)))
  have h3 := zc_nel (1) (256) q1 (zr_andr (lo := 0) (hi := 256) (zr_c (lo := 256) (hi := 256) (by decide)) (by decide)) (zr_c (lo := 0) (hi := 0) (by decide)) (by decide)
  exact (s_X10_waveAt_49 hσ h_x1 h_x3 (zr_sub (lo := 0) (hi := 255) (zr_c (lo := 255) (hi := 255) (by decide)) (zr_andr (lo := 0) (hi := 255) (zr_c (lo := 255) (hi := 255) (by decide)) (by decide)) (by decide)))
theorem s_X10_waveAt_13 {σ : zSt} (hσ : zPC σ) {x0 : Int32} (h_x0 : zr (0) (1023) x0) {x1 : Int32} (h_x1 : zr (-2147483648) (127) x1) {x2 : Int32} (h_x2 : zr (0) (1) x2) {s0 : Int32} (h_s0 : zr (0) (1) s0) : zok (fX10_waveAt_13 σ x0 x1 x2 s0) (zPi σ (fun v : Int32 => True)) := by
  unfold fX10_waveAt_13
  refine zok_if (fun q1 => ?_) (fun q1 => ?_)
  · have h2 := zc_eql (0) (0) q1 h_s0 (zr_c (lo := 0) (hi := 0) (by decide)) (by decide)
    exact (s_X10_waveAt_24 hσ h_x0 h_x1 (zr_w h2 (by decide)))
  have h3 := zc_nel (1) (1) q1 h_s0 (zr_c (lo := 0) (hi := 0) (by decide)) (by decide)
  refine zok_if (fun q4 => ?_) (fun q4 => ?_)
  · have h5 := zc_eql (0) (0) q4 h_x2 (zr_c (lo := 0) (hi := 0) (by decide)) (by decide)
    exact (s_X10_waveAt_24 hσ h_x0 h_x1 (zr_w h3 (by decide)))
  have h6 := zc_nel (1) (1) q4 h_x2 (zr_c (lo := 0) (hi := 0) (by decide)) (by decide)
  exact zok_spi trivial
theorem s_X10_waveAt {σ : zSt} (hσ : zPC σ) {x0 : Int32} (h_x0 : zr (0) (1023) x0) {x1 : Int32} (h_x1 : zr (-2147483648) (127) x1) {x2 : Int32} (h_x2 : zr (0) (1) x2) : zok (fX10_waveAt σ x0 x1 x2) (zPi σ (fun v : Int32 => True)) := by
  unfold fX10_waveAt
  refine zok_if (fun q1 => ?_) (fun q1 => ?_)
  · have h2 := zc_eql (0) (0) q1 (zr_andr (lo := 0) (hi := 512) (zr_c (lo := 512) (hi := 512) (by decide)) (by decide)) (zr_c (lo := 0) (hi := 0) (by decide)) (by decide)
    exact (s_X10_waveAt_13 hσ h_x0 h_x1 h_x2 (zr_w (zr_c (lo := 0) (hi := 0) (by decide)) (by decide)))
  have h3 := zc_nel (1) (512) q1 (zr_andr (lo := 0) (hi := 512) (zr_c (lo := 512) (hi := 512) (by decide)) (by decide)) (zr_c (lo := 0) (hi := 0) (by decide)) (by decide)
  exact (s_X10_waveAt_13 hσ h_x0 h_x1 h_x2 (zr_w (zr_c (lo := 1) (hi := 1) (by decide)) (by decide)))
theorem s_X10_moveOut_55 {G : Nat → Int} {σ : zSt} (hσ : zIC G σ) {x1 : Int32} (h_x1 : zr (128) (264) x1) {x3 : Int32} : zok (fX10_moveOut_55 σ x1 x3) (zIC G) := by
  unfold fX10_moveOut_55
  refine zok_ck (zin_ok (zr_add (lo := 131) (hi := 267) h_x1 (zr_c (lo := 3) (hi := 3) (by decide)) (by decide)) (by decide)) ?_
  refine zok_ck (zin_ok (zr_add (lo := 132) (hi := 268) h_x1 (zr_c (lo := 4) (hi := 4) (by decide)) (by decide)) (by decide)) ?_
  refine zok_bs (hσ.wi 132 268 (z_ix (zr_add (lo := 132) (hi := 268) h_x1 (zr_c (lo := 4) (hi := 4) (by decide)) (by decide)) (by decide)) zr_any (by decide +kernel)) (fun σ1 e2 i1 => ?_)
  refine zok_ck (zin_ok (zr_add (lo := 131) (hi := 267) h_x1 (zr_c (lo := 3) (hi := 3) (by decide)) (by decide)) (by decide)) ?_
  refine zok_bs (i1.wi 131 267 (z_ix (zr_add (lo := 131) (hi := 267) h_x1 (zr_c (lo := 3) (hi := 3) (by decide)) (by decide)) (by decide)) zr_any (by decide +kernel)) (fun σ2 e4 i3 => ?_)
  exact zok_some i3
theorem s_X10_moveOut_51 {G : Nat → Int} {σ : zSt} (hσ : zIC G σ) {x1 : Int32} (h_x1 : zr (128) (264) x1) {s0 : Int32} (h_s0 : zr (0) (1) s0) {s1 : Int32} (h_s1 : zr (-2147483648) (127) s1) {s2 : Int32} (h_s2 : zr (0) (1023) s2) : zok (fX10_moveOut_51 σ x1 s0 s1 s2) (zIC G) := by
  unfold fX10_moveOut_51
  refine zok_pi (s_X10_waveAt hσ.P h_s2 h_s1 h_s0) (fun v4 h1 => ?_)
  exact (s_X10_moveOut_55 hσ h_x1)
theorem s_X10_moveOut {G : Nat → Int} {σ : zSt} (hσ : zIC G σ) {x1 : Int32} (h_x1 : zr (128) (264) x1) {x2 : Int32} (h_x2 : zr (0) (1) x2) : zok (fX10_moveOut σ x1 x2) (zIC G) := by
  unfold fX10_moveOut
  refine zok_ck (zin_ok (zr_add (lo := 128) (hi := 264) h_x1 (zr_c (lo := 0) (hi := 0) (by decide)) (by decide)) (by decide)) ?_
  refine zok_if (fun q1 => ?_) (fun q1 => ?_)
  · have h2 := zc_ler (124) q1 (zr_c (lo := 124) (hi := 124) (by decide)) zr_any (by decide)
    exact (s_X10_moveOut_55 hσ h_x1)
  have h3 := zc_ltl (123) (z_nle q1) zr_any (zr_c (lo := 124) (hi := 124) (by decide)) (by decide)
  refine zok_pi (s_X10_turnedPhase hσ.P h_x1 h_x2) (fun v6 h4 => ?_)
  refine zok_pi (s_X10_softness hσ.P h_x1 h_x2) (fun v8 h5 => ?_)
  refine zok_pi (s_X10_part hσ.P (zr_w (zr_c (lo := 3) (hi := 3) (by decide)) (by decide))) (fun v10 h6 => ?_)
  refine zok_if (fun q7 => ?_) (fun q7 => ?_)
  · have h8 := zc_eql (1) (1) q7 (zr_andr (lo := 0) (hi := 1) (zr_c (lo := 1) (hi := 1) (by decide)) (by decide)) (zr_c (lo := 1) (hi := 1) (by decide)) (by decide)
    exact (s_X10_moveOut_51 hσ h_x1 (zr_w (zr_c (lo := 1) (hi := 1) (by decide)) (by decide)) h5 (zr_andr (lo := 0) (hi := 1023) (zr_c (lo := 1023) (hi := 1023) (by decide)) (by decide)))
  have h9 := zc_nel (0) (0) q7 (zr_andr (lo := 0) (hi := 1) (zr_c (lo := 1) (hi := 1) (by decide)) (by decide)) (zr_c (lo := 1) (hi := 1) (by decide)) (by decide)
  exact (s_X10_moveOut_51 hσ h_x1 (zr_w (zr_c (lo := 0) (hi := 0) (by decide)) (by decide)) h5 (zr_andr (lo := 0) (hi := 1023) (zr_c (lo := 1023) (hi := 1023) (by decide)) (by decide)))
theorem s_X10_moveOperator_99 {G : Nat → Int} {σ : zSt} (hσ : zIC G σ) {x1 : Int32} (h_x1 : zr (128) (264) x1) {x2 : Int32} (h_x2 : zr (0) (1) x2) : zok (fX10_moveOperator_99 σ x1 x2) (zIC G) := by
  unfold fX10_moveOperator_99
  refine zok_pi (s_X10_part hσ.P (zr_w h_x2 (by decide))) (fun v2 h1 => ?_)
  refine zok_bu (s_X10_movePhase hσ h_x1 h1) (fun σ3 i2 => ?_)
  refine zok_bu (s_X10_moveOut i2 h_x1 h_x2) (fun σ4 i3 => ?_)
  exact zok_some i3
theorem s_X10_moveOperator_78 {G : Nat → Int} {σ : zSt} (hσ : zIC G σ) {x1 : Int32} (h_x1 : zr (128) (264) x1) {x2 : Int32} (h_x2 : zr (0) (1) x2) : zok (fX10_moveOperator_78 σ x1 x2) (zIC G) := by
  unfold fX10_moveOperator_78
  refine zok_bu (s_X10_moveLevel hσ h_x1 h_x2) (fun σ5 i1 => ?_)
  refine zok_pi (s_X10_part i1.P (zr_w (zr_add (lo := 6) (hi := 7) (zr_c (lo := 6) (hi := 6) (by decide)) h_x2 (by decide)) (by decide))) (fun v7 h2 => ?_)
  refine zok_bu (s_X10_moveState i1 h_x1 (zr_shr (lo := 0) (hi := 15) 4 (by decide) h2 (by decide))) (fun σ8 i3 => ?_)
  exact (s_X10_moveOperator_99 i3 h_x1 h_x2)
theorem s_X10_moveOperator_53 {G : Nat → Int} {σ : zSt} (hσ : zIC G σ) {x1 : Int32} (h_x1 : zr (128) (264) x1) {x2 : Int32} (h_x2 : zr (0) (1) x2) : zok (fX10_moveOperator_53 σ x1 x2) (zIC G) := by
  unfold fX10_moveOperator_53
  refine zok_ck (zin_ok (zr_add (lo := 129) (hi := 265) h_x1 (zr_c (lo := 1) (hi := 1) (by decide)) (by decide)) (by decide)) ?_
  refine zok_if (fun q1 => ?_) (fun q1 => ?_)
  · have h2 := zc_eql (4) (4) q1 zr_any (zr_c (lo := 4) (hi := 4) (by decide)) (by decide)
    refine zok_ck (zin_ok (zr_add (lo := 128) (hi := 264) h_x1 (zr_c (lo := 0) (hi := 0) (by decide)) (by decide)) (by decide)) ?_
    refine zok_if (fun q3 => ?_) (fun q3 => ?_)
    · have h4 := zc_ler (127) q3 (zr_c (lo := 127) (hi := 127) (by decide)) zr_any (by decide)
      exact (s_X10_moveOperator_99 hσ h_x1 h_x2)
    have h5 := zc_ltl (126) (z_nle q3) zr_any (zr_c (lo := 127) (hi := 127) (by decide)) (by decide)
    exact (s_X10_moveOperator_78 hσ h_x1 h_x2)
  exact (s_X10_moveOperator_78 hσ h_x1 h_x2)
theorem s_X10_moveOperator_52 {G : Nat → Int} {σ : zSt} (hσ : zIC G σ) {x1 : Int32} (h_x1 : zr (128) (264) x1) {x2 : Int32} (h_x2 : zr (0) (1) x2) {s0 : Int32} (h_s0 : zr (0) (4) s0) {s1 : Int32} (h_s1 : zr (129) (265) s1) : zok (fX10_moveOperator_52 σ x1 x2 s0 s1) (zIC G) := by
  unfold fX10_moveOperator_52
  refine zok_ck (zin_ok h_s1 (by decide)) ?_
  refine zok_bs (hσ.wi 129 265 (z_ix h_s1 (by decide)) h_s0 (by decide +kernel)) (fun σ9 e2 i1 => ?_)
  exact (s_X10_moveOperator_53 i1 h_x1 h_x2)
theorem s_X10_moveOperator_13 {G : Nat → Int} {σ : zSt} (hσ : zIC G σ) {x1 : Int32} (h_x1 : zr (128) (264) x1) {x2 : Int32} (h_x2 : zr (0) (1) x2) {s0 : Int32} (h_s0 : zr (0) (1) s0) : zok (fX10_moveOperator_13 σ x1 x2 s0) (zIC G) := by
  unfold fX10_moveOperator_13
  refine zok_ck (zin_ok (zr_add (lo := 133) (hi := 269) h_x1 (zr_c (lo := 5) (hi := 5) (by decide)) (by decide)) (by decide)) ?_
  refine zok_if (fun q1 => ?_) (fun q1 => ?_)
  · have h2 := zc_eqr (0) (1) q1 h_s0 zr_any (by decide)
    exact (s_X10_moveOperator_53 hσ h_x1 h_x2)
  refine zok_ck (zin_ok (zr_add (lo := 133) (hi := 269) h_x1 (zr_c (lo := 5) (hi := 5) (by decide)) (by decide)) (by decide)) ?_
  refine zok_bs (hσ.wi 133 269 (z_ix (zr_add (lo := 133) (hi := 269) h_x1 (zr_c (lo := 5) (hi := 5) (by decide)) (by decide)) (by decide)) h_s0 (by decide +kernel)) (fun σ10 e4 i3 => ?_)
  refine zok_if (fun q5 => ?_) (fun q5 => ?_)
  · have h6 := zc_eql (1) (1) q5 h_s0 (zr_c (lo := 1) (hi := 1) (by decide)) (by decide)
    exact (s_X10_moveOperator_52 i3 h_x1 h_x2 (zr_w (zr_c (lo := 0) (hi := 0) (by decide)) (by decide)) (zr_add (lo := 129) (hi := 265) h_x1 (zr_c (lo := 1) (hi := 1) (by decide)) (by decide)))
  have h7 := zc_nel (0) (0) q5 h_s0 (zr_c (lo := 1) (hi := 1) (by decide)) (by decide)
  exact (s_X10_moveOperator_52 i3 h_x1 h_x2 (zr_w (zr_c (lo := 4) (hi := 4) (by decide)) (by decide)) (zr_add (lo := 129) (hi := 265) h_x1 (zr_c (lo := 1) (hi := 1) (by decide)) (by decide)))
theorem s_X10_moveOperator {G : Nat → Int} {σ : zSt} (hσ : zIC G σ) {x1 : Int32} (h_x1 : zr (128) (264) x1) {x2 : Int32} (h_x2 : zr (0) (1) x2) : zok (fX10_moveOperator σ x1 x2) (zIC G) := by
  unfold fX10_moveOperator
  refine zok_pi (s_X10_isOn hσ.P h_x2) (fun v12 h1 => ?_)
  refine zok_if (fun q2 => ?_) (fun q2 => ?_)
  · have h3 := zc_eql (0) (0) q2 h1 (zr_c (lo := 0) (hi := 0) (by decide)) (by decide)
    exact (s_X10_moveOperator_13 hσ h_x1 h_x2 (zr_w (zr_c (lo := 0) (hi := 0) (by decide)) (by decide)))
  have h4 := zc_nel (1) (1) q2 h1 (zr_c (lo := 0) (hi := 0) (by decide)) (by decide)
  exact (s_X10_moveOperator_13 hσ h_x1 h_x2 (zr_w (zr_c (lo := 1) (hi := 1) (by decide)) (by decide)))
theorem s_X10_makeNext_136 {G : Nat → Int} {σ : zSt} {k41 : zSt → Int32 → Int32 → Option (zSt)} {Mk41 : Int} (hk41 : ∀ (σ : zSt) (x1 : Int32) (x2 : Int32), zIC G σ → zr (0) (9) x2 → (9) - x2.toInt < Mk41 → zok (k41 σ x1 x2) (zIC G)) (hσ : zIC G σ) {x2 : Int32} (h_x2 : zr (0) (8) x2) {s0 : Int32} (h_s0 : zr (1) (2) s0) {s1 : Int32} {s2 : Int32} (hMk41 : (9) - x2.toInt ≤ Mk41) : zok (fX10_makeNext_136 k41 σ x2 s0 s1 s2) (zIC G) := by
  unfold fX10_makeNext_136
  refine zok_bv (fun v1 e2 => ?_)
  refine zok_br (zr_add (lo := 1) (hi := 9) h_x2 (zr_c (lo := 1) (hi := 1) (by decide)) (by decide)) (fun v2 e4 h3 => ?_)
  exact hk41 _ _ _ hσ (zr_w h3 (by decide)) (by rw [e4]; have := z_tadd (y := (1 : Int32)) h_x2 (zr_c (lo := 1) (hi := 1) (by decide)) (by decide); have e9 : (1 : Int32).toInt = 1 := rfl; omega) 
theorem s_X10_makeNext_135 {G : Nat → Int} {σ : zSt} {k41 : zSt → Int32 → Int32 → Option (zSt)} {Mk41 : Int} (hk41 : ∀ (σ : zSt) (x1 : Int32) (x2 : Int32), zIC G σ → zr (0) (9) x2 → (9) - x2.toInt < Mk41 → zok (k41 σ x1 x2) (zIC G)) (hσ : zIC G σ) {x2 : Int32} (h_x2 : zr (0) (8) x2) {s0 : Int32} {s1 : Int32} (hMk41 : (9) - x2.toInt ≤ Mk41) : zok (fX10_makeNext_135 k41 σ x2 s0 s1) (zIC G) := by
  unfold fX10_makeNext_135
  exact (s_X10_makeNext_136 hk41 hσ h_x2 (zr_w (zr_c (lo := 1) (hi := 1) (by decide)) (by decide)) hMk41)
theorem s_X10_makeNext_101 {G : Nat → Int} {σ : zSt} {k41 : zSt → Int32 → Int32 → Option (zSt)} {Mk41 : Int} (hk41 : ∀ (σ : zSt) (x1 : Int32) (x2 : Int32), zIC G σ → zr (0) (9) x2 → (9) - x2.toInt < Mk41 → zok (k41 σ x1 x2) (zIC G)) (hσ : zIC G σ) {x1 : Int32} {x2 : Int32} (h_x2 : zr (0) (8) x2) {x3 : Int32} (h_x3 : zr (128) (256) x3) {s0 : Int32} (hMk41 : (9) - x2.toInt ≤ Mk41) : zok (fX10_makeNext_101 k41 σ x1 x2 x3 s0) (zIC G) := by
  unfold fX10_makeNext_101
  refine zok_ck (zin_ok (zr_add (lo := 139) (hi := 267) (zr_add (lo := 136) (hi := 264) h_x3 (zr_c (lo := 8) (hi := 8) (by decide)) (by decide)) (zr_c (lo := 3) (hi := 3) (by decide)) (by decide)) (by decide)) ?_
  refine zok_if (fun q1 => ?_) (fun q1 => ?_)
  · have h2 := zc_eql (0) (0) q1 zr_any (zr_c (lo := 0) (hi := 0) (by decide)) (by decide)
    exact (s_X10_makeNext_135 hk41 hσ h_x2 hMk41)
  refine zok_if (fun q3 => ?_) (fun q3 => ?_)
  · have h4 := zc_ltl (5) q3 h_x2 (zr_c (lo := 6) (hi := 6) (by decide)) (by decide)
    exact (s_X10_makeNext_135 hk41 hσ (zr_w h4 (by decide)) hMk41)
  have h5 := zc_ler (6) (z_nlt q3) (zr_c (lo := 6) (hi := 6) (by decide)) h_x2 (by decide)
  exact (s_X10_makeNext_136 hk41 hσ (zr_w h5 (by decide)) (zr_w (zr_c (lo := 2) (hi := 2) (by decide)) (by decide)) hMk41)
theorem s_X10_makeNext_100 {G : Nat → Int} {σ : zSt} {k41 : zSt → Int32 → Int32 → Option (zSt)} {Mk41 : Int} (hk41 : ∀ (σ : zSt) (x1 : Int32) (x2 : Int32), zIC G σ → zr (0) (9) x2 → (9) - x2.toInt < Mk41 → zok (k41 σ x1 x2) (zIC G)) (hσ : zIC G σ) {x1 : Int32} {x2 : Int32} (h_x2 : zr (0) (8) x2) {x3 : Int32} (h_x3 : zr (128) (256) x3) (hMk41 : (9) - x2.toInt ≤ Mk41) : zok (fX10_makeNext_100 k41 σ x1 x2 x3) (zIC G) := by
  unfold fX10_makeNext_100
  exact (s_X10_makeNext_101 hk41 hσ h_x2 h_x3 hMk41)
theorem s_X10_makeNext_174 {G : Nat → Int} {σ : zSt} (hσ : zIC G σ) {x1 : Int32} {s0 : Int32} {s1 : Int32} (h_s1 : zr (65) (65) s1) : zok (fX10_makeNext_174 σ x1 s0 s1) (zIC G) := by
  unfold fX10_makeNext_174
  refine zok_ck (zin_ok h_s1 (by decide)) ?_
  refine zok_bs (hσ.wi 65 65 (z_ix h_s1 (by decide)) (zr_shr (lo := -1073741824) (hi := 1073741823) 1 (by decide) zr_any (by decide)) (by decide +kernel)) (fun σ3 e2 i1 => ?_)
  refine zok_ck rfl ?_
  refine zok_bs (i1.wi 67 67 (by decide) zr_any (by decide +kernel)) (fun σ4 e4 i3 => ?_)
  exact zok_some i3
theorem s_X10_makeNext_41_body {G : Nat → Int} {σ : zSt} {k41 : zSt → Int32 → Int32 → Option (zSt)} {Mk41 : Int} (hk41 : ∀ (σ : zSt) (x1 : Int32) (x2 : Int32), zIC G σ → zr (0) (9) x2 → (9) - x2.toInt < Mk41 → zok (k41 σ x1 x2) (zIC G)) (hσ : zIC G σ) {x1 : Int32} {x2 : Int32} (h_x2 : zr (0) (9) x2) (hMk41 : (9) - x2.toInt ≤ Mk41) : zok (fX10_makeNext_41_body k41 σ x1 x2) (zIC G) := by
  unfold fX10_makeNext_41_body
  refine zok_if (fun q1 => ?_) (fun q1 => ?_)
  · have h2 := zc_ler (9) q1 (zr_c (lo := 9) (hi := 9) (by decide)) h_x2 (by decide)
    refine zok_ck rfl ?_
    refine zok_bv (fun v5 e4 => ?_)
    refine zok_if (fun q5 => ?_) (fun q5 => ?_)
    · have h6 := zc_eql (1) (1) q5 (zr_andr (lo := 0) (hi := 1) (zr_c (lo := 1) (hi := 1) (by decide)) (by decide)) (zr_c (lo := 1) (hi := 1) (by decide)) (by decide)
      exact (s_X10_makeNext_174 hσ (zr_c (lo := 65) (hi := 65) (by decide)))
    have h7 := zc_nel (0) (0) q5 (zr_andr (lo := 0) (hi := 1) (zr_c (lo := 1) (hi := 1) (by decide)) (by decide)) (zr_c (lo := 1) (hi := 1) (by decide)) (by decide)
    exact (s_X10_makeNext_174 hσ (zr_c (lo := 65) (hi := 65) (by decide)))
  have h8 := zc_ltl (8) (z_nle q1) h_x2 (zr_c (lo := 9) (hi := 9) (by decide)) (by decide)
  refine zok_bu (s_X10_takeChannel hσ h8) (fun σ6 i9 => ?_)
  refine zok_br (zr_add (lo := 128) (hi := 256) (zr_c (lo := 128) (hi := 128) (by decide)) (zr_mul (lo := 0) (hi := 128) (zr_c (lo := 16) (hi := 16) (by decide)) h8 (by decide)) (by decide)) (fun v7 e11 h10 => ?_)
  refine zok_bu (s_X10_moveOperator i9 (zr_w h10 (by decide)) (zr_w (zr_c (lo := 0) (hi := 0) (by decide)) (by decide))) (fun σ8 i12 => ?_)
  refine zok_bu (s_X10_moveOperator i12 (zr_w (zr_add (lo := 136) (hi := 264) h10 (zr_c (lo := 8) (hi := 8) (by decide)) (by decide)) (by decide)) (zr_w (zr_c (lo := 1) (hi := 1) (by decide)) (by decide))) (fun σ9 i13 => ?_)
  refine zok_if (fun q14 => ?_) (fun q14 => ?_)
  · have h15 := zc_eql (0) (0) q14 zr_any (zr_c (lo := 0) (hi := 0) (by decide)) (by decide)
    exact (s_X10_makeNext_100 hk41 i13 h8 h10 hMk41)
  refine zok_if (fun q16 => ?_) (fun q16 => ?_)
  · have h17 := zc_ltl (6) q16 h8 (zr_c (lo := 7) (hi := 7) (by decide)) (by decide)
    exact (s_X10_makeNext_100 hk41 i13 (zr_w h17 (by decide)) h10 hMk41)
  have h18 := zc_ler (7) (z_nlt q16) (zr_c (lo := 7) (hi := 7) (by decide)) h8 (by decide)
  refine zok_ck (zin_ok (zr_add (lo := 131) (hi := 259) h10 (zr_c (lo := 3) (hi := 3) (by decide)) (by decide)) (by decide)) ?_
  exact (s_X10_makeNext_101 hk41 i13 (zr_w h18 (by decide)) h10 hMk41)
theorem s_X10_makeNext_41 {G : Nat → Int} : ∀ (n : Nat) {σ : zSt} (hσ : zIC G σ) {x1 : Int32} {x2 : Int32} (h_x2 : zr (0) (9) x2) (hm : (9) - x2.toInt < n), zok (fX10_makeNext_41 n σ x1 x2) (zIC G) := by
  intro n
  induction n with
  | zero => intro σ hσ x1 x2 h_x2 hm ; have h9 := h_x2.1; have h8 := h_x2.2; exfalso; omega
  | succ n ih => intro σ hσ x1 x2 h_x2 hm ; exact s_X10_makeNext_41_body (fun σ x1 x2 hσ h_x2 hm1 => ih hσ h_x2 (by omega)) hσ h_x2 (Int.le_refl _)
theorem s_X10_makeNext_30 {G : Nat → Int} {σ : zSt} (hσ : zIC G σ) {s0 : Int32} (h_s0 : zr (0) (1) s0) : zok (fX10_makeNext_30 σ s0) (zIC G) := by
  unfold fX10_makeNext_30
  refine zok_ck (zbo_ok h_s0 (by decide)) ?_
  refine zok_bs (hσ.wi 2 2 (by decide) h_s0 (by decide +kernel)) (fun σ10 e2 i1 => ?_)
  refine zok_bu (s_X10_takeOwnPatch i1) (fun σ11 i3 => ?_)
  exact (s_X10_makeNext_41 zfuel i3 (zr_w (zr_c (lo := 0) (hi := 0) (by decide)) (by decide)) (by decide))
theorem s_X10_makeNext {G : Nat → Int} {σ : zSt} (hσ : zIC G σ) : zok (fX10_makeNext σ ) (zIC G) := by
  unfold fX10_makeNext
  refine zok_ck rfl ?_
  refine zok_ck rfl ?_
  refine zok_bs (hσ.wi 66 66 (by decide) zr_any (by decide +kernel)) (fun σ12 e2 i1 => ?_)
  refine zok_ck rfl ?_
  refine zok_if (fun q3 => ?_) (fun q3 => ?_)
  · have h4 := zc_eql (0) (0) q3 (zr_andr (lo := 0) (hi := 32) (zr_c (lo := 32) (hi := 32) (by decide)) (by decide)) (zr_c (lo := 0) (hi := 0) (by decide)) (by decide)
    exact (s_X10_makeNext_30 i1 (zr_w (zr_c (lo := 0) (hi := 0) (by decide)) (by decide)))
  have h5 := zc_nel (1) (32) q3 (zr_andr (lo := 0) (hi := 32) (zr_c (lo := 32) (hi := 32) (by decide)) (by decide)) (zr_c (lo := 0) (hi := 0) (by decide)) (by decide)
  exact (s_X10_makeNext_30 i1 (zr_w (zr_c (lo := 1) (hi := 1) (by decide)) (by decide)))
theorem s_X10_heard_24 {σ : zSt} (hσ : zPC σ) {s0 : Int32} : zok (fX10_heard_24 σ s0) (zPi σ (fun v : Int32 => True)) := by
  unfold fX10_heard_24
  exact zok_spi trivial
theorem s_X10_heard {σ : zSt} (hσ : zPC σ) : zok (fX10_heard σ ) (zPi σ (fun v : Int32 => True)) := by
  unfold fX10_heard
  refine zok_ck rfl ?_
  refine zok_if (fun q1 => ?_) (fun q1 => ?_)
  · have h2 := zc_eql (1) (1) q1 (zr_andr (lo := 0) (hi := 1) (zr_c (lo := 1) (hi := 1) (by decide)) (by decide)) (zr_c (lo := 1) (hi := 1) (by decide)) (by decide)
    refine zok_ck rfl ?_
    exact (s_X10_heard_24 hσ)
  have h3 := zc_nel (0) (0) q1 (zr_andr (lo := 0) (hi := 1) (zr_c (lo := 1) (hi := 1) (by decide)) (by decide)) (zr_c (lo := 1) (hi := 1) (by decide)) (by decide)
  exact (s_X10_heard_24 hσ)
theorem s_X6_add_k12_56 {σ : zSt} (hσ : zPC σ) : zok (fX6_add_k12_56 σ ) (zPu σ) := by
  unfold fX6_add_k12_56
  exact zok_spu
theorem s_X6_add_k12 {G : Nat → Int} {σ : zSt} (hσ : zIC G σ) {x1 : Int64} : zok (fX6_add_k12 σ x1) (zIC G) := by
  unfold fX6_add_k12
  refine zok_ck (zin_ok (zr_andr (lo := 0) (hi := 4095) (zr_c (lo := 4095) (hi := 4095) (by decide)) (by decide)) (by decide)) ?_
  refine zok_bs (hσ.wl 0 4095 (z_ix (zr_andr (lo := 0) (hi := 4095) (zr_c (lo := 4095) (hi := 4095) (by decide)) (by decide)) (by decide)) (by decide)) (fun σ1 e2 i1 => ?_)
  refine zok_if (fun q3 => ?_) (fun q3 => ?_)
  · have h4 := zc_ler (4096) q3 (zr_c (lo := 4096) (hi := 4096) (by decide)) zr_any (by decide)
    refine zok_bs (i1.wk (by decide)) (fun σ2 e6 i5 => ?_)
    exact zok_pau i5 (s_X6_add_k12_56 i5.P)
  have h7 := zc_ltl (4095) (z_nle q3) zr_any (zr_c (lo := 4096) (hi := 4096) (by decide)) (by decide)
  refine zok_bs (i1.wk (by decide)) (fun σ3 e9 i8 => ?_)
  exact zok_pau i8 (s_X6_add_k12_56 i8.P)
theorem s_X0_addMix {G : Nat → Int} {σ : zSt} (hσ : zIC G σ) : zok (fX0_addMix σ ) (zIC G) := by
  unfold fX0_addMix
  refine zok_ck rfl ?_
  refine zok_bl (zrl_max (lo := 1) (hi := 9223372036854775807) (zrl_c (lo := 1) (hi := 1) (by decide)) zrl_any (by decide)) (fun v1 e2 h1 => ?_)
  refine zok_ck rfl ?_
  refine zok_ck (zdvl_ok h1 (by decide)) ?_
  refine zok_pi (s_X10_heard hσ.P) (fun v3 h3 => ?_)
  refine zok_bv (fun v4 e5 => ?_)
  refine zok_ck rfl ?_
  refine zok_ck (zdvl_ok h1 (by decide)) ?_
  refine zok_pi (s_X10_heard hσ.P) (fun v6 h6 => ?_)
  refine zok_bv (fun v7 e8 => ?_)
  refine zok_bu (s_X6_add_k12 hσ) (fun σ8 i9 => ?_)
  refine zok_ck rfl ?_
  refine zok_bs (i9.wl 4 4 (by decide) (by decide)) (fun σ9 e11 i10 => ?_)
  refine zok_ck rfl ?_
  refine zok_bs (i10.wl 5 5 (by decide) (by decide)) (fun σ10 e13 i12 => ?_)
  refine zok_ck rfl ?_
  refine zok_bs (i12.wl 6 6 (by decide) (by decide)) (fun σ11 e15 i14 => ?_)
  exact zok_some i14
theorem z_wrap {x y : Int64} (h : 0 ≤ y.toInt) : (x + y).toInt = x.toInt + y.toInt ∨ (0 ≤ x.toInt ∧ (x + y).toInt < 0) := by
  have a1 := Int64.le_toInt x
  have a2 := Int64.toInt_lt x
  have b2 := Int64.toInt_lt y
  rw [Int64.toInt_add]
  by_cases q : x.toInt + y.toInt ≤ 9223372036854775807
  · exact Or.inl (z_bml (by omega) q)
  · refine Or.inr ⟨by omega, ?_⟩
    have e : (x.toInt + y.toInt).bmod (2 ^ 64) = (x.toInt + y.toInt - 18446744073709551616).bmod (2 ^ 64) := by
      exact (Int.sub_bmod_right (x.toInt + y.toInt) (2 ^ 64)).symm
    rw [e, z_bml (by omega) (by omega)]; omega
theorem z_tdivb {a : Int} {c : Int} (hc : 0 < c) : a - c < c * a.tdiv c ∧ c * a.tdiv c < a + c := by
  have h1 := Int.mul_tdiv_add_tmod a c
  have h2 := Int.tmod_lt_of_pos a hc
  have h3 := Int.lt_tmod_of_pos a hc
  omega
theorem z_bt {x2 x4 : Int64} {b : Int32} (hb : zr (1) (31) b) (e : x4 = x2 + b.toInt64) (c : Int64) (hc : 16 ≤ c.toInt) : (x4 / c).toInt - (x2 / c).toInt < 100 := by
  have b1 := hb.1
  have b2 := hb.2
  have eb : b.toInt64.toInt = b.toInt := Int32.toInt_toInt64 b
  have dv : ∀ x : Int64, (x / c).toInt = x.toInt.tdiv c.toInt := fun x => Int64.toInt_div_of_ne_right x c (fun r => by rw [r] at hc; exact absurd hc (by decide))
  have w := z_wrap (x := x2) (y := b.toInt64) (by omega)
  rw [← e, eb] at w
  rw [dv, dv]
  have d4 := z_tdivb (a := x4.toInt) (c := c.toInt) (by omega)
  have d2 := z_tdivb (a := x2.toInt) (c := c.toInt) (by omega)
  rcases w with w | w
  · rw [w] at d4 ⊢
    have hd : c.toInt * ((x2.toInt + b.toInt).tdiv c.toInt - x2.toInt.tdiv c.toInt) < c.toInt * 100 := by
      rw [Int.mul_sub]; omega
    exact Int.lt_of_mul_lt_mul_left hd (by omega)
  · have h4 : x4.toInt.tdiv c.toInt ≤ 0 := by
      have hn := Int.tdiv_nonneg (a := -x4.toInt) (b := c.toInt) (by omega) (by omega)
      rw [Int.neg_tdiv] at hn; omega
    have h2 : 0 ≤ x2.toInt.tdiv c.toInt := Int.tdiv_nonneg w.1 (by omega)
    omega
theorem s_pass81_h {G : Nat → Int} {x2 x4 : Int64} : ∀ (n : Nat) {σ : zSt} (hσ : zIC G σ) {x6 : Int64} (hn : 1 ≤ n) (hm : (x4 / 81).toInt - x6.toInt < n), zok (fX0_pass_105 n σ x4 x6) (zIC G) := by
  intro n
  induction n with
  | zero => intro σ hσ x6 hn hm; exfalso; omega
  | succ n ih =>
    intro σ hσ x6 hn hm
    show zok (fX0_pass_105_body (fX0_pass_105 n) σ x4 x6) (zIC G)
    unfold fX0_pass_105_body
    refine zok_ck (by decide) ?_
    refine zok_if (fun q => zok_some hσ) (fun q => ?_)
    have q1 : ¬ (x4 / 81).toInt ≤ x6.toInt := fun r => q (z_cmp_ge.mpr r)
    refine zok_bu (s_X0_addMix hσ) (fun σ1 i1 => ?_)
    refine zok_bv (fun v2 e2 => ?_)
    have l := Int64.toInt_lt (x4 / 81)
    have c1 : (1 : Int64).toInt = 1 := rfl
    have e3 : (x6 + 1).toInt = x6.toInt + 1 := by rw [Int64.toInt_add, c1]; exact z_bml (by have := Int64.le_toInt x6; omega) (by omega)
    exact ih i1 (by omega) (by rw [e2, e3]; omega)
theorem s_pass72_h {G : Nat → Int} {x2 x4 : Int64} (h81 : (x4 / 81).toInt - (x2 / 81).toInt < 100) : ∀ (n : Nat) {σ : zSt} (hσ : zIC G σ) {x6 : Int64} (hn : 1 ≤ n) (hm : (x4 / 72).toInt - x6.toInt < n), zok (fX0_pass_70 n σ x2 x4 x6) (zIC G) := by
  intro n
  induction n with
  | zero => intro σ hσ x6 hn hm; exfalso; omega
  | succ n ih =>
    intro σ hσ x6 hn hm
    show zok (fX0_pass_70_body (fX0_pass_70 n) σ x2 x4 x6) (zIC G)
    unfold fX0_pass_70_body
    refine zok_ck (by decide) ?_
    refine zok_if (fun q => zok_ck (by decide) (zok_bv (fun v3 e3 => s_pass81_h (x2 := x2) zfuel hσ (by decide) (by rw [e3]; unfold zfuel; omega)))) (fun q => ?_)
    have q1 : ¬ (x4 / 72).toInt ≤ x6.toInt := fun r => q (z_cmp_ge.mpr r)
    refine zok_bu (s_X10_makeNext hσ) (fun σ1 i1 => ?_)
    refine zok_bv (fun v2 e2 => ?_)
    have l := Int64.toInt_lt (x4 / 72)
    have c1 : (1 : Int64).toInt = 1 := rfl
    have e3 : (x6 + 1).toInt = x6.toInt + 1 := by rw [Int64.toInt_add, c1]; exact z_bml (by have := Int64.le_toInt x6; omega) (by omega)
    exact ih i1 (by omega) (by rw [e2, e3]; omega)
theorem s_pass16_h {G : Nat → Int} {x2 x4 : Int64} (h81 : (x4 / 81).toInt - (x2 / 81).toInt < 100) (h72 : (x4 / 72).toInt - (x2 / 72).toInt < 100) : ∀ (n : Nat) {σ : zSt} (hσ : zIC G σ) {x6 : Int64} (hn : 1 ≤ n) (hm : (x4 / 16).toInt - x6.toInt < n), zok (fX0_pass_38 n σ x2 x4 x6) (zIC G) := by
  intro n
  induction n with
  | zero => intro σ hσ x6 hn hm; exfalso; omega
  | succ n ih =>
    intro σ hσ x6 hn hm
    show zok (fX0_pass_38_body (fX0_pass_38 n) σ x2 x4 x6) (zIC G)
    unfold fX0_pass_38_body
    refine zok_ck (by decide) ?_
    refine zok_if (fun q => zok_ck (by decide) (zok_bv (fun v3 e3 => s_pass72_h h81 zfuel hσ (by decide) (by rw [e3]; unfold zfuel; omega)))) (fun q => ?_)
    have q1 : ¬ (x4 / 16).toInt ≤ x6.toInt := fun r => q (z_cmp_ge.mpr r)
    refine zok_bu (s_X0_addSample hσ) (fun σ1 i1 => ?_)
    refine zok_bv (fun v2 e2 => ?_)
    have l := Int64.toInt_lt (x4 / 16)
    have c1 : (1 : Int64).toInt = 1 := rfl
    have e3 : (x6 + 1).toInt = x6.toInt + 1 := by rw [Int64.toInt_add, c1]; exact z_bml (by have := Int64.le_toInt x6; omega) (by omega)
    exact ih i1 (by omega) (by rw [e2, e3]; omega)
theorem s_X0_pass {G : Nat → Int} {σ : zSt} (hσ : zIC G σ) {x1 : Int32} (h_x1 : zr (1) (31) x1) : zok (fX0_pass σ x1) (zIC G) := by
  unfold fX0_pass
  refine zok_ck rfl ?_
  refine zok_bv (fun v9 e9 => ?_)
  refine zok_bv (fun v10 e10 => ?_)
  refine zok_ck rfl ?_
  refine zok_bs (hσ.wl 0 0 (by decide) (by decide)) (fun σ11 e11 i11 => ?_)
  refine zok_ck rfl (zok_ck rfl ?_)
  refine zok_bs (i11.wl 1 1 (by decide) (by decide)) (fun σ12 e12 i12 => ?_)
  refine zok_ck (by decide) ?_
  refine zok_bv (fun v13 e13 => ?_)
  exact s_pass16_h (z_bt h_x1 e10 81 (by decide)) (z_bt h_x1 e10 72 (by decide)) zfuel i12 (by decide) (by have := z_bt h_x1 e10 16 (by decide); rw [e13]; unfold zfuel; omega)
end ZJN3
section ZJN4
theorem s_X1_keep {G : Nat → Int} {σ : zSt} (hσ : zIC G σ) : zok (fX1_keep σ ) (zIC G) := by
  unfold fX1_keep
  refine zok_ck (by decide) ?_
  refine zok_bs (hσ.wc (by decide +kernel) rfl rfl) (fun σ1 e2 i1 => ?_)
  refine zok_ck (by decide) ?_
  refine zok_bs (i1.wc (by decide +kernel) rfl rfl) (fun σ2 e4 i3 => ?_)
  exact zok_some i3
theorem s_X1_bringBack {G : Nat → Int} {σ : zSt} (hσ : zIC G σ) : zok (fX1_bringBack σ ) (zIC G) := by
  unfold fX1_bringBack
  refine zok_ck (by decide) ?_
  refine zok_bs (hσ.wc (by decide +kernel) rfl rfl) (fun σ1 e2 i1 => ?_)
  refine zok_ck (by decide) ?_
  refine zok_bs (i1.wc (by decide +kernel) rfl rfl) (fun σ2 e4 i3 => ?_)
  exact zok_some i3
theorem s_X1_noteStep {G : Nat → Int} {σ : zSt} (hσ : zIC G σ) {x1 : Int32} : zok (fX1_noteStep σ x1) (zIC G) := by
  unfold fX1_noteStep
  refine zok_ck (zin_ok (zr_andr (lo := 0) (hi := 31) (zr_c (lo := 31) (hi := 31) (by decide)) (by decide)) (by decide)) ?_
  refine zok_bs (hσ.wk (by decide)) (fun σ1 e2 i1 => ?_)
  refine zok_bs (i1.wk (by decide)) (fun σ2 e4 i3 => ?_)
  exact zok_some i3
theorem s_X1_stepBack_30 {σ : zSt} (hσ : zPC σ) {s0 : Int32} : zok (fX1_stepBack_30 σ s0) (zPi σ (fun v : Int32 => True)) := by
  unfold fX1_stepBack_30
  exact zok_spi trivial
theorem s_X1_stepBack_10 {σ : zSt} (hσ : zPC σ) : zok (fX1_stepBack_10 σ ) (zPi σ (fun v : Int32 => True)) := by
  unfold fX1_stepBack_10
  exact (s_X1_stepBack_30 hσ)
theorem s_X1_stepBack {σ : zSt} (hσ : zPC σ) {x1 : Int32} : zok (fX1_stepBack σ x1) (zPi σ (fun v : Int32 => True)) := by
  unfold fX1_stepBack
  refine zok_if (fun q1 => ?_) (fun q1 => ?_)
  · have h2 := zc_ltl (-1) q1 zr_any (zr_c (lo := 0) (hi := 0) (by decide)) (by decide)
    exact (s_X1_stepBack_10 hσ)
  have h3 := zc_ler (0) (z_nlt q1) (zr_c (lo := 0) (hi := 0) (by decide)) zr_any (by decide)
  refine zok_if (fun q4 => ?_) (fun q4 => ?_)
  · have h5 := zc_ltl (31) q4 h3 (zr_c (lo := 32) (hi := 32) (by decide)) (by decide)
    refine zok_ck (zin_ok (zr_andr (lo := 0) (hi := 31) (zr_c (lo := 31) (hi := 31) (by decide)) (by decide)) (by decide)) ?_
    exact (s_X1_stepBack_30 hσ)
  have h6 := zc_ler (32) (z_nlt q4) (zr_c (lo := 32) (hi := 32) (by decide)) h3 (by decide)
  exact (s_X1_stepBack_10 hσ)
theorem s_X1_stopCount {σ : zSt} (hσ : zPC σ) : zok (fX1_stopCount σ ) (zPi σ (fun v : Int32 => zr (0) (8) v)) := by
  unfold fX1_stopCount
  refine zok_ck rfl ?_
  exact zok_spi (rC_7 hσ.sg _ (by decide))
theorem s_X1_placeOfStop_37 {σ : zSt} (hσ : zPC σ) : zok (fX1_placeOfStop_37 σ ) (zPi σ (fun v : Int32 => zr (-1) (7) v)) := by
  unfold fX1_placeOfStop_37
  exact zok_spi (zr_w (zr_c (lo := -1) (hi := -1) (by decide)) (by decide))
theorem s_X1_placeOfStop_2_body {σ : zSt} {k2 : zSt → Int32 → Int32 → Option (zSt × Int32)} {Mk2 : Int} (hk2 : ∀ (x1 : Int32) (x2 : Int32), zr (0) (8) x2 → (8) - x2.toInt < Mk2 → zok (k2 σ x1 x2) (zPi σ (fun v : Int32 => zr (-1) (7) v))) (hσ : zPC σ) {x1 : Int32} {x2 : Int32} (h_x2 : zr (0) (8) x2) (hMk2 : (8) - x2.toInt ≤ Mk2) : zok (fX1_placeOfStop_2_body k2 σ x1 x2) (zPi σ (fun v : Int32 => zr (-1) (7) v)) := by
  unfold fX1_placeOfStop_2_body
  refine zok_if (fun q1 => ?_) (fun q1 => ?_)
  · have h2 := zc_ler (8) q1 (zr_c (lo := 8) (hi := 8) (by decide)) h_x2 (by decide)
    exact (s_X1_placeOfStop_37 hσ)
  have h3 := zc_ltl (7) (z_nle q1) h_x2 (zr_c (lo := 8) (hi := 8) (by decide)) (by decide)
  refine zok_ck rfl ?_
  refine zok_if (fun q4 => ?_) (fun q4 => ?_)
  · have h5 := zc_lel (7) q4 (rC_7 hσ.sg _ (by decide)) h3 (by decide)
    exact (s_X1_placeOfStop_37 hσ)
  have h6 := zc_ltr (1) (z_nle q4) h3 (rC_7 hσ.sg _ (by decide)) (by decide)
  refine zok_ck (zin_ok h3 (by decide)) ?_
  refine zok_if (fun q7 => ?_) (fun q7 => ?_)
  · exact zok_spi (zr_w h3 (by decide))
  refine zok_br (zr_add (lo := 1) (hi := 8) h3 (zr_c (lo := 1) (hi := 1) (by decide)) (by decide)) (fun v1 e9 h8 => ?_)
  exact hk2 _ _  (zr_w h8 (by decide)) (by rw [e9]; have := z_tadd (y := (1 : Int32)) h3 (zr_c (lo := 1) (hi := 1) (by decide)) (by decide); have e9 : (1 : Int32).toInt = 1 := rfl; omega) 
theorem s_X1_placeOfStop_2 {σ : zSt} (hσ : zPC σ) : ∀ (n : Nat) {x1 : Int32} {x2 : Int32} (h_x2 : zr (0) (8) x2) (hm : (8) - x2.toInt < n), zok (fX1_placeOfStop_2 n σ x1 x2) (zPi σ (fun v : Int32 => zr (-1) (7) v)) := by
  intro n
  induction n with
  | zero => intro x1 x2 h_x2 hm ; have h9 := h_x2.1; have h8 := h_x2.2; exfalso; omega
  | succ n ih => intro x1 x2 h_x2 hm ; exact s_X1_placeOfStop_2_body (fun x1 x2 h_x2 hm1 => ih h_x2 (by omega)) hσ h_x2 (Int.le_refl _)
theorem s_X1_placeOfStop {σ : zSt} (hσ : zPC σ) {x1 : Int32} : zok (fX1_placeOfStop σ x1) (zPi σ (fun v : Int32 => zr (-1) (7) v)) := by
  unfold fX1_placeOfStop
  exact (s_X1_placeOfStop_2 hσ zfuel (zr_w (zr_c (lo := 0) (hi := 0) (by decide)) (by decide)) (by decide))
theorem s_X1_isStop_13 {σ : zSt} (hσ : zPC σ) {s0 : Int32} (h_s0 : zr (0) (1) s0) : zok (fX1_isStop_13 σ s0) (zPi σ (fun v : Int32 => zr (0) (1) v)) := by
  unfold fX1_isStop_13
  refine zok_ck (zbo_ok h_s0 (by decide)) ?_
  exact zok_spi h_s0
theorem s_X1_isStop {σ : zSt} (hσ : zPC σ) {x1 : Int32} : zok (fX1_isStop σ x1) (zPi σ (fun v : Int32 => zr (0) (1) v)) := by
  unfold fX1_isStop
  refine zok_pi (s_X1_placeOfStop hσ) (fun v2 h1 => ?_)
  refine zok_if (fun q2 => ?_) (fun q2 => ?_)
  · have h3 := zc_ltl (-1) q2 h1 (zr_c (lo := 0) (hi := 0) (by decide)) (by decide)
    exact (s_X1_isStop_13 hσ (zr_w (zr_c (lo := 0) (hi := 0) (by decide)) (by decide)))
  have h4 := zc_ler (0) (z_nlt q2) (zr_c (lo := 0) (hi := 0) (by decide)) h1 (by decide)
  exact (s_X1_isStop_13 hσ (zr_w (zr_c (lo := 1) (hi := 1) (by decide)) (by decide)))
theorem s_X1_stopsBeside_20 {σ : zSt} (hσ : zPC σ) {s0 : Int32} (h_s0 : zr (0) (1) s0) {s1 : Int32} (h_s1 : zr (0) (8) s1) : zok (fX1_stopsBeside_20 σ s0 s1) (zPi σ (fun v : Int32 => zr (-1) (8) v)) := by
  unfold fX1_stopsBeside_20
  exact zok_spi (zr_sub (lo := -1) (hi := 8) h_s1 h_s0 (by decide))
theorem s_X1_stopsBeside {σ : zSt} (hσ : zPC σ) {x1 : Int32} (h_x1 : zr (0) (65535) x1) : zok (fX1_stopsBeside σ x1) (zPi σ (fun v : Int32 => zr (-1) (8) v)) := by
  unfold fX1_stopsBeside
  refine zok_ck rfl ?_
  refine zok_pi (s_X1_isStop hσ) (fun v2 h1 => ?_)
  refine zok_if (fun q2 => ?_) (fun q2 => ?_)
  · have h3 := zc_eql (0) (0) q2 h1 (zr_c (lo := 0) (hi := 0) (by decide)) (by decide)
    exact (s_X1_stopsBeside_20 hσ (zr_w (zr_c (lo := 0) (hi := 0) (by decide)) (by decide)) (rC_7 hσ.sg _ (by decide)))
  have h4 := zc_nel (1) (1) q2 h1 (zr_c (lo := 0) (hi := 0) (by decide)) (by decide)
  exact (s_X1_stopsBeside_20 hσ (zr_w (zr_c (lo := 1) (hi := 1) (by decide)) (by decide)) (rC_7 hσ.sg _ (by decide)))
theorem s_placeOfStop_h {σ : zSt} (hσ : zPC σ) {x1 : Int32} : ∀ (n : Nat) {x2 : Int32} (h_x2 : zr 0 8 x2) (hm : 8 - x2.toInt < n), zok (fX1_placeOfStop_2 n σ x1 x2) (zPi σ (fun v : Int32 => v.toInt = -1 ∨ (0 ≤ v.toInt ∧ v.toInt < 8 ∧ v.toInt < (zgi σ 40 8).toInt))) := by
  intro n
  induction n with
  | zero => intro x2 h_x2 hm; have := h_x2.2; exfalso; omega
  | succ n ih =>
    intro x2 h_x2 hm
    show zok (fX1_placeOfStop_2_body (fX1_placeOfStop_2 n) σ x1 x2) _
    unfold fX1_placeOfStop_2_body fX1_placeOfStop_37
    have c8 : (8 : Int32).toInt = 8 := rfl
    have c1 : (1 : Int32).toInt = 1 := rfl
    refine zok_if (fun q => zok_spi (Or.inl rfl)) (fun q => ?_)
    have q1 := Int32.lt_iff_toInt_lt.mp (z_nle q)
    have hx : zr 0 7 x2 := ⟨h_x2.1, by omega⟩
    refine zok_ck rfl ?_
    refine zok_if (fun q => zok_spi (Or.inl rfl)) (fun q2 => ?_)
    have q3 := Int32.lt_iff_toInt_lt.mp (z_nle q2)
    refine zok_ck (zin_ok hx (by decide)) ?_
    refine zok_if (fun q => zok_spi (Or.inr ⟨hx.1, by omega, q3⟩)) (fun q => ?_)
    have e1 := z_tadd hx (zr_c (lo := 1) (hi := 1) (x := 1) (by decide)) (by decide)
    refine zok_bv (fun v1 ev => ih ?_ ?_)
    · subst ev; have := hx.1; exact ⟨by omega, by omega⟩
    · subst ev; omega
theorem s_changeStop_87 {G : Nat → Int} {σ : zSt} (hσ : zIC G σ) : zok (fX1_changeStop_87 σ) (zAi (zIC G) (fun v : Int32 => zr (0) (8) v)) := by
  unfold fX1_changeStop_87
  refine zok_ck rfl ?_
  exact zok_sai hσ (rC_7 hσ.sg _ (by decide))
theorem s_X1_changeStop {G : Nat → Int} {σ : zSt} (hσ : zIC G σ) {x1 : Int32} (h_x1 : zr (0) (65535) x1) {x2 : Int32} (h_x2 : zr (0) (1) x2) : zok (fX1_changeStop σ x1 x2) (zAi (zIC G) (fun v : Int32 => zr (0) (8) v)) := by
  unfold fX1_changeStop
  refine zok_ck rfl ?_
  have h8 := rC_7 hσ.sg 8 (by decide)
  refine zok_bv (fun v3 e3 => ?_)
  have h3 : zr 0 8 v3 := by rw [e3]; exact h8
  have hp : zok (fX1_placeOfStop σ x1) (zPi σ (fun v : Int32 => v.toInt = -1 ∨ (0 ≤ v.toInt ∧ v.toInt < 8 ∧ v.toInt < (zgi σ 40 8).toInt))) := s_placeOfStop_h hσ.P zfuel (zr_c (by decide)) (by decide)
  refine zok_pi hp (fun v5 h5 => ?_)
  have c0 : (0 : Int32).toInt = 0 := rfl
  have c1 : (1 : Int32).toInt = 1 := rfl
  have ev3 : v3.toInt = (zgi σ 40 8).toInt := by rw [e3]; rfl
  have k50 : zok (fX1_changeStop_50 σ x2 v3 v5) (zAi (zIC G) (fun v : Int32 => zr (0) (8) v)) := by
    unfold fX1_changeStop_50
    refine zok_if (fun q => ?_) (fun q => s_changeStop_87 hσ)
    refine zok_if (fun q => s_changeStop_87 hσ) (fun q => ?_)
    have q1 := Int32.le_iff_toInt_le.mp (z_nlt q)
    have h6 : zr 0 7 v5 := by rcases h5 with h5 | h5 <;> exact ⟨by omega, by omega⟩
    have h7 : zr 1 8 v3 := ⟨by rcases h5 with h5 | h5 <;> omega, h3.2⟩
    have h9 := zr_sub (lo := 0) (hi := 7) h7 (zr_c (lo := 1) (hi := 1) (x := 1) (by decide)) (by decide)
    refine zok_ck (zin_ok (zr_andr (lo := 0) (hi := 7) (y := 7) (zr_c (lo := 7) (hi := 7) (by decide)) (by decide)) (by decide)) ?_
    refine zok_ck (zin_ok h6 (by decide)) ?_
    refine zok_bs (hσ.wi 0 7 (z_ix h6 (by decide)) zr_any (by decide +kernel)) (fun σ1 e1 i1 => ?_)
    refine zok_ck rfl ?_
    refine zok_bs (i1.wi 8 8 (by decide) h9 (by decide +kernel)) (fun σ2 e2 i2 => ?_)
    exact s_changeStop_87 i2
  refine zok_if (fun q => k50) (fun q => ?_)
  refine zok_if (fun q => k50) (fun q => ?_)
  refine zok_if (fun q => k50) (fun q => ?_)
  have c8 : (8 : Int32).toInt = 8 := rfl
  have q1 := Int32.lt_iff_toInt_lt.mp (z_nle q)
  have h7 : zr 0 7 v3 := ⟨h3.1, by omega⟩
  refine zok_ck (zin_ok h7 (by decide)) ?_
  refine zok_bs (hσ.wi 0 7 (z_ix h7 (by decide)) zr_any (by decide +kernel)) (fun σ1 e1 i1 => ?_)
  refine zok_ck rfl ?_
  refine zok_bs (i1.wi 8 8 (by decide) (zr_add (lo := 1) (hi := 8) h7 (zr_c (lo := 1) (hi := 1) (x := 1) (by decide)) (by decide)) (by decide +kernel)) (fun σ2 e2 i2 => ?_)
  exact s_changeStop_87 i2
theorem s_X1_plansWaiting {σ : zSt} (hσ : zPC σ) : zok (fX1_plansWaiting σ ) (zPi σ (fun v : Int32 => True)) := by
  unfold fX1_plansWaiting
  refine zok_ck rfl ?_
  exact zok_spi trivial
theorem s_X1_placeOfPlan {σ : zSt} (hσ : zPC σ) {x1 : Int32} : zok (fX1_placeOfPlan σ x1) (zPi σ (fun v : Int32 => zr (0) (765) v)) := by
  unfold fX1_placeOfPlan
  refine zok_ck rfl ?_
  exact zok_spi (zr_mul (lo := 0) (hi := 765) (zr_c (lo := 3) (hi := 3) (by decide)) (zr_andr (lo := 0) (hi := 255) (zr_c (lo := 255) (hi := 255) (by decide)) (by decide)) (by decide))
theorem s_X1_leastPlan_34 {σ : zSt} (hσ : zPC σ) {s0 : Int32} : zok (fX1_leastPlan_34 σ s0) (zPi σ (fun v : Int32 => True)) := by
  unfold fX1_leastPlan_34
  exact zok_spi trivial
theorem s_X1_leastPlan {σ : zSt} (hσ : zPC σ) : zok (fX1_leastPlan σ ) (zPi σ (fun v : Int32 => True)) := by
  unfold fX1_leastPlan
  refine zok_ck rfl ?_
  refine zok_if (fun q1 => ?_) (fun q1 => ?_)
  · have h2 := zc_eql (0) (0) q1 zr_any (zr_c (lo := 0) (hi := 0) (by decide)) (by decide)
    exact (s_X1_leastPlan_34 hσ)
  refine zok_ck rfl ?_
  refine zok_pi (s_X1_placeOfPlan hσ) (fun v2 h3 => ?_)
  refine zok_ck (zin_ok h3 (by decide)) ?_
  exact (s_X1_leastPlan_34 hσ)
theorem s_X1_addPlan {G : Nat → Int} {σ : zSt} (hσ : zIC G σ) {x1 : Int32} {x2 : Int32} {x3 : Int32} : zok (fX1_addPlan σ x1 x2 x3) (zAi (zIC G) (fun v : Int32 => True)) := by
  unfold fX1_addPlan
  refine zok_ck rfl ?_
  refine zok_pi (s_X1_placeOfPlan hσ.P) (fun v2 h1 => ?_)
  refine zok_ck (zin_ok h1 (by decide)) ?_
  refine zok_bs (hσ.wk (by decide)) (fun σ3 e3 i2 => ?_)
  refine zok_ck (zin_ok (zr_add (lo := 1) (hi := 766) h1 (zr_c (lo := 1) (hi := 1) (by decide)) (by decide)) (by decide)) ?_
  refine zok_bs (i2.wk (by decide)) (fun σ4 e5 i4 => ?_)
  refine zok_ck (zin_ok (zr_add (lo := 2) (hi := 767) h1 (zr_c (lo := 2) (hi := 2) (by decide)) (by decide)) (by decide)) ?_
  refine zok_bs (i4.wk (by decide)) (fun σ5 e7 i6 => ?_)
  refine zok_ck rfl ?_
  refine zok_ck rfl ?_
  refine zok_bs (i6.wk (by decide)) (fun σ6 e9 i8 => ?_)
  refine zok_ck rfl ?_
  exact zok_sai i8 trivial
theorem s_X4_holdButtons {G : Nat → Int} {σ : zSt} (hσ : zIC G σ) {x1 : Int32} {x2 : Int32} : zok (fX4_holdButtons σ x1 x2) (zIC G) := by
  unfold fX4_holdButtons
  refine zok_ck (zin_ok (zr_add (lo := 7) (hi := 8) (zr_c (lo := 7) (hi := 7) (by decide)) (zr_andr (lo := 0) (hi := 1) (zr_c (lo := 1) (hi := 1) (by decide)) (by decide)) (by decide)) (by decide)) ?_
  refine zok_bs (hσ.wi 7 8 (z_ix (zr_add (lo := 7) (hi := 8) (zr_c (lo := 7) (hi := 7) (by decide)) (zr_andr (lo := 0) (hi := 1) (zr_c (lo := 1) (hi := 1) (by decide)) (by decide)) (by decide)) (by decide)) zr_any (by decide +kernel)) (fun σ1 e2 i1 => ?_)
  exact zok_some i1
theorem s_X1_carryOutPlans_107 {σ : zSt} (hσ : zPC σ) : zok (fX1_carryOutPlans_107 σ ) (zPu σ) := by
  unfold fX1_carryOutPlans_107
  exact zok_spu
theorem s_X1_carryOutPlans_3_body {G : Nat → Int} {σ : zSt} {k3 : zSt → Int64 → Int32 → Option (zSt)} {Mk3 : Int} (hk3 : ∀ (σ : zSt) (x1 : Int64) (x4 : Int32), zIC G σ → zr (0) (256) x4 → (256) - x4.toInt < Mk3 → zok (k3 σ x1 x4) (zIC G)) (hσ : zIC G σ) {x1 : Int64} {x4 : Int32} (h_x4 : zr (0) (256) x4) (hMk3 : (256) - x4.toInt ≤ Mk3) : zok (fX1_carryOutPlans_3_body k3 σ x1 x4) (zIC G) := by
  unfold fX1_carryOutPlans_3_body
  refine zok_if (fun q1 => ?_) (fun q1 => ?_)
  · have h2 := zc_ler (256) q1 (zr_c (lo := 256) (hi := 256) (by decide)) h_x4 (by decide)
    exact zok_pau hσ (s_X1_carryOutPlans_107 hσ.P)
  have h3 := zc_ltl (255) (z_nle q1) h_x4 (zr_c (lo := 256) (hi := 256) (by decide)) (by decide)
  refine zok_ck rfl ?_
  refine zok_if (fun q4 => ?_) (fun q4 => ?_)
  · have h5 := zc_lel (0) q4 zr_any (zr_c (lo := 0) (hi := 0) (by decide)) (by decide)
    exact zok_pau hσ (s_X1_carryOutPlans_107 hσ.P)
  have h6 := zc_ltr (1) (z_nle q4) (zr_c (lo := 0) (hi := 0) (by decide)) zr_any (by decide)
  refine zok_pi (s_X1_placeOfPlan hσ.P) (fun v2 h7 => ?_)
  refine zok_ck (zin_ok h7 (by decide)) ?_
  refine zok_if (fun q8 => ?_) (fun q8 => ?_)
  · refine zok_ck (zin_ok (zr_add (lo := 1) (hi := 766) h7 (zr_c (lo := 1) (hi := 1) (by decide)) (by decide)) (by decide)) ?_
    refine zok_ck (zin_ok (zr_add (lo := 2) (hi := 767) h7 (zr_c (lo := 2) (hi := 2) (by decide)) (by decide)) (by decide)) ?_
    refine zok_bu (s_X4_holdButtons hσ) (fun σ3 i9 => ?_)
    refine zok_ck rfl ?_
    refine zok_ck rfl ?_
    refine zok_bs (i9.wk (by decide)) (fun σ4 e11 i10 => ?_)
    refine zok_ck rfl ?_
    refine zok_ck rfl ?_
    refine zok_bs (i10.wk (by decide)) (fun σ5 e13 i12 => ?_)
    refine zok_br (zr_add (lo := 1) (hi := 256) h3 (zr_c (lo := 1) (hi := 1) (by decide)) (by decide)) (fun v6 e15 h14 => ?_)
    exact hk3 _ _ _ i12 (zr_w h14 (by decide)) (by rw [e15]; have := z_tadd (y := (1 : Int32)) h3 (zr_c (lo := 1) (hi := 1) (by decide)) (by decide); have e9 : (1 : Int32).toInt = 1 := rfl; omega) 
  exact zok_pau hσ (s_X1_carryOutPlans_107 hσ.P)
theorem s_X1_carryOutPlans_3 {G : Nat → Int} : ∀ (n : Nat) {σ : zSt} (hσ : zIC G σ) {x1 : Int64} {x4 : Int32} (h_x4 : zr (0) (256) x4) (hm : (256) - x4.toInt < n), zok (fX1_carryOutPlans_3 n σ x1 x4) (zIC G) := by
  intro n
  induction n with
  | zero => intro σ hσ x1 x4 h_x4 hm ; have h9 := h_x4.1; have h8 := h_x4.2; exfalso; omega
  | succ n ih => intro σ hσ x1 x4 h_x4 hm ; exact s_X1_carryOutPlans_3_body (fun σ x1 x4 hσ h_x4 hm1 => ih hσ h_x4 (by omega)) hσ h_x4 (Int.le_refl _)
theorem s_X1_carryOutPlans {G : Nat → Int} {σ : zSt} (hσ : zIC G σ) {x1 : Int64} : zok (fX1_carryOutPlans σ x1) (zIC G) := by
  unfold fX1_carryOutPlans
  exact (s_X1_carryOutPlans_3 zfuel hσ (zr_w (zr_c (lo := 0) (hi := 0) (by decide)) (by decide)) (by decide))
theorem s_X2_addToTape_29 {σ : zSt} (hσ : zPC σ) : zok (fX2_addToTape_29 σ ) (zPu σ) := by
  unfold fX2_addToTape_29
  exact zok_spu
theorem s_X2_addToTape {G : Nat → Int} {σ : zSt} (hσ : zEC [0] G σ) {x1 : Int32} (h_x1 : zr (0) (255) x1) : zok (fX2_addToTape σ x1) (zEC [0] G) := by
  unfold fX2_addToTape
  refine zok_if (fun q1 => ?_) (fun q1 => ?_)
  · have h2 := zc_ler (262656) q1 (zr_c (lo := 262656) (hi := 262656) (by decide)) (rC_0 hσ.sg _ (by decide)) (by decide)
    exact zok_pau hσ (s_X2_addToTape_29 hσ.P)
  have h3 := zc_ltl (262655) (z_nle q1) (rC_0 hσ.sg _ (by decide)) (zr_c (lo := 262656) (hi := 262656) (by decide)) (by decide)
  refine zok_ck (zin_ok h3 (by decide)) ?_
  refine zok_bs (hσ.tp h_x1 (by decide)) (fun σ1 e5 i4 => ?_)
  refine zok_bs (i4.wi 2 2 (by decide) (zr_add (lo := 1) (hi := 262656) (z_trp e5 rfl h3) (zr_c (lo := 1) (hi := 1) (by decide)) (by decide)) (by decide +kernel)) (fun σ2 e7 i6 => ?_)
  exact zok_pau i6 (s_X2_addToTape_29 i6.P)
theorem s_repeat_h {G : Nat → Int} : ∀ (n : Nat) {σ : zSt} (hσ : zEC [0] G σ) {x2 x3 x4 : Int32} (h2 : zr 0 262656 x2) (h3 : zr (-2147483648) 262656 x3) (h4 : zr 0 262656 x4) (hr : x2.toInt ≤ x4.toInt) (hm : 262656 - x4.toInt < n), zok (fX2_repeatTape_15 n σ x2 x3 x4) (zEC [0] G) := by
  intro n
  induction n with
  | zero => intro σ hσ x2 x3 x4 h2 h3 h4 hr hm; have := h4.2; exfalso; omega
  | succ n ih =>
    intro σ hσ x2 x3 x4 h2 h3 h4 hr hm
    show zok (fX2_repeatTape_15_body (fX2_repeatTape_15 n) σ x2 x3 x4) (zEC [0] G)
    have k47 : zok (fX2_repeatTape_47 σ x2 x3) (zEC [0] G) := by
      unfold fX2_repeatTape_47
      refine zok_bs (hσ.wi 2 2 (by decide) (zr_max (lo := 0) (hi := 262656) h2 h3 (by decide)) (by decide +kernel)) (fun σ1 e1 i1 => ?_)
      exact zok_some i1
    unfold fX2_repeatTape_15_body
    refine zok_if (fun q => k47) (fun q => ?_)
    refine zok_if (fun q => k47) (fun q2 => ?_)
    have q1 := Int32.lt_iff_toInt_lt.mp (z_nle q)
    have h3b := h3.2
    have h4a : zr 0 262655 x4 := ⟨h4.1, by omega⟩
    have es := z_tsub h4a h2 (by decide)
    have h2a := h2.1
    have hs : zr 0 262655 (x4 - x2) := ⟨by omega, by omega⟩
    refine zok_ck (zin_ok hs (by decide)) ?_
    refine zok_ck (zin_ok h4a (by decide)) ?_
    refine zok_bs (hσ.tp (rC_tp hσ.sg _ (z_ixlt hs (by decide))) (by decide)) (fun σ2 e2 i2 => ?_)
    have e1 := z_tadd h4a (zr_c (lo := 1) (hi := 1) (x := 1) (by decide)) (by decide)
    have c1 : (1 : Int32).toInt = 1 := rfl
    refine zok_bv (fun v3 e3 => ih i2 h2 h3 ?_ ?_ ?_)
    · subst e3; have := h4a.1; have := h4a.2; exact ⟨by omega, by omega⟩
    · subst e3; omega
    · subst e3; omega
theorem s_X2_repeatTape {G : Nat → Int} {σ : zSt} (hσ : zEC [0] G σ) {x1 : Int32} (h_x1 : zr (0) (262656) x1) : zok (fX2_repeatTape σ x1) (zEC [0] G) := by
  unfold fX2_repeatTape
  have h := rC_0 hσ.sg 2 (by decide)
  refine zok_bv (fun v4 e4 => ?_)
  have h4 : zr 0 262656 v4 := by rw [e4]; exact h
  refine zok_bv (fun v5 e5 => ?_)
  have h5 : zr (-2147483648) 262656 v5 := by rw [e5]; exact zr_min (x := x1) zr_any (zr_c (lo := 262656) (hi := 262656) (by decide)) (by decide)
  exact s_repeat_h zfuel hσ h4 h5 h4 (Int.le_refl _) (by have := h4.1; unfold zfuel; omega)
theorem s_X2_changeTape_52 {σ : zSt} (hσ : zPC σ) : zok (fX2_changeTape_52 σ ) (zPu σ) := by
  unfold fX2_changeTape_52
  exact zok_spu
theorem s_X2_changeTape_3_body {G : Nat → Int} {σ : zSt} {k3 : zSt → Int32 → Int64 → Int32 → Option (zSt)} {Mk3 : Int} (hk3 : ∀ (σ : zSt) (x1 : Int32) (x2 : Int64) (x4 : Int32), zIC G σ → zr (0) (262648) x1 → zr (0) (8) x4 → (8) - x4.toInt < Mk3 → zok (k3 σ x1 x2 x4) (zIC G)) (hσ : zIC G σ) {x1 : Int32} (h_x1 : zr (0) (262648) x1) {x2 : Int64} {x4 : Int32} (h_x4 : zr (0) (8) x4) (hMk3 : (8) - x4.toInt ≤ Mk3) : zok (fX2_changeTape_3_body k3 σ x1 x2 x4) (zIC G) := by
  unfold fX2_changeTape_3_body
  refine zok_if (fun q1 => ?_) (fun q1 => ?_)
  · have h2 := zc_ler (8) q1 (zr_c (lo := 8) (hi := 8) (by decide)) h_x4 (by decide)
    exact zok_pau hσ (s_X2_changeTape_52 hσ.P)
  have h3 := zc_ltl (7) (z_nle q1) h_x4 (zr_c (lo := 8) (hi := 8) (by decide)) (by decide)
  refine zok_if (fun q4 => ?_) (fun q4 => ?_)
  · exact zr_no (zc_ltl (-1) q4 h_x1 (zr_c (lo := 0) (hi := 0) (by decide)) (by decide)) (by decide)
  refine zok_if (fun q5 => ?_) (fun q5 => ?_)
  · have h6 := zc_lel (262655) q5 (rC_0 hσ.sg _ (by decide)) (zr_add (lo := 0) (hi := 262655) h_x1 h3 (by decide)) (by decide)
    exact zok_pau hσ (s_X2_changeTape_52 hσ.P)
  have h7 := zc_ltr (1) (z_nle q5) (zr_add (lo := 0) (hi := 262655) h_x1 h3 (by decide)) (rC_0 hσ.sg _ (by decide)) (by decide)
  refine zok_ck (zin_ok (zr_add (lo := 0) (hi := 262655) h_x1 h3 (by decide)) (by decide)) ?_
  refine zok_bs (hσ.tp (zr_andr (lo := 0) (hi := 255) (zr_c (lo := 255) (hi := 255) (by decide)) (by decide)) (by decide)) (fun σ1 e9 i8 => ?_)
  refine zok_br (zr_add (lo := 1) (hi := 8) h3 (zr_c (lo := 1) (hi := 1) (by decide)) (by decide)) (fun v2 e11 h10 => ?_)
  exact hk3 _ _ _ _ i8 h_x1 (zr_w h10 (by decide)) (by rw [e11]; have := z_tadd (y := (1 : Int32)) h3 (zr_c (lo := 1) (hi := 1) (by decide)) (by decide); have e9 : (1 : Int32).toInt = 1 := rfl; omega) 
theorem s_X2_changeTape_3 {G : Nat → Int} : ∀ (n : Nat) {σ : zSt} (hσ : zIC G σ) {x1 : Int32} (h_x1 : zr (0) (262648) x1) {x2 : Int64} {x4 : Int32} (h_x4 : zr (0) (8) x4) (hm : (8) - x4.toInt < n), zok (fX2_changeTape_3 n σ x1 x2 x4) (zIC G) := by
  intro n
  induction n with
  | zero => intro σ hσ x1 h_x1 x2 x4 h_x4 hm ; have h9 := h_x4.1; have h8 := h_x4.2; exfalso; omega
  | succ n ih => intro σ hσ x1 h_x1 x2 x4 h_x4 hm ; exact s_X2_changeTape_3_body (fun σ x1 x2 x4 hσ h_x1 h_x4 hm1 => ih hσ h_x1 h_x4 (by omega)) hσ h_x1 h_x4 (Int.le_refl _)
theorem s_X2_changeTape {G : Nat → Int} {σ : zSt} (hσ : zIC G σ) {x1 : Int32} (h_x1 : zr (0) (262648) x1) {x2 : Int64} : zok (fX2_changeTape σ x1 x2) (zIC G) := by
  unfold fX2_changeTape
  exact (s_X2_changeTape_3 zfuel hσ h_x1 (zr_w (zr_c (lo := 0) (hi := 0) (by decide)) (by decide)) (by decide))
theorem s_X2_romByte_29 {σ : zSt} (hσ : zPC σ) {s0 : Int32} (h_s0 : zr (0) (255) s0) : zok (fX2_romByte_29 σ s0) (zPi σ (fun v : Int32 => zr (0) (255) v)) := by
  unfold fX2_romByte_29
  exact zok_spi h_s0
theorem s_X2_romByte_26 {σ : zSt} (hσ : zPC σ) : zok (fX2_romByte_26 σ ) (zPi σ (fun v : Int32 => zr (0) (255) v)) := by
  unfold fX2_romByte_26
  exact (s_X2_romByte_29 hσ (zr_w (zr_c (lo := 255) (hi := 255) (by decide)) (by decide)))
theorem s_X2_romByte {σ : zSt} (hσ : zPC σ) {x1 : Int32} (h_x1 : zr (0) (262143) x1) : zok (fX2_romByte σ x1) (zPi σ (fun v : Int32 => zr (0) (255) v)) := by
  unfold fX2_romByte
  refine zok_if (fun q1 => ?_) (fun q1 => ?_)
  · exact zr_no (zc_ltl (-1) q1 h_x1 (zr_c (lo := 0) (hi := 0) (by decide)) (by decide)) (by decide)
  refine zok_if (fun q2 => ?_) (fun q2 => ?_)
  · have h3 := zc_lel (262143) q2 (rC_2 hσ.sg _ (by decide)) h_x1 (by decide)
    exact (s_X2_romByte_26 hσ)
  have h4 := zc_ltr (1) (z_nle q2) h_x1 (rC_2 hσ.sg _ (by decide)) (by decide)
  refine zok_ck (zin_ok (zr_add (lo := 0) (hi := 262655) (rC_1 hσ.sg _ (by decide)) h_x1 (by decide)) (by decide)) ?_
  exact (s_X2_romByte_29 hσ (rC_tp hσ.sg _ (z_ixlt (zr_add (lo := 0) (hi := 262655) (rC_1 hσ.sg _ (by decide)) h_x1 (by decide)) (by decide))))
theorem s_X2_findHeader_84 {σ : zSt} {k9 : zSt → Int32 → Int32 → Option (zSt × Int32)} {Mk9 : Int} (hk9 : ∀ (x2 : Int32) (x3 : Int32), zr (3) (3) x2 → zr (0) (3) x3 → (3) - x3.toInt < Mk9 → zok (k9 σ x2 x3) (zPi σ (fun v : Int32 => zr (-1) (32752) v))) (hσ : zPC σ) {x2 : Int32} (h_x2 : zr (3) (3) x2) {x3 : Int32} (h_x3 : zr (0) (2) x3) {x4 : Int32} (h_x4 : zr (0) (32752) x4) {x5 : Int32} (h_x5 : zr (0) (1) x5) (hMk9 : (3) - x3.toInt ≤ Mk9) : zok (fX2_findHeader_84 k9 σ x2 x3 x4 x5) (zPi σ (fun v : Int32 => zr (-1) (32752) v)) := by
  unfold fX2_findHeader_84
  refine zok_if (fun q1 => ?_) (fun q1 => ?_)
  · have h2 := zc_eql (0) (0) q1 h_x5 (zr_c (lo := 0) (hi := 0) (by decide)) (by decide)
    refine zok_br (zr_add (lo := 1) (hi := 3) h_x3 (zr_c (lo := 1) (hi := 1) (by decide)) (by decide)) (fun v1 e4 h3 => ?_)
    exact hk9 _ _  h_x2 (zr_w h3 (by decide)) (by rw [e4]; have := z_tadd (y := (1 : Int32)) h_x3 (zr_c (lo := 1) (hi := 1) (by decide)) (by decide); have e9 : (1 : Int32).toInt = 1 := rfl; omega) 
  have h5 := zc_nel (1) (1) q1 h_x5 (zr_c (lo := 0) (hi := 0) (by decide)) (by decide)
  exact zok_spi (zr_w h_x4 (by decide))
theorem s_X2_findHeader_76 {σ : zSt} {k9 : zSt → Int32 → Int32 → Option (zSt × Int32)} {Mk9 : Int} (hk9 : ∀ (x2 : Int32) (x3 : Int32), zr (3) (3) x2 → zr (0) (3) x3 → (3) - x3.toInt < Mk9 → zok (k9 σ x2 x3) (zPi σ (fun v : Int32 => zr (-1) (32752) v))) {k41 : zSt → Int32 → Int32 → Int32 → Int32 → Int32 → Option (zSt × Int32)} {Mk41 : Int} (hk41 : ∀ (x2 : Int32) (x3 : Int32) (x4 : Int32) (x5 : Int32) (x6 : Int32), zr (3) (3) x2 → zr (0) (2) x3 → zr (0) (32752) x4 → zr (0) (1) x5 → zr (0) (8) x6 → (8) - x6.toInt < Mk41 → (3) - x3.toInt ≤ Mk9 → zok (k41 σ x2 x3 x4 x5 x6) (zPi σ (fun v : Int32 => zr (-1) (32752) v))) (hσ : zPC σ) {x2 : Int32} (h_x2 : zr (3) (3) x2) {x3 : Int32} (h_x3 : zr (0) (2) x3) {x4 : Int32} (h_x4 : zr (0) (32752) x4) {x6 : Int32} (h_x6 : zr (0) (7) x6) {s0 : Int32} (h_s0 : zr (0) (1) s0) (hMk9 : (3) - x3.toInt ≤ Mk9) (hMk41 : (8) - x6.toInt ≤ Mk41) : zok (fX2_findHeader_76 k9 k41 σ x2 x3 x4 x6 s0) (zPi σ (fun v : Int32 => zr (-1) (32752) v)) := by
  unfold fX2_findHeader_76
  refine zok_br (zr_add (lo := 1) (hi := 8) h_x6 (zr_c (lo := 1) (hi := 1) (by decide)) (by decide)) (fun v2 e2 h1 => ?_)
  exact hk41 _ _ _ _ _  h_x2 h_x3 h_x4 h_s0 (zr_w h1 (by decide)) (by rw [e2]; have := z_tadd (y := (1 : Int32)) h_x6 (zr_c (lo := 1) (hi := 1) (by decide)) (by decide); have e9 : (1 : Int32).toInt = 1 := rfl; omega) hMk9
theorem s_X2_findHeader_41_body {σ : zSt} {k9 : zSt → Int32 → Int32 → Option (zSt × Int32)} {Mk9 : Int} (hk9 : ∀ (x2 : Int32) (x3 : Int32), zr (3) (3) x2 → zr (0) (3) x3 → (3) - x3.toInt < Mk9 → zok (k9 σ x2 x3) (zPi σ (fun v : Int32 => zr (-1) (32752) v))) {k41 : zSt → Int32 → Int32 → Int32 → Int32 → Int32 → Option (zSt × Int32)} {Mk41 : Int} (hk41 : ∀ (x2 : Int32) (x3 : Int32) (x4 : Int32) (x5 : Int32) (x6 : Int32), zr (3) (3) x2 → zr (0) (2) x3 → zr (0) (32752) x4 → zr (0) (1) x5 → zr (0) (8) x6 → (8) - x6.toInt < Mk41 → (3) - x3.toInt ≤ Mk9 → zok (k41 σ x2 x3 x4 x5 x6) (zPi σ (fun v : Int32 => zr (-1) (32752) v))) (hσ : zPC σ) {x2 : Int32} (h_x2 : zr (3) (3) x2) {x3 : Int32} (h_x3 : zr (0) (2) x3) {x4 : Int32} (h_x4 : zr (0) (32752) x4) {x5 : Int32} (h_x5 : zr (0) (1) x5) {x6 : Int32} (h_x6 : zr (0) (8) x6) (hMk9 : (3) - x3.toInt ≤ Mk9) (hMk41 : (8) - x6.toInt ≤ Mk41) : zok (fX2_findHeader_41_body k9 k41 σ x2 x3 x4 x5 x6) (zPi σ (fun v : Int32 => zr (-1) (32752) v)) := by
  unfold fX2_findHeader_41_body
  refine zok_if (fun q1 => ?_) (fun q1 => ?_)
  · have h2 := zc_ler (8) q1 (zr_c (lo := 8) (hi := 8) (by decide)) h_x6 (by decide)
    exact (s_X2_findHeader_84 hk9 hσ h_x2 h_x3 h_x4 h_x5 hMk9)
  have h3 := zc_ltl (7) (z_nle q1) h_x6 (zr_c (lo := 8) (hi := 8) (by decide)) (by decide)
  refine zok_if (fun q4 => ?_) (fun q4 => ?_)
  · have h5 := zc_eql (0) (0) q4 h_x5 (zr_c (lo := 0) (hi := 0) (by decide)) (by decide)
    exact (s_X2_findHeader_84 hk9 hσ h_x2 h_x3 h_x4 (zr_w h5 (by decide)) hMk9)
  have h6 := zc_nel (1) (1) q4 h_x5 (zr_c (lo := 0) (hi := 0) (by decide)) (by decide)
  refine zok_pi (s_X2_romByte hσ (zr_w (zr_add (lo := 0) (hi := 32759) h_x4 h3 (by decide)) (by decide))) (fun v4 h7 => ?_)
  refine zok_ck (zin_ok h3 (by decide)) ?_
  refine zok_if (fun q8 => ?_) (fun q8 => ?_)
  · have h9 := zc_eqr (0) (255) q8 h7 zr_any (by decide)
    exact (s_X2_findHeader_76 hk9 hk41 hσ h_x2 h_x3 h_x4 h3 (zr_w (zr_c (lo := 1) (hi := 1) (by decide)) (by decide)) hMk9 hMk41)
  exact (s_X2_findHeader_76 hk9 hk41 hσ h_x2 h_x3 h_x4 h3 (zr_w (zr_c (lo := 0) (hi := 0) (by decide)) (by decide)) hMk9 hMk41)
theorem s_X2_findHeader_41 {σ : zSt} (hσ : zPC σ) {k9 : zSt → Int32 → Int32 → Option (zSt × Int32)} {Mk9 : Int} (hk9 : ∀ (x2 : Int32) (x3 : Int32), zr (3) (3) x2 → zr (0) (3) x3 → (3) - x3.toInt < Mk9 → zok (k9 σ x2 x3) (zPi σ (fun v : Int32 => zr (-1) (32752) v))) : ∀ (n : Nat) {x2 : Int32} (h_x2 : zr (3) (3) x2) {x3 : Int32} (h_x3 : zr (0) (2) x3) {x4 : Int32} (h_x4 : zr (0) (32752) x4) {x5 : Int32} (h_x5 : zr (0) (1) x5) {x6 : Int32} (h_x6 : zr (0) (8) x6) (hm : (8) - x6.toInt < n) (hMk9 : (3) - x3.toInt ≤ Mk9), zok (fX2_findHeader_41 k9 n σ x2 x3 x4 x5 x6) (zPi σ (fun v : Int32 => zr (-1) (32752) v)) := by
  intro n
  induction n with
  | zero => intro x2 h_x2 x3 h_x3 x4 h_x4 x5 h_x5 x6 h_x6 hm hMk9; have h9 := h_x6.1; have h8 := h_x6.2; exfalso; omega
  | succ n ih => intro x2 h_x2 x3 h_x3 x4 h_x4 x5 h_x5 x6 h_x6 hm hMk9; exact s_X2_findHeader_41_body hk9 (fun x2 x3 x4 x5 x6 h_x2 h_x3 h_x4 h_x5 h_x6 hm1 hMk9 => ih h_x2 h_x3 h_x4 h_x5 h_x6 (by omega) hMk9) hσ h_x2 h_x3 h_x4 h_x5 h_x6 hMk9 (Int.le_refl _)
theorem s_X2_findHeader_36 {σ : zSt} {k9 : zSt → Int32 → Int32 → Option (zSt × Int32)} {Mk9 : Int} (hk9 : ∀ (x2 : Int32) (x3 : Int32), zr (3) (3) x2 → zr (0) (3) x3 → (3) - x3.toInt < Mk9 → zok (k9 σ x2 x3) (zPi σ (fun v : Int32 => zr (-1) (32752) v))) (hσ : zPC σ) {x2 : Int32} (h_x2 : zr (3) (3) x2) {x3 : Int32} (h_x3 : zr (0) (2) x3) {x4 : Int32} (h_x4 : zr (0) (32752) x4) {s0 : Int32} (h_s0 : zr (0) (1) s0) (hMk9 : (3) - x3.toInt ≤ Mk9) : zok (fX2_findHeader_36 k9 σ x2 x3 x4 s0) (zPi σ (fun v : Int32 => zr (-1) (32752) v)) := by
  unfold fX2_findHeader_36
  exact (s_X2_findHeader_41 hσ hk9 zfuel h_x2 h_x3 h_x4 h_s0 (zr_w (zr_c (lo := 0) (hi := 0) (by decide)) (by decide)) (by decide) hMk9)
theorem s_X2_findHeader_9_body {σ : zSt} {k9 : zSt → Int32 → Int32 → Option (zSt × Int32)} {Mk9 : Int} (hk9 : ∀ (x2 : Int32) (x3 : Int32), zr (3) (3) x2 → zr (0) (3) x3 → (3) - x3.toInt < Mk9 → zok (k9 σ x2 x3) (zPi σ (fun v : Int32 => zr (-1) (32752) v))) (hσ : zPC σ) {x2 : Int32} (h_x2 : zr (3) (3) x2) {x3 : Int32} (h_x3 : zr (0) (3) x3) (hMk9 : (3) - x3.toInt ≤ Mk9) : zok (fX2_findHeader_9_body k9 σ x2 x3) (zPi σ (fun v : Int32 => zr (-1) (32752) v)) := by
  unfold fX2_findHeader_9_body
  refine zok_if (fun q1 => ?_) (fun q1 => ?_)
  · have h2 := zc_ler (3) q1 h_x2 h_x3 (by decide)
    exact zok_spi (zr_w (zr_c (lo := -1) (hi := -1) (by decide)) (by decide))
  have h3 := zc_ltl (2) (z_nle q1) h_x3 h_x2 (by decide)
  refine zok_ck (zin_ok h3 (by decide)) ?_
  refine zok_br (zt1_r _) (fun v5 e5 h4 => ?_)
  refine zok_if (fun q6 => ?_) (fun q6 => ?_)
  · have h7 := zc_ltl (32767) q6 (rC_2 hσ.sg _ (by decide)) (zr_add (lo := 16) (hi := 32768) h4 (zr_c (lo := 16) (hi := 16) (by decide)) (by decide)) (by decide)
    exact (s_X2_findHeader_36 hk9 hσ h_x2 h3 h4 (zr_w (zr_c (lo := 0) (hi := 0) (by decide)) (by decide)) hMk9)
  have h8 := zc_ler (16) (z_nlt q6) (zr_add (lo := 16) (hi := 32768) h4 (zr_c (lo := 16) (hi := 16) (by decide)) (by decide)) (rC_2 hσ.sg _ (by decide)) (by decide)
  exact (s_X2_findHeader_36 hk9 hσ h_x2 h3 h4 (zr_w (zr_c (lo := 1) (hi := 1) (by decide)) (by decide)) hMk9)
theorem s_X2_findHeader_9 {σ : zSt} (hσ : zPC σ) : ∀ (n : Nat) {x2 : Int32} (h_x2 : zr (3) (3) x2) {x3 : Int32} (h_x3 : zr (0) (3) x3) (hm : (3) - x3.toInt < n), zok (fX2_findHeader_9 n σ x2 x3) (zPi σ (fun v : Int32 => zr (-1) (32752) v)) := by
  intro n
  induction n with
  | zero => intro x2 h_x2 x3 h_x3 hm ; have h9 := h_x3.1; have h8 := h_x3.2; exfalso; omega
  | succ n ih => intro x2 h_x2 x3 h_x3 hm ; exact s_X2_findHeader_9_body (fun x2 x3 h_x2 h_x3 hm1 => ih h_x2 h_x3 (by omega)) hσ h_x2 h_x3 (Int.le_refl _)
theorem s_X2_findHeader {σ : zSt} (hσ : zPC σ) : zok (fX2_findHeader σ ) (zPi σ (fun v : Int32 => zr (-1) (32752) v)) := by
  unfold fX2_findHeader
  exact (s_X2_findHeader_9 hσ zfuel (zr_c (lo := 3) (hi := 3) (by decide)) (zr_w (zr_c (lo := 0) (hi := 0) (by decide)) (by decide)) (by decide))
theorem s_X2_romWord {σ : zSt} (hσ : zPC σ) {x1 : Int32} (h_x1 : zr (9) (32762) x1) : zok (fX2_romWord σ x1) (zPi σ (fun v : Int32 => zr (0) (65535) v)) := by
  unfold fX2_romWord
  refine zok_pi (s_X2_romByte hσ (zr_w h_x1 (by decide))) (fun v2 h1 => ?_)
  refine zok_pi (s_X2_romByte hσ (zr_w (zr_add (lo := 10) (hi := 32763) h_x1 (zr_c (lo := 1) (hi := 1) (by decide)) (by decide)) (by decide))) (fun v4 h2 => ?_)
  exact zok_spi (zr_add (lo := 0) (hi := 65535) h1 (zr_mul (lo := 0) (hi := 65280) (zr_c (lo := 256) (hi := 256) (by decide)) h2 (by decide)) (by decide))
theorem s_X2_findPaging_45 {σ : zSt} (hσ : zPC σ) {s0 : Int32} (h_s0 : zr (1) (3) s0) : zok (fX2_findPaging_45 σ s0) (zPi σ (fun v : Int32 => zr (0) (3) v)) := by
  unfold fX2_findPaging_45
  exact zok_spi (zr_w h_s0 (by decide))
theorem s_X2_findPaging {σ : zSt} (hσ : zPC σ) : zok (fX2_findPaging σ ) (zPi σ (fun v : Int32 => zr (0) (3) v)) := by
  unfold fX2_findPaging
  refine zok_if (fun q1 => ?_) (fun q1 => ?_)
  · have h2 := zc_ltr (49153) q1 (zr_c (lo := 49152) (hi := 49152) (by decide)) (rC_2 hσ.sg _ (by decide)) (by decide)
    refine zok_pi (s_X2_romWord hσ (zr_w (zr_c (lo := 32742) (hi := 32742) (by decide)) (by decide))) (fun v2 h3 => ?_)
    refine zok_pi (s_X2_romWord hσ (zr_w (zr_c (lo := 32744) (hi := 32744) (by decide)) (by decide))) (fun v4 h4 => ?_)
    refine zok_if (fun q5 => ?_) (fun q5 => ?_)
    · have h6 := zc_eql (65536) (65536) q5 (zr_add (lo := 0) (hi := 131070) h3 h4 (by decide)) (zr_c (lo := 65536) (hi := 65536) (by decide)) (by decide)
      exact zok_spi (zr_w (zr_c (lo := 2) (hi := 2) (by decide)) (by decide))
    refine zok_if (fun q7 => ?_) (fun q7 => ?_)
    · have h8 := zc_ler (0) q7 (zr_c (lo := 0) (hi := 0) (by decide)) (rC_4 hσ.sg _ (by decide)) (by decide)
      exact (s_X2_findPaging_45 hσ (zr_w (zr_c (lo := 1) (hi := 1) (by decide)) (by decide)))
    have h9 := zc_ltl (-1) (z_nle q7) (rC_4 hσ.sg _ (by decide)) (zr_c (lo := 0) (hi := 0) (by decide)) (by decide)
    exact (s_X2_findPaging_45 hσ (zr_w (zr_c (lo := 3) (hi := 3) (by decide)) (by decide)))
  have h10 := zc_lel (49152) (z_nlt q1) (rC_2 hσ.sg _ (by decide)) (zr_c (lo := 49152) (hi := 49152) (by decide)) (by decide)
  exact zok_spi (zr_w (zr_c (lo := 0) (hi := 0) (by decide)) (by decide))
theorem s_X2_sumOfCard_77 {σ : zSt} (hσ : zPC σ) {x2 : Int32} : zok (fX2_sumOfCard_77 σ x2) (zPi σ (fun v : Int32 => zr (0) (65535) v)) := by
  unfold fX2_sumOfCard_77
  exact zok_spi (zr_andr (lo := 0) (hi := 65535) (zr_c (lo := 65535) (hi := 65535) (by decide)) (by decide))
theorem s_X2_sumOfCard_55_body {σ : zSt} {k55 : zSt → Int32 → Int32 → Option (zSt × Int32)} {Mk55 : Int} (hk55 : ∀ (x2 : Int32) (x3 : Int32), zr (32768) (262144) x3 → (262144) - x3.toInt < Mk55 → zok (k55 σ x2 x3) (zPi σ (fun v : Int32 => zr (0) (65535) v))) (hσ : zPC σ) {x2 : Int32} {x3 : Int32} (h_x3 : zr (32768) (262144) x3) (hMk55 : (262144) - x3.toInt ≤ Mk55) : zok (fX2_sumOfCard_55_body k55 σ x2 x3) (zPi σ (fun v : Int32 => zr (0) (65535) v)) := by
  unfold fX2_sumOfCard_55_body
  refine zok_if (fun q1 => ?_) (fun q1 => ?_)
  · exact (s_X2_sumOfCard_77 hσ)
  have h2 := zc_ltl (262143) (z_nle q1) h_x3 (rC_2 hσ.sg _ (by decide)) (by decide)
  have h3 := zc_ltr (32769) (z_nle q1) h_x3 (rC_2 hσ.sg _ (by decide)) (by decide)
  refine zok_pi (s_X2_romByte hσ (zr_w h2 (by decide))) (fun v2 h4 => ?_)
  refine zok_bv (fun v3 e6 => ?_)
  refine zok_br (zr_add (lo := 32769) (hi := 262144) h2 (zr_c (lo := 1) (hi := 1) (by decide)) (by decide)) (fun v4 e8 h7 => ?_)
  exact hk55 _ _  (zr_w h7 (by decide)) (by rw [e8]; have := z_tadd (y := (1 : Int32)) h2 (zr_c (lo := 1) (hi := 1) (by decide)) (by decide); have e9 : (1 : Int32).toInt = 1 := rfl; omega) 
theorem s_X2_sumOfCard_55 {σ : zSt} (hσ : zPC σ) : ∀ (n : Nat) {x2 : Int32} {x3 : Int32} (h_x3 : zr (32768) (262144) x3) (hm : (262144) - x3.toInt < n), zok (fX2_sumOfCard_55 n σ x2 x3) (zPi σ (fun v : Int32 => zr (0) (65535) v)) := by
  intro n
  induction n with
  | zero => intro x2 x3 h_x3 hm ; have h9 := h_x3.1; have h8 := h_x3.2; exfalso; omega
  | succ n ih => intro x2 x3 h_x3 hm ; exact s_X2_sumOfCard_55_body (fun x2 x3 h_x3 hm1 => ih h_x3 (by omega)) hσ h_x3 (Int.le_refl _)
theorem s_X2_sumOfCard_52 {σ : zSt} (hσ : zPC σ) {x2 : Int32} : zok (fX2_sumOfCard_52 σ x2) (zPi σ (fun v : Int32 => zr (0) (65535) v)) := by
  unfold fX2_sumOfCard_52
  exact (s_X2_sumOfCard_55 hσ zfuel (zr_w (zr_c (lo := 32768) (hi := 32768) (by decide)) (by decide)) (by decide))
theorem s_X2_sumOfCard_19_body {σ : zSt} {k19 : zSt → Int32 → Int32 → Int32 → Option (zSt × Int32)} {Mk19 : Int} (hk19 : ∀ (x1 : Int32) (x2 : Int32) (x3 : Int32), zr (0) (15) x1 → zr (0) (32752) x3 → (32752) - x3.toInt < Mk19 → zok (k19 σ x1 x2 x3) (zPi σ (fun v : Int32 => zr (0) (65535) v))) (hσ : zPC σ) {x1 : Int32} (h_x1 : zr (0) (15) x1) {x2 : Int32} {x3 : Int32} (h_x3 : zr (0) (32752) x3) (hMk19 : (32752) - x3.toInt ≤ Mk19) : zok (fX2_sumOfCard_19_body k19 σ x1 x2 x3) (zPi σ (fun v : Int32 => zr (0) (65535) v)) := by
  unfold fX2_sumOfCard_19_body
  refine zok_if (fun q1 => ?_) (fun q1 => ?_)
  · refine zok_if (fun q2 => ?_) (fun q2 => ?_)
    · have h3 := zc_ler (14) q2 (zr_c (lo := 14) (hi := 14) (by decide)) h_x1 (by decide)
      exact (s_X2_sumOfCard_52 hσ)
    have h4 := zc_ltl (13) (z_nle q2) h_x1 (zr_c (lo := 14) (hi := 14) (by decide)) (by decide)
    refine zok_if (fun q5 => ?_) (fun q5 => ?_)
    · have h6 := zc_ltr (3) q5 (zr_c (lo := 2) (hi := 2) (by decide)) h4 (by decide)
      exact (s_X2_sumOfCard_77 hσ)
    have h7 := zc_lel (2) (z_nlt q5) h4 (zr_c (lo := 2) (hi := 2) (by decide)) (by decide)
    exact (s_X2_sumOfCard_52 hσ)
  have h8 := zc_ltl (32751) (z_nle q1) h_x3 (rC_4 hσ.sg _ (by decide)) (by decide)
  have h9 := zc_ltr (1) (z_nle q1) h_x3 (rC_4 hσ.sg _ (by decide)) (by decide)
  refine zok_pi (s_X2_romByte hσ (zr_w h8 (by decide))) (fun v6 h10 => ?_)
  refine zok_bv (fun v7 e12 => ?_)
  refine zok_br (zr_add (lo := 1) (hi := 32752) h8 (zr_c (lo := 1) (hi := 1) (by decide)) (by decide)) (fun v8 e14 h13 => ?_)
  exact hk19 _ _ _  h_x1 (zr_w h13 (by decide)) (by rw [e14]; have := z_tadd (y := (1 : Int32)) h8 (zr_c (lo := 1) (hi := 1) (by decide)) (by decide); have e9 : (1 : Int32).toInt = 1 := rfl; omega) 
theorem s_X2_sumOfCard_19 {σ : zSt} (hσ : zPC σ) : ∀ (n : Nat) {x1 : Int32} (h_x1 : zr (0) (15) x1) {x2 : Int32} {x3 : Int32} (h_x3 : zr (0) (32752) x3) (hm : (32752) - x3.toInt < n), zok (fX2_sumOfCard_19 n σ x1 x2 x3) (zPi σ (fun v : Int32 => zr (0) (65535) v)) := by
  intro n
  induction n with
  | zero => intro x1 h_x1 x2 x3 h_x3 hm ; have h9 := h_x3.1; have h8 := h_x3.2; exfalso; omega
  | succ n ih => intro x1 h_x1 x2 x3 h_x3 hm ; exact s_X2_sumOfCard_19_body (fun x1 x2 x3 h_x1 h_x3 hm1 => ih h_x1 h_x3 (by omega)) hσ h_x1 h_x3 (Int.le_refl _)
theorem s_X2_sumOfCard {σ : zSt} (hσ : zPC σ) : zok (fX2_sumOfCard σ ) (zPi σ (fun v : Int32 => zr (0) (65535) v)) := by
  unfold fX2_sumOfCard
  refine zok_pi (s_X2_romByte hσ (zr_w (zr_add (lo := 14) (hi := 32767) (rC_4 hσ.sg _ (by decide)) (zr_c (lo := 15) (hi := 15) (by decide)) (by decide)) (by decide))) (fun v10 h1 => ?_)
  refine zok_br (zr_andr (lo := 0) (hi := 15) (zr_c (lo := 15) (hi := 15) (by decide)) (by decide)) (fun v11 e3 h2 => ?_)
  exact (s_X2_sumOfCard_19 hσ zfuel h2 (zr_w (zr_c (lo := 0) (hi := 0) (by decide)) (by decide)) (by decide))
theorem s_X2_decimal {σ : zSt} (hσ : zPC σ) {x1 : Int32} (h_x1 : zr (12) (13) x1) : zok (fX2_decimal σ x1) (zPi σ (fun v : Int32 => zr (0) (165) v)) := by
  unfold fX2_decimal
  refine zok_pi (s_X2_romByte hσ (zr_w (zr_add (lo := 11) (hi := 32765) (rC_4 hσ.sg _ (by decide)) h_x1 (by decide)) (by decide))) (fun v2 h1 => ?_)
  exact zok_spi (zr_add (lo := 0) (hi := 165) (zr_mul (lo := 0) (hi := 150) (zr_c (lo := 10) (hi := 10) (by decide)) (zr_shr (lo := 0) (hi := 15) 4 (by decide) h1 (by decide)) (by decide)) (zr_andr (lo := 0) (hi := 15) (zr_c (lo := 15) (hi := 15) (by decide)) (by decide)) (by decide))
theorem s_X2_aboutCard_14 {σ : zSt} (hσ : zPC σ) {x1 : Int32} (h_x1 : zr (0) (7) x1) : zok (fX2_aboutCard_14 σ x1) (zPi σ (fun v : Int32 => True)) := by
  unfold fX2_aboutCard_14
  refine zok_if (fun q1 => ?_) (fun q1 => ?_)
  · have h2 := zc_eql (0) (0) q1 h_x1 (zr_c (lo := 0) (hi := 0) (by decide)) (by decide)
    exact zok_spi trivial
  have h3 := zc_nel (1) (7) q1 h_x1 (zr_c (lo := 0) (hi := 0) (by decide)) (by decide)
  refine zok_if (fun q4 => ?_) (fun q4 => ?_)
  · have h5 := zc_eql (1) (1) q4 h3 (zr_c (lo := 1) (hi := 1) (by decide)) (by decide)
    exact zok_spi trivial
  have h6 := zc_nel (2) (7) q4 h3 (zr_c (lo := 1) (hi := 1) (by decide)) (by decide)
  refine zok_if (fun q7 => ?_) (fun q7 => ?_)
  · have h8 := zc_eql (2) (2) q7 h6 (zr_c (lo := 2) (hi := 2) (by decide)) (by decide)
    exact zok_spi trivial
  have h9 := zc_nel (3) (7) q7 h6 (zr_c (lo := 2) (hi := 2) (by decide)) (by decide)
  refine zok_if (fun q10 => ?_) (fun q10 => ?_)
  · have h11 := zc_eql (3) (3) q10 h9 (zr_c (lo := 3) (hi := 3) (by decide)) (by decide)
    refine zok_pi (s_X2_decimal hσ (zr_w (zr_c (lo := 12) (hi := 12) (by decide)) (by decide))) (fun v2 h12 => ?_)
    refine zok_pi (s_X2_decimal hσ (zr_w (zr_c (lo := 13) (hi := 13) (by decide)) (by decide))) (fun v4 h13 => ?_)
    refine zok_pi (s_X2_romByte hσ (zr_w (zr_add (lo := 13) (hi := 32766) (rC_4 hσ.sg _ (by decide)) (zr_c (lo := 14) (hi := 14) (by decide)) (by decide)) (by decide))) (fun v6 h14 => ?_)
    exact zok_spi trivial
  have h15 := zc_nel (4) (7) q10 h9 (zr_c (lo := 3) (hi := 3) (by decide)) (by decide)
  refine zok_if (fun q16 => ?_) (fun q16 => ?_)
  · have h17 := zc_eql (4) (4) q16 h15 (zr_c (lo := 4) (hi := 4) (by decide)) (by decide)
    refine zok_pi (s_X2_romByte hσ (zr_w (zr_add (lo := 14) (hi := 32767) (rC_4 hσ.sg _ (by decide)) (zr_c (lo := 15) (hi := 15) (by decide)) (by decide)) (by decide))) (fun v8 h18 => ?_)
    exact zok_spi trivial
  have h19 := zc_nel (5) (7) q16 h15 (zr_c (lo := 4) (hi := 4) (by decide)) (by decide)
  refine zok_if (fun q20 => ?_) (fun q20 => ?_)
  · have h21 := zc_eql (5) (5) q20 h19 (zr_c (lo := 5) (hi := 5) (by decide)) (by decide)
    refine zok_pi (s_X2_romByte hσ (zr_w (zr_add (lo := 14) (hi := 32767) (rC_4 hσ.sg _ (by decide)) (zr_c (lo := 15) (hi := 15) (by decide)) (by decide)) (by decide))) (fun v10 h22 => ?_)
    exact zok_spi trivial
  have h23 := zc_nel (6) (7) q20 h19 (zr_c (lo := 5) (hi := 5) (by decide)) (by decide)
  refine zok_if (fun q24 => ?_) (fun q24 => ?_)
  · have h25 := zc_eql (6) (6) q24 h23 (zr_c (lo := 6) (hi := 6) (by decide)) (by decide)
    refine zok_pi (s_X2_romWord hσ (zr_add (lo := 9) (hi := 32762) (rC_4 hσ.sg _ (by decide)) (zr_c (lo := 10) (hi := 10) (by decide)) (by decide))) (fun v12 h26 => ?_)
    exact zok_spi trivial
  have h27 := zc_nel (7) (7) q24 h23 (zr_c (lo := 6) (hi := 6) (by decide)) (by decide)
  refine zok_pi (s_X2_sumOfCard hσ) (fun v14 h28 => ?_)
  exact zok_spi trivial
theorem s_X2_aboutCard {σ : zSt} (hσ : zPC σ) {x1 : Int32} (h_x1 : zr (0) (7) x1) : zok (fX2_aboutCard σ x1) (zPi σ (fun v : Int32 => True)) := by
  unfold fX2_aboutCard
  refine zok_if (fun q1 => ?_) (fun q1 => ?_)
  · have h2 := zc_ltl (2) q1 h_x1 (zr_c (lo := 3) (hi := 3) (by decide)) (by decide)
    exact (s_X2_aboutCard_14 hσ (zr_w h2 (by decide)))
  have h3 := zc_ler (3) (z_nlt q1) (zr_c (lo := 3) (hi := 3) (by decide)) h_x1 (by decide)
  refine zok_if (fun q4 => ?_) (fun q4 => ?_)
  · have h5 := zc_ler (0) q4 (zr_c (lo := 0) (hi := 0) (by decide)) (rC_4 hσ.sg _ (by decide)) (by decide)
    exact (s_X2_aboutCard_14 hσ (zr_w h3 (by decide)))
  have h6 := zc_ltl (-1) (z_nle q4) (rC_4 hσ.sg _ (by decide)) (zr_c (lo := 0) (hi := 0) (by decide)) (by decide)
  exact zok_spi trivial
theorem s_X2_cardSize {σ : zSt} (hσ : zPC σ) : zok (fX2_cardSize σ ) (zPi σ (fun v : Int32 => zr (0) (262144) v)) := by
  unfold fX2_cardSize
  exact zok_spi (rC_2 hσ.sg _ (by decide))
theorem s_X2_page {σ : zSt} (hσ : zPC σ) {x1 : Int32} (h_x1 : zr (0) (3) x1) : zok (fX2_page σ x1) (zPi σ (fun v : Int32 => zr (0) (255) v)) := by
  unfold fX2_page
  refine zok_ck (zin_ok (zr_andr (lo := 0) (hi := 3) (zr_c (lo := 3) (hi := 3) (by decide)) (by decide)) (by decide)) ?_
  exact zok_spi (rC_17 hσ.sg _ (z_ix (zr_andr (lo := 0) (hi := 3) (zr_c (lo := 3) (hi := 3) (by decide)) (by decide)) (by decide)))
theorem s_X2_batteryIsIn_25 {σ : zSt} (hσ : zPC σ) {s0 : Int32} (h_s0 : zr (0) (1) s0) : zok (fX2_batteryIsIn_25 σ s0) (zPi σ (fun v : Int32 => zr (0) (1) v)) := by
  unfold fX2_batteryIsIn_25
  refine zok_ck (zbo_ok h_s0 (by decide)) ?_
  exact zok_spi h_s0
theorem s_X2_batteryIsIn_24 {σ : zSt} (hσ : zPC σ) : zok (fX2_batteryIsIn_24 σ ) (zPi σ (fun v : Int32 => zr (0) (1) v)) := by
  unfold fX2_batteryIsIn_24
  exact (s_X2_batteryIsIn_25 hσ (zr_w (zr_c (lo := 0) (hi := 0) (by decide)) (by decide)))
theorem s_X2_batteryIsIn {σ : zSt} (hσ : zPC σ) : zok (fX2_batteryIsIn σ ) (zPi σ (fun v : Int32 => zr (0) (1) v)) := by
  unfold fX2_batteryIsIn
  refine zok_if (fun q1 => ?_) (fun q1 => ?_)
  · have h2 := zc_eql (1) (1) q1 zr_any (zr_c (lo := 1) (hi := 1) (by decide)) (by decide)
    refine zok_ck rfl ?_
    refine zok_if (fun q3 => ?_) (fun q3 => ?_)
    · have h4 := zc_eql (0) (0) q3 (zr_andr (lo := 0) (hi := 8) (zr_c (lo := 8) (hi := 8) (by decide)) (by decide)) (zr_c (lo := 0) (hi := 0) (by decide)) (by decide)
      exact (s_X2_batteryIsIn_24 hσ)
    have h5 := zc_nel (1) (8) q3 (zr_andr (lo := 0) (hi := 8) (zr_c (lo := 8) (hi := 8) (by decide)) (by decide)) (zr_c (lo := 0) (hi := 0) (by decide)) (by decide)
    exact (s_X2_batteryIsIn_25 hσ (zr_w (zr_c (lo := 1) (hi := 1) (by decide)) (by decide)))
  exact (s_X2_batteryIsIn_24 hσ)
theorem s_X2_batteryPlace {σ : zSt} (hσ : zPC σ) {x1 : Int32} (h_x1 : zr (32768) (49151) x1) : zok (fX2_batteryPlace σ x1) (zPi σ (fun v : Int32 => zr (0) (32767) v)) := by
  unfold fX2_batteryPlace
  refine zok_ck rfl ?_
  exact zok_spi (zr_add (lo := 0) (hi := 32767) (zr_andr (lo := 0) (hi := 16383) (zr_c (lo := 16383) (hi := 16383) (by decide)) (by decide)) (zr_mul (lo := 0) (hi := 16384) (zr_c (lo := 16384) (hi := 16384) (by decide)) (zr_andr (lo := 0) (hi := 1) (zr_c (lo := 1) (hi := 1) (by decide)) (by decide)) (by decide)) (by decide))
theorem s_X2_read_169 {σ : zSt} (hσ : zPC σ) {s0 : Int32} (h_s0 : zr (0) (255) s0) : zok (fX2_read_169 σ s0) (zPi σ (fun v : Int32 => zr (0) (255) v)) := by
  unfold fX2_read_169
  exact zok_spi h_s0
theorem s_X2_read_144 {σ : zSt} (hσ : zPC σ) {x3 : Int32} (h_x3 : zr (0) (262143) x3) : zok (fX2_read_144 σ x3) (zPi σ (fun v : Int32 => zr (0) (255) v)) := by
  unfold fX2_read_144
  refine zok_if (fun q1 => ?_) (fun q1 => ?_)
  · have h2 := zc_lel (262143) q1 (rC_2 hσ.sg _ (by decide)) h_x3 (by decide)
    exact (s_X2_read_169 hσ (zr_w (zr_c (lo := 255) (hi := 255) (by decide)) (by decide)))
  have h3 := zc_ltr (1) (z_nle q1) h_x3 (rC_2 hσ.sg _ (by decide)) (by decide)
  refine zok_ck (zin_ok (zr_add (lo := 0) (hi := 262655) (rC_1 hσ.sg _ (by decide)) h_x3 (by decide)) (by decide)) ?_
  exact (s_X2_read_169 hσ (rC_tp hσ.sg _ (z_ixlt (zr_add (lo := 0) (hi := 262655) (rC_1 hσ.sg _ (by decide)) h_x3 (by decide)) (by decide))))
theorem s_X2_read_126 {σ : zSt} (hσ : zPC σ) {x2 : Int32} (h_x2 : zr (0) (49151) x2) {x6 : Int32} (h_x6 : zr (0) (255) x6) (c_1_5 : zr (1) (16) (zgi σ 1 5)) : zok (fX2_read_126 σ x2 x6) (zPi σ (fun v : Int32 => zr (0) (255) v)) := by
  unfold fX2_read_126
  refine zok_ck (zdv_ok c_1_5 (by decide)) ?_
  refine zok_br (zr_add (lo := 0) (hi := 262143) (zr_mul (lo := 0) (hi := 245760) (zr_remv (lo := 0) (hi := 15) h_x6 c_1_5 (by decide)) (zr_c (lo := 16384) (hi := 16384) (by decide)) (by decide)) (zr_andr (lo := 0) (hi := 16383) (zr_c (lo := 16383) (hi := 16383) (by decide)) (by decide)) (by decide)) (fun v1 e2 h1 => ?_)
  exact (s_X2_read_144 hσ h1)
theorem s_X2_read_106 {σ : zSt} (hσ : zPC σ) {x2 : Int32} (h_x2 : zr (0) (49151) x2) {s0 : Int32} (h_s0 : zr (0) (255) s0) (c_1_5 : zr (1) (16) (zgi σ 1 5)) : zok (fX2_read_106 σ x2 s0) (zPi σ (fun v : Int32 => zr (0) (255) v)) := by
  unfold fX2_read_106
  refine zok_if (fun q1 => ?_) (fun q1 => ?_)
  · have h2 := zc_eql (1) (1) q1 zr_any (zr_c (lo := 1) (hi := 1) (by decide)) (by decide)
    refine zok_if (fun q3 => ?_) (fun q3 => ?_)
    · have h4 := zc_ler (1024) q3 (zr_c (lo := 1024) (hi := 1024) (by decide)) h_x2 (by decide)
      exact (s_X2_read_126 hσ (zr_w h4 (by decide)) h_s0 c_1_5)
    have h5 := zc_ltl (1023) (z_nle q3) h_x2 (zr_c (lo := 1024) (hi := 1024) (by decide)) (by decide)
    exact (s_X2_read_126 hσ (zr_w h5 (by decide)) (zr_w (zr_c (lo := 0) (hi := 0) (by decide)) (by decide)) c_1_5)
  exact (s_X2_read_126 hσ h_x2 h_s0 c_1_5)
theorem s_X2_read_87 {σ : zSt} (hσ : zPC σ) {x2 : Int32} (h_x2 : zr (0) (49151) x2) {x4 : Int32} (h_x4 : zr (0) (2) x4) {s0 : Int32} (h_s0 : zr (0) (1) s0) (c_1_5 : zr (1) (16) (zgi σ 1 5)) : zok (fX2_read_87 σ x2 x4 s0) (zPi σ (fun v : Int32 => zr (0) (255) v)) := by
  unfold fX2_read_87
  refine zok_if (fun q1 => ?_) (fun q1 => ?_)
  · have h2 := zc_eql (0) (0) q1 h_s0 (zr_c (lo := 0) (hi := 0) (by decide)) (by decide)
    refine zok_ck (zin_ok h_x4 (by decide)) ?_
    exact (s_X2_read_106 hσ h_x2 (rC_17 hσ.sg _ (z_ix h_x4 (by decide))) c_1_5)
  have h3 := zc_nel (1) (1) q1 h_s0 (zr_c (lo := 0) (hi := 0) (by decide)) (by decide)
  exact (s_X2_read_106 hσ h_x2 (zr_w h_x4 (by decide)) c_1_5)
theorem s_X2_read_86 {σ : zSt} (hσ : zPC σ) {x2 : Int32} (h_x2 : zr (0) (49151) x2) {x4 : Int32} (h_x4 : zr (0) (2) x4) (c_1_5 : zr (1) (16) (zgi σ 1 5)) : zok (fX2_read_86 σ x2 x4) (zPi σ (fun v : Int32 => zr (0) (255) v)) := by
  unfold fX2_read_86
  exact (s_X2_read_87 hσ h_x2 h_x4 (zr_w (zr_c (lo := 0) (hi := 0) (by decide)) (by decide)) c_1_5)
theorem s_X2_read_62 {σ : zSt} (hσ : zPC σ) {x2 : Int32} (h_x2 : zr (0) (49151) x2) (c_1_5 : zr (1) (16) (zgi σ 1 5)) : zok (fX2_read_62 σ x2) (zPi σ (fun v : Int32 => zr (0) (255) v)) := by
  unfold fX2_read_62
  refine zok_br (zr_shr (lo := 0) (hi := 2) 14 (by decide) h_x2 (by decide)) (fun v2 e2 h1 => ?_)
  refine zok_if (fun q3 => ?_) (fun q3 => ?_)
  · have h4 := zc_eql (3) (3) q3 zr_any (zr_c (lo := 3) (hi := 3) (by decide)) (by decide)
    refine zok_if (fun q5 => ?_) (fun q5 => ?_)
    · have h6 := zc_ler (2) q5 (zr_c (lo := 2) (hi := 2) (by decide)) h1 (by decide)
      exact (s_X2_read_86 hσ h_x2 (zr_w h6 (by decide)) c_1_5)
    have h7 := zc_ltl (1) (z_nle q5) h1 (zr_c (lo := 2) (hi := 2) (by decide)) (by decide)
    exact (s_X2_read_87 hσ h_x2 (zr_w h7 (by decide)) (zr_w (zr_c (lo := 1) (hi := 1) (by decide)) (by decide)) c_1_5)
  exact (s_X2_read_86 hσ h_x2 h1 c_1_5)
theorem s_X2_read {σ : zSt} (hσ : zPC σ) {x1 : Int32} : zok (fX2_read σ x1) (zPi σ (fun v : Int32 => zr (0) (255) v)) := by
  unfold fX2_read
  refine zok_br (zr_andr (lo := 0) (hi := 65535) (zr_c (lo := 65535) (hi := 65535) (by decide)) (by decide)) (fun v3 e2 h1 => ?_)
  refine zok_if (fun q3 => ?_) (fun q3 => ?_)
  · have h4 := zc_ltl (49151) q3 h1 (zr_c (lo := 49152) (hi := 49152) (by decide)) (by decide)
    refine zok_if (fun q5 => ?_) (fun q5 => ?_)
    · have h6 := zc_eql (0) (0) q5 zr_any (zr_c (lo := 0) (hi := 0) (by decide)) (by decide)
      exact (s_X2_read_144 hσ (zr_w h4 (by decide)))
    refine zok_if (fun q7 => ?_) (fun q7 => ?_)
    · have h8 := zc_lel (0) q7 (rC_3 hσ.sg _ (by decide)) (zr_c (lo := 0) (hi := 0) (by decide)) (by decide)
      exact (s_X2_read_144 hσ (zr_w h4 (by decide)))
    have h9 := zc_ltr (1) (z_nle q7) (zr_c (lo := 0) (hi := 0) (by decide)) (rC_3 hσ.sg _ (by decide)) (by decide)
    refine zok_if (fun q10 => ?_) (fun q10 => ?_)
    · have h11 := zc_ltl (32767) q10 h4 (zr_c (lo := 32768) (hi := 32768) (by decide)) (by decide)
      exact (s_X2_read_62 hσ (zr_w h11 (by decide)) h9)
    have h12 := zc_ler (32768) (z_nlt q10) (zr_c (lo := 32768) (hi := 32768) (by decide)) h4 (by decide)
    refine zok_pi (s_X2_batteryIsIn hσ) (fun v5 h13 => ?_)
    refine zok_if (fun q14 => ?_) (fun q14 => ?_)
    · have h15 := zc_eql (0) (0) q14 h13 (zr_c (lo := 0) (hi := 0) (by decide)) (by decide)
      exact (s_X2_read_62 hσ (zr_w h12 (by decide)) h9)
    have h16 := zc_nel (1) (1) q14 h13 (zr_c (lo := 0) (hi := 0) (by decide)) (by decide)
    refine zok_pi (s_X2_batteryPlace hσ h12) (fun v7 h17 => ?_)
    refine zok_ck (zin_ok h17 (by decide)) ?_
    exact zok_spi (rC_15 hσ.sg _ (z_ix h17 (by decide)))
  have h18 := zc_ler (49152) (z_nlt q3) (zr_c (lo := 49152) (hi := 49152) (by decide)) h1 (by decide)
  refine zok_ck (zin_ok (zr_andr (lo := 0) (hi := 8191) (zr_c (lo := 8191) (hi := 8191) (by decide)) (by decide)) (by decide)) ?_
  exact zok_spi (rC_13 hσ.sg _ (z_ix (zr_andr (lo := 0) (hi := 8191) (zr_c (lo := 8191) (hi := 8191) (by decide)) (by decide)) (by decide)))
theorem s_X2_write_151 {σ : zSt} (hσ : zPC σ) : zok (fX2_write_151 σ ) (zPu σ) := by
  unfold fX2_write_151
  exact zok_spu
theorem s_X2_write_54 {G : Nat → Int} {σ : zSt} (hσ : zIC G σ) {x2 : Int32} (h_x2 : zr (0) (255) x2) {s0 : Int32} (h_s0 : zr (0) (3) s0) : zok (fX2_write_54 σ x2 s0) (zIC G) := by
  unfold fX2_write_54
  refine zok_ck (zin_ok h_s0 (by decide)) ?_
  refine zok_bs (hσ.wi 0 3 (z_ix h_s0 (by decide)) h_x2 (by decide +kernel)) (fun σ1 e2 i1 => ?_)
  exact zok_pau i1 (s_X2_write_151 i1.P)
theorem s_X2_write_130 {G : Nat → Int} {σ : zSt} (hσ : zIC G σ) {x2 : Int32} (h_x2 : zr (0) (255) x2) {x3 : Int32} (h_x3 : zr (0) (65535) x3) : zok (fX2_write_130 σ x2 x3) (zIC G) := by
  unfold fX2_write_130
  refine zok_if (fun q1 => ?_) (fun q1 => ?_)
  · have h2 := zc_eql (3) (3) q1 zr_any (zr_c (lo := 3) (hi := 3) (by decide)) (by decide)
    refine zok_if (fun q3 => ?_) (fun q3 => ?_)
    · have h4 := zc_eql (40960) (40960) q3 h_x3 (zr_c (lo := 40960) (hi := 40960) (by decide)) (by decide)
      refine zok_ck rfl ?_
      refine zok_bs (hσ.wi 2 2 (by decide) h_x2 (by decide +kernel)) (fun σ2 e6 i5 => ?_)
      exact zok_pau i5 (s_X2_write_151 i5.P)
    exact zok_pau hσ (s_X2_write_151 hσ.P)
  exact zok_pau hσ (s_X2_write_151 hσ.P)
theorem s_X2_write_117 {G : Nat → Int} {σ : zSt} (hσ : zIC G σ) {x2 : Int32} (h_x2 : zr (0) (255) x2) {x3 : Int32} (h_x3 : zr (0) (32768) x3) : zok (fX2_write_117 σ x2 x3) (zIC G) := by
  unfold fX2_write_117
  refine zok_ck (zin_ok (zr_shr (lo := 0) (hi := 2) 14 (by decide) h_x3 (by decide)) (by decide)) ?_
  refine zok_bs (hσ.wi 0 2 (z_ix (zr_shr (lo := 0) (hi := 2) 14 (by decide) h_x3 (by decide)) (by decide)) h_x2 (by decide +kernel)) (fun σ3 e2 i1 => ?_)
  exact zok_pau i1 (s_X2_write_151 i1.P)
theorem s_X2_write_22 {G : Nat → Int} {σ : zSt} (hσ : zIC G σ) {x2 : Int32} (h_x2 : zr (0) (255) x2) {x3 : Int32} (h_x3 : zr (0) (65535) x3) : zok (fX2_write_22 σ x2 x3) (zIC G) := by
  unfold fX2_write_22
  refine zok_if (fun q1 => ?_) (fun q1 => ?_)
  · have h2 := zc_eql (1) (1) q1 zr_any (zr_c (lo := 1) (hi := 1) (by decide)) (by decide)
    refine zok_if (fun q3 => ?_) (fun q3 => ?_)
    · have h4 := zc_ltl (65531) q3 h_x3 (zr_c (lo := 65532) (hi := 65532) (by decide)) (by decide)
      refine zok_if (fun q5 => ?_) (fun q5 => ?_)
      · have h6 := zc_ltl (32767) q5 h4 (zr_c (lo := 32768) (hi := 32768) (by decide)) (by decide)
        exact zok_pau hσ (s_X2_write_151 hσ.P)
      have h7 := zc_ler (32768) (z_nlt q5) (zr_c (lo := 32768) (hi := 32768) (by decide)) h4 (by decide)
      refine zok_if (fun q8 => ?_) (fun q8 => ?_)
      · have h9 := zc_ler (49152) q8 (zr_c (lo := 49152) (hi := 49152) (by decide)) h7 (by decide)
        exact zok_pau hσ (s_X2_write_151 hσ.P)
      have h10 := zc_ltl (49151) (z_nle q8) h7 (zr_c (lo := 49152) (hi := 49152) (by decide)) (by decide)
      refine zok_pi (s_X2_batteryIsIn hσ.P) (fun v5 h11 => ?_)
      refine zok_if (fun q12 => ?_) (fun q12 => ?_)
      · have h13 := zc_eql (0) (0) q12 h11 (zr_c (lo := 0) (hi := 0) (by decide)) (by decide)
        exact zok_pau hσ (s_X2_write_151 hσ.P)
      have h14 := zc_nel (1) (1) q12 h11 (zr_c (lo := 0) (hi := 0) (by decide)) (by decide)
      refine zok_pi (s_X2_batteryPlace hσ.P h10) (fun v7 h15 => ?_)
      refine zok_ck (zin_ok h15 (by decide)) ?_
      refine zok_bs (hσ.wi 0 32767 (z_ix h15 (by decide)) h_x2 (by decide +kernel)) (fun σ8 e17 i16 => ?_)
      exact zok_pau i16 (s_X2_write_151 i16.P)
    have h18 := zc_ler (65532) (z_nlt q3) (zr_c (lo := 65532) (hi := 65532) (by decide)) h_x3 (by decide)
    refine zok_if (fun q19 => ?_) (fun q19 => ?_)
    · have h20 := zc_eql (65532) (65532) q19 h18 (zr_c (lo := 65532) (hi := 65532) (by decide)) (by decide)
      exact (s_X2_write_54 hσ h_x2 (zr_w (zr_c (lo := 3) (hi := 3) (by decide)) (by decide)))
    have h21 := zc_nel (65533) (65535) q19 h18 (zr_c (lo := 65532) (hi := 65532) (by decide)) (by decide)
    exact (s_X2_write_54 hσ h_x2 (zr_w (zr_sub (lo := 0) (hi := 2) h21 (zr_c (lo := 65533) (hi := 65533) (by decide)) (by decide)) (by decide)))
  refine zok_if (fun q22 => ?_) (fun q22 => ?_)
  · have h23 := zc_eql (2) (2) q22 zr_any (zr_c (lo := 2) (hi := 2) (by decide)) (by decide)
    refine zok_if (fun q24 => ?_) (fun q24 => ?_)
    · have h25 := zc_eql (0) (0) q24 h_x3 (zr_c (lo := 0) (hi := 0) (by decide)) (by decide)
      exact (s_X2_write_117 hσ h_x2 (zr_w h25 (by decide)))
    have h26 := zc_nel (1) (65535) q24 h_x3 (zr_c (lo := 0) (hi := 0) (by decide)) (by decide)
    refine zok_if (fun q27 => ?_) (fun q27 => ?_)
    · have h28 := zc_eql (16384) (16384) q27 h26 (zr_c (lo := 16384) (hi := 16384) (by decide)) (by decide)
      exact (s_X2_write_117 hσ h_x2 (zr_w h28 (by decide)))
    refine zok_if (fun q29 => ?_) (fun q29 => ?_)
    · have h30 := zc_eql (32768) (32768) q29 h26 (zr_c (lo := 32768) (hi := 32768) (by decide)) (by decide)
      exact (s_X2_write_117 hσ h_x2 (zr_w h30 (by decide)))
    exact (s_X2_write_130 hσ h_x2 (zr_w h26 (by decide)))
  exact (s_X2_write_130 hσ h_x2 h_x3)
theorem s_X2_write {G : Nat → Int} {σ : zSt} (hσ : zIC G σ) {x1 : Int32} (h_x1 : zr (-2) (65536) x1) {x2 : Int32} (h_x2 : zr (0) (255) x2) : zok (fX2_write σ x1 x2) (zIC G) := by
  unfold fX2_write
  refine zok_br (zr_andr (lo := 0) (hi := 65535) (zr_c (lo := 65535) (hi := 65535) (by decide)) (by decide)) (fun v9 e2 h1 => ?_)
  refine zok_if (fun q3 => ?_) (fun q3 => ?_)
  · have h4 := zc_ltl (49151) q3 h1 (zr_c (lo := 49152) (hi := 49152) (by decide)) (by decide)
    exact (s_X2_write_22 hσ h_x2 (zr_w h4 (by decide)))
  have h5 := zc_ler (49152) (z_nlt q3) (zr_c (lo := 49152) (hi := 49152) (by decide)) h1 (by decide)
  refine zok_ck (zin_ok (zr_andr (lo := 0) (hi := 8191) (zr_c (lo := 8191) (hi := 8191) (by decide)) (by decide)) (by decide)) ?_
  refine zok_bs (hσ.wi 0 8191 (z_ix (zr_andr (lo := 0) (hi := 8191) (zr_c (lo := 8191) (hi := 8191) (by decide)) (by decide)) (by decide)) h_x2 (by decide +kernel)) (fun σ10 e7 i6 => ?_)
  exact (s_X2_write_22 i6 h_x2 (zr_w h5 (by decide)))
theorem s_X2_batteryByte {σ : zSt} (hσ : zPC σ) {x1 : Int32} (h_x1 : zr (0) (32767) x1) : zok (fX2_batteryByte σ x1) (zPi σ (fun v : Int32 => zr (0) (255) v)) := by
  unfold fX2_batteryByte
  refine zok_ck (zin_ok (zr_andr (lo := 0) (hi := 32767) (zr_c (lo := 32767) (hi := 32767) (by decide)) (by decide)) (by decide)) ?_
  exact zok_spi (rC_15 hσ.sg _ (z_ix (zr_andr (lo := 0) (hi := 32767) (zr_c (lo := 32767) (hi := 32767) (by decide)) (by decide)) (by decide)))
theorem s_J7_fill_53178_k17_5_body {G : Nat → Int} {σ : zSt} {k5 : zSt → Int32 → Int32 → Int32 → Option (zSt)} {Mk5 : Int} (hk5 : ∀ (σ : zSt) (x1 : Int32) (x2 : Int32) (x3 : Int32), zIC G σ → zr (0) (0) x1 → zr (0) (32768) x2 → zr (32768) (32768) x3 → (32768) - x2.toInt < Mk5 → zok (k5 σ x1 x2 x3) (zIC G)) (hσ : zIC G σ) {x1 : Int32} (h_x1 : zr (0) (0) x1) {x2 : Int32} (h_x2 : zr (0) (32768) x2) {x3 : Int32} (h_x3 : zr (32768) (32768) x3) (hMk5 : (32768) - x2.toInt ≤ Mk5) : zok (fJ7_fill_53178_k17_5_body k5 σ x1 x2 x3) (zIC G) := by
  unfold fJ7_fill_53178_k17_5_body
  refine zok_if (fun q1 => ?_) (fun q1 => ?_)
  · have h2 := zc_ler (32768) q1 h_x3 h_x2 (by decide)
    exact zok_some hσ
  have h3 := zc_ltl (32767) (z_nle q1) h_x2 h_x3 (by decide)
  refine zok_ck (zin_ok h3 (by decide)) ?_
  refine zok_bs (hσ.wi 0 32767 (z_ix h3 (by decide)) h_x1 (by decide +kernel)) (fun σ1 e5 i4 => ?_)
  refine zok_br (zr_add (lo := 1) (hi := 32768) h3 (zr_c (lo := 1) (hi := 1) (by decide)) (by decide)) (fun v2 e7 h6 => ?_)
  exact hk5 _ _ _ _ i4 h_x1 (zr_w h6 (by decide)) h_x3 (by rw [e7]; have := z_tadd (y := (1 : Int32)) h3 (zr_c (lo := 1) (hi := 1) (by decide)) (by decide); have e9 : (1 : Int32).toInt = 1 := rfl; omega) 
theorem s_J7_fill_53178_k17_5 {G : Nat → Int} : ∀ (n : Nat) {σ : zSt} (hσ : zIC G σ) {x1 : Int32} (h_x1 : zr (0) (0) x1) {x2 : Int32} (h_x2 : zr (0) (32768) x2) {x3 : Int32} (h_x3 : zr (32768) (32768) x3) (hm : (32768) - x2.toInt < n), zok (fJ7_fill_53178_k17_5 n σ x1 x2 x3) (zIC G) := by
  intro n
  induction n with
  | zero => intro σ hσ x1 h_x1 x2 h_x2 x3 h_x3 hm ; have h9 := h_x2.1; have h8 := h_x2.2; exfalso; omega
  | succ n ih => intro σ hσ x1 h_x1 x2 h_x2 x3 h_x3 hm ; exact s_J7_fill_53178_k17_5_body (fun σ x1 x2 x3 hσ h_x1 h_x2 h_x3 hm1 => ih hσ h_x1 h_x2 h_x3 (by omega)) hσ h_x1 h_x2 h_x3 (Int.le_refl _)
theorem s_J7_fill_53178_k17 {G : Nat → Int} {σ : zSt} (hσ : zIC G σ) {x1 : Int32} (h_x1 : zr (0) (0) x1) : zok (fJ7_fill_53178_k17 σ x1) (zIC G) := by
  unfold fJ7_fill_53178_k17
  exact (s_J7_fill_53178_k17_5 zfuel hσ h_x1 (zr_w (zr_c (lo := 0) (hi := 0) (by decide)) (by decide)) (zr_c (lo := 32768) (hi := 32768) (by decide)) (by decide))
theorem s_X2_clearBattery {G : Nat → Int} {σ : zSt} (hσ : zIC G σ) : zok (fX2_clearBattery σ ) (zIC G) := by
  unfold fX2_clearBattery
  refine zok_bu (s_J7_fill_53178_k17 hσ (zr_c (lo := 0) (hi := 0) (by decide))) (fun σ1 i1 => ?_)
  exact zok_some i1
theorem s_J7_fill_53178_k15_5_body {G : Nat → Int} {σ : zSt} {k5 : zSt → Int32 → Int32 → Int32 → Option (zSt)} {Mk5 : Int} (hk5 : ∀ (σ : zSt) (x1 : Int32) (x2 : Int32) (x3 : Int32), zIC G σ → zr (0) (0) x1 → zr (0) (8192) x2 → zr (8192) (8192) x3 → (8192) - x2.toInt < Mk5 → zok (k5 σ x1 x2 x3) (zIC G)) (hσ : zIC G σ) {x1 : Int32} (h_x1 : zr (0) (0) x1) {x2 : Int32} (h_x2 : zr (0) (8192) x2) {x3 : Int32} (h_x3 : zr (8192) (8192) x3) (hMk5 : (8192) - x2.toInt ≤ Mk5) : zok (fJ7_fill_53178_k15_5_body k5 σ x1 x2 x3) (zIC G) := by
  unfold fJ7_fill_53178_k15_5_body
  refine zok_if (fun q1 => ?_) (fun q1 => ?_)
  · have h2 := zc_ler (8192) q1 h_x3 h_x2 (by decide)
    exact zok_some hσ
  have h3 := zc_ltl (8191) (z_nle q1) h_x2 h_x3 (by decide)
  refine zok_ck (zin_ok h3 (by decide)) ?_
  refine zok_bs (hσ.wi 0 8191 (z_ix h3 (by decide)) h_x1 (by decide +kernel)) (fun σ1 e5 i4 => ?_)
  refine zok_br (zr_add (lo := 1) (hi := 8192) h3 (zr_c (lo := 1) (hi := 1) (by decide)) (by decide)) (fun v2 e7 h6 => ?_)
  exact hk5 _ _ _ _ i4 h_x1 (zr_w h6 (by decide)) h_x3 (by rw [e7]; have := z_tadd (y := (1 : Int32)) h3 (zr_c (lo := 1) (hi := 1) (by decide)) (by decide); have e9 : (1 : Int32).toInt = 1 := rfl; omega) 
theorem s_J7_fill_53178_k15_5 {G : Nat → Int} : ∀ (n : Nat) {σ : zSt} (hσ : zIC G σ) {x1 : Int32} (h_x1 : zr (0) (0) x1) {x2 : Int32} (h_x2 : zr (0) (8192) x2) {x3 : Int32} (h_x3 : zr (8192) (8192) x3) (hm : (8192) - x2.toInt < n), zok (fJ7_fill_53178_k15_5 n σ x1 x2 x3) (zIC G) := by
  intro n
  induction n with
  | zero => intro σ hσ x1 h_x1 x2 h_x2 x3 h_x3 hm ; have h9 := h_x2.1; have h8 := h_x2.2; exfalso; omega
  | succ n ih => intro σ hσ x1 h_x1 x2 h_x2 x3 h_x3 hm ; exact s_J7_fill_53178_k15_5_body (fun σ x1 x2 x3 hσ h_x1 h_x2 h_x3 hm1 => ih hσ h_x1 h_x2 h_x3 (by omega)) hσ h_x1 h_x2 h_x3 (Int.le_refl _)
theorem s_J7_fill_53178_k15 {G : Nat → Int} {σ : zSt} (hσ : zIC G σ) {x1 : Int32} (h_x1 : zr (0) (0) x1) : zok (fJ7_fill_53178_k15 σ x1) (zIC G) := by
  unfold fJ7_fill_53178_k15
  exact (s_J7_fill_53178_k15_5 zfuel hσ h_x1 (zr_w (zr_c (lo := 0) (hi := 0) (by decide)) (by decide)) (zr_c (lo := 8192) (hi := 8192) (by decide)) (by decide))
theorem s_X2_clearRam {G : Nat → Int} {σ : zSt} (hσ : zIC G σ) : zok (fX2_clearRam σ ) (zIC G) := by
  unfold fX2_clearRam
  refine zok_bu (s_J7_fill_53178_k15 hσ (zr_c (lo := 0) (hi := 0) (by decide))) (fun σ1 i1 => ?_)
  exact zok_some i1
theorem s_X2_clearPages_32 {G : Nat → Int} {σ : zSt} (hσ : zIC G σ) {s0 : Int32} (h_s0 : zr (0) (2) s0) {s1 : Int32} (h_s1 : zr (2) (2) s1) : zok (fX2_clearPages_32 σ s0 s1) (zIC G) := by
  unfold fX2_clearPages_32
  refine zok_ck (zin_ok h_s1 (by decide)) ?_
  refine zok_bs (hσ.wi 2 2 (z_ix h_s1 (by decide)) h_s0 (by decide +kernel)) (fun σ1 e2 i1 => ?_)
  refine zok_ck rfl ?_
  refine zok_bs (i1.wi 3 3 (by decide) (zr_c (lo := 0) (hi := 0) (by decide)) (by decide +kernel)) (fun σ2 e4 i3 => ?_)
  exact zok_some i3
theorem s_X2_clearPages {G : Nat → Int} {σ : zSt} (hσ : zIC G σ) : zok (fX2_clearPages σ ) (zIC G) := by
  unfold fX2_clearPages
  refine zok_ck rfl ?_
  refine zok_bs (hσ.wi 0 0 (by decide) (zr_c (lo := 0) (hi := 0) (by decide)) (by decide +kernel)) (fun σ3 e2 i1 => ?_)
  refine zok_ck rfl ?_
  refine zok_bs (i1.wi 1 1 (by decide) (zr_c (lo := 1) (hi := 1) (by decide)) (by decide +kernel)) (fun σ4 e4 i3 => ?_)
  refine zok_if (fun q5 => ?_) (fun q5 => ?_)
  · have h6 := zc_eql (2) (2) q5 zr_any (zr_c (lo := 2) (hi := 2) (by decide)) (by decide)
    exact (s_X2_clearPages_32 i3 (zr_w (zr_c (lo := 0) (hi := 0) (by decide)) (by decide)) (zr_c (lo := 2) (hi := 2) (by decide)))
  exact (s_X2_clearPages_32 i3 (zr_w (zr_c (lo := 2) (hi := 2) (by decide)) (by decide)) (zr_c (lo := 2) (hi := 2) (by decide)))
theorem s_X2_keep {G : Nat → Int} {σ : zSt} (hσ : zIC G σ) : zok (fX2_keep σ ) (zIC G) := by
  unfold fX2_keep
  refine zok_ck (by decide) ?_
  refine zok_bs (hσ.wc (by decide +kernel) rfl rfl) (fun σ1 e2 i1 => ?_)
  refine zok_ck (by decide) ?_
  refine zok_bs (i1.wc (by decide +kernel) rfl rfl) (fun σ2 e4 i3 => ?_)
  refine zok_ck (by decide) ?_
  refine zok_bs (i3.wc (by decide +kernel) rfl rfl) (fun σ3 e6 i5 => ?_)
  exact zok_some i5
theorem s_X2_bringBack {G : Nat → Int} {σ : zSt} (hσ : zIC G σ) : zok (fX2_bringBack σ ) (zIC G) := by
  unfold fX2_bringBack
  refine zok_ck (by decide) ?_
  refine zok_bs (hσ.wc (by decide +kernel) rfl rfl) (fun σ1 e2 i1 => ?_)
  refine zok_ck (by decide) ?_
  refine zok_bs (i1.wc (by decide +kernel) rfl rfl) (fun σ2 e4 i3 => ?_)
  refine zok_ck (by decide) ?_
  refine zok_bs (i3.wc (by decide +kernel) rfl rfl) (fun σ3 e6 i5 => ?_)
  exact zok_some i5
theorem s_X3_keep {G : Nat → Int} {σ : zSt} (hσ : zIC G σ) : zok (fX3_keep σ ) (zIC G) := by
  unfold fX3_keep
  refine zok_ck (by decide) ?_
  refine zok_bs (hσ.wc (by decide +kernel) rfl rfl) (fun σ1 e2 i1 => ?_)
  exact zok_some i1
theorem s_X3_bringBack {G : Nat → Int} {σ : zSt} (hσ : zIC G σ) : zok (fX3_bringBack σ ) (zIC G) := by
  unfold fX3_bringBack
  refine zok_ck (by decide) ?_
  refine zok_bs (hσ.wc (by decide +kernel) rfl rfl) (fun σ1 e2 i1 => ?_)
  exact zok_some i1
theorem s_X3_width_16 {σ : zSt} (hσ : zPC σ) {s0 : Int32} (h_s0 : zr (160) (256) s0) : zok (fX3_width_16 σ s0) (zPi σ (fun v : Int32 => zr (160) (256) v)) := by
  unfold fX3_width_16
  exact zok_spi h_s0
theorem s_X3_width {σ : zSt} (hσ : zPC σ) : zok (fX3_width σ ) (zPi σ (fun v : Int32 => zr (160) (256) v)) := by
  unfold fX3_width
  refine zok_if (fun q1 => ?_) (fun q1 => ?_)
  · have h2 := zc_eql (0) (0) q1 zr_any (zr_c (lo := 0) (hi := 0) (by decide)) (by decide)
    exact (s_X3_width_16 hσ (zr_w (zr_c (lo := 256) (hi := 256) (by decide)) (by decide)))
  exact (s_X3_width_16 hσ (zr_w (zr_c (lo := 160) (hi := 160) (by decide)) (by decide)))
theorem s_X9_height {σ : zSt} (hσ : zPC σ) : zok (fX9_height σ ) (zPi σ (fun v : Int32 => zr (192) (240) v)) := by
  unfold fX9_height
  refine zok_ck rfl ?_
  refine zok_if (fun q1 => ?_) (fun q1 => ?_)
  · have h2 := zc_eql (6) (6) q1 (zr_andr (lo := 0) (hi := 6) (zr_c (lo := 6) (hi := 6) (by decide)) (by decide)) (zr_c (lo := 6) (hi := 6) (by decide)) (by decide)
    refine zok_ck rfl ?_
    refine zok_if (fun q3 => ?_) (fun q3 => ?_)
    · have h4 := zc_eql (8) (8) q3 (zr_andr (lo := 0) (hi := 24) (zr_c (lo := 24) (hi := 24) (by decide)) (by decide)) (zr_c (lo := 8) (hi := 8) (by decide)) (by decide)
      exact zok_spi (zr_w (zr_c (lo := 240) (hi := 240) (by decide)) (by decide))
    refine zok_if (fun q5 => ?_) (fun q5 => ?_)
    · have h6 := zc_eql (16) (16) q5 (zr_andr (lo := 0) (hi := 24) (zr_c (lo := 24) (hi := 24) (by decide)) (by decide)) (zr_c (lo := 16) (hi := 16) (by decide)) (by decide)
      exact zok_spi (zr_w (zr_c (lo := 224) (hi := 224) (by decide)) (by decide))
    exact zok_spi (zr_w (zr_c (lo := 192) (hi := 192) (by decide)) (by decide))
  have h7 := zc_nel (0) (5) q1 (zr_andr (lo := 0) (hi := 6) (zr_c (lo := 6) (hi := 6) (by decide)) (by decide)) (zr_c (lo := 6) (hi := 6) (by decide)) (by decide)
  exact zok_spi (zr_w (zr_c (lo := 192) (hi := 192) (by decide)) (by decide))
theorem s_X3_height_20 {σ : zSt} (hσ : zPC σ) {s0 : Int32} (h_s0 : zr (144) (240) s0) : zok (fX3_height_20 σ s0) (zPi σ (fun v : Int32 => zr (144) (240) v)) := by
  unfold fX3_height_20
  exact zok_spi h_s0
theorem s_X3_height {σ : zSt} (hσ : zPC σ) : zok (fX3_height σ ) (zPi σ (fun v : Int32 => zr (144) (240) v)) := by
  unfold fX3_height
  refine zok_if (fun q1 => ?_) (fun q1 => ?_)
  · have h2 := zc_eql (0) (0) q1 zr_any (zr_c (lo := 0) (hi := 0) (by decide)) (by decide)
    refine zok_pi (s_X9_height hσ) (fun v2 h3 => ?_)
    exact (s_X3_height_20 hσ (zr_w h3 (by decide)))
  exact (s_X3_height_20 hσ (zr_w (zr_c (lo := 144) (hi := 144) (by decide)) (by decide)))
theorem s_X3_placeOf_26 {σ : zSt} (hσ : zPC σ) {s0 : Int32} (h_s0 : zr (0) (67376) s0) : zok (fX3_placeOf_26 σ s0) (zPi σ (fun v : Int32 => zr (0) (67376) v)) := by
  unfold fX3_placeOf_26
  exact zok_spi h_s0
theorem s_X3_placeOf {σ : zSt} (hσ : zPC σ) {x1 : Int32} (h_x1 : zr (0) (239) x1) : zok (fX3_placeOf σ x1) (zPi σ (fun v : Int32 => zr (0) (67376) v)) := by
  unfold fX3_placeOf
  refine zok_if (fun q1 => ?_) (fun q1 => ?_)
  · have h2 := zc_eql (0) (0) q1 zr_any (zr_c (lo := 0) (hi := 0) (by decide)) (by decide)
    exact (s_X3_placeOf_26 hσ (zr_w (zr_mul (lo := 0) (hi := 61184) h_x1 (zr_c (lo := 256) (hi := 256) (by decide)) (by decide)) (by decide)))
  exact (s_X3_placeOf_26 hσ (zr_w (zr_add (lo := 6192) (hi := 67376) (zr_mul (lo := 6144) (hi := 67328) (zr_add (lo := 24) (hi := 263) h_x1 (zr_c (lo := 24) (hi := 24) (by decide)) (by decide)) (zr_c (lo := 256) (hi := 256) (by decide)) (by decide)) (zr_c (lo := 48) (hi := 48) (by decide)) (by decide)) (by decide)))
theorem s_X3_dotAt_31 {σ : zSt} (hσ : zPC σ) {s0 : Int32} : zok (fX3_dotAt_31 σ s0) (zPi σ (fun v : Int32 => True)) := by
  unfold fX3_dotAt_31
  exact zok_spi trivial
theorem s_X3_dotAt_30 {σ : zSt} (hσ : zPC σ) : zok (fX3_dotAt_30 σ ) (zPi σ (fun v : Int32 => True)) := by
  unfold fX3_dotAt_30
  exact (s_X3_dotAt_31 hσ)
theorem s_X3_dotAt {σ : zSt} (hσ : zPC σ) {x1 : Int32} (h_x1 : zr (0) (255) x1) {x2 : Int32} (h_x2 : zr (0) (239) x2) : zok (fX3_dotAt σ x1 x2) (zPi σ (fun v : Int32 => True)) := by
  unfold fX3_dotAt
  refine zok_pi (s_X3_placeOf hσ h_x2) (fun v2 h1 => ?_)
  refine zok_br (zr_add (lo := 0) (hi := 67631) h1 h_x1 (by decide)) (fun v3 e3 h2 => ?_)
  refine zok_if (fun q4 => ?_) (fun q4 => ?_)
  · exact zr_no (zc_ltl (-1) q4 h2 (zr_c (lo := 0) (hi := 0) (by decide)) (by decide)) (by decide)
  refine zok_if (fun q5 => ?_) (fun q5 => ?_)
  · have h6 := zc_ler (61440) q5 (zr_c (lo := 61440) (hi := 61440) (by decide)) h2 (by decide)
    exact (s_X3_dotAt_30 hσ)
  have h7 := zc_ltl (61439) (z_nle q5) h2 (zr_c (lo := 61440) (hi := 61440) (by decide)) (by decide)
  refine zok_ck (zin_ok h7 (by decide)) ?_
  exact (s_X3_dotAt_31 hσ)
theorem s_X3_sumOfLine_31_body {σ : zSt} {k31 : zSt → Int32 → Int32 → Int32 → Option (zSt × Int32)} {Mk31 : Int} (hk31 : ∀ (x2 : Int32) (x4 : Int32) (x5 : Int32), zr (160) (61440) x4 → zr (0) (67376) x5 → (67376) - x5.toInt < Mk31 → zok (k31 σ x2 x4 x5) (zPi σ (fun v : Int32 => True))) (hσ : zPC σ) {x2 : Int32} {x4 : Int32} (h_x4 : zr (160) (61440) x4) {x5 : Int32} (h_x5 : zr (0) (67376) x5) (hMk31 : (67376) - x5.toInt ≤ Mk31) : zok (fX3_sumOfLine_31_body k31 σ x2 x4 x5) (zPi σ (fun v : Int32 => True)) := by
  unfold fX3_sumOfLine_31_body
  refine zok_if (fun q1 => ?_) (fun q1 => ?_)
  · have h2 := zc_ler (160) q1 h_x4 h_x5 (by decide)
    exact zok_spi trivial
  have h3 := zc_ltl (61439) (z_nle q1) h_x5 h_x4 (by decide)
  refine zok_ck (zin_ok h3 (by decide)) ?_
  refine zok_bv (fun v1 e5 => ?_)
  refine zok_br (zr_add (lo := 1) (hi := 61440) h3 (zr_c (lo := 1) (hi := 1) (by decide)) (by decide)) (fun v2 e7 h6 => ?_)
  exact hk31 _ _ _  h_x4 (zr_w h6 (by decide)) (by rw [e7]; have := z_tadd (y := (1 : Int32)) h3 (zr_c (lo := 1) (hi := 1) (by decide)) (by decide); have e9 : (1 : Int32).toInt = 1 := rfl; omega) 
theorem s_X3_sumOfLine_31 {σ : zSt} (hσ : zPC σ) : ∀ (n : Nat) {x2 : Int32} {x4 : Int32} (h_x4 : zr (160) (61440) x4) {x5 : Int32} (h_x5 : zr (0) (67376) x5) (hm : (67376) - x5.toInt < n), zok (fX3_sumOfLine_31 n σ x2 x4 x5) (zPi σ (fun v : Int32 => True)) := by
  intro n
  induction n with
  | zero => intro x2 x4 h_x4 x5 h_x5 hm ; have h9 := h_x5.1; have h8 := h_x5.2; exfalso; omega
  | succ n ih => intro x2 x4 h_x4 x5 h_x5 hm ; exact s_X3_sumOfLine_31_body (fun x2 x4 x5 h_x4 h_x5 hm1 => ih h_x4 h_x5 (by omega)) hσ h_x4 h_x5 (Int.le_refl _)
theorem s_X3_sumOfLine {σ : zSt} (hσ : zPC σ) {x1 : Int32} (h_x1 : zr (0) (239) x1) : zok (fX3_sumOfLine σ x1) (zPi σ (fun v : Int32 => True)) := by
  unfold fX3_sumOfLine
  refine zok_pi (s_X3_placeOf hσ h_x1) (fun v4 h1 => ?_)
  refine zok_pi (s_X3_width hσ) (fun v6 h2 => ?_)
  refine zok_br (zr_min (lo := 160) (hi := 61440) (zr_add (lo := 160) (hi := 67632) h1 h2 (by decide)) (zr_c (lo := 61440) (hi := 61440) (by decide)) (by decide)) (fun v7 e4 h3 => ?_)
  refine zok_br (zr_max (lo := 0) (hi := 67376) (zr_c (lo := 0) (hi := 0) (by decide)) h1 (by decide)) (fun v8 e6 h5 => ?_)
  exact (s_X3_sumOfLine_31 hσ zfuel h3 h5 (z_su h5 (by decide)))
theorem s_X9_held_20 {σ : zSt} (hσ : zPC σ) {s0 : Int32} : zok (fX9_held_20 σ s0) (zPi σ (fun v : Int32 => True)) := by
  unfold fX9_held_20
  exact zok_spi trivial
theorem s_X9_held_19 {σ : zSt} (hσ : zPC σ) : zok (fX9_held_19 σ ) (zPi σ (fun v : Int32 => True)) := by
  unfold fX9_held_19
  exact (s_X9_held_20 hσ)
theorem s_X9_held {σ : zSt} (hσ : zPC σ) {x1 : Int32} : zok (fX9_held σ x1) (zPi σ (fun v : Int32 => True)) := by
  unfold fX9_held
  refine zok_if (fun q1 => ?_) (fun q1 => ?_)
  · have h2 := zc_ltl (-1) q1 zr_any (zr_c (lo := 0) (hi := 0) (by decide)) (by decide)
    exact (s_X9_held_19 hσ)
  have h3 := zc_ler (0) (z_nlt q1) (zr_c (lo := 0) (hi := 0) (by decide)) zr_any (by decide)
  refine zok_if (fun q4 => ?_) (fun q4 => ?_)
  · have h5 := zc_ler (96) q4 (zr_c (lo := 96) (hi := 96) (by decide)) h3 (by decide)
    exact (s_X9_held_19 hσ)
  have h6 := zc_ltl (95) (z_nle q4) h3 (zr_c (lo := 96) (hi := 96) (by decide)) (by decide)
  refine zok_ck (zin_ok h6 (by decide)) ?_
  exact (s_X9_held_20 hσ)
theorem s_X9_mode_57 {σ : zSt} (hσ : zPC σ) {s0 : Int32} (h_s0 : zr (0) (2) s0) : zok (fX9_mode_57 σ s0) (zPi σ (fun v : Int32 => zr (0) (4) v)) := by
  unfold fX9_mode_57
  exact zok_spi (zr_w h_s0 (by decide))
theorem s_X9_mode {σ : zSt} (hσ : zPC σ) : zok (fX9_mode σ ) (zPi σ (fun v : Int32 => zr (0) (4) v)) := by
  unfold fX9_mode
  refine zok_ck rfl ?_
  refine zok_if (fun q1 => ?_) (fun q1 => ?_)
  · have h2 := zc_eql (0) (0) q1 (zr_andr (lo := 0) (hi := 4) (zr_c (lo := 4) (hi := 4) (by decide)) (by decide)) (zr_c (lo := 0) (hi := 0) (by decide)) (by decide)
    refine zok_ck rfl ?_
    refine zok_if (fun q3 => ?_) (fun q3 => ?_)
    · have h4 := zc_eql (0) (0) q3 (zr_andr (lo := 0) (hi := 16) (zr_c (lo := 16) (hi := 16) (by decide)) (by decide)) (zr_c (lo := 0) (hi := 0) (by decide)) (by decide)
      refine zok_ck rfl ?_
      refine zok_if (fun q5 => ?_) (fun q5 => ?_)
      · have h6 := zc_eql (0) (0) q5 (zr_andr (lo := 0) (hi := 8) (zr_c (lo := 8) (hi := 8) (by decide)) (by decide)) (zr_c (lo := 0) (hi := 0) (by decide)) (by decide)
        refine zok_ck rfl ?_
        refine zok_if (fun q7 => ?_) (fun q7 => ?_)
        · have h8 := zc_eql (0) (0) q7 (zr_andr (lo := 0) (hi := 2) (zr_c (lo := 2) (hi := 2) (by decide)) (by decide)) (zr_c (lo := 0) (hi := 0) (by decide)) (by decide)
          exact (s_X9_mode_57 hσ (zr_w (zr_c (lo := 0) (hi := 0) (by decide)) (by decide)))
        have h9 := zc_nel (1) (2) q7 (zr_andr (lo := 0) (hi := 2) (zr_c (lo := 2) (hi := 2) (by decide)) (by decide)) (zr_c (lo := 0) (hi := 0) (by decide)) (by decide)
        exact (s_X9_mode_57 hσ (zr_w (zr_c (lo := 2) (hi := 2) (by decide)) (by decide)))
      have h10 := zc_nel (1) (8) q5 (zr_andr (lo := 0) (hi := 8) (zr_c (lo := 8) (hi := 8) (by decide)) (by decide)) (zr_c (lo := 0) (hi := 0) (by decide)) (by decide)
      exact zok_spi (zr_w (zr_c (lo := 3) (hi := 3) (by decide)) (by decide))
    have h11 := zc_nel (1) (16) q3 (zr_andr (lo := 0) (hi := 16) (zr_c (lo := 16) (hi := 16) (by decide)) (by decide)) (zr_c (lo := 0) (hi := 0) (by decide)) (by decide)
    exact zok_spi (zr_w (zr_c (lo := 1) (hi := 1) (by decide)) (by decide))
  have h12 := zc_nel (1) (4) q1 (zr_andr (lo := 0) (hi := 4) (zr_c (lo := 4) (hi := 4) (by decide)) (by decide)) (zr_c (lo := 0) (hi := 0) (by decide)) (by decide)
  exact zok_spi (zr_w (zr_c (lo := 4) (hi := 4) (by decide)) (by decide))
theorem s_J7_fill_53178_k27_5_body {G : Nat → Int} {σ : zSt} {k5 : zSt → Int32 → Int32 → Int32 → Option (zSt)} {Mk5 : Int} (hk5 : ∀ (σ : zSt) (x1 : Int32) (x2 : Int32) (x3 : Int32), zIC G σ → zr (0) (31) x1 → zr (0) (256) x2 → zr (256) (256) x3 → (256) - x2.toInt < Mk5 → zok (k5 σ x1 x2 x3) (zIC G)) (hσ : zIC G σ) {x1 : Int32} (h_x1 : zr (0) (31) x1) {x2 : Int32} (h_x2 : zr (0) (256) x2) {x3 : Int32} (h_x3 : zr (256) (256) x3) (hMk5 : (256) - x2.toInt ≤ Mk5) : zok (fJ7_fill_53178_k27_5_body k5 σ x1 x2 x3) (zIC G) := by
  unfold fJ7_fill_53178_k27_5_body
  refine zok_if (fun q1 => ?_) (fun q1 => ?_)
  · have h2 := zc_ler (256) q1 h_x3 h_x2 (by decide)
    exact zok_some hσ
  have h3 := zc_ltl (255) (z_nle q1) h_x2 h_x3 (by decide)
  refine zok_ck (zin_ok h3 (by decide)) ?_
  refine zok_bs (hσ.wk (by decide)) (fun σ1 e5 i4 => ?_)
  refine zok_br (zr_add (lo := 1) (hi := 256) h3 (zr_c (lo := 1) (hi := 1) (by decide)) (by decide)) (fun v2 e7 h6 => ?_)
  exact hk5 _ _ _ _ i4 h_x1 (zr_w h6 (by decide)) h_x3 (by rw [e7]; have := z_tadd (y := (1 : Int32)) h3 (zr_c (lo := 1) (hi := 1) (by decide)) (by decide); have e9 : (1 : Int32).toInt = 1 := rfl; omega) 
theorem s_J7_fill_53178_k27_5 {G : Nat → Int} : ∀ (n : Nat) {σ : zSt} (hσ : zIC G σ) {x1 : Int32} (h_x1 : zr (0) (31) x1) {x2 : Int32} (h_x2 : zr (0) (256) x2) {x3 : Int32} (h_x3 : zr (256) (256) x3) (hm : (256) - x2.toInt < n), zok (fJ7_fill_53178_k27_5 n σ x1 x2 x3) (zIC G) := by
  intro n
  induction n with
  | zero => intro σ hσ x1 h_x1 x2 h_x2 x3 h_x3 hm ; have h9 := h_x2.1; have h8 := h_x2.2; exfalso; omega
  | succ n ih => intro σ hσ x1 h_x1 x2 h_x2 x3 h_x3 hm ; exact s_J7_fill_53178_k27_5_body (fun σ x1 x2 x3 hσ h_x1 h_x2 h_x3 hm1 => ih hσ h_x1 h_x2 h_x3 (by omega)) hσ h_x1 h_x2 h_x3 (Int.le_refl _)
theorem s_J7_fill_53178_k27 {G : Nat → Int} {σ : zSt} (hσ : zIC G σ) {x1 : Int32} (h_x1 : zr (0) (31) x1) : zok (fJ7_fill_53178_k27 σ x1) (zIC G) := by
  unfold fJ7_fill_53178_k27
  exact (s_J7_fill_53178_k27_5 zfuel hσ h_x1 (zr_w (zr_c (lo := 0) (hi := 0) (by decide)) (by decide)) (zr_c (lo := 256) (hi := 256) (by decide)) (by decide))
theorem s_X3_mixColours_130 {G : Nat → Int} {σ : zSt} {k2 : zSt → Int32 → Int32 → Option (zSt)} {Mk2 : Int} (hk2 : ∀ (σ : zSt) (x1 : Int32) (x2 : Int32), zIC G σ → zr (0) (4) x1 → zr (0) (32) x2 → (32) - x2.toInt < Mk2 → zok (k2 σ x1 x2) (zIC G)) (hσ : zIC G σ) {x1 : Int32} (h_x1 : zr (0) (4) x1) {x2 : Int32} (h_x2 : zr (0) (31) x2) (hMk2 : (32) - x2.toInt ≤ Mk2) : zok (fX3_mixColours_130 k2 σ x1 x2) (zIC G) := by
  unfold fX3_mixColours_130
  refine zok_br (zr_add (lo := 1) (hi := 32) h_x2 (zr_c (lo := 1) (hi := 1) (by decide)) (by decide)) (fun v1 e2 h1 => ?_)
  exact hk2 _ _ _ hσ h_x1 (zr_w h1 (by decide)) (by rw [e2]; have := z_tadd (y := (1 : Int32)) h_x2 (zr_c (lo := 1) (hi := 1) (by decide)) (by decide); have e9 : (1 : Int32).toInt = 1 := rfl; omega) 
theorem s_X3_mixColours_78 {G : Nat → Int} {σ : zSt} {k2 : zSt → Int32 → Int32 → Option (zSt)} {Mk2 : Int} (hk2 : ∀ (σ : zSt) (x1 : Int32) (x2 : Int32), zIC G σ → zr (0) (4) x1 → zr (0) (32) x2 → (32) - x2.toInt < Mk2 → zok (k2 σ x1 x2) (zIC G)) (hσ : zIC G σ) {x1 : Int32} (h_x1 : zr (4) (4) x1) {x2 : Int32} (h_x2 : zr (0) (31) x2) {s0 : Int32} (h_s0 : zr (0) (4095) s0) {s1 : Int32} (h_s1 : zr (0) (31) s1) (hMk2 : (32) - x2.toInt ≤ Mk2) : zok (fX3_mixColours_78 k2 σ x1 x2 s0 s1) (zIC G) := by
  unfold fX3_mixColours_78
  refine zok_ck (zin_ok h_s1 (by decide)) ?_
  refine zok_bs (hσ.wk (by decide)) (fun σ2 e2 i1 => ?_)
  exact (s_X3_mixColours_130 hk2 i1 (zr_w h_x1 (by decide)) h_x2 hMk2)
theorem s_X3_mixColours_129 {G : Nat → Int} {σ : zSt} {k2 : zSt → Int32 → Int32 → Option (zSt)} {Mk2 : Int} (hk2 : ∀ (σ : zSt) (x1 : Int32) (x2 : Int32), zIC G σ → zr (0) (4) x1 → zr (0) (32) x2 → (32) - x2.toInt < Mk2 → zok (k2 σ x1 x2) (zIC G)) (hσ : zIC G σ) {x1 : Int32} (h_x1 : zr (0) (3) x1) {x2 : Int32} (h_x2 : zr (0) (31) x2) {s0 : Int32} {s1 : Int32} (h_s1 : zr (0) (31) s1) (hMk2 : (32) - x2.toInt ≤ Mk2) : zok (fX3_mixColours_129 k2 σ x1 x2 s0 s1) (zIC G) := by
  unfold fX3_mixColours_129
  refine zok_ck (zin_ok h_s1 (by decide)) ?_
  refine zok_bs (hσ.wk (by decide)) (fun σ3 e2 i1 => ?_)
  exact (s_X3_mixColours_130 hk2 i1 (zr_w h_x1 (by decide)) h_x2 hMk2)
theorem s_X3_mixColours_2_body {G : Nat → Int} {σ : zSt} {k2 : zSt → Int32 → Int32 → Option (zSt)} {Mk2 : Int} (hk2 : ∀ (σ : zSt) (x1 : Int32) (x2 : Int32), zIC G σ → zr (0) (4) x1 → zr (0) (32) x2 → (32) - x2.toInt < Mk2 → zok (k2 σ x1 x2) (zIC G)) (hσ : zIC G σ) {x1 : Int32} (h_x1 : zr (0) (4) x1) {x2 : Int32} (h_x2 : zr (0) (32) x2) (hMk2 : (32) - x2.toInt ≤ Mk2) : zok (fX3_mixColours_2_body k2 σ x1 x2) (zIC G) := by
  unfold fX3_mixColours_2_body
  refine zok_if (fun q1 => ?_) (fun q1 => ?_)
  · have h2 := zc_ler (32) q1 (zr_c (lo := 32) (hi := 32) (by decide)) h_x2 (by decide)
    exact zok_some hσ
  have h3 := zc_ltl (31) (z_nle q1) h_x2 (zr_c (lo := 32) (hi := 32) (by decide)) (by decide)
  refine zok_if (fun q4 => ?_) (fun q4 => ?_)
  · have h5 := zc_eql (4) (4) q4 h_x1 (zr_c (lo := 4) (hi := 4) (by decide)) (by decide)
    refine zok_if (fun q6 => ?_) (fun q6 => ?_)
    · have h7 := zc_eql (0) (0) q6 zr_any (zr_c (lo := 0) (hi := 0) (by decide)) (by decide)
      refine zok_pi (s_X9_held hσ.P) (fun v6 h8 => ?_)
      exact (s_X3_mixColours_78 hk2 hσ h5 h3 (zr_w (zr_andr (lo := 0) (hi := 63) (zr_c (lo := 63) (hi := 63) (by decide)) (by decide)) (by decide)) h3 hMk2)
    refine zok_pi (s_X9_held hσ.P) (fun v8 h9 => ?_)
    refine zok_pi (s_X9_held hσ.P) (fun v10 h10 => ?_)
    exact (s_X3_mixColours_78 hk2 hσ h5 h3 (zr_andr (lo := 0) (hi := 4095) (zr_c (lo := 4095) (hi := 4095) (by decide)) (by decide)) h3 hMk2)
  have h11 := zc_nel (0) (3) q4 h_x1 (zr_c (lo := 4) (hi := 4) (by decide)) (by decide)
  refine zok_ck (zin_ok (zr_andr (lo := 0) (hi := 15) (zr_c (lo := 15) (hi := 15) (by decide)) (by decide)) (by decide)) ?_
  refine zok_bv (fun v4 e13 => ?_)
  refine zok_if (fun q14 => ?_) (fun q14 => ?_)
  · have h15 := zc_eql (0) (0) q14 zr_any (zr_c (lo := 0) (hi := 0) (by decide)) (by decide)
    exact (s_X3_mixColours_129 hk2 hσ h11 h3 h3 hMk2)
  exact (s_X3_mixColours_129 hk2 hσ h11 h3 h3 hMk2)
theorem s_X3_mixColours_2 {G : Nat → Int} : ∀ (n : Nat) {σ : zSt} (hσ : zIC G σ) {x1 : Int32} (h_x1 : zr (0) (4) x1) {x2 : Int32} (h_x2 : zr (0) (32) x2) (hm : (32) - x2.toInt < n), zok (fX3_mixColours_2 n σ x1 x2) (zIC G) := by
  intro n
  induction n with
  | zero => intro σ hσ x1 h_x1 x2 h_x2 hm ; have h9 := h_x2.1; have h8 := h_x2.2; exfalso; omega
  | succ n ih => intro σ hσ x1 h_x1 x2 h_x2 hm ; exact s_X3_mixColours_2_body (fun σ x1 x2 hσ h_x1 h_x2 hm1 => ih hσ h_x1 h_x2 (by omega)) hσ h_x1 h_x2 (Int.le_refl _)
theorem s_X3_mixColours {G : Nat → Int} {σ : zSt} (hσ : zIC G σ) {x1 : Int32} (h_x1 : zr (0) (4) x1) : zok (fX3_mixColours σ x1) (zIC G) := by
  unfold fX3_mixColours
  exact (s_X3_mixColours_2 zfuel hσ h_x1 (zr_w (zr_c (lo := 0) (hi := 0) (by decide)) (by decide)) (by decide))
theorem s_X9_vramByte {σ : zSt} (hσ : zPC σ) {x1 : Int32} : zok (fX9_vramByte σ x1) (zPi σ (fun v : Int32 => zr (0) (255) v)) := by
  unfold fX9_vramByte
  refine zok_ck (zin_ok (zr_andr (lo := 0) (hi := 16383) (zr_c (lo := 16383) (hi := 16383) (by decide)) (by decide)) (by decide)) ?_
  exact zok_spi (rC_19 hσ.sg _ (z_ix (zr_andr (lo := 0) (hi := 16383) (zr_c (lo := 16383) (hi := 16383) (by decide)) (by decide)) (by decide)))
theorem s_X3_takePlanes {G : Nat → Int} {σ : zSt} (hσ : zIC G σ) {x1 : Int32} (h_x1 : zr (0) (17372) x1) : zok (fX3_takePlanes σ x1) (zIC G) := by
  unfold fX3_takePlanes
  refine zok_pi (s_X9_vramByte hσ.P) (fun v2 h1 => ?_)
  refine zok_pi (s_X9_vramByte hσ.P) (fun v4 h2 => ?_)
  refine zok_pi (s_X9_vramByte hσ.P) (fun v6 h3 => ?_)
  refine zok_pi (s_X9_vramByte hσ.P) (fun v8 h4 => ?_)
  refine zok_bs (hσ.wk (by decide)) (fun σ9 e6 i5 => ?_)
  exact zok_some i5
theorem s_X3_takeTile_60 {G : Nat → Int} {σ : zSt} (hσ : zIC G σ) {s0 : Int32} (h_s0 : zr (0) (7) s0) : zok (fX3_takeTile_60 σ s0) (zIC G) := by
  unfold fX3_takeTile_60
  refine zok_bu (s_X3_takePlanes hσ (zr_w (zr_add (lo := 0) (hi := 16380) (zr_mul (lo := 0) (hi := 16352) (zr_c (lo := 32) (hi := 32) (by decide)) (zr_andr (lo := 0) (hi := 511) (zr_c (lo := 511) (hi := 511) (by decide)) (by decide)) (by decide)) (zr_mul (lo := 0) (hi := 28) (zr_c (lo := 4) (hi := 4) (by decide)) h_s0 (by decide)) (by decide)) (by decide))) (fun σ1 i1 => ?_)
  exact zok_some i1
end ZJN4
section ZJN5
theorem s_X3_takeTile {G : Nat → Int} {σ : zSt} (hσ : zIC G σ) {x1 : Int32} (h_x1 : zr (0) (14398) x1) {x2 : Int32} : zok (fX3_takeTile σ x1 x2) (zIC G) := by
  unfold fX3_takeTile
  refine zok_bv (fun v2 e2 => ?_)
  refine zok_pi (s_X9_vramByte hσ.P) (fun v4 h3 => ?_)
  refine zok_pi (s_X9_vramByte hσ.P) (fun v6 h4 => ?_)
  refine zok_bs (hσ.wk (by decide)) (fun σ7 e6 i5 => ?_)
  refine zok_if (fun q7 => ?_) (fun q7 => ?_)
  · have h8 := zc_eql (0) (0) q7 (zr_andr (lo := 0) (hi := 1024) (zr_c (lo := 1024) (hi := 1024) (by decide)) (by decide)) (zr_c (lo := 0) (hi := 0) (by decide)) (by decide)
    exact (s_X3_takeTile_60 i5 (zr_andr (lo := 0) (hi := 7) (zr_c (lo := 7) (hi := 7) (by decide)) (by decide)))
  have h9 := zc_nel (1) (1024) q7 (zr_andr (lo := 0) (hi := 1024) (zr_c (lo := 1024) (hi := 1024) (by decide)) (by decide)) (zr_c (lo := 0) (hi := 0) (by decide)) (by decide)
  exact (s_X3_takeTile_60 i5 (zr_sub (lo := 0) (hi := 7) (zr_c (lo := 7) (hi := 7) (by decide)) (zr_andr (lo := 0) (hi := 7) (zr_c (lo := 7) (hi := 7) (by decide)) (by decide)) (by decide)))
theorem s_X3_numberIn {σ : zSt} (hσ : zPC σ) {x0 : Int32} {x1 : Int32} (h_x1 : zr (0) (15) x1) : zok (fX3_numberIn σ x0 x1) (zPi σ (fun v : Int32 => zr (0) (15) v)) := by
  unfold fX3_numberIn
  refine zok_br (zr_andr (lo := 0) (hi := 16843009) (zr_c (lo := 16843009) (hi := 16843009) (by decide)) (by decide)) (fun v1 e2 h1 => ?_)
  exact zok_spi (zr_or (lo := 0) (hi := 15) 4 (zr_or (lo := 0) (hi := 7) 3 (zr_or (lo := 0) (hi := 3) 2 (zr_andr (lo := 0) (hi := 1) (zr_c (lo := 1) (hi := 1) (by decide)) (by decide)) (zr_andr (lo := 0) (hi := 2) (zr_c (lo := 2) (hi := 2) (by decide)) (by decide)) (by decide)) (zr_andr (lo := 0) (hi := 4) (zr_c (lo := 4) (hi := 4) (by decide)) (by decide)) (by decide)) (zr_andr (lo := 0) (hi := 8) (zr_c (lo := 8) (hi := 8) (by decide)) (by decide)) (by decide))
theorem s_X3_drawTiles_316 {G : Nat → Int} {σ : zSt} {k143 : zSt → Int32 → Int32 → Int32 → Int32 → Int32 → Int32 → Option (zSt)} {Mk143 : Int} (hk143 : ∀ (σ : zSt) (x1 : Int32) (x5 : Int32) (x6 : Int32) (x7 : Int32) (x8 : Int32) (x9 : Int32), zIC G σ → zr (0) (239) x1 → zr (0) (14336) x5 → zr (0) (1) x8 → zr (0) (256) x9 → (256) - x9.toInt < Mk143 → zok (k143 σ x1 x5 x6 x7 x8 x9) (zIC G)) (hσ : zIC G σ) {x1 : Int32} (h_x1 : zr (0) (239) x1) {x5 : Int32} (h_x5 : zr (0) (14336) x5) {x6 : Int32} {x7 : Int32} {x8 : Int32} (h_x8 : zr (0) (1) x8) {x9 : Int32} (h_x9 : zr (0) (255) x9) {s0 : Int32} (h_s0 : zr (0) (256) s0) {s1 : Int32} (h_s1 : zr (0) (31) s1) {s2 : Int32} (h_s2 : zr (0) (255) s2) (hMk143 : (256) - x9.toInt ≤ Mk143) : zok (fX3_drawTiles_316 k143 σ x1 x5 x6 x7 x8 x9 s0 s1 s2) (zIC G) := by
  unfold fX3_drawTiles_316
  refine zok_ck (zin_ok h_s2 (by decide)) ?_
  refine zok_bs (hσ.wk (by decide)) (fun σ1 e2 i1 => ?_)
  refine zok_br (zr_add (lo := 1) (hi := 256) h_x9 (zr_c (lo := 1) (hi := 1) (by decide)) (by decide)) (fun v2 e4 h3 => ?_)
  exact hk143 _ _ _ _ _ _ _ i1 h_x1 h_x5 h_x8 (zr_w h3 (by decide)) (by rw [e4]; have := z_tadd (y := (1 : Int32)) h_x9 (zr_c (lo := 1) (hi := 1) (by decide)) (by decide); have e9 : (1 : Int32).toInt = 1 := rfl; omega) 
theorem s_X3_drawTiles_303 {G : Nat → Int} {σ : zSt} {k143 : zSt → Int32 → Int32 → Int32 → Int32 → Int32 → Int32 → Option (zSt)} {Mk143 : Int} (hk143 : ∀ (σ : zSt) (x1 : Int32) (x5 : Int32) (x6 : Int32) (x7 : Int32) (x8 : Int32) (x9 : Int32), zIC G σ → zr (0) (239) x1 → zr (0) (14336) x5 → zr (0) (1) x8 → zr (0) (256) x9 → (256) - x9.toInt < Mk143 → zok (k143 σ x1 x5 x6 x7 x8 x9) (zIC G)) (hσ : zIC G σ) {x1 : Int32} (h_x1 : zr (0) (239) x1) {x5 : Int32} (h_x5 : zr (0) (14336) x5) {x6 : Int32} {x7 : Int32} {x8 : Int32} (h_x8 : zr (0) (1) x8) {x9 : Int32} (h_x9 : zr (0) (255) x9) {x13 : Int32} (h_x13 : zr (0) (1) x13) {s0 : Int32} (h_s0 : zr (0) (16) s0) {s1 : Int32} (h_s1 : zr (0) (15) s1) {s2 : Int32} (h_s2 : zr (0) (255) s2) (hMk143 : (256) - x9.toInt ≤ Mk143) : zok (fX3_drawTiles_303 k143 σ x1 x5 x6 x7 x8 x9 x13 s0 s1 s2) (zIC G) := by
  unfold fX3_drawTiles_303
  refine zok_if (fun q1 => ?_) (fun q1 => ?_)
  · have h2 := zc_eql (0) (0) q1 h_x13 (zr_c (lo := 0) (hi := 0) (by decide)) (by decide)
    exact (s_X3_drawTiles_316 hk143 hσ h_x1 h_x5 h_x8 h_x9 (zr_w (zr_c (lo := 0) (hi := 0) (by decide)) (by decide)) (zr_add (lo := 0) (hi := 31) h_s1 h_s0 (by decide)) h_s2 hMk143)
  have h3 := zc_nel (1) (1) q1 h_x13 (zr_c (lo := 0) (hi := 0) (by decide)) (by decide)
  exact (s_X3_drawTiles_316 hk143 hσ h_x1 h_x5 h_x8 h_x9 (zr_w (zr_c (lo := 256) (hi := 256) (by decide)) (by decide)) (zr_add (lo := 0) (hi := 31) h_s1 h_s0 (by decide)) h_s2 hMk143)
theorem s_X3_drawTiles_276 {G : Nat → Int} {σ : zSt} {k143 : zSt → Int32 → Int32 → Int32 → Int32 → Int32 → Int32 → Option (zSt)} {Mk143 : Int} (hk143 : ∀ (σ : zSt) (x1 : Int32) (x5 : Int32) (x6 : Int32) (x7 : Int32) (x8 : Int32) (x9 : Int32), zIC G σ → zr (0) (239) x1 → zr (0) (14336) x5 → zr (0) (1) x8 → zr (0) (256) x9 → (256) - x9.toInt < Mk143 → zok (k143 σ x1 x5 x6 x7 x8 x9) (zIC G)) (hσ : zIC G σ) {x1 : Int32} (h_x1 : zr (0) (239) x1) {x5 : Int32} (h_x5 : zr (0) (14336) x5) {x6 : Int32} {x7 : Int32} {x8 : Int32} (h_x8 : zr (0) (1) x8) {x9 : Int32} (h_x9 : zr (0) (255) x9) {x12 : Int32} (h_x12 : zr (0) (15) x12) {s0 : Int32} (h_s0 : zr (0) (1) s0) (hMk143 : (256) - x9.toInt ≤ Mk143) : zok (fX3_drawTiles_276 k143 σ x1 x5 x6 x7 x8 x9 x12 s0) (zIC G) := by
  unfold fX3_drawTiles_276
  refine zok_if (fun q1 => ?_) (fun q1 => ?_)
  · have h2 := zc_eql (0) (0) q1 (zr_andr (lo := 0) (hi := 2048) (zr_c (lo := 2048) (hi := 2048) (by decide)) (by decide)) (zr_c (lo := 0) (hi := 0) (by decide)) (by decide)
    exact (s_X3_drawTiles_303 hk143 hσ h_x1 h_x5 h_x8 h_x9 h_s0 (zr_w (zr_c (lo := 0) (hi := 0) (by decide)) (by decide)) h_x12 h_x9 hMk143)
  have h3 := zc_nel (1) (2048) q1 (zr_andr (lo := 0) (hi := 2048) (zr_c (lo := 2048) (hi := 2048) (by decide)) (by decide)) (zr_c (lo := 0) (hi := 0) (by decide)) (by decide)
  exact (s_X3_drawTiles_303 hk143 hσ h_x1 h_x5 h_x8 h_x9 h_s0 (zr_w (zr_c (lo := 16) (hi := 16) (by decide)) (by decide)) h_x12 h_x9 hMk143)
theorem s_X3_drawTiles_275 {G : Nat → Int} {σ : zSt} {k143 : zSt → Int32 → Int32 → Int32 → Int32 → Int32 → Int32 → Option (zSt)} {Mk143 : Int} (hk143 : ∀ (σ : zSt) (x1 : Int32) (x5 : Int32) (x6 : Int32) (x7 : Int32) (x8 : Int32) (x9 : Int32), zIC G σ → zr (0) (239) x1 → zr (0) (14336) x5 → zr (0) (1) x8 → zr (0) (256) x9 → (256) - x9.toInt < Mk143 → zok (k143 σ x1 x5 x6 x7 x8 x9) (zIC G)) (hσ : zIC G σ) {x1 : Int32} (h_x1 : zr (0) (239) x1) {x5 : Int32} (h_x5 : zr (0) (14336) x5) {x6 : Int32} {x7 : Int32} {x8 : Int32} (h_x8 : zr (0) (1) x8) {x9 : Int32} (h_x9 : zr (0) (255) x9) {x12 : Int32} (h_x12 : zr (0) (15) x12) (hMk143 : (256) - x9.toInt ≤ Mk143) : zok (fX3_drawTiles_275 k143 σ x1 x5 x6 x7 x8 x9 x12) (zIC G) := by
  unfold fX3_drawTiles_275
  exact (s_X3_drawTiles_276 hk143 hσ h_x1 h_x5 h_x8 h_x9 h_x12 (zr_w (zr_c (lo := 0) (hi := 0) (by decide)) (by decide)) hMk143)
theorem s_X3_drawTiles_242 {G : Nat → Int} {σ : zSt} {k143 : zSt → Int32 → Int32 → Int32 → Int32 → Int32 → Int32 → Option (zSt)} {Mk143 : Int} (hk143 : ∀ (σ : zSt) (x1 : Int32) (x5 : Int32) (x6 : Int32) (x7 : Int32) (x8 : Int32) (x9 : Int32), zIC G σ → zr (0) (239) x1 → zr (0) (14336) x5 → zr (0) (1) x8 → zr (0) (256) x9 → (256) - x9.toInt < Mk143 → zok (k143 σ x1 x5 x6 x7 x8 x9) (zIC G)) (hσ : zIC G σ) {x1 : Int32} (h_x1 : zr (0) (239) x1) {x5 : Int32} (h_x5 : zr (0) (14336) x5) {x6 : Int32} {x7 : Int32} {x8 : Int32} (h_x8 : zr (0) (1) x8) {x9 : Int32} (h_x9 : zr (0) (255) x9) {s0 : Int32} (h_s0 : zr (0) (7) s0) (hMk143 : (256) - x9.toInt ≤ Mk143) : zok (fX3_drawTiles_242 k143 σ x1 x5 x6 x7 x8 x9 s0) (zIC G) := by
  unfold fX3_drawTiles_242
  refine zok_pi (s_X3_numberIn hσ.P (zr_w h_s0 (by decide))) (fun v4 h1 => ?_)
  refine zok_if (fun q2 => ?_) (fun q2 => ?_)
  · have h3 := zc_lel (0) q2 h1 (zr_c (lo := 0) (hi := 0) (by decide)) (by decide)
    exact (s_X3_drawTiles_275 hk143 hσ h_x1 h_x5 h_x8 h_x9 (zr_w h3 (by decide)) hMk143)
  have h4 := zc_ltr (1) (z_nle q2) (zr_c (lo := 0) (hi := 0) (by decide)) h1 (by decide)
  refine zok_if (fun q5 => ?_) (fun q5 => ?_)
  · have h6 := zc_eql (0) (0) q5 (zr_andr (lo := 0) (hi := 4096) (zr_c (lo := 4096) (hi := 4096) (by decide)) (by decide)) (zr_c (lo := 0) (hi := 0) (by decide)) (by decide)
    exact (s_X3_drawTiles_275 hk143 hσ h_x1 h_x5 h_x8 h_x9 (zr_w h4 (by decide)) hMk143)
  have h7 := zc_nel (1) (4096) q5 (zr_andr (lo := 0) (hi := 4096) (zr_c (lo := 4096) (hi := 4096) (by decide)) (by decide)) (zr_c (lo := 0) (hi := 0) (by decide)) (by decide)
  exact (s_X3_drawTiles_276 hk143 hσ h_x1 h_x5 h_x8 h_x9 (zr_w h4 (by decide)) (zr_w (zr_c (lo := 1) (hi := 1) (by decide)) (by decide)) hMk143)
theorem s_X3_drawTiles_215 {G : Nat → Int} {σ : zSt} {k143 : zSt → Int32 → Int32 → Int32 → Int32 → Int32 → Int32 → Option (zSt)} {Mk143 : Int} (hk143 : ∀ (σ : zSt) (x1 : Int32) (x5 : Int32) (x6 : Int32) (x7 : Int32) (x8 : Int32) (x9 : Int32), zIC G σ → zr (0) (239) x1 → zr (0) (14336) x5 → zr (0) (1) x8 → zr (0) (256) x9 → (256) - x9.toInt < Mk143 → zok (k143 σ x1 x5 x6 x7 x8 x9) (zIC G)) (hσ : zIC G σ) {x1 : Int32} (h_x1 : zr (0) (239) x1) {x5 : Int32} (h_x5 : zr (0) (14336) x5) {x6 : Int32} {x7 : Int32} {x8 : Int32} (h_x8 : zr (0) (1) x8) {x9 : Int32} (h_x9 : zr (0) (255) x9) {x10 : Int32} (h_x10 : zr (0) (255) x10) (hMk143 : (256) - x9.toInt ≤ Mk143) : zok (fX3_drawTiles_215 k143 σ x1 x5 x6 x7 x8 x9 x10) (zIC G) := by
  unfold fX3_drawTiles_215
  refine zok_if (fun q1 => ?_) (fun q1 => ?_)
  · have h2 := zc_eql (0) (0) q1 (zr_andr (lo := 0) (hi := 512) (zr_c (lo := 512) (hi := 512) (by decide)) (by decide)) (zr_c (lo := 0) (hi := 0) (by decide)) (by decide)
    exact (s_X3_drawTiles_242 hk143 hσ h_x1 h_x5 h_x8 h_x9 (zr_andr (lo := 0) (hi := 7) (zr_c (lo := 7) (hi := 7) (by decide)) (by decide)) hMk143)
  have h3 := zc_nel (1) (512) q1 (zr_andr (lo := 0) (hi := 512) (zr_c (lo := 512) (hi := 512) (by decide)) (by decide)) (zr_c (lo := 0) (hi := 0) (by decide)) (by decide)
  exact (s_X3_drawTiles_242 hk143 hσ h_x1 h_x5 h_x8 h_x9 (zr_sub (lo := 0) (hi := 7) (zr_c (lo := 7) (hi := 7) (by decide)) (zr_andr (lo := 0) (hi := 7) (zr_c (lo := 7) (hi := 7) (by decide)) (by decide)) (by decide)) hMk143)
theorem s_X3_drawTiles_212 {G : Nat → Int} {σ : zSt} {k143 : zSt → Int32 → Int32 → Int32 → Int32 → Int32 → Int32 → Option (zSt)} {Mk143 : Int} (hk143 : ∀ (σ : zSt) (x1 : Int32) (x5 : Int32) (x6 : Int32) (x7 : Int32) (x8 : Int32) (x9 : Int32), zIC G σ → zr (0) (239) x1 → zr (0) (14336) x5 → zr (0) (1) x8 → zr (0) (256) x9 → (256) - x9.toInt < Mk143 → zok (k143 σ x1 x5 x6 x7 x8 x9) (zIC G)) (hσ : zIC G σ) {x1 : Int32} (h_x1 : zr (0) (239) x1) {x5 : Int32} (h_x5 : zr (0) (14336) x5) {x6 : Int32} {x7 : Int32} {x8 : Int32} (h_x8 : zr (0) (1) x8) {x9 : Int32} (h_x9 : zr (0) (255) x9) {x10 : Int32} (h_x10 : zr (0) (255) x10) {s0 : Int32} {s1 : Int32} (h_s1 : zr (0) (14398) s1) (hMk143 : (256) - x9.toInt ≤ Mk143) : zok (fX3_drawTiles_212 k143 σ x1 x5 x6 x7 x8 x9 x10 s0 s1) (zIC G) := by
  unfold fX3_drawTiles_212
  refine zok_bu (s_X3_takeTile hσ h_s1) (fun σ5 i1 => ?_)
  exact (s_X3_drawTiles_215 hk143 i1 h_x1 h_x5 h_x8 h_x9 h_x10 hMk143)
theorem s_X3_drawTiles_210 {G : Nat → Int} {σ : zSt} {k143 : zSt → Int32 → Int32 → Int32 → Int32 → Int32 → Int32 → Option (zSt)} {Mk143 : Int} (hk143 : ∀ (σ : zSt) (x1 : Int32) (x5 : Int32) (x6 : Int32) (x7 : Int32) (x8 : Int32) (x9 : Int32), zIC G σ → zr (0) (239) x1 → zr (0) (14336) x5 → zr (0) (1) x8 → zr (0) (256) x9 → (256) - x9.toInt < Mk143 → zok (k143 σ x1 x5 x6 x7 x8 x9) (zIC G)) (hσ : zIC G σ) {x1 : Int32} (h_x1 : zr (0) (239) x1) {x5 : Int32} (h_x5 : zr (0) (14336) x5) {x6 : Int32} {x7 : Int32} {x8 : Int32} (h_x8 : zr (0) (1) x8) {x9 : Int32} (h_x9 : zr (0) (255) x9) {x10 : Int32} (h_x10 : zr (0) (255) x10) {s0 : Int32} (h_s0 : zr (0) (14398) s0) (hMk143 : (256) - x9.toInt ≤ Mk143) : zok (fX3_drawTiles_210 k143 σ x1 x5 x6 x7 x8 x9 x10 s0) (zIC G) := by
  unfold fX3_drawTiles_210
  exact (s_X3_drawTiles_212 hk143 hσ h_x1 h_x5 h_x8 h_x9 h_x10 h_s0 hMk143)
theorem s_X3_drawTiles_183 {G : Nat → Int} {σ : zSt} {k143 : zSt → Int32 → Int32 → Int32 → Int32 → Int32 → Int32 → Option (zSt)} {Mk143 : Int} (hk143 : ∀ (σ : zSt) (x1 : Int32) (x5 : Int32) (x6 : Int32) (x7 : Int32) (x8 : Int32) (x9 : Int32), zIC G σ → zr (0) (239) x1 → zr (0) (14336) x5 → zr (0) (1) x8 → zr (0) (256) x9 → (256) - x9.toInt < Mk143 → zok (k143 σ x1 x5 x6 x7 x8 x9) (zIC G)) (hσ : zIC G σ) {x1 : Int32} (h_x1 : zr (0) (239) x1) {x5 : Int32} (h_x5 : zr (0) (14336) x5) {x6 : Int32} {x7 : Int32} {x8 : Int32} (h_x8 : zr (0) (1) x8) {x9 : Int32} (h_x9 : zr (0) (255) x9) {x10 : Int32} (h_x10 : zr (0) (255) x10) (hMk143 : (256) - x9.toInt ≤ Mk143) : zok (fX3_drawTiles_183 k143 σ x1 x5 x6 x7 x8 x9 x10) (zIC G) := by
  unfold fX3_drawTiles_183
  refine zok_if (fun q1 => ?_) (fun q1 => ?_)
  · have h2 := zc_eql (0) (0) q1 h_x8 (zr_c (lo := 0) (hi := 0) (by decide)) (by decide)
    exact (s_X3_drawTiles_210 hk143 hσ h_x1 h_x5 (zr_w h2 (by decide)) h_x9 h_x10 (zr_add (lo := 0) (hi := 14398) h_x5 (zr_mul (lo := 0) (hi := 62) (zr_c (lo := 2) (hi := 2) (by decide)) (zr_shr (lo := 0) (hi := 31) 3 (by decide) h_x10 (by decide)) (by decide)) (by decide)) hMk143)
  have h3 := zc_nel (1) (1) q1 h_x8 (zr_c (lo := 0) (hi := 0) (by decide)) (by decide)
  refine zok_if (fun q4 => ?_) (fun q4 => ?_)
  · have h5 := zc_ltl (191) q4 h_x9 (zr_c (lo := 192) (hi := 192) (by decide)) (by decide)
    exact (s_X3_drawTiles_210 hk143 hσ h_x1 h_x5 (zr_w h3 (by decide)) (zr_w h5 (by decide)) h_x10 (zr_add (lo := 0) (hi := 14398) h_x5 (zr_mul (lo := 0) (hi := 62) (zr_c (lo := 2) (hi := 2) (by decide)) (zr_shr (lo := 0) (hi := 31) 3 (by decide) h_x10 (by decide)) (by decide)) (by decide)) hMk143)
  have h6 := zc_ler (192) (z_nlt q4) (zr_c (lo := 192) (hi := 192) (by decide)) h_x9 (by decide)
  exact (s_X3_drawTiles_212 hk143 hσ h_x1 h_x5 (zr_w h3 (by decide)) (zr_w h6 (by decide)) h_x10 (zr_add (lo := 0) (hi := 14398) h_x5 (zr_mul (lo := 0) (hi := 62) (zr_c (lo := 2) (hi := 2) (by decide)) (zr_shr (lo := 0) (hi := 31) 3 (by decide) h_x10 (by decide)) (by decide)) (by decide)) hMk143)
theorem s_X3_drawTiles_143_body {G : Nat → Int} {σ : zSt} {k143 : zSt → Int32 → Int32 → Int32 → Int32 → Int32 → Int32 → Option (zSt)} {Mk143 : Int} (hk143 : ∀ (σ : zSt) (x1 : Int32) (x5 : Int32) (x6 : Int32) (x7 : Int32) (x8 : Int32) (x9 : Int32), zIC G σ → zr (0) (239) x1 → zr (0) (14336) x5 → zr (0) (1) x8 → zr (0) (256) x9 → (256) - x9.toInt < Mk143 → zok (k143 σ x1 x5 x6 x7 x8 x9) (zIC G)) (hσ : zIC G σ) {x1 : Int32} (h_x1 : zr (0) (239) x1) {x5 : Int32} (h_x5 : zr (0) (14336) x5) {x6 : Int32} {x7 : Int32} {x8 : Int32} (h_x8 : zr (0) (1) x8) {x9 : Int32} (h_x9 : zr (0) (256) x9) (hMk143 : (256) - x9.toInt ≤ Mk143) : zok (fX3_drawTiles_143_body k143 σ x1 x5 x6 x7 x8 x9) (zIC G) := by
  unfold fX3_drawTiles_143_body
  refine zok_if (fun q1 => ?_) (fun q1 => ?_)
  · have h2 := zc_ler (256) q1 (zr_c (lo := 256) (hi := 256) (by decide)) h_x9 (by decide)
    exact zok_some hσ
  have h3 := zc_ltl (255) (z_nle q1) h_x9 (zr_c (lo := 256) (hi := 256) (by decide)) (by decide)
  refine zok_br (zr_andr (lo := 0) (hi := 255) (zr_c (lo := 255) (hi := 255) (by decide)) (by decide)) (fun v6 e5 h4 => ?_)
  refine zok_if (fun q6 => ?_) (fun q6 => ?_)
  · have h7 := zc_eql (0) (0) q6 h3 (zr_c (lo := 0) (hi := 0) (by decide)) (by decide)
    exact (s_X3_drawTiles_183 hk143 hσ h_x1 h_x5 h_x8 (zr_w h7 (by decide)) h4 hMk143)
  have h8 := zc_nel (1) (255) q6 h3 (zr_c (lo := 0) (hi := 0) (by decide)) (by decide)
  refine zok_if (fun q9 => ?_) (fun q9 => ?_)
  · have h10 := zc_eql (192) (192) q9 h8 (zr_c (lo := 192) (hi := 192) (by decide)) (by decide)
    exact (s_X3_drawTiles_183 hk143 hσ h_x1 h_x5 h_x8 (zr_w h10 (by decide)) h4 hMk143)
  refine zok_if (fun q11 => ?_) (fun q11 => ?_)
  · have h12 := zc_eql (0) (0) q11 (zr_andr (lo := 0) (hi := 7) (zr_c (lo := 7) (hi := 7) (by decide)) (by decide)) (zr_c (lo := 0) (hi := 0) (by decide)) (by decide)
    exact (s_X3_drawTiles_183 hk143 hσ h_x1 h_x5 h_x8 (zr_w h8 (by decide)) h4 hMk143)
  have h13 := zc_nel (1) (7) q11 (zr_andr (lo := 0) (hi := 7) (zr_c (lo := 7) (hi := 7) (by decide)) (by decide)) (zr_c (lo := 0) (hi := 0) (by decide)) (by decide)
  exact (s_X3_drawTiles_215 hk143 hσ h_x1 h_x5 h_x8 (zr_w h8 (by decide)) h4 hMk143)
theorem s_X3_drawTiles_143 {G : Nat → Int} : ∀ (n : Nat) {σ : zSt} (hσ : zIC G σ) {x1 : Int32} (h_x1 : zr (0) (239) x1) {x5 : Int32} (h_x5 : zr (0) (14336) x5) {x6 : Int32} {x7 : Int32} {x8 : Int32} (h_x8 : zr (0) (1) x8) {x9 : Int32} (h_x9 : zr (0) (256) x9) (hm : (256) - x9.toInt < n), zok (fX3_drawTiles_143 n σ x1 x5 x6 x7 x8 x9) (zIC G) := by
  intro n
  induction n with
  | zero => intro σ hσ x1 h_x1 x5 h_x5 x6 x7 x8 h_x8 x9 h_x9 hm ; have h9 := h_x9.1; have h8 := h_x9.2; exfalso; omega
  | succ n ih => intro σ hσ x1 h_x1 x5 h_x5 x6 x7 x8 h_x8 x9 h_x9 hm ; exact s_X3_drawTiles_143_body (fun σ x1 x5 x6 x7 x8 x9 hσ h_x1 h_x5 h_x8 h_x9 hm1 => ih hσ h_x1 h_x5 h_x8 h_x9 (by omega)) hσ h_x1 h_x5 h_x8 h_x9 (Int.le_refl _)
theorem s_X3_drawTiles_138 {G : Nat → Int} {σ : zSt} (hσ : zIC G σ) {x1 : Int32} (h_x1 : zr (0) (239) x1) {x5 : Int32} (h_x5 : zr (0) (14336) x5) {x6 : Int32} {x7 : Int32} {s0 : Int32} (h_s0 : zr (0) (1) s0) : zok (fX3_drawTiles_138 σ x1 x5 x6 x7 s0) (zIC G) := by
  unfold fX3_drawTiles_138
  exact (s_X3_drawTiles_143 zfuel hσ h_x1 h_x5 h_s0 (zr_w (zr_c (lo := 0) (hi := 0) (by decide)) (by decide)) (by decide))
theorem s_X3_drawTiles_122 {G : Nat → Int} {σ : zSt} (hσ : zIC G σ) {x1 : Int32} (h_x1 : zr (0) (239) x1) {x3 : Int32} {x5 : Int32} (h_x5 : zr (0) (14336) x5) {x6 : Int32} {s0 : Int32} (h_s0 : zr (224) (256) s0) {s1 : Int32} : zok (fX3_drawTiles_122 σ x1 x3 x5 x6 s0 s1) (zIC G) := by
  unfold fX3_drawTiles_122
  refine zok_ck (zdv_ok h_s0 (by decide)) ?_
  refine zok_bv (fun v7 e2 => ?_)
  refine zok_if (fun q3 => ?_) (fun q3 => ?_)
  · have h4 := zc_eql (0) (0) q3 (zr_andr (lo := 0) (hi := 128) (zr_c (lo := 128) (hi := 128) (by decide)) (by decide)) (zr_c (lo := 0) (hi := 0) (by decide)) (by decide)
    exact (s_X3_drawTiles_138 hσ h_x1 h_x5 (zr_w (zr_c (lo := 0) (hi := 0) (by decide)) (by decide)))
  have h5 := zc_nel (1) (128) q3 (zr_andr (lo := 0) (hi := 128) (zr_c (lo := 128) (hi := 128) (by decide)) (by decide)) (zr_c (lo := 0) (hi := 0) (by decide)) (by decide)
  exact (s_X3_drawTiles_138 hσ h_x1 h_x5 (zr_w (zr_c (lo := 1) (hi := 1) (by decide)) (by decide)))
theorem s_X3_drawTiles_96 {G : Nat → Int} {σ : zSt} (hσ : zIC G σ) {x1 : Int32} (h_x1 : zr (0) (239) x1) {x2 : Int32} (h_x2 : zr (0) (1) x2) {x3 : Int32} {x5 : Int32} (h_x5 : zr (0) (14336) x5) {s0 : Int32} : zok (fX3_drawTiles_96 σ x1 x2 x3 x5 s0) (zIC G) := by
  unfold fX3_drawTiles_96
  refine zok_pi (s_X9_held hσ.P) (fun v9 h1 => ?_)
  refine zok_if (fun q2 => ?_) (fun q2 => ?_)
  · have h3 := zc_eql (0) (0) q2 h_x2 (zr_c (lo := 0) (hi := 0) (by decide)) (by decide)
    exact (s_X3_drawTiles_122 hσ h_x1 h_x5 (zr_w (zr_c (lo := 224) (hi := 224) (by decide)) (by decide)))
  have h4 := zc_nel (1) (1) q2 h_x2 (zr_c (lo := 0) (hi := 0) (by decide)) (by decide)
  exact (s_X3_drawTiles_122 hσ h_x1 h_x5 (zr_w (zr_c (lo := 256) (hi := 256) (by decide)) (by decide)))
theorem s_X3_drawTiles_87 {G : Nat → Int} {σ : zSt} (hσ : zIC G σ) {x1 : Int32} (h_x1 : zr (0) (239) x1) {x2 : Int32} (h_x2 : zr (0) (1) x2) {x3 : Int32} {x5 : Int32} (h_x5 : zr (0) (14336) x5) : zok (fX3_drawTiles_87 σ x1 x2 x3 x5) (zIC G) := by
  unfold fX3_drawTiles_87
  refine zok_pi (s_X9_held hσ.P) (fun v11 h1 => ?_)
  exact (s_X3_drawTiles_96 hσ h_x1 h_x2 h_x5)
theorem s_X3_drawTiles_68 {G : Nat → Int} {σ : zSt} (hσ : zIC G σ) {x1 : Int32} (h_x1 : zr (0) (239) x1) {x2 : Int32} (h_x2 : zr (0) (1) x2) {x3 : Int32} {s0 : Int32} (h_s0 : zr (0) (14336) s0) : zok (fX3_drawTiles_68 σ x1 x2 x3 s0) (zIC G) := by
  unfold fX3_drawTiles_68
  refine zok_if (fun q1 => ?_) (fun q1 => ?_)
  · have h2 := zc_ler (16) q1 (zr_c (lo := 16) (hi := 16) (by decide)) h_x1 (by decide)
    exact (s_X3_drawTiles_87 hσ (zr_w h2 (by decide)) h_x2 h_s0)
  have h3 := zc_ltl (15) (z_nle q1) h_x1 (zr_c (lo := 16) (hi := 16) (by decide)) (by decide)
  refine zok_if (fun q4 => ?_) (fun q4 => ?_)
  · have h5 := zc_eql (0) (0) q4 (zr_andr (lo := 0) (hi := 64) (zr_c (lo := 64) (hi := 64) (by decide)) (by decide)) (zr_c (lo := 0) (hi := 0) (by decide)) (by decide)
    exact (s_X3_drawTiles_87 hσ (zr_w h3 (by decide)) h_x2 h_s0)
  have h6 := zc_nel (1) (64) q4 (zr_andr (lo := 0) (hi := 64) (zr_c (lo := 64) (hi := 64) (by decide)) (by decide)) (zr_c (lo := 0) (hi := 0) (by decide)) (by decide)
  exact (s_X3_drawTiles_96 hσ (zr_w h3 (by decide)) h_x2 h_s0)
theorem s_X3_drawTiles_18 {G : Nat → Int} {σ : zSt} (hσ : zIC G σ) {x1 : Int32} (h_x1 : zr (0) (239) x1) {s0 : Int32} (h_s0 : zr (0) (1) s0) : zok (fX3_drawTiles_18 σ x1 s0) (zIC G) := by
  unfold fX3_drawTiles_18
  refine zok_pi (s_X9_held hσ.P) (fun v13 h1 => ?_)
  refine zok_pi (s_X9_held hσ.P) (fun v15 h2 => ?_)
  refine zok_if (fun q3 => ?_) (fun q3 => ?_)
  · have h4 := zc_eql (0) (0) q3 h_s0 (zr_c (lo := 0) (hi := 0) (by decide)) (by decide)
    exact (s_X3_drawTiles_68 hσ h_x1 (zr_w h4 (by decide)) (zr_mul (lo := 0) (hi := 14336) (zr_c (lo := 1024) (hi := 1024) (by decide)) (zr_andr (lo := 0) (hi := 14) (zr_c (lo := 14) (hi := 14) (by decide)) (by decide)) (by decide)))
  have h5 := zc_nel (1) (1) q3 h_s0 (zr_c (lo := 0) (hi := 0) (by decide)) (by decide)
  exact (s_X3_drawTiles_68 hσ h_x1 (zr_w h5 (by decide)) (zr_w (zr_add (lo := 1792) (hi := 14080) (zr_mul (lo := 0) (hi := 12288) (zr_c (lo := 4096) (hi := 4096) (by decide)) (zr_andr (lo := 0) (hi := 3) (zr_c (lo := 3) (hi := 3) (by decide)) (by decide)) (by decide)) (zr_c (lo := 1792) (hi := 1792) (by decide)) (by decide)) (by decide)))
theorem s_X3_drawTiles {G : Nat → Int} {σ : zSt} (hσ : zIC G σ) {x1 : Int32} (h_x1 : zr (0) (239) x1) : zok (fX3_drawTiles σ x1) (zIC G) := by
  unfold fX3_drawTiles
  refine zok_pi (s_X9_height hσ.P) (fun v17 h1 => ?_)
  refine zok_if (fun q2 => ?_) (fun q2 => ?_)
  · have h3 := zc_eql (192) (192) q2 h1 (zr_c (lo := 192) (hi := 192) (by decide)) (by decide)
    exact (s_X3_drawTiles_18 hσ h_x1 (zr_w (zr_c (lo := 0) (hi := 0) (by decide)) (by decide)))
  have h4 := zc_nel (193) (240) q2 h1 (zr_c (lo := 192) (hi := 192) (by decide)) (by decide)
  exact (s_X3_drawTiles_18 hσ h_x1 (zr_w (zr_c (lo := 1) (hi := 1) (by decide)) (by decide)))
theorem s_J7_fill_53178_k28_5_body {G : Nat → Int} {σ : zSt} {k5 : zSt → Int32 → Int32 → Int32 → Option (zSt)} {Mk5 : Int} (hk5 : ∀ (σ : zSt) (x1 : Int32) (x2 : Int32) (x3 : Int32), zIC G σ → zr (0) (0) x1 → zr (0) (256) x2 → zr (256) (256) x3 → (256) - x2.toInt < Mk5 → zok (k5 σ x1 x2 x3) (zIC G)) (hσ : zIC G σ) {x1 : Int32} (h_x1 : zr (0) (0) x1) {x2 : Int32} (h_x2 : zr (0) (256) x2) {x3 : Int32} (h_x3 : zr (256) (256) x3) (hMk5 : (256) - x2.toInt ≤ Mk5) : zok (fJ7_fill_53178_k28_5_body k5 σ x1 x2 x3) (zIC G) := by
  unfold fJ7_fill_53178_k28_5_body
  refine zok_if (fun q1 => ?_) (fun q1 => ?_)
  · have h2 := zc_ler (256) q1 h_x3 h_x2 (by decide)
    exact zok_some hσ
  have h3 := zc_ltl (255) (z_nle q1) h_x2 h_x3 (by decide)
  refine zok_ck (zin_ok h3 (by decide)) ?_
  refine zok_bs (hσ.wk (by decide)) (fun σ1 e5 i4 => ?_)
  refine zok_br (zr_add (lo := 1) (hi := 256) h3 (zr_c (lo := 1) (hi := 1) (by decide)) (by decide)) (fun v2 e7 h6 => ?_)
  exact hk5 _ _ _ _ i4 h_x1 (zr_w h6 (by decide)) h_x3 (by rw [e7]; have := z_tadd (y := (1 : Int32)) h3 (zr_c (lo := 1) (hi := 1) (by decide)) (by decide); have e9 : (1 : Int32).toInt = 1 := rfl; omega) 
theorem s_J7_fill_53178_k28_5 {G : Nat → Int} : ∀ (n : Nat) {σ : zSt} (hσ : zIC G σ) {x1 : Int32} (h_x1 : zr (0) (0) x1) {x2 : Int32} (h_x2 : zr (0) (256) x2) {x3 : Int32} (h_x3 : zr (256) (256) x3) (hm : (256) - x2.toInt < n), zok (fJ7_fill_53178_k28_5 n σ x1 x2 x3) (zIC G) := by
  intro n
  induction n with
  | zero => intro σ hσ x1 h_x1 x2 h_x2 x3 h_x3 hm ; have h9 := h_x2.1; have h8 := h_x2.2; exfalso; omega
  | succ n ih => intro σ hσ x1 h_x1 x2 h_x2 x3 h_x3 hm ; exact s_J7_fill_53178_k28_5_body (fun σ x1 x2 x3 hσ h_x1 h_x2 h_x3 hm1 => ih hσ h_x1 h_x2 h_x3 (by omega)) hσ h_x1 h_x2 h_x3 (Int.le_refl _)
theorem s_J7_fill_53178_k28 {G : Nat → Int} {σ : zSt} (hσ : zIC G σ) {x1 : Int32} (h_x1 : zr (0) (0) x1) : zok (fJ7_fill_53178_k28 σ x1) (zIC G) := by
  unfold fJ7_fill_53178_k28
  exact (s_J7_fill_53178_k28_5 zfuel hσ h_x1 (zr_w (zr_c (lo := 0) (hi := 0) (by decide)) (by decide)) (zr_c (lo := 256) (hi := 256) (by decide)) (by decide))
theorem s_X3_rowOfSprite_56 {σ : zSt} (hσ : zPC σ) {s0 : Int32} (h_s0 : zr (-1) (255) s0) : zok (fX3_rowOfSprite_56 σ s0) (zPi σ (fun v : Int32 => zr (-1) (255) v)) := by
  unfold fX3_rowOfSprite_56
  exact zok_spi h_s0
theorem s_X3_rowOfSprite_47 {σ : zSt} (hσ : zPC σ) {x4 : Int32} (h_x4 : zr (0) (255) x4) {s0 : Int32} (h_s0 : zr (8) (16) s0) {s1 : Int32} (h_s1 : zr (0) (255) s1) : zok (fX3_rowOfSprite_47 σ x4 s0 s1) (zPi σ (fun v : Int32 => zr (-1) (255) v)) := by
  unfold fX3_rowOfSprite_47
  refine zok_if (fun q1 => ?_) (fun q1 => ?_)
  · have h2 := zc_ler (8) q1 h_s0 h_s1 (by decide)
    exact (s_X3_rowOfSprite_56 hσ (zr_w (zr_c (lo := -1) (hi := -1) (by decide)) (by decide)))
  have h3 := zc_ltl (15) (z_nle q1) h_s1 h_s0 (by decide)
  exact (s_X3_rowOfSprite_56 hσ (zr_w h_x4 (by decide)))
theorem s_X3_rowOfSprite_32 {σ : zSt} (hσ : zPC σ) {x3 : Int32} {x4 : Int32} (h_x4 : zr (0) (255) x4) : zok (fX3_rowOfSprite_32 σ x3 x4) (zPi σ (fun v : Int32 => zr (-1) (255) v)) := by
  unfold fX3_rowOfSprite_32
  refine zok_if (fun q1 => ?_) (fun q1 => ?_)
  · have h2 := zc_eql (0) (0) q1 (zr_andr (lo := 0) (hi := 2) (zr_c (lo := 2) (hi := 2) (by decide)) (by decide)) (zr_c (lo := 0) (hi := 0) (by decide)) (by decide)
    exact (s_X3_rowOfSprite_47 hσ h_x4 (zr_w (zr_c (lo := 8) (hi := 8) (by decide)) (by decide)) h_x4)
  have h3 := zc_nel (1) (2) q1 (zr_andr (lo := 0) (hi := 2) (zr_c (lo := 2) (hi := 2) (by decide)) (by decide)) (zr_c (lo := 0) (hi := 0) (by decide)) (by decide)
  exact (s_X3_rowOfSprite_47 hσ h_x4 (zr_w (zr_c (lo := 16) (hi := 16) (by decide)) (by decide)) h_x4)
theorem s_X3_rowOfSprite {σ : zSt} (hσ : zPC σ) {x1 : Int32} (h_x1 : zr (0) (239) x1) {x2 : Int32} (h_x2 : zr (0) (255) x2) : zok (fX3_rowOfSprite σ x1 x2) (zPi σ (fun v : Int32 => zr (-1) (255) v)) := by
  unfold fX3_rowOfSprite
  refine zok_pi (s_X9_held hσ) (fun v2 h1 => ?_)
  refine zok_br (zr_andr (lo := 0) (hi := 255) (zr_c (lo := 255) (hi := 255) (by decide)) (by decide)) (fun v3 e3 h2 => ?_)
  refine zok_if (fun q4 => ?_) (fun q4 => ?_)
  · have h5 := zc_eql (0) (0) q4 (zr_andr (lo := 0) (hi := 1) (zr_c (lo := 1) (hi := 1) (by decide)) (by decide)) (zr_c (lo := 0) (hi := 0) (by decide)) (by decide)
    exact (s_X3_rowOfSprite_32 hσ h2)
  have h6 := zc_nel (1) (1) q4 (zr_andr (lo := 0) (hi := 1) (zr_c (lo := 1) (hi := 1) (by decide)) (by decide)) (zr_c (lo := 0) (hi := 0) (by decide)) (by decide)
  refine zok_br (zr_shr (lo := 0) (hi := 127) 1 (by decide) h2 (by decide)) (fun v4 e8 h7 => ?_)
  exact (s_X3_rowOfSprite_32 hσ (zr_w h7 (by decide)))
theorem s_X9_mark {G : Nat → Int} {σ : zSt} (hσ : zIC G σ) {x1 : Int32} (h_x1 : zr (32) (64) x1) : zok (fX9_mark σ x1) (zIC G) := by
  unfold fX9_mark
  refine zok_ck rfl ?_
  refine zok_ck rfl ?_
  refine zok_bs (hσ.wi 15 15 (by decide) (zr_or (lo := 0) (hi := 255) 8 (rC_40 hσ.sg _ (by decide)) h_x1 (by decide)) (by decide +kernel)) (fun σ1 e2 i1 => ?_)
  exact zok_some i1
theorem s_X3_drawSprite_190 {G : Nat → Int} {σ : zSt} {k111 : zSt → Int32 → Int32 → Int32 → Option (zSt)} {Mk111 : Int} (hk111 : ∀ (σ : zSt) (x3 : Int32) (x6 : Int32) (x7 : Int32), zIC G σ → zr (-8) (255) x3 → zr (0) (1) x6 → zr (0) (16) x7 → (16) - x7.toInt < Mk111 → zok (k111 σ x3 x6 x7) (zIC G)) (hσ : zIC G σ) {x3 : Int32} (h_x3 : zr (-8) (255) x3) {x6 : Int32} (h_x6 : zr (0) (1) x6) {x7 : Int32} (h_x7 : zr (0) (15) x7) (hMk111 : (16) - x7.toInt ≤ Mk111) : zok (fX3_drawSprite_190 k111 σ x3 x6 x7) (zIC G) := by
  unfold fX3_drawSprite_190
  refine zok_br (zr_add (lo := 1) (hi := 16) h_x7 (zr_c (lo := 1) (hi := 1) (by decide)) (by decide)) (fun v1 e2 h1 => ?_)
  exact hk111 _ _ _ _ hσ h_x3 h_x6 (zr_w h1 (by decide)) (by rw [e2]; have := z_tadd (y := (1 : Int32)) h_x7 (zr_c (lo := 1) (hi := 1) (by decide)) (by decide); have e9 : (1 : Int32).toInt = 1 := rfl; omega) 
theorem s_X3_drawSprite_111_body {G : Nat → Int} {σ : zSt} {k111 : zSt → Int32 → Int32 → Int32 → Option (zSt)} {Mk111 : Int} (hk111 : ∀ (σ : zSt) (x3 : Int32) (x6 : Int32) (x7 : Int32), zIC G σ → zr (-8) (255) x3 → zr (0) (1) x6 → zr (0) (16) x7 → (16) - x7.toInt < Mk111 → zok (k111 σ x3 x6 x7) (zIC G)) (hσ : zIC G σ) {x3 : Int32} (h_x3 : zr (-8) (255) x3) {x6 : Int32} (h_x6 : zr (0) (1) x6) {x7 : Int32} (h_x7 : zr (0) (16) x7) (hMk111 : (16) - x7.toInt ≤ Mk111) : zok (fX3_drawSprite_111_body k111 σ x3 x6 x7) (zIC G) := by
  unfold fX3_drawSprite_111_body
  refine zok_if (fun q1 => ?_) (fun q1 => ?_)
  · exact zok_some hσ
  have h2 := zc_ltl (15) (z_nle q1) h_x7 (zr_shld (lo := 0) (hi := 16) (zr_c (lo := 8) (hi := 8) (by decide)) h_x6 (by decide)) (by decide)
  have h3 := zc_ltr (1) (z_nle q1) h_x7 (zr_shld (lo := 0) (hi := 16) (zr_c (lo := 8) (hi := 8) (by decide)) h_x6 (by decide)) (by decide)
  refine zok_br (zr_add (lo := -8) (hi := 270) h_x3 h2 (by decide)) (fun v2 e5 h4 => ?_)
  refine zok_pi (s_X3_numberIn hσ.P (zr_shra (lo := 0) (hi := 15) h2 (by decide))) (fun v4 h6 => ?_)
  refine zok_if (fun q7 => ?_) (fun q7 => ?_)
  · have h8 := zc_lel (0) q7 h6 (zr_c (lo := 0) (hi := 0) (by decide)) (by decide)
    exact (s_X3_drawSprite_190 hk111 hσ h_x3 h_x6 h2 hMk111)
  have h9 := zc_ltr (1) (z_nle q7) (zr_c (lo := 0) (hi := 0) (by decide)) h6 (by decide)
  refine zok_if (fun q10 => ?_) (fun q10 => ?_)
  · have h11 := zc_ltl (-1) q10 h4 (zr_c (lo := 0) (hi := 0) (by decide)) (by decide)
    exact (s_X3_drawSprite_190 hk111 hσ h_x3 h_x6 h2 hMk111)
  have h12 := zc_ler (0) (z_nlt q10) (zr_c (lo := 0) (hi := 0) (by decide)) h4 (by decide)
  refine zok_if (fun q13 => ?_) (fun q13 => ?_)
  · have h14 := zc_ler (256) q13 (zr_c (lo := 256) (hi := 256) (by decide)) h12 (by decide)
    exact (s_X3_drawSprite_190 hk111 hσ h_x3 h_x6 h2 hMk111)
  have h15 := zc_ltl (255) (z_nle q13) h12 (zr_c (lo := 256) (hi := 256) (by decide)) (by decide)
  refine zok_ck (zin_ok h15 (by decide)) ?_
  refine zok_if (fun q16 => ?_) (fun q16 => ?_)
  · have h17 := zc_lel (0) q16 zr_any (zr_c (lo := 0) (hi := 0) (by decide)) (by decide)
    refine zok_ck (zin_ok h15 (by decide)) ?_
    refine zok_bs (hσ.wk (by decide)) (fun σ5 e19 i18 => ?_)
    exact (s_X3_drawSprite_190 hk111 i18 h_x3 h_x6 h2 hMk111)
  have h20 := zc_ltr (1) (z_nle q16) (zr_c (lo := 0) (hi := 0) (by decide)) zr_any (by decide)
  refine zok_bu (s_X9_mark hσ (zr_w (zr_c (lo := 32) (hi := 32) (by decide)) (by decide))) (fun σ6 i21 => ?_)
  exact (s_X3_drawSprite_190 hk111 i21 h_x3 h_x6 h2 hMk111)
theorem s_X3_drawSprite_111 {G : Nat → Int} : ∀ (n : Nat) {σ : zSt} (hσ : zIC G σ) {x3 : Int32} (h_x3 : zr (-8) (255) x3) {x6 : Int32} (h_x6 : zr (0) (1) x6) {x7 : Int32} (h_x7 : zr (0) (16) x7) (hm : (16) - x7.toInt < n), zok (fX3_drawSprite_111 n σ x3 x6 x7) (zIC G) := by
  intro n
  induction n with
  | zero => intro σ hσ x3 h_x3 x6 h_x6 x7 h_x7 hm ; have h9 := h_x7.1; have h8 := h_x7.2; exfalso; omega
  | succ n ih => intro σ hσ x3 h_x3 x6 h_x6 x7 h_x7 hm ; exact s_X3_drawSprite_111_body (fun σ x3 x6 x7 hσ h_x3 h_x6 h_x7 hm1 => ih hσ h_x3 h_x6 h_x7 (by omega)) hσ h_x3 h_x6 h_x7 (Int.le_refl _)
theorem s_X3_drawSprite_100 {G : Nat → Int} {σ : zSt} (hσ : zIC G σ) {x2 : Int32} (h_x2 : zr (0) (255) x2) {x3 : Int32} (h_x3 : zr (-8) (255) x3) {x6 : Int32} (h_x6 : zr (0) (1) x6) {s0 : Int32} (h_s0 : zr (0) (511) s0) {s1 : Int32} (h_s1 : zr (32) (32) s1) : zok (fX3_drawSprite_100 σ x2 x3 x6 s0 s1) (zIC G) := by
  unfold fX3_drawSprite_100
  refine zok_bu (s_X3_takePlanes hσ (zr_add (lo := 0) (hi := 17372) (zr_mul (lo := 0) (hi := 16352) h_s1 h_s0 (by decide)) (zr_mul (lo := 0) (hi := 1020) (zr_c (lo := 4) (hi := 4) (by decide)) h_x2 (by decide)) (by decide))) (fun σ7 i1 => ?_)
  exact (s_X3_drawSprite_111 zfuel i1 h_x3 h_x6 (zr_w (zr_c (lo := 0) (hi := 0) (by decide)) (by decide)) (by decide))
theorem s_X3_drawSprite_61 {G : Nat → Int} {σ : zSt} (hσ : zIC G σ) {x2 : Int32} (h_x2 : zr (0) (255) x2) {x3 : Int32} (h_x3 : zr (-8) (255) x3) {s0 : Int32} (h_s0 : zr (0) (256) s0) {s1 : Int32} (h_s1 : zr (0) (255) s1) : zok (fX3_drawSprite_61 σ x2 x3 s0 s1) (zIC G) := by
  unfold fX3_drawSprite_61
  refine zok_br (zr_add (lo := 0) (hi := 511) h_s1 h_s0 (by decide)) (fun v8 e2 h1 => ?_)
  refine zok_pi (s_X9_held hσ.P) (fun v10 h3 => ?_)
  refine zok_br (zr_andr (lo := 0) (hi := 1) (zr_c (lo := 1) (hi := 1) (by decide)) (by decide)) (fun v11 e5 h4 => ?_)
  refine zok_if (fun q6 => ?_) (fun q6 => ?_)
  · have h7 := zc_eql (0) (0) q6 (zr_andr (lo := 0) (hi := 2) (zr_c (lo := 2) (hi := 2) (by decide)) (by decide)) (zr_c (lo := 0) (hi := 0) (by decide)) (by decide)
    exact (s_X3_drawSprite_100 hσ h_x2 h_x3 h4 h1 (zr_c (lo := 32) (hi := 32) (by decide)))
  have h8 := zc_nel (1) (2) q6 (zr_andr (lo := 0) (hi := 2) (zr_c (lo := 2) (hi := 2) (by decide)) (by decide)) (zr_c (lo := 0) (hi := 0) (by decide)) (by decide)
  exact (s_X3_drawSprite_100 hσ h_x2 h_x3 h4 (zr_andl (lo := 0) (hi := 511) h1 (by decide)) (zr_c (lo := 32) (hi := 32) (by decide)))
theorem s_X3_drawSprite_28 {G : Nat → Int} {σ : zSt} (hσ : zIC G σ) {x1 : Int32} (h_x1 : zr (128) (16382) x1) {x2 : Int32} (h_x2 : zr (0) (255) x2) {s0 : Int32} (h_s0 : zr (0) (8) s0) {s1 : Int32} (h_s1 : zr (0) (255) s1) : zok (fX3_drawSprite_28 σ x1 x2 s0 s1) (zIC G) := by
  unfold fX3_drawSprite_28
  refine zok_br (zr_sub (lo := -8) (hi := 255) h_s1 h_s0 (by decide)) (fun v12 e2 h1 => ?_)
  refine zok_pi (s_X9_vramByte hσ.P) (fun v14 h3 => ?_)
  refine zok_pi (s_X9_held hσ.P) (fun v16 h4 => ?_)
  refine zok_if (fun q5 => ?_) (fun q5 => ?_)
  · have h6 := zc_eql (0) (0) q5 (zr_andr (lo := 0) (hi := 4) (zr_c (lo := 4) (hi := 4) (by decide)) (by decide)) (zr_c (lo := 0) (hi := 0) (by decide)) (by decide)
    exact (s_X3_drawSprite_61 hσ h_x2 h1 (zr_w (zr_c (lo := 0) (hi := 0) (by decide)) (by decide)) h3)
  have h7 := zc_nel (1) (4) q5 (zr_andr (lo := 0) (hi := 4) (zr_c (lo := 4) (hi := 4) (by decide)) (by decide)) (zr_c (lo := 0) (hi := 0) (by decide)) (by decide)
  exact (s_X3_drawSprite_61 hσ h_x2 h1 (zr_w (zr_c (lo := 256) (hi := 256) (by decide)) (by decide)) h3)
theorem s_X3_drawSprite {G : Nat → Int} {σ : zSt} (hσ : zIC G σ) {x1 : Int32} (h_x1 : zr (128) (16382) x1) {x2 : Int32} (h_x2 : zr (0) (255) x2) : zok (fX3_drawSprite σ x1 x2) (zIC G) := by
  unfold fX3_drawSprite
  refine zok_pi (s_X9_vramByte hσ.P) (fun v18 h1 => ?_)
  refine zok_pi (s_X9_held hσ.P) (fun v20 h2 => ?_)
  refine zok_if (fun q3 => ?_) (fun q3 => ?_)
  · have h4 := zc_eql (0) (0) q3 (zr_andr (lo := 0) (hi := 8) (zr_c (lo := 8) (hi := 8) (by decide)) (by decide)) (zr_c (lo := 0) (hi := 0) (by decide)) (by decide)
    exact (s_X3_drawSprite_28 hσ h_x1 h_x2 (zr_w (zr_c (lo := 0) (hi := 0) (by decide)) (by decide)) h1)
  have h5 := zc_nel (1) (8) q3 (zr_andr (lo := 0) (hi := 8) (zr_c (lo := 8) (hi := 8) (by decide)) (by decide)) (zr_c (lo := 0) (hi := 0) (by decide)) (by decide)
  exact (s_X3_drawSprite_28 hσ h_x1 h_x2 (zr_w (zr_c (lo := 8) (hi := 8) (by decide)) (by decide)) h1)
theorem s_X3_drawSprites_196 {G : Nat → Int} {σ : zSt} {k147 : zSt → Int32 → Option (zSt)} {Mk147 : Int} (hk147 : ∀ (σ : zSt) (x5 : Int32), zIC G σ → zr (0) (256) x5 → (256) - x5.toInt < Mk147 → zok (k147 σ x5) (zIC G)) (hσ : zIC G σ) {x5 : Int32} (h_x5 : zr (0) (255) x5) (hMk147 : (256) - x5.toInt ≤ Mk147) : zok (fX3_drawSprites_196 k147 σ x5) (zIC G) := by
  unfold fX3_drawSprites_196
  refine zok_br (zr_add (lo := 1) (hi := 256) h_x5 (zr_c (lo := 1) (hi := 1) (by decide)) (by decide)) (fun v1 e2 h1 => ?_)
  exact hk147 _ _ hσ (zr_w h1 (by decide)) (by rw [e2]; have := z_tadd (y := (1 : Int32)) h_x5 (zr_c (lo := 1) (hi := 1) (by decide)) (by decide); have e9 : (1 : Int32).toInt = 1 := rfl; omega) 
theorem s_X3_drawSprites_147_body {G : Nat → Int} {σ : zSt} {k147 : zSt → Int32 → Option (zSt)} {Mk147 : Int} (hk147 : ∀ (σ : zSt) (x5 : Int32), zIC G σ → zr (0) (256) x5 → (256) - x5.toInt < Mk147 → zok (k147 σ x5) (zIC G)) (hσ : zIC G σ) {x5 : Int32} (h_x5 : zr (0) (256) x5) (hMk147 : (256) - x5.toInt ≤ Mk147) : zok (fX3_drawSprites_147_body k147 σ x5) (zIC G) := by
  unfold fX3_drawSprites_147_body
  refine zok_if (fun q1 => ?_) (fun q1 => ?_)
  · have h2 := zc_ler (256) q1 (zr_c (lo := 256) (hi := 256) (by decide)) h_x5 (by decide)
    exact zok_some hσ
  have h3 := zc_ltl (255) (z_nle q1) h_x5 (zr_c (lo := 256) (hi := 256) (by decide)) (by decide)
  refine zok_ck (zin_ok h3 (by decide)) ?_
  refine zok_if (fun q4 => ?_) (fun q4 => ?_)
  · have h5 := zc_lel (0) q4 zr_any (zr_c (lo := 0) (hi := 0) (by decide)) (by decide)
    exact (s_X3_drawSprites_196 hk147 hσ h3 hMk147)
  have h6 := zc_ltr (1) (z_nle q4) (zr_c (lo := 0) (hi := 0) (by decide)) zr_any (by decide)
  refine zok_ck (zin_ok h3 (by decide)) ?_
  refine zok_if (fun q7 => ?_) (fun q7 => ?_)
  · have h8 := zc_eql (0) (0) q7 (zr_andr (lo := 0) (hi := 256) (zr_c (lo := 256) (hi := 256) (by decide)) (by decide)) (zr_c (lo := 0) (hi := 0) (by decide)) (by decide)
    refine zok_ck (zin_ok h3 (by decide)) ?_
    refine zok_ck (zin_ok h3 (by decide)) ?_
    refine zok_bs (hσ.wk (by decide)) (fun σ2 e10 i9 => ?_)
    exact (s_X3_drawSprites_196 hk147 i9 h3 hMk147)
  have h11 := zc_nel (1) (256) q7 (zr_andr (lo := 0) (hi := 256) (zr_c (lo := 256) (hi := 256) (by decide)) (by decide)) (zr_c (lo := 0) (hi := 0) (by decide)) (by decide)
  exact (s_X3_drawSprites_196 hk147 hσ h3 hMk147)
theorem s_X3_drawSprites_147 {G : Nat → Int} : ∀ (n : Nat) {σ : zSt} (hσ : zIC G σ) {x5 : Int32} (h_x5 : zr (0) (256) x5) (hm : (256) - x5.toInt < n), zok (fX3_drawSprites_147 n σ x5) (zIC G) := by
  intro n
  induction n with
  | zero => intro σ hσ x5 h_x5 hm ; have h9 := h_x5.1; have h8 := h_x5.2; exfalso; omega
  | succ n ih => intro σ hσ x5 h_x5 hm ; exact s_X3_drawSprites_147_body (fun σ x5 hσ h_x5 hm1 => ih hσ h_x5 (by omega)) hσ h_x5 (Int.le_refl _)
theorem s_X3_drawSprites_144 {G : Nat → Int} {σ : zSt} (hσ : zIC G σ) : zok (fX3_drawSprites_144 σ ) (zIC G) := by
  unfold fX3_drawSprites_144
  exact (s_X3_drawSprites_147 zfuel hσ (zr_w (zr_c (lo := 0) (hi := 0) (by decide)) (by decide)) (by decide))
theorem s_X3_drawSprites_138 {G : Nat → Int} {σ : zSt} {k51 : zSt → Int32 → Int32 → Int32 → Int32 → Int32 → Option (zSt)} {Mk51 : Int} (hk51 : ∀ (σ : zSt) (x1 : Int32) (x2 : Int32) (x3 : Int32) (x4 : Int32) (x5 : Int32), zIC G σ → zr (0) (239) x1 → zr (0) (16128) x2 → zr (0) (1) x3 → zr (0) (8) x4 → zr (0) (64) x5 → (64) - x5.toInt < Mk51 → zok (k51 σ x1 x2 x3 x4 x5) (zIC G)) (hσ : zIC G σ) {x1 : Int32} (h_x1 : zr (0) (239) x1) {x2 : Int32} (h_x2 : zr (0) (16128) x2) {x3 : Int32} (h_x3 : zr (0) (1) x3) {x4 : Int32} (h_x4 : zr (0) (8) x4) {x5 : Int32} (h_x5 : zr (0) (63) x5) (hMk51 : (64) - x5.toInt ≤ Mk51) : zok (fX3_drawSprites_138 k51 σ x1 x2 x3 x4 x5) (zIC G) := by
  unfold fX3_drawSprites_138
  refine zok_br (zr_add (lo := 1) (hi := 64) h_x5 (zr_c (lo := 1) (hi := 1) (by decide)) (by decide)) (fun v3 e2 h1 => ?_)
  exact hk51 _ _ _ _ _ _ hσ h_x1 h_x2 h_x3 h_x4 (zr_w h1 (by decide)) (by rw [e2]; have := z_tadd (y := (1 : Int32)) h_x5 (zr_c (lo := 1) (hi := 1) (by decide)) (by decide); have e9 : (1 : Int32).toInt = 1 := rfl; omega) 
theorem s_X3_drawSprites_86 {G : Nat → Int} {σ : zSt} {k51 : zSt → Int32 → Int32 → Int32 → Int32 → Int32 → Option (zSt)} {Mk51 : Int} (hk51 : ∀ (σ : zSt) (x1 : Int32) (x2 : Int32) (x3 : Int32) (x4 : Int32) (x5 : Int32), zIC G σ → zr (0) (239) x1 → zr (0) (16128) x2 → zr (0) (1) x3 → zr (0) (8) x4 → zr (0) (64) x5 → (64) - x5.toInt < Mk51 → zok (k51 σ x1 x2 x3 x4 x5) (zIC G)) (hσ : zIC G σ) {x1 : Int32} (h_x1 : zr (0) (239) x1) {x2 : Int32} (h_x2 : zr (0) (16128) x2) {x3 : Int32} (h_x3 : zr (0) (1) x3) {x4 : Int32} (h_x4 : zr (0) (8) x4) {x5 : Int32} (h_x5 : zr (0) (63) x5) {x6 : Int32} (h_x6 : zr (0) (255) x6) (hMk51 : (64) - x5.toInt ≤ Mk51) : zok (fX3_drawSprites_86 k51 σ x1 x2 x3 x4 x5 x6) (zIC G) := by
  unfold fX3_drawSprites_86
  refine zok_pi (s_X3_rowOfSprite hσ.P h_x1 h_x6) (fun v5 h1 => ?_)
  refine zok_if (fun q2 => ?_) (fun q2 => ?_)
  · have h3 := zc_ltl (-1) q2 h1 (zr_c (lo := 0) (hi := 0) (by decide)) (by decide)
    exact (s_X3_drawSprites_138 hk51 hσ h_x1 h_x2 h_x3 h_x4 h_x5 hMk51)
  have h4 := zc_ler (0) (z_nlt q2) (zr_c (lo := 0) (hi := 0) (by decide)) h1 (by decide)
  refine zok_br (zr_add (lo := 1) (hi := 9) h_x4 (zr_c (lo := 1) (hi := 1) (by decide)) (by decide)) (fun v6 e6 h5 => ?_)
  refine zok_if (fun q7 => ?_) (fun q7 => ?_)
  · have h8 := zc_lel (8) q7 h5 (zr_c (lo := 8) (hi := 8) (by decide)) (by decide)
    refine zok_bu (s_X3_drawSprite hσ (zr_add (lo := 128) (hi := 16382) (zr_add (lo := 128) (hi := 16256) h_x2 (zr_c (lo := 128) (hi := 128) (by decide)) (by decide)) (zr_mul (lo := 0) (hi := 126) (zr_c (lo := 2) (hi := 2) (by decide)) h_x5 (by decide)) (by decide)) h4) (fun σ7 i9 => ?_)
    exact (s_X3_drawSprites_138 hk51 i9 h_x1 h_x2 h_x3 (zr_w h8 (by decide)) h_x5 hMk51)
  have h10 := zc_ltr (9) (z_nle q7) (zr_c (lo := 8) (hi := 8) (by decide)) h5 (by decide)
  refine zok_bu (s_X9_mark hσ (zr_w (zr_c (lo := 64) (hi := 64) (by decide)) (by decide))) (fun σ8 i11 => ?_)
  exact (s_X3_drawSprites_144 i11)
theorem s_X3_drawSprites_51_body {G : Nat → Int} {σ : zSt} {k51 : zSt → Int32 → Int32 → Int32 → Int32 → Int32 → Option (zSt)} {Mk51 : Int} (hk51 : ∀ (σ : zSt) (x1 : Int32) (x2 : Int32) (x3 : Int32) (x4 : Int32) (x5 : Int32), zIC G σ → zr (0) (239) x1 → zr (0) (16128) x2 → zr (0) (1) x3 → zr (0) (8) x4 → zr (0) (64) x5 → (64) - x5.toInt < Mk51 → zok (k51 σ x1 x2 x3 x4 x5) (zIC G)) (hσ : zIC G σ) {x1 : Int32} (h_x1 : zr (0) (239) x1) {x2 : Int32} (h_x2 : zr (0) (16128) x2) {x3 : Int32} (h_x3 : zr (0) (1) x3) {x4 : Int32} (h_x4 : zr (0) (8) x4) {x5 : Int32} (h_x5 : zr (0) (64) x5) (hMk51 : (64) - x5.toInt ≤ Mk51) : zok (fX3_drawSprites_51_body k51 σ x1 x2 x3 x4 x5) (zIC G) := by
  unfold fX3_drawSprites_51_body
  refine zok_if (fun q1 => ?_) (fun q1 => ?_)
  · have h2 := zc_ler (64) q1 (zr_c (lo := 64) (hi := 64) (by decide)) h_x5 (by decide)
    exact (s_X3_drawSprites_144 hσ)
  have h3 := zc_ltl (63) (z_nle q1) h_x5 (zr_c (lo := 64) (hi := 64) (by decide)) (by decide)
  refine zok_pi (s_X9_vramByte hσ.P) (fun v10 h4 => ?_)
  refine zok_if (fun q5 => ?_) (fun q5 => ?_)
  · have h6 := zc_eql (0) (0) q5 h_x3 (zr_c (lo := 0) (hi := 0) (by decide)) (by decide)
    exact (s_X3_drawSprites_86 hk51 hσ h_x1 h_x2 (zr_w h6 (by decide)) h_x4 h3 h4 hMk51)
  have h7 := zc_nel (1) (1) q5 h_x3 (zr_c (lo := 0) (hi := 0) (by decide)) (by decide)
  refine zok_if (fun q8 => ?_) (fun q8 => ?_)
  · have h9 := zc_eql (208) (208) q8 h4 (zr_c (lo := 208) (hi := 208) (by decide)) (by decide)
    exact (s_X3_drawSprites_144 hσ)
  exact (s_X3_drawSprites_86 hk51 hσ h_x1 h_x2 (zr_w h7 (by decide)) h_x4 h3 h4 hMk51)
theorem s_X3_drawSprites_51 {G : Nat → Int} : ∀ (n : Nat) {σ : zSt} (hσ : zIC G σ) {x1 : Int32} (h_x1 : zr (0) (239) x1) {x2 : Int32} (h_x2 : zr (0) (16128) x2) {x3 : Int32} (h_x3 : zr (0) (1) x3) {x4 : Int32} (h_x4 : zr (0) (8) x4) {x5 : Int32} (h_x5 : zr (0) (64) x5) (hm : (64) - x5.toInt < n), zok (fX3_drawSprites_51 n σ x1 x2 x3 x4 x5) (zIC G) := by
  intro n
  induction n with
  | zero => intro σ hσ x1 h_x1 x2 h_x2 x3 h_x3 x4 h_x4 x5 h_x5 hm ; have h9 := h_x5.1; have h8 := h_x5.2; exfalso; omega
  | succ n ih => intro σ hσ x1 h_x1 x2 h_x2 x3 h_x3 x4 h_x4 x5 h_x5 hm ; exact s_X3_drawSprites_51_body (fun σ x1 x2 x3 x4 x5 hσ h_x1 h_x2 h_x3 h_x4 h_x5 hm1 => ih hσ h_x1 h_x2 h_x3 h_x4 h_x5 (by omega)) hσ h_x1 h_x2 h_x3 h_x4 h_x5 (Int.le_refl _)
theorem s_X3_drawSprites_44 {G : Nat → Int} {σ : zSt} (hσ : zIC G σ) {x1 : Int32} (h_x1 : zr (0) (239) x1) {x2 : Int32} (h_x2 : zr (0) (16128) x2) {s0 : Int32} (h_s0 : zr (0) (1) s0) : zok (fX3_drawSprites_44 σ x1 x2 s0) (zIC G) := by
  unfold fX3_drawSprites_44
  exact (s_X3_drawSprites_51 zfuel hσ h_x1 h_x2 h_s0 (zr_w (zr_c (lo := 0) (hi := 0) (by decide)) (by decide)) (zr_w (zr_c (lo := 0) (hi := 0) (by decide)) (by decide)) (by decide))
theorem s_X3_drawSprites {G : Nat → Int} {σ : zSt} (hσ : zIC G σ) {x1 : Int32} (h_x1 : zr (0) (239) x1) : zok (fX3_drawSprites σ x1) (zIC G) := by
  unfold fX3_drawSprites
  refine zok_bu (s_J7_fill_53178_k28 hσ (zr_c (lo := 0) (hi := 0) (by decide))) (fun σ11 i1 => ?_)
  refine zok_pi (s_X9_held i1.P) (fun v13 h2 => ?_)
  refine zok_br (zr_mul (lo := 0) (hi := 16128) (zr_c (lo := 256) (hi := 256) (by decide)) (zr_andr (lo := 0) (hi := 63) (zr_c (lo := 63) (hi := 63) (by decide)) (by decide)) (by decide)) (fun v14 e4 h3 => ?_)
  refine zok_pi (s_X9_height i1.P) (fun v16 h5 => ?_)
  refine zok_if (fun q6 => ?_) (fun q6 => ?_)
  · have h7 := zc_eql (192) (192) q6 h5 (zr_c (lo := 192) (hi := 192) (by decide)) (by decide)
    exact (s_X3_drawSprites_44 i1 h_x1 h3 (zr_w (zr_c (lo := 1) (hi := 1) (by decide)) (by decide)))
  have h8 := zc_nel (193) (240) q6 h5 (zr_c (lo := 192) (hi := 192) (by decide)) (by decide)
  exact (s_X3_drawSprites_44 i1 h_x1 h3 (zr_w (zr_c (lo := 0) (hi := 0) (by decide)) (by decide)))
theorem s_J7_fill_fda19_k27_10_body {G : Nat → Int} {σ : zSt} {k10 : zSt → Int32 → Int32 → Int32 → Option (zSt)} {Mk10 : Int} (hk10 : ∀ (σ : zSt) (x2 : Int32) (x3 : Int32) (x4 : Int32), zIC G σ → zr (8) (8) x2 → zr (0) (31) x3 → zr (0) (8) x4 → (8) - x4.toInt < Mk10 → zok (k10 σ x2 x3 x4) (zIC G)) (hσ : zIC G σ) {x2 : Int32} (h_x2 : zr (8) (8) x2) {x3 : Int32} (h_x3 : zr (0) (31) x3) {x4 : Int32} (h_x4 : zr (0) (8) x4) (hMk10 : (8) - x4.toInt ≤ Mk10) : zok (fJ7_fill_fda19_k27_10_body k10 σ x2 x3 x4) (zIC G) := by
  unfold fJ7_fill_fda19_k27_10_body
  refine zok_if (fun q1 => ?_) (fun q1 => ?_)
  · have h2 := zc_ler (8) q1 h_x2 h_x4 (by decide)
    exact zok_some hσ
  have h3 := zc_ltl (7) (z_nle q1) h_x4 h_x2 (by decide)
  refine zok_ck (zin_ok h3 (by decide)) ?_
  refine zok_bs (hσ.wk (by decide)) (fun σ1 e5 i4 => ?_)
  refine zok_br (zr_add (lo := 1) (hi := 8) h3 (zr_c (lo := 1) (hi := 1) (by decide)) (by decide)) (fun v2 e7 h6 => ?_)
  exact hk10 _ _ _ _ i4 h_x2 h_x3 (zr_w h6 (by decide)) (by rw [e7]; have := z_tadd (y := (1 : Int32)) h3 (zr_c (lo := 1) (hi := 1) (by decide)) (by decide); have e9 : (1 : Int32).toInt = 1 := rfl; omega) 
theorem s_J7_fill_fda19_k27_10 {G : Nat → Int} : ∀ (n : Nat) {σ : zSt} (hσ : zIC G σ) {x2 : Int32} (h_x2 : zr (8) (8) x2) {x3 : Int32} (h_x3 : zr (0) (31) x3) {x4 : Int32} (h_x4 : zr (0) (8) x4) (hm : (8) - x4.toInt < n), zok (fJ7_fill_fda19_k27_10 n σ x2 x3 x4) (zIC G) := by
  intro n
  induction n with
  | zero => intro σ hσ x2 h_x2 x3 h_x3 x4 h_x4 hm ; have h9 := h_x4.1; have h8 := h_x4.2; exfalso; omega
  | succ n ih => intro σ hσ x2 h_x2 x3 h_x3 x4 h_x4 hm ; exact s_J7_fill_fda19_k27_10_body (fun σ x2 x3 x4 hσ h_x2 h_x3 h_x4 hm1 => ih hσ h_x2 h_x3 h_x4 (by omega)) hσ h_x2 h_x3 h_x4 (Int.le_refl _)
theorem s_J7_fill_fda19_k27 {G : Nat → Int} {σ : zSt} (hσ : zIC G σ) {x1 : Int32} (h_x1 : zr (0) (0) x1) {x2 : Int32} (h_x2 : zr (8) (8) x2) {x3 : Int32} (h_x3 : zr (0) (31) x3) : zok (fJ7_fill_fda19_k27 σ x1 x2 x3) (zIC G) := by
  unfold fJ7_fill_fda19_k27
  refine zok_pu (s_rangeCheck (zr_c (lo := 256) (hi := 256) (by decide)) h_x1 h_x2 (by decide)) ?_
  exact (s_J7_fill_fda19_k27_10 zfuel hσ h_x2 h_x3 (zr_w h_x1 (by decide)) (z_su h_x1 (by decide)))
theorem s_X3_patternAt {σ : zSt} (hσ : zPC σ) {x1 : Int32} (h_x1 : zr (0) (255) x1) {x2 : Int32} (h_x2 : zr (0) (239) x2) : zok (fX3_patternAt σ x1 x2) (zPi σ (fun v : Int32 => zr (0) (255) v)) := by
  unfold fX3_patternAt
  refine zok_pi (s_X9_held hσ) (fun v2 h1 => ?_)
  refine zok_pi (s_X9_vramByte hσ) (fun v4 h2 => ?_)
  exact zok_spi h2
theorem s_X3_drawText_101 {G : Nat → Int} {σ : zSt} {k21 : zSt → Int32 → Int32 → Int32 → Int32 → Option (zSt)} {Mk21 : Int} (hk21 : ∀ (σ : zSt) (x1 : Int32) (x2 : Int32) (x3 : Int32) (x4 : Int32), zIC G σ → zr (0) (15360) x1 → zr (0) (239) x2 → zr (0) (40) x4 → (40) - x4.toInt < Mk21 → zok (k21 σ x1 x2 x3 x4) (zIC G)) {k56 : zSt → Int32 → Int32 → Int32 → Int32 → Int32 → Int32 → Option (zSt)} {Mk56 : Int} (hk56 : ∀ (σ : zSt) (x1 : Int32) (x2 : Int32) (x3 : Int32) (x4 : Int32) (x5 : Int32) (x6 : Int32), zIC G σ → zr (0) (15360) x1 → zr (0) (239) x2 → zr (0) (39) x4 → zr (0) (255) x5 → zr (0) (6) x6 → (6) - x6.toInt < Mk56 → (40) - x4.toInt ≤ Mk21 → zok (k56 σ x1 x2 x3 x4 x5 x6) (zIC G)) (hσ : zIC G σ) {x1 : Int32} (h_x1 : zr (0) (15360) x1) {x2 : Int32} (h_x2 : zr (0) (239) x2) {x3 : Int32} {x4 : Int32} (h_x4 : zr (0) (39) x4) {x5 : Int32} (h_x5 : zr (0) (255) x5) {x6 : Int32} (h_x6 : zr (0) (5) x6) {s0 : Int32} (h_s0 : zr (-134217728) (134217727) s0) {s1 : Int32} (h_s1 : zr (8) (247) s1) (hMk21 : (40) - x4.toInt ≤ Mk21) (hMk56 : (6) - x6.toInt ≤ Mk56) : zok (fX3_drawText_101 k21 k56 σ x1 x2 x3 x4 x5 x6 s0 s1) (zIC G) := by
  unfold fX3_drawText_101
  refine zok_ck (zin_ok h_s1 (by decide)) ?_
  refine zok_bs (hσ.wk (by decide)) (fun σ1 e2 i1 => ?_)
  refine zok_br (zr_add (lo := 1) (hi := 6) h_x6 (zr_c (lo := 1) (hi := 1) (by decide)) (by decide)) (fun v2 e4 h3 => ?_)
  exact hk56 _ _ _ _ _ _ _ i1 h_x1 h_x2 h_x4 h_x5 (zr_w h3 (by decide)) (by rw [e4]; have := z_tadd (y := (1 : Int32)) h_x6 (zr_c (lo := 1) (hi := 1) (by decide)) (by decide); have e9 : (1 : Int32).toInt = 1 := rfl; omega) hMk21
theorem s_X3_drawText_56_body {G : Nat → Int} {σ : zSt} {k21 : zSt → Int32 → Int32 → Int32 → Int32 → Option (zSt)} {Mk21 : Int} (hk21 : ∀ (σ : zSt) (x1 : Int32) (x2 : Int32) (x3 : Int32) (x4 : Int32), zIC G σ → zr (0) (15360) x1 → zr (0) (239) x2 → zr (0) (40) x4 → (40) - x4.toInt < Mk21 → zok (k21 σ x1 x2 x3 x4) (zIC G)) {k56 : zSt → Int32 → Int32 → Int32 → Int32 → Int32 → Int32 → Option (zSt)} {Mk56 : Int} (hk56 : ∀ (σ : zSt) (x1 : Int32) (x2 : Int32) (x3 : Int32) (x4 : Int32) (x5 : Int32) (x6 : Int32), zIC G σ → zr (0) (15360) x1 → zr (0) (239) x2 → zr (0) (39) x4 → zr (0) (255) x5 → zr (0) (6) x6 → (6) - x6.toInt < Mk56 → (40) - x4.toInt ≤ Mk21 → zok (k56 σ x1 x2 x3 x4 x5 x6) (zIC G)) (hσ : zIC G σ) {x1 : Int32} (h_x1 : zr (0) (15360) x1) {x2 : Int32} (h_x2 : zr (0) (239) x2) {x3 : Int32} {x4 : Int32} (h_x4 : zr (0) (39) x4) {x5 : Int32} (h_x5 : zr (0) (255) x5) {x6 : Int32} (h_x6 : zr (0) (6) x6) (hMk21 : (40) - x4.toInt ≤ Mk21) (hMk56 : (6) - x6.toInt ≤ Mk56) : zok (fX3_drawText_56_body k21 k56 σ x1 x2 x3 x4 x5 x6) (zIC G) := by
  unfold fX3_drawText_56_body
  refine zok_if (fun q1 => ?_) (fun q1 => ?_)
  · have h2 := zc_ler (6) q1 (zr_c (lo := 6) (hi := 6) (by decide)) h_x6 (by decide)
    refine zok_br (zr_add (lo := 1) (hi := 40) h_x4 (zr_c (lo := 1) (hi := 1) (by decide)) (by decide)) (fun v3 e4 h3 => ?_)
    exact hk21 _ _ _ _ _ hσ h_x1 h_x2 (zr_w h3 (by decide)) (by rw [e4]; have := z_tadd (y := (1 : Int32)) h_x4 (zr_c (lo := 1) (hi := 1) (by decide)) (by decide); have e9 : (1 : Int32).toInt = 1 := rfl; omega) 
  have h5 := zc_ltl (5) (z_nle q1) h_x6 (zr_c (lo := 6) (hi := 6) (by decide)) (by decide)
  refine zok_if (fun q6 => ?_) (fun q6 => ?_)
  · have h7 := zc_eql (0) (0) q6 (zr_andr (lo := 0) (hi := 1) (zr_c (lo := 1) (hi := 1) (by decide)) (by decide)) (zr_c (lo := 0) (hi := 0) (by decide)) (by decide)
    exact (s_X3_drawText_101 hk21 hk56 hσ h_x1 h_x2 h_x4 h_x5 h5 (zr_w (zr_andr (lo := 0) (hi := 15) (zr_c (lo := 15) (hi := 15) (by decide)) (by decide)) (by decide)) (zr_add (lo := 8) (hi := 247) (zr_add (lo := 8) (hi := 242) (zr_c (lo := 8) (hi := 8) (by decide)) (zr_mul (lo := 0) (hi := 234) (zr_c (lo := 6) (hi := 6) (by decide)) h_x4 (by decide)) (by decide)) h5 (by decide)) hMk21 hMk56)
  have h8 := zc_nel (1) (1) q6 (zr_andr (lo := 0) (hi := 1) (zr_c (lo := 1) (hi := 1) (by decide)) (by decide)) (zr_c (lo := 0) (hi := 0) (by decide)) (by decide)
  exact (s_X3_drawText_101 hk21 hk56 hσ h_x1 h_x2 h_x4 h_x5 h5 (zr_shr (lo := -134217728) (hi := 134217727) 4 (by decide) zr_any (by decide)) (zr_add (lo := 8) (hi := 247) (zr_add (lo := 8) (hi := 242) (zr_c (lo := 8) (hi := 8) (by decide)) (zr_mul (lo := 0) (hi := 234) (zr_c (lo := 6) (hi := 6) (by decide)) h_x4 (by decide)) (by decide)) h5 (by decide)) hMk21 hMk56)
theorem s_X3_drawText_56 {G : Nat → Int} {k21 : zSt → Int32 → Int32 → Int32 → Int32 → Option (zSt)} {Mk21 : Int} (hk21 : ∀ (σ : zSt) (x1 : Int32) (x2 : Int32) (x3 : Int32) (x4 : Int32), zIC G σ → zr (0) (15360) x1 → zr (0) (239) x2 → zr (0) (40) x4 → (40) - x4.toInt < Mk21 → zok (k21 σ x1 x2 x3 x4) (zIC G)) : ∀ (n : Nat) {σ : zSt} (hσ : zIC G σ) {x1 : Int32} (h_x1 : zr (0) (15360) x1) {x2 : Int32} (h_x2 : zr (0) (239) x2) {x3 : Int32} {x4 : Int32} (h_x4 : zr (0) (39) x4) {x5 : Int32} (h_x5 : zr (0) (255) x5) {x6 : Int32} (h_x6 : zr (0) (6) x6) (hm : (6) - x6.toInt < n) (hMk21 : (40) - x4.toInt ≤ Mk21), zok (fX3_drawText_56 k21 n σ x1 x2 x3 x4 x5 x6) (zIC G) := by
  intro n
  induction n with
  | zero => intro σ hσ x1 h_x1 x2 h_x2 x3 x4 h_x4 x5 h_x5 x6 h_x6 hm hMk21; have h9 := h_x6.1; have h8 := h_x6.2; exfalso; omega
  | succ n ih => intro σ hσ x1 h_x1 x2 h_x2 x3 x4 h_x4 x5 h_x5 x6 h_x6 hm hMk21; exact s_X3_drawText_56_body hk21 (fun σ x1 x2 x3 x4 x5 x6 hσ h_x1 h_x2 h_x4 h_x5 h_x6 hm1 hMk21 => ih hσ h_x1 h_x2 h_x4 h_x5 h_x6 (by omega) hMk21) hσ h_x1 h_x2 h_x4 h_x5 h_x6 hMk21 (Int.le_refl _)
theorem s_X3_drawText_21_body {G : Nat → Int} {σ : zSt} {k21 : zSt → Int32 → Int32 → Int32 → Int32 → Option (zSt)} {Mk21 : Int} (hk21 : ∀ (σ : zSt) (x1 : Int32) (x2 : Int32) (x3 : Int32) (x4 : Int32), zIC G σ → zr (0) (15360) x1 → zr (0) (239) x2 → zr (0) (40) x4 → (40) - x4.toInt < Mk21 → zok (k21 σ x1 x2 x3 x4) (zIC G)) (hσ : zIC G σ) {x1 : Int32} (h_x1 : zr (0) (15360) x1) {x2 : Int32} (h_x2 : zr (0) (239) x2) {x3 : Int32} {x4 : Int32} (h_x4 : zr (0) (40) x4) (hMk21 : (40) - x4.toInt ≤ Mk21) : zok (fX3_drawText_21_body k21 σ x1 x2 x3 x4) (zIC G) := by
  unfold fX3_drawText_21_body
  refine zok_if (fun q1 => ?_) (fun q1 => ?_)
  · have h2 := zc_ler (40) q1 (zr_c (lo := 40) (hi := 40) (by decide)) h_x4 (by decide)
    exact zok_some hσ
  have h3 := zc_ltl (39) (z_nle q1) h_x4 (zr_c (lo := 40) (hi := 40) (by decide)) (by decide)
  refine zok_pi (s_X9_vramByte hσ.P) (fun v5 h4 => ?_)
  refine zok_pi (s_X3_patternAt hσ.P h4 h_x2) (fun v7 h5 => ?_)
  exact (s_X3_drawText_56 hk21 zfuel hσ h_x1 h_x2 h3 h5 (zr_w (zr_c (lo := 0) (hi := 0) (by decide)) (by decide)) (by decide) hMk21)
theorem s_X3_drawText_21 {G : Nat → Int} : ∀ (n : Nat) {σ : zSt} (hσ : zIC G σ) {x1 : Int32} (h_x1 : zr (0) (15360) x1) {x2 : Int32} (h_x2 : zr (0) (239) x2) {x3 : Int32} {x4 : Int32} (h_x4 : zr (0) (40) x4) (hm : (40) - x4.toInt < n), zok (fX3_drawText_21 n σ x1 x2 x3 x4) (zIC G) := by
  intro n
  induction n with
  | zero => intro σ hσ x1 h_x1 x2 h_x2 x3 x4 h_x4 hm ; have h9 := h_x4.1; have h8 := h_x4.2; exfalso; omega
  | succ n ih => intro σ hσ x1 h_x1 x2 h_x2 x3 x4 h_x4 hm ; exact s_X3_drawText_21_body (fun σ x1 x2 x3 x4 hσ h_x1 h_x2 h_x4 hm1 => ih hσ h_x1 h_x2 h_x4 (by omega)) hσ h_x1 h_x2 h_x4 (Int.le_refl _)
theorem s_X3_drawText {G : Nat → Int} {σ : zSt} (hσ : zIC G σ) {x1 : Int32} (h_x1 : zr (0) (15360) x1) {x2 : Int32} (h_x2 : zr (0) (239) x2) : zok (fX3_drawText σ x1 x2) (zIC G) := by
  unfold fX3_drawText
  refine zok_pi (s_X9_held hσ.P) (fun v9 h1 => ?_)
  refine zok_bu (s_J7_fill_53178_k27 hσ (zr_w (zr_c (lo := 0) (hi := 0) (by decide)) (by decide))) (fun σ10 i2 => ?_)
  exact (s_X3_drawText_21 zfuel i2 h_x1 h_x2 (zr_w (zr_c (lo := 0) (hi := 0) (by decide)) (by decide)) (by decide))
theorem s_X3_drawPattern_57 {σ : zSt} (hσ : zPC σ) : zok (fX3_drawPattern_57 σ ) (zPu σ) := by
  unfold fX3_drawPattern_57
  exact zok_spu
theorem s_X3_drawPattern_50 {G : Nat → Int} {σ : zSt} {k3 : zSt → Int32 → Int32 → Int32 → Int32 → Option (zSt)} {Mk3 : Int} (hk3 : ∀ (σ : zSt) (x1 : Int32) (x2 : Int32) (x3 : Int32) (x4 : Int32), zIC G σ → zr (0) (248) x1 → zr (0) (255) x2 → zr (0) (255) x3 → zr (0) (8) x4 → (8) - x4.toInt < Mk3 → zok (k3 σ x1 x2 x3 x4) (zIC G)) (hσ : zIC G σ) {x1 : Int32} (h_x1 : zr (0) (248) x1) {x2 : Int32} (h_x2 : zr (0) (255) x2) {x3 : Int32} (h_x3 : zr (0) (255) x3) {x4 : Int32} (h_x4 : zr (0) (7) x4) {s0 : Int32} (h_s0 : zr (0) (15) s0) {s1 : Int32} (h_s1 : zr (0) (255) s1) (hMk3 : (8) - x4.toInt ≤ Mk3) : zok (fX3_drawPattern_50 k3 σ x1 x2 x3 x4 s0 s1) (zIC G) := by
  unfold fX3_drawPattern_50
  refine zok_ck (zin_ok h_s1 (by decide)) ?_
  refine zok_bs (hσ.wk (by decide)) (fun σ1 e2 i1 => ?_)
  refine zok_br (zr_add (lo := 1) (hi := 8) h_x4 (zr_c (lo := 1) (hi := 1) (by decide)) (by decide)) (fun v2 e4 h3 => ?_)
  exact hk3 _ _ _ _ _ i1 h_x1 h_x2 h_x3 (zr_w h3 (by decide)) (by rw [e4]; have := z_tadd (y := (1 : Int32)) h_x4 (zr_c (lo := 1) (hi := 1) (by decide)) (by decide); have e9 : (1 : Int32).toInt = 1 := rfl; omega) 
theorem s_X3_drawPattern_3_body {G : Nat → Int} {σ : zSt} {k3 : zSt → Int32 → Int32 → Int32 → Int32 → Option (zSt)} {Mk3 : Int} (hk3 : ∀ (σ : zSt) (x1 : Int32) (x2 : Int32) (x3 : Int32) (x4 : Int32), zIC G σ → zr (0) (248) x1 → zr (0) (255) x2 → zr (0) (255) x3 → zr (0) (8) x4 → (8) - x4.toInt < Mk3 → zok (k3 σ x1 x2 x3 x4) (zIC G)) (hσ : zIC G σ) {x1 : Int32} (h_x1 : zr (0) (248) x1) {x2 : Int32} (h_x2 : zr (0) (255) x2) {x3 : Int32} (h_x3 : zr (0) (255) x3) {x4 : Int32} (h_x4 : zr (0) (8) x4) (hMk3 : (8) - x4.toInt ≤ Mk3) : zok (fX3_drawPattern_3_body k3 σ x1 x2 x3 x4) (zIC G) := by
  unfold fX3_drawPattern_3_body
  refine zok_if (fun q1 => ?_) (fun q1 => ?_)
  · have h2 := zc_ler (8) q1 (zr_c (lo := 8) (hi := 8) (by decide)) h_x4 (by decide)
    exact zok_pau hσ (s_X3_drawPattern_57 hσ.P)
  have h3 := zc_ltl (7) (z_nle q1) h_x4 (zr_c (lo := 8) (hi := 8) (by decide)) (by decide)
  refine zok_if (fun q4 => ?_) (fun q4 => ?_)
  · exact zr_no (zc_lel (255) q4 (zr_c (lo := 256) (hi := 256) (by decide)) (zr_add (lo := 0) (hi := 255) h_x1 h3 (by decide)) (by decide)) (by decide)
  refine zok_if (fun q5 => ?_) (fun q5 => ?_)
  · have h6 := zc_eql (0) (0) q5 (zr_andr (lo := 0) (hi := 1) (zr_c (lo := 1) (hi := 1) (by decide)) (by decide)) (zr_c (lo := 0) (hi := 0) (by decide)) (by decide)
    exact (s_X3_drawPattern_50 hk3 hσ h_x1 h_x2 h_x3 h3 (zr_andr (lo := 0) (hi := 15) (zr_c (lo := 15) (hi := 15) (by decide)) (by decide)) (zr_add (lo := 0) (hi := 255) h_x1 h3 (by decide)) hMk3)
  have h7 := zc_nel (1) (1) q5 (zr_andr (lo := 0) (hi := 1) (zr_c (lo := 1) (hi := 1) (by decide)) (by decide)) (zr_c (lo := 0) (hi := 0) (by decide)) (by decide)
  exact (s_X3_drawPattern_50 hk3 hσ h_x1 h_x2 h_x3 h3 (zr_shr (lo := 0) (hi := 15) 4 (by decide) h_x3 (by decide)) (zr_add (lo := 0) (hi := 255) h_x1 h3 (by decide)) hMk3)
theorem s_X3_drawPattern_3 {G : Nat → Int} : ∀ (n : Nat) {σ : zSt} (hσ : zIC G σ) {x1 : Int32} (h_x1 : zr (0) (248) x1) {x2 : Int32} (h_x2 : zr (0) (255) x2) {x3 : Int32} (h_x3 : zr (0) (255) x3) {x4 : Int32} (h_x4 : zr (0) (8) x4) (hm : (8) - x4.toInt < n), zok (fX3_drawPattern_3 n σ x1 x2 x3 x4) (zIC G) := by
  intro n
  induction n with
  | zero => intro σ hσ x1 h_x1 x2 h_x2 x3 h_x3 x4 h_x4 hm ; have h9 := h_x4.1; have h8 := h_x4.2; exfalso; omega
  | succ n ih => intro σ hσ x1 h_x1 x2 h_x2 x3 h_x3 x4 h_x4 hm ; exact s_X3_drawPattern_3_body (fun σ x1 x2 x3 x4 hσ h_x1 h_x2 h_x3 h_x4 hm1 => ih hσ h_x1 h_x2 h_x3 h_x4 (by omega)) hσ h_x1 h_x2 h_x3 h_x4 (Int.le_refl _)
theorem s_X3_drawPattern {G : Nat → Int} {σ : zSt} (hσ : zIC G σ) {x1 : Int32} (h_x1 : zr (0) (248) x1) {x2 : Int32} (h_x2 : zr (0) (255) x2) {x3 : Int32} (h_x3 : zr (0) (255) x3) : zok (fX3_drawPattern σ x1 x2 x3) (zIC G) := by
  unfold fX3_drawPattern
  exact (s_X3_drawPattern_3 zfuel hσ h_x1 h_x2 h_x3 (zr_w (zr_c (lo := 0) (hi := 0) (by decide)) (by decide)) (by decide))
theorem s_X3_drawBlocks {G : Nat → Int} {σ : zSt} (hσ : zIC G σ) {x1 : Int32} (h_x1 : zr (0) (248) x1) {x2 : Int32} (h_x2 : zr (0) (255) x2) {x3 : Int32} (h_x3 : zr (0) (239) x3) : zok (fX3_drawBlocks σ x1 x2 x3) (zIC G) := by
  unfold fX3_drawBlocks
  refine zok_pi (s_X9_held hσ.P) (fun v2 h1 => ?_)
  refine zok_br (zr_add (lo := 0) (hi := 16383) (zr_add (lo := 0) (hi := 16382) (zr_add (lo := 0) (hi := 16376) (zr_mul (lo := 0) (hi := 14336) (zr_c (lo := 2048) (hi := 2048) (by decide)) (zr_andr (lo := 0) (hi := 7) (zr_c (lo := 7) (hi := 7) (by decide)) (by decide)) (by decide)) (zr_mul (lo := 0) (hi := 2040) (zr_c (lo := 8) (hi := 8) (by decide)) h_x2 (by decide)) (by decide)) (zr_mul (lo := 0) (hi := 6) (zr_c (lo := 2) (hi := 2) (by decide)) (zr_andr (lo := 0) (hi := 3) (zr_c (lo := 3) (hi := 3) (by decide)) (by decide)) (by decide)) (by decide)) (zr_andr (lo := 0) (hi := 1) (zr_c (lo := 1) (hi := 1) (by decide)) (by decide)) (by decide)) (fun v3 e3 h2 => ?_)
  refine zok_pi (s_X9_vramByte hσ.P) (fun v5 h4 => ?_)
  refine zok_bu (s_X3_drawPattern hσ h_x1 (zr_w (zr_c (lo := 240) (hi := 240) (by decide)) (by decide)) h4) (fun σ6 i5 => ?_)
  exact zok_some i5
theorem s_X3_drawThird {G : Nat → Int} {σ : zSt} (hσ : zIC G σ) {x1 : Int32} (h_x1 : zr (0) (248) x1) {x2 : Int32} (h_x2 : zr (0) (1023) x2) {x3 : Int32} (h_x3 : zr (0) (7) x3) : zok (fX3_drawThird σ x1 x2 x3) (zIC G) := by
  unfold fX3_drawThird
  refine zok_pi (s_X9_held hσ.P) (fun v2 h1 => ?_)
  refine zok_pi (s_X9_held hσ.P) (fun v4 h2 => ?_)
  refine zok_br (zr_andr (lo := 0) (hi := 1023) (zr_add (lo := 255) (hi := 1023) (zr_mul (lo := 0) (hi := 768) (zr_c (lo := 256) (hi := 256) (by decide)) (zr_andr (lo := 0) (hi := 3) (zr_c (lo := 3) (hi := 3) (by decide)) (by decide)) (by decide)) (zr_c (lo := 255) (hi := 255) (by decide)) (by decide)) (by decide)) (fun v5 e4 h3 => ?_)
  refine zok_br (zr_andr (lo := 0) (hi := 1023) (zr_add (lo := 7) (hi := 1023) (zr_mul (lo := 0) (hi := 1016) (zr_c (lo := 8) (hi := 8) (by decide)) (zr_andr (lo := 0) (hi := 127) (zr_c (lo := 127) (hi := 127) (by decide)) (by decide)) (by decide)) (zr_c (lo := 7) (hi := 7) (by decide)) (by decide)) (by decide)) (fun v6 e6 h5 => ?_)
  refine zok_pi (s_X9_vramByte hσ.P) (fun v8 h7 => ?_)
  refine zok_pi (s_X9_vramByte hσ.P) (fun v10 h8 => ?_)
  refine zok_bu (s_X3_drawPattern hσ h_x1 h7 h8) (fun σ11 i9 => ?_)
  exact zok_some i9
theorem s_X3_drawOld_165 {G : Nat → Int} {σ : zSt} {k31 : zSt → Int32 → Int32 → Int32 → Int32 → Option (zSt)} {Mk31 : Int} (hk31 : ∀ (σ : zSt) (x1 : Int32) (x2 : Int32) (x3 : Int32) (x4 : Int32), zIC G σ → zr (0) (3) x1 → zr (0) (239) x2 → zr (0) (15360) x3 → zr (0) (32) x4 → (32) - x4.toInt < Mk31 → zok (k31 σ x1 x2 x3 x4) (zIC G)) (hσ : zIC G σ) {x1 : Int32} (h_x1 : zr (0) (3) x1) {x2 : Int32} (h_x2 : zr (0) (239) x2) {x3 : Int32} (h_x3 : zr (0) (15360) x3) {x4 : Int32} (h_x4 : zr (0) (31) x4) (hMk31 : (32) - x4.toInt ≤ Mk31) : zok (fX3_drawOld_165 k31 σ x1 x2 x3 x4) (zIC G) := by
  unfold fX3_drawOld_165
  refine zok_br (zr_add (lo := 1) (hi := 32) h_x4 (zr_c (lo := 1) (hi := 1) (by decide)) (by decide)) (fun v1 e2 h1 => ?_)
  exact hk31 _ _ _ _ _ hσ h_x1 h_x2 h_x3 (zr_w h1 (by decide)) (by rw [e2]; have := z_tadd (y := (1 : Int32)) h_x4 (zr_c (lo := 1) (hi := 1) (by decide)) (by decide); have e9 : (1 : Int32).toInt = 1 := rfl; omega) 
theorem s_X3_drawOld_31_body {G : Nat → Int} {σ : zSt} {k31 : zSt → Int32 → Int32 → Int32 → Int32 → Option (zSt)} {Mk31 : Int} (hk31 : ∀ (σ : zSt) (x1 : Int32) (x2 : Int32) (x3 : Int32) (x4 : Int32), zIC G σ → zr (0) (3) x1 → zr (0) (239) x2 → zr (0) (15360) x3 → zr (0) (32) x4 → (32) - x4.toInt < Mk31 → zok (k31 σ x1 x2 x3 x4) (zIC G)) (hσ : zIC G σ) {x1 : Int32} (h_x1 : zr (0) (3) x1) {x2 : Int32} (h_x2 : zr (0) (239) x2) {x3 : Int32} (h_x3 : zr (0) (15360) x3) {x4 : Int32} (h_x4 : zr (0) (32) x4) (hMk31 : (32) - x4.toInt ≤ Mk31) : zok (fX3_drawOld_31_body k31 σ x1 x2 x3 x4) (zIC G) := by
  unfold fX3_drawOld_31_body
  refine zok_if (fun q1 => ?_) (fun q1 => ?_)
  · have h2 := zc_ler (32) q1 (zr_c (lo := 32) (hi := 32) (by decide)) h_x4 (by decide)
    exact zok_some hσ
  have h3 := zc_ltl (31) (z_nle q1) h_x4 (zr_c (lo := 32) (hi := 32) (by decide)) (by decide)
  refine zok_pi (s_X9_vramByte hσ.P) (fun v3 h4 => ?_)
  refine zok_if (fun q5 => ?_) (fun q5 => ?_)
  · have h6 := zc_eql (0) (0) q5 h_x1 (zr_c (lo := 0) (hi := 0) (by decide)) (by decide)
    refine zok_pi (s_X3_patternAt hσ.P h4 h_x2) (fun v5 h7 => ?_)
    refine zok_pi (s_X9_held hσ.P) (fun v7 h8 => ?_)
    refine zok_pi (s_X9_vramByte hσ.P) (fun v9 h9 => ?_)
    refine zok_bu (s_X3_drawPattern hσ (zr_mul (lo := 0) (hi := 248) (zr_c (lo := 8) (hi := 8) (by decide)) h3 (by decide)) h7 h9) (fun σ10 i10 => ?_)
    exact (s_X3_drawOld_165 hk31 i10 (zr_w h6 (by decide)) h_x2 h_x3 h3 hMk31)
  have h11 := zc_nel (1) (3) q5 h_x1 (zr_c (lo := 0) (hi := 0) (by decide)) (by decide)
  refine zok_if (fun q12 => ?_) (fun q12 => ?_)
  · have h13 := zc_eql (2) (2) q12 h11 (zr_c (lo := 2) (hi := 2) (by decide)) (by decide)
    refine zok_bu (s_X3_drawThird hσ (zr_mul (lo := 0) (hi := 248) (zr_c (lo := 8) (hi := 8) (by decide)) h3 (by decide)) (zr_add (lo := 0) (hi := 1023) h4 (zr_mul (lo := 0) (hi := 768) (zr_c (lo := 256) (hi := 256) (by decide)) (zr_shr (lo := 0) (hi := 3) 6 (by decide) h_x2 (by decide)) (by decide)) (by decide)) (zr_andr (lo := 0) (hi := 7) (zr_c (lo := 7) (hi := 7) (by decide)) (by decide))) (fun σ11 i14 => ?_)
    exact (s_X3_drawOld_165 hk31 i14 (zr_w h13 (by decide)) h_x2 h_x3 h3 hMk31)
  refine zok_bu (s_X3_drawBlocks hσ (zr_mul (lo := 0) (hi := 248) (zr_c (lo := 8) (hi := 8) (by decide)) h3 (by decide)) h4 h_x2) (fun σ12 i15 => ?_)
  exact (s_X3_drawOld_165 hk31 i15 (zr_w h11 (by decide)) h_x2 h_x3 h3 hMk31)
theorem s_X3_drawOld_31 {G : Nat → Int} : ∀ (n : Nat) {σ : zSt} (hσ : zIC G σ) {x1 : Int32} (h_x1 : zr (0) (3) x1) {x2 : Int32} (h_x2 : zr (0) (239) x2) {x3 : Int32} (h_x3 : zr (0) (15360) x3) {x4 : Int32} (h_x4 : zr (0) (32) x4) (hm : (32) - x4.toInt < n), zok (fX3_drawOld_31 n σ x1 x2 x3 x4) (zIC G) := by
  intro n
  induction n with
  | zero => intro σ hσ x1 h_x1 x2 h_x2 x3 h_x3 x4 h_x4 hm ; have h9 := h_x4.1; have h8 := h_x4.2; exfalso; omega
  | succ n ih => intro σ hσ x1 h_x1 x2 h_x2 x3 h_x3 x4 h_x4 hm ; exact s_X3_drawOld_31_body (fun σ x1 x2 x3 x4 hσ h_x1 h_x2 h_x3 h_x4 hm1 => ih hσ h_x1 h_x2 h_x3 h_x4 (by omega)) hσ h_x1 h_x2 h_x3 h_x4 (Int.le_refl _)
theorem s_X3_drawOld {G : Nat → Int} {σ : zSt} (hσ : zIC G σ) {x1 : Int32} (h_x1 : zr (0) (3) x1) {x2 : Int32} (h_x2 : zr (0) (239) x2) : zok (fX3_drawOld σ x1 x2) (zIC G) := by
  unfold fX3_drawOld
  refine zok_pi (s_X9_held hσ.P) (fun v14 h1 => ?_)
  refine zok_br (zr_mul (lo := 0) (hi := 15360) (zr_c (lo := 1024) (hi := 1024) (by decide)) (zr_andr (lo := 0) (hi := 15) (zr_c (lo := 15) (hi := 15) (by decide)) (by decide)) (by decide)) (fun v15 e3 h2 => ?_)
  refine zok_if (fun q4 => ?_) (fun q4 => ?_)
  · have h5 := zc_eql (1) (1) q4 h_x1 (zr_c (lo := 1) (hi := 1) (by decide)) (by decide)
    refine zok_bu (s_X3_drawText hσ h2 h_x2) (fun σ16 i6 => ?_)
    exact zok_some i6
  exact (s_X3_drawOld_31 zfuel hσ h_x1 h_x2 h2 (zr_w (zr_c (lo := 0) (hi := 0) (by decide)) (by decide)) (by decide))
theorem s_X9_markFifth_39 {σ : zSt} (hσ : zPC σ) : zok (fX9_markFifth_39 σ ) (zPu σ) := by
  unfold fX9_markFifth_39
  exact zok_spu
theorem s_X9_markFifth {G : Nat → Int} {σ : zSt} (hσ : zIC G σ) {x1 : Int32} (h_x1 : zr (0) (31) x1) : zok (fX9_markFifth σ x1) (zIC G) := by
  unfold fX9_markFifth
  refine zok_ck rfl ?_
  refine zok_if (fun q1 => ?_) (fun q1 => ?_)
  · have h2 := zc_eql (0) (0) q1 (zr_andr (lo := 0) (hi := 64) (zr_c (lo := 64) (hi := 64) (by decide)) (by decide)) (zr_c (lo := 0) (hi := 0) (by decide)) (by decide)
    refine zok_ck rfl ?_
    refine zok_ck rfl ?_
    refine zok_bs (hσ.wi 15 15 (by decide) (zr_or (lo := 0) (hi := 255) 8 (zr_or (lo := 0) (hi := 255) 8 (zr_andr (lo := 0) (hi := 160) (zr_c (lo := 160) (hi := 160) (by decide)) (by decide)) (zr_c (lo := 64) (hi := 64) (by decide)) (by decide)) (zr_andr (lo := 0) (hi := 31) (zr_c (lo := 31) (hi := 31) (by decide)) (by decide)) (by decide)) (by decide +kernel)) (fun σ1 e4 i3 => ?_)
    exact zok_pau i3 (s_X9_markFifth_39 i3.P)
  have h5 := zc_nel (1) (64) q1 (zr_andr (lo := 0) (hi := 64) (zr_c (lo := 64) (hi := 64) (by decide)) (by decide)) (zr_c (lo := 0) (hi := 0) (by decide)) (by decide)
  exact zok_pau hσ (s_X9_markFifth_39 hσ.P)
theorem s_X3_takeDot_41 {σ : zSt} (hσ : zPC σ) : zok (fX3_takeDot_41 σ ) (zPu σ) := by
  unfold fX3_takeDot_41
  exact zok_spu
theorem s_X3_takeDot_18 {G : Nat → Int} {σ : zSt} (hσ : zIC G σ) {x1 : Int32} (h_x1 : zr (0) (255) x1) {x2 : Int32} (h_x2 : zr (0) (15) x2) : zok (fX3_takeDot_18 σ x1 x2) (zIC G) := by
  unfold fX3_takeDot_18
  refine zok_ck (zin_ok h_x1 (by decide)) ?_
  refine zok_if (fun q1 => ?_) (fun q1 => ?_)
  · have h2 := zc_eql (0) (0) q1 (zr_andr (lo := 0) (hi := 15) (zr_c (lo := 15) (hi := 15) (by decide)) (by decide)) (zr_c (lo := 0) (hi := 0) (by decide)) (by decide)
    refine zok_ck (zin_ok h_x1 (by decide)) ?_
    refine zok_bs (hσ.wk (by decide)) (fun σ1 e4 i3 => ?_)
    exact zok_pau i3 (s_X3_takeDot_41 i3.P)
  have h5 := zc_nel (1) (15) q1 (zr_andr (lo := 0) (hi := 15) (zr_c (lo := 15) (hi := 15) (by decide)) (by decide)) (zr_c (lo := 0) (hi := 0) (by decide)) (by decide)
  exact zok_pau hσ (s_X3_takeDot_41 hσ.P)
theorem s_X3_takeDot {G : Nat → Int} {σ : zSt} (hσ : zIC G σ) {x1 : Int32} (h_x1 : zr (0) (255) x1) {x2 : Int32} (h_x2 : zr (0) (15) x2) : zok (fX3_takeDot σ x1 x2) (zIC G) := by
  unfold fX3_takeDot
  refine zok_ck (zin_ok h_x1 (by decide)) ?_
  refine zok_if (fun q1 => ?_) (fun q1 => ?_)
  · have h2 := zc_eql (0) (0) q1 zr_any (zr_c (lo := 0) (hi := 0) (by decide)) (by decide)
    exact (s_X3_takeDot_18 hσ h_x1 h_x2)
  refine zok_bu (s_X9_mark hσ (zr_w (zr_c (lo := 32) (hi := 32) (by decide)) (by decide))) (fun σ2 i3 => ?_)
  exact (s_X3_takeDot_18 i3 h_x1 h_x2)
theorem s_X3_drawOldSprite_224 {G : Nat → Int} {σ : zSt} {k158 : zSt → Int32 → Int32 → Int32 → Int32 → Int32 → Int32 → Option (zSt)} {Mk158 : Int} (hk158 : ∀ (σ : zSt) (x3 : Int32) (x4 : Int32) (x7 : Int32) (x8 : Int32) (x10 : Int32) (x11 : Int32), zIC G σ → zr (0) (255) x3 → zr (-32) (255) x4 → zr (0) (1) x7 → zr (0) (1) x8 → zr (0) (65535) x10 → zr (0) (32) x11 → (32) - x11.toInt < Mk158 → zok (k158 σ x3 x4 x7 x8 x10 x11) (zIC G)) (hσ : zIC G σ) {x3 : Int32} (h_x3 : zr (0) (255) x3) {x4 : Int32} (h_x4 : zr (-32) (255) x4) {x7 : Int32} (h_x7 : zr (0) (1) x7) {x8 : Int32} (h_x8 : zr (0) (1) x8) {x10 : Int32} (h_x10 : zr (0) (65535) x10) {x11 : Int32} (h_x11 : zr (0) (31) x11) (hMk158 : (32) - x11.toInt ≤ Mk158) : zok (fX3_drawOldSprite_224 k158 σ x3 x4 x7 x8 x10 x11) (zIC G) := by
  unfold fX3_drawOldSprite_224
  refine zok_br (zr_add (lo := 1) (hi := 32) h_x11 (zr_c (lo := 1) (hi := 1) (by decide)) (by decide)) (fun v1 e2 h1 => ?_)
  exact hk158 _ _ _ _ _ _ _ hσ h_x3 h_x4 h_x7 h_x8 h_x10 (zr_w h1 (by decide)) (by rw [e2]; have := z_tadd (y := (1 : Int32)) h_x11 (zr_c (lo := 1) (hi := 1) (by decide)) (by decide); have e9 : (1 : Int32).toInt = 1 := rfl; omega) 
theorem s_X3_drawOldSprite_158_body {G : Nat → Int} {σ : zSt} {k158 : zSt → Int32 → Int32 → Int32 → Int32 → Int32 → Int32 → Option (zSt)} {Mk158 : Int} (hk158 : ∀ (σ : zSt) (x3 : Int32) (x4 : Int32) (x7 : Int32) (x8 : Int32) (x10 : Int32) (x11 : Int32), zIC G σ → zr (0) (255) x3 → zr (-32) (255) x4 → zr (0) (1) x7 → zr (0) (1) x8 → zr (0) (65535) x10 → zr (0) (32) x11 → (32) - x11.toInt < Mk158 → zok (k158 σ x3 x4 x7 x8 x10 x11) (zIC G)) (hσ : zIC G σ) {x3 : Int32} (h_x3 : zr (0) (255) x3) {x4 : Int32} (h_x4 : zr (-32) (255) x4) {x7 : Int32} (h_x7 : zr (0) (1) x7) {x8 : Int32} (h_x8 : zr (0) (1) x8) {x10 : Int32} (h_x10 : zr (0) (65535) x10) {x11 : Int32} (h_x11 : zr (0) (32) x11) (hMk158 : (32) - x11.toInt ≤ Mk158) : zok (fX3_drawOldSprite_158_body k158 σ x3 x4 x7 x8 x10 x11) (zIC G) := by
  unfold fX3_drawOldSprite_158_body
  refine zok_if (fun q1 => ?_) (fun q1 => ?_)
  · have h2 := zc_eql (0) (0) q1 h_x8 (zr_c (lo := 0) (hi := 0) (by decide)) (by decide)
    unfold fX3_drawOldSprite_172
    refine zok_if (fun q3 => ?_) (fun q3 => ?_)
    · exact zok_some hσ
    have h4 := zc_ltl (15) (z_nle q3) h_x11 (zr_shld (lo := 0) (hi := 16) (zr_c (lo := 8) (hi := 8) (by decide)) h_x7 (by decide)) (by decide)
    have h5 := zc_ltr (1) (z_nle q3) h_x11 (zr_shld (lo := 0) (hi := 16) (zr_c (lo := 8) (hi := 8) (by decide)) h_x7 (by decide)) (by decide)
    refine zok_br (zr_add (lo := -32) (hi := 270) h_x4 h4 (by decide)) (fun v2 e7 h6 => ?_)
    refine zok_if (fun q8 => ?_) (fun q8 => ?_)
    · have h9 := zc_eql (0) (0) q8 (zr_andr (lo := 0) (hi := 1) (zr_c (lo := 1) (hi := 1) (by decide)) (by decide)) (zr_c (lo := 0) (hi := 0) (by decide)) (by decide)
      exact (s_X3_drawOldSprite_224 hk158 hσ h_x3 h_x4 h_x7 (zr_w h2 (by decide)) h_x10 (zr_w h4 (by decide)) hMk158)
    have h10 := zc_nel (1) (1) q8 (zr_andr (lo := 0) (hi := 1) (zr_c (lo := 1) (hi := 1) (by decide)) (by decide)) (zr_c (lo := 0) (hi := 0) (by decide)) (by decide)
    refine zok_if (fun q11 => ?_) (fun q11 => ?_)
    · have h12 := zc_ltl (-1) q11 h6 (zr_c (lo := 0) (hi := 0) (by decide)) (by decide)
      exact (s_X3_drawOldSprite_224 hk158 hσ h_x3 h_x4 h_x7 (zr_w h2 (by decide)) h_x10 (zr_w h4 (by decide)) hMk158)
    have h13 := zc_ler (0) (z_nlt q11) (zr_c (lo := 0) (hi := 0) (by decide)) h6 (by decide)
    refine zok_if (fun q14 => ?_) (fun q14 => ?_)
    · have h15 := zc_ler (256) q14 (zr_c (lo := 256) (hi := 256) (by decide)) h13 (by decide)
      exact (s_X3_drawOldSprite_224 hk158 hσ h_x3 h_x4 h_x7 (zr_w h2 (by decide)) h_x10 (zr_w h4 (by decide)) hMk158)
    have h16 := zc_ltl (255) (z_nle q14) h13 (zr_c (lo := 256) (hi := 256) (by decide)) (by decide)
    refine zok_bu (s_X3_takeDot hσ h16 (zr_andr (lo := 0) (hi := 15) (zr_c (lo := 15) (hi := 15) (by decide)) (by decide))) (fun σ3 i17 => ?_)
    exact (s_X3_drawOldSprite_224 hk158 i17 h_x3 h_x4 h_x7 (zr_w h2 (by decide)) h_x10 (zr_w h4 (by decide)) hMk158)
  have h18 := zc_nel (1) (1) q1 h_x8 (zr_c (lo := 0) (hi := 0) (by decide)) (by decide)
  unfold fX3_drawOldSprite_172
  refine zok_if (fun q19 => ?_) (fun q19 => ?_)
  · exact zok_some hσ
  have h20 := zc_ltl (31) (z_nle q19) h_x11 (zr_shld (lo := 0) (hi := 32) (zr_c (lo := 16) (hi := 16) (by decide)) h_x7 (by decide)) (by decide)
  have h21 := zc_ltr (1) (z_nle q19) h_x11 (zr_shld (lo := 0) (hi := 32) (zr_c (lo := 16) (hi := 16) (by decide)) h_x7 (by decide)) (by decide)
  refine zok_br (zr_add (lo := -32) (hi := 286) h_x4 h20 (by decide)) (fun v2 e23 h22 => ?_)
  refine zok_if (fun q24 => ?_) (fun q24 => ?_)
  · have h25 := zc_eql (0) (0) q24 (zr_andr (lo := 0) (hi := 1) (zr_c (lo := 1) (hi := 1) (by decide)) (by decide)) (zr_c (lo := 0) (hi := 0) (by decide)) (by decide)
    exact (s_X3_drawOldSprite_224 hk158 hσ h_x3 h_x4 h_x7 (zr_w h18 (by decide)) h_x10 h20 hMk158)
  have h26 := zc_nel (1) (1) q24 (zr_andr (lo := 0) (hi := 1) (zr_c (lo := 1) (hi := 1) (by decide)) (by decide)) (zr_c (lo := 0) (hi := 0) (by decide)) (by decide)
  refine zok_if (fun q27 => ?_) (fun q27 => ?_)
  · have h28 := zc_ltl (-1) q27 h22 (zr_c (lo := 0) (hi := 0) (by decide)) (by decide)
    exact (s_X3_drawOldSprite_224 hk158 hσ h_x3 h_x4 h_x7 (zr_w h18 (by decide)) h_x10 h20 hMk158)
  have h29 := zc_ler (0) (z_nlt q27) (zr_c (lo := 0) (hi := 0) (by decide)) h22 (by decide)
  refine zok_if (fun q30 => ?_) (fun q30 => ?_)
  · have h31 := zc_ler (256) q30 (zr_c (lo := 256) (hi := 256) (by decide)) h29 (by decide)
    exact (s_X3_drawOldSprite_224 hk158 hσ h_x3 h_x4 h_x7 (zr_w h18 (by decide)) h_x10 h20 hMk158)
  have h32 := zc_ltl (255) (z_nle q30) h29 (zr_c (lo := 256) (hi := 256) (by decide)) (by decide)
  refine zok_bu (s_X3_takeDot hσ h32 (zr_andr (lo := 0) (hi := 15) (zr_c (lo := 15) (hi := 15) (by decide)) (by decide))) (fun σ3 i33 => ?_)
  exact (s_X3_drawOldSprite_224 hk158 i33 h_x3 h_x4 h_x7 (zr_w h18 (by decide)) h_x10 h20 hMk158)
theorem s_X3_drawOldSprite_158 {G : Nat → Int} : ∀ (n : Nat) {σ : zSt} (hσ : zIC G σ) {x3 : Int32} (h_x3 : zr (0) (255) x3) {x4 : Int32} (h_x4 : zr (-32) (255) x4) {x7 : Int32} (h_x7 : zr (0) (1) x7) {x8 : Int32} (h_x8 : zr (0) (1) x8) {x10 : Int32} (h_x10 : zr (0) (65535) x10) {x11 : Int32} (h_x11 : zr (0) (32) x11) (hm : (32) - x11.toInt < n), zok (fX3_drawOldSprite_158 n σ x3 x4 x7 x8 x10 x11) (zIC G) := by
  intro n
  induction n with
  | zero => intro σ hσ x3 h_x3 x4 h_x4 x7 h_x7 x8 h_x8 x10 h_x10 x11 h_x11 hm ; have h9 := h_x11.1; have h8 := h_x11.2; exfalso; omega
  | succ n ih => intro σ hσ x3 h_x3 x4 h_x4 x7 h_x7 x8 h_x8 x10 h_x10 x11 h_x11 hm ; exact s_X3_drawOldSprite_158_body (fun σ x3 x4 x7 x8 x10 x11 hσ h_x3 h_x4 h_x7 h_x8 h_x10 h_x11 hm1 => ih hσ h_x3 h_x4 h_x7 h_x8 h_x10 h_x11 (by omega)) hσ h_x3 h_x4 h_x7 h_x8 h_x10 h_x11 (Int.le_refl _)
theorem s_X3_drawOldSprite_152 {G : Nat → Int} {σ : zSt} (hσ : zIC G σ) {x3 : Int32} (h_x3 : zr (0) (255) x3) {x4 : Int32} (h_x4 : zr (-32) (255) x4) {x7 : Int32} (h_x7 : zr (0) (1) x7) {x8 : Int32} (h_x8 : zr (0) (1) x8) {s0 : Int32} (h_s0 : zr (0) (255) s0) {s1 : Int32} (h_s1 : zr (0) (65280) s1) : zok (fX3_drawOldSprite_152 σ x3 x4 x7 x8 s0 s1) (zIC G) := by
  unfold fX3_drawOldSprite_152
  refine zok_br (zr_or (lo := 0) (hi := 65535) 16 h_s1 h_s0 (by decide)) (fun v4 e2 h1 => ?_)
  exact (s_X3_drawOldSprite_158 zfuel hσ h_x3 h_x4 h_x7 h_x8 h1 (zr_w (zr_c (lo := 0) (hi := 0) (by decide)) (by decide)) (by decide))
theorem s_X3_drawOldSprite_113 {G : Nat → Int} {σ : zSt} (hσ : zIC G σ) {x2 : Int32} (h_x2 : zr (0) (255) x2) {x3 : Int32} (h_x3 : zr (0) (255) x3) {x4 : Int32} (h_x4 : zr (-32) (255) x4) {x7 : Int32} (h_x7 : zr (0) (1) x7) {x8 : Int32} (h_x8 : zr (0) (1) x8) {s0 : Int32} (h_s0 : zr (0) (255) s0) {s1 : Int32} (h_s1 : zr (8) (8) s1) {s2 : Int32} (h_s2 : zr (0) (14336) s2) : zok (fX3_drawOldSprite_113 σ x2 x3 x4 x7 x8 s0 s1 s2) (zIC G) := by
  unfold fX3_drawOldSprite_113
  refine zok_br (zr_add (lo := 0) (hi := 16631) (zr_add (lo := 0) (hi := 16376) h_s2 (zr_mul (lo := 0) (hi := 2040) h_s1 h_s0 (by decide)) (by decide)) h_x2 (by decide)) (fun v5 e2 h1 => ?_)
  refine zok_pi (s_X9_vramByte hσ.P) (fun v7 h3 => ?_)
  refine zok_if (fun q4 => ?_) (fun q4 => ?_)
  · have h5 := zc_eql (0) (0) q4 h_x8 (zr_c (lo := 0) (hi := 0) (by decide)) (by decide)
    exact (s_X3_drawOldSprite_152 hσ h_x3 h_x4 h_x7 (zr_w h5 (by decide)) (zr_w (zr_c (lo := 0) (hi := 0) (by decide)) (by decide)) (zr_shl (lo := 0) (hi := 65280) 8 (by decide) h3 (by decide)))
  have h6 := zc_nel (1) (1) q4 h_x8 (zr_c (lo := 0) (hi := 0) (by decide)) (by decide)
  refine zok_pi (s_X9_vramByte hσ.P) (fun v9 h7 => ?_)
  exact (s_X3_drawOldSprite_152 hσ h_x3 h_x4 h_x7 (zr_w h6 (by decide)) h7 (zr_shl (lo := 0) (hi := 65280) 8 (by decide) h3 (by decide)))
theorem s_X3_drawOldSprite_78 {G : Nat → Int} {σ : zSt} (hσ : zIC G σ) {x2 : Int32} (h_x2 : zr (0) (255) x2) {x3 : Int32} (h_x3 : zr (0) (255) x3) {x4 : Int32} (h_x4 : zr (-32) (255) x4) {x5 : Int32} (h_x5 : zr (0) (255) x5) {x7 : Int32} (h_x7 : zr (0) (1) x7) {s0 : Int32} (h_s0 : zr (0) (1) s0) : zok (fX3_drawOldSprite_78 σ x2 x3 x4 x5 x7 s0) (zIC G) := by
  unfold fX3_drawOldSprite_78
  refine zok_pi (s_X9_held hσ.P) (fun v11 h1 => ?_)
  refine zok_if (fun q2 => ?_) (fun q2 => ?_)
  · have h3 := zc_eql (0) (0) q2 h_s0 (zr_c (lo := 0) (hi := 0) (by decide)) (by decide)
    exact (s_X3_drawOldSprite_113 hσ h_x2 h_x3 h_x4 h_x7 (zr_w h3 (by decide)) h_x5 (zr_c (lo := 8) (hi := 8) (by decide)) (zr_mul (lo := 0) (hi := 14336) (zr_c (lo := 2048) (hi := 2048) (by decide)) (zr_andr (lo := 0) (hi := 7) (zr_c (lo := 7) (hi := 7) (by decide)) (by decide)) (by decide)))
  have h4 := zc_nel (1) (1) q2 h_s0 (zr_c (lo := 0) (hi := 0) (by decide)) (by decide)
  exact (s_X3_drawOldSprite_113 hσ h_x2 h_x3 h_x4 h_x7 (zr_w h4 (by decide)) (zr_andl (lo := 0) (hi := 255) h_x5 (by decide)) (zr_c (lo := 8) (hi := 8) (by decide)) (zr_mul (lo := 0) (hi := 14336) (zr_c (lo := 2048) (hi := 2048) (by decide)) (zr_andr (lo := 0) (hi := 7) (zr_c (lo := 7) (hi := 7) (by decide)) (by decide)) (by decide)))
theorem s_X3_drawOldSprite_35 {G : Nat → Int} {σ : zSt} (hσ : zIC G σ) {x1 : Int32} (h_x1 : zr (0) (16380) x1) {x2 : Int32} (h_x2 : zr (0) (255) x2) {x3 : Int32} (h_x3 : zr (0) (255) x3) {s0 : Int32} (h_s0 : zr (0) (32) s0) {s1 : Int32} (h_s1 : zr (0) (255) s1) : zok (fX3_drawOldSprite_35 σ x1 x2 x3 s0 s1) (zIC G) := by
  unfold fX3_drawOldSprite_35
  refine zok_br (zr_sub (lo := -32) (hi := 255) h_s1 h_s0 (by decide)) (fun v12 e2 h1 => ?_)
  refine zok_pi (s_X9_vramByte hσ.P) (fun v14 h3 => ?_)
  refine zok_pi (s_X9_held hσ.P) (fun v16 h4 => ?_)
  refine zok_br (zr_andr (lo := 0) (hi := 1) (zr_c (lo := 1) (hi := 1) (by decide)) (by decide)) (fun v17 e6 h5 => ?_)
  refine zok_if (fun q7 => ?_) (fun q7 => ?_)
  · have h8 := zc_eql (0) (0) q7 (zr_andr (lo := 0) (hi := 2) (zr_c (lo := 2) (hi := 2) (by decide)) (by decide)) (zr_c (lo := 0) (hi := 0) (by decide)) (by decide)
    exact (s_X3_drawOldSprite_78 hσ h_x2 h_x3 h1 h3 h5 (zr_w (zr_c (lo := 0) (hi := 0) (by decide)) (by decide)))
  have h9 := zc_nel (1) (2) q7 (zr_andr (lo := 0) (hi := 2) (zr_c (lo := 2) (hi := 2) (by decide)) (by decide)) (zr_c (lo := 0) (hi := 0) (by decide)) (by decide)
  exact (s_X3_drawOldSprite_78 hσ h_x2 h_x3 h1 h3 h5 (zr_w (zr_c (lo := 1) (hi := 1) (by decide)) (by decide)))
theorem s_X3_drawOldSprite {G : Nat → Int} {σ : zSt} (hσ : zIC G σ) {x1 : Int32} (h_x1 : zr (0) (16380) x1) {x2 : Int32} (h_x2 : zr (0) (255) x2) : zok (fX3_drawOldSprite σ x1 x2) (zIC G) := by
  unfold fX3_drawOldSprite
  refine zok_pi (s_X9_vramByte hσ.P) (fun v19 h1 => ?_)
  refine zok_pi (s_X9_vramByte hσ.P) (fun v21 h2 => ?_)
  refine zok_if (fun q3 => ?_) (fun q3 => ?_)
  · have h4 := zc_eql (0) (0) q3 (zr_andr (lo := 0) (hi := 128) (zr_c (lo := 128) (hi := 128) (by decide)) (by decide)) (zr_c (lo := 0) (hi := 0) (by decide)) (by decide)
    exact (s_X3_drawOldSprite_35 hσ h_x1 h_x2 h1 (zr_w (zr_c (lo := 0) (hi := 0) (by decide)) (by decide)) h2)
  have h5 := zc_nel (1) (128) q3 (zr_andr (lo := 0) (hi := 128) (zr_c (lo := 128) (hi := 128) (by decide)) (by decide)) (zr_c (lo := 0) (hi := 0) (by decide)) (by decide)
  exact (s_X3_drawOldSprite_35 hσ h_x1 h_x2 h1 (zr_w (zr_c (lo := 32) (hi := 32) (by decide)) (by decide)) h2)
theorem s_X3_drawOldSprites_155 {G : Nat → Int} {σ : zSt} {k117 : zSt → Int32 → Option (zSt)} {Mk117 : Int} (hk117 : ∀ (σ : zSt) (x4 : Int32), zIC G σ → zr (0) (256) x4 → (256) - x4.toInt < Mk117 → zok (k117 σ x4) (zIC G)) (hσ : zIC G σ) {x4 : Int32} (h_x4 : zr (0) (255) x4) (hMk117 : (256) - x4.toInt ≤ Mk117) : zok (fX3_drawOldSprites_155 k117 σ x4) (zIC G) := by
  unfold fX3_drawOldSprites_155
  refine zok_br (zr_add (lo := 1) (hi := 256) h_x4 (zr_c (lo := 1) (hi := 1) (by decide)) (by decide)) (fun v1 e2 h1 => ?_)
  exact hk117 _ _ hσ (zr_w h1 (by decide)) (by rw [e2]; have := z_tadd (y := (1 : Int32)) h_x4 (zr_c (lo := 1) (hi := 1) (by decide)) (by decide); have e9 : (1 : Int32).toInt = 1 := rfl; omega) 
theorem s_X3_drawOldSprites_117_body {G : Nat → Int} {σ : zSt} {k117 : zSt → Int32 → Option (zSt)} {Mk117 : Int} (hk117 : ∀ (σ : zSt) (x4 : Int32), zIC G σ → zr (0) (256) x4 → (256) - x4.toInt < Mk117 → zok (k117 σ x4) (zIC G)) (hσ : zIC G σ) {x4 : Int32} (h_x4 : zr (0) (256) x4) (hMk117 : (256) - x4.toInt ≤ Mk117) : zok (fX3_drawOldSprites_117_body k117 σ x4) (zIC G) := by
  unfold fX3_drawOldSprites_117_body
  refine zok_if (fun q1 => ?_) (fun q1 => ?_)
  · have h2 := zc_ler (256) q1 (zr_c (lo := 256) (hi := 256) (by decide)) h_x4 (by decide)
    exact zok_some hσ
  have h3 := zc_ltl (255) (z_nle q1) h_x4 (zr_c (lo := 256) (hi := 256) (by decide)) (by decide)
  refine zok_ck (zin_ok h3 (by decide)) ?_
  refine zok_if (fun q4 => ?_) (fun q4 => ?_)
  · have h5 := zc_lel (0) q4 (zr_andr (lo := 0) (hi := 15) (zr_c (lo := 15) (hi := 15) (by decide)) (by decide)) (zr_c (lo := 0) (hi := 0) (by decide)) (by decide)
    exact (s_X3_drawOldSprites_155 hk117 hσ h3 hMk117)
  have h6 := zc_ltr (1) (z_nle q4) (zr_c (lo := 0) (hi := 0) (by decide)) (zr_andr (lo := 0) (hi := 15) (zr_c (lo := 15) (hi := 15) (by decide)) (by decide)) (by decide)
  refine zok_ck (zin_ok h3 (by decide)) ?_
  refine zok_ck (zin_ok h3 (by decide)) ?_
  refine zok_bs (hσ.wk (by decide)) (fun σ2 e8 i7 => ?_)
  exact (s_X3_drawOldSprites_155 hk117 i7 h3 hMk117)
theorem s_X3_drawOldSprites_117 {G : Nat → Int} : ∀ (n : Nat) {σ : zSt} (hσ : zIC G σ) {x4 : Int32} (h_x4 : zr (0) (256) x4) (hm : (256) - x4.toInt < n), zok (fX3_drawOldSprites_117 n σ x4) (zIC G) := by
  intro n
  induction n with
  | zero => intro σ hσ x4 h_x4 hm ; have h9 := h_x4.1; have h8 := h_x4.2; exfalso; omega
  | succ n ih => intro σ hσ x4 h_x4 hm ; exact s_X3_drawOldSprites_117_body (fun σ x4 hσ h_x4 hm1 => ih hσ h_x4 (by omega)) hσ h_x4 (Int.le_refl _)
theorem s_X3_drawOldSprites_114 {G : Nat → Int} {σ : zSt} (hσ : zIC G σ) : zok (fX3_drawOldSprites_114 σ ) (zIC G) := by
  unfold fX3_drawOldSprites_114
  exact (s_X3_drawOldSprites_117 zfuel hσ (zr_w (zr_c (lo := 0) (hi := 0) (by decide)) (by decide)) (by decide))
theorem s_X3_drawOldSprites_108 {G : Nat → Int} {σ : zSt} {k29 : zSt → Int32 → Int32 → Int32 → Int32 → Option (zSt)} {Mk29 : Int} (hk29 : ∀ (σ : zSt) (x1 : Int32) (x2 : Int32) (x3 : Int32) (x4 : Int32), zIC G σ → zr (0) (239) x1 → zr (0) (16256) x2 → zr (0) (7) x3 → zr (0) (32) x4 → (32) - x4.toInt < Mk29 → zok (k29 σ x1 x2 x3 x4) (zIC G)) (hσ : zIC G σ) {x1 : Int32} (h_x1 : zr (0) (239) x1) {x2 : Int32} (h_x2 : zr (0) (16256) x2) {x3 : Int32} (h_x3 : zr (0) (7) x3) {x4 : Int32} (h_x4 : zr (0) (31) x4) (hMk29 : (32) - x4.toInt ≤ Mk29) : zok (fX3_drawOldSprites_108 k29 σ x1 x2 x3 x4) (zIC G) := by
  unfold fX3_drawOldSprites_108
  refine zok_br (zr_add (lo := 1) (hi := 32) h_x4 (zr_c (lo := 1) (hi := 1) (by decide)) (by decide)) (fun v3 e2 h1 => ?_)
  exact hk29 _ _ _ _ _ hσ h_x1 h_x2 h_x3 (zr_w h1 (by decide)) (by rw [e2]; have := z_tadd (y := (1 : Int32)) h_x4 (zr_c (lo := 1) (hi := 1) (by decide)) (by decide); have e9 : (1 : Int32).toInt = 1 := rfl; omega) 
theorem s_X3_drawOldSprites_29_body {G : Nat → Int} {σ : zSt} {k29 : zSt → Int32 → Int32 → Int32 → Int32 → Option (zSt)} {Mk29 : Int} (hk29 : ∀ (σ : zSt) (x1 : Int32) (x2 : Int32) (x3 : Int32) (x4 : Int32), zIC G σ → zr (0) (239) x1 → zr (0) (16256) x2 → zr (0) (7) x3 → zr (0) (32) x4 → (32) - x4.toInt < Mk29 → zok (k29 σ x1 x2 x3 x4) (zIC G)) (hσ : zIC G σ) {x1 : Int32} (h_x1 : zr (0) (239) x1) {x2 : Int32} (h_x2 : zr (0) (16256) x2) {x3 : Int32} (h_x3 : zr (0) (7) x3) {x4 : Int32} (h_x4 : zr (0) (32) x4) (hMk29 : (32) - x4.toInt ≤ Mk29) : zok (fX3_drawOldSprites_29_body k29 σ x1 x2 x3 x4) (zIC G) := by
  unfold fX3_drawOldSprites_29_body
  refine zok_if (fun q1 => ?_) (fun q1 => ?_)
  · have h2 := zc_ler (32) q1 (zr_c (lo := 32) (hi := 32) (by decide)) h_x4 (by decide)
    exact (s_X3_drawOldSprites_114 hσ)
  have h3 := zc_ltl (31) (z_nle q1) h_x4 (zr_c (lo := 32) (hi := 32) (by decide)) (by decide)
  refine zok_br (zr_add (lo := 0) (hi := 16380) h_x2 (zr_mul (lo := 0) (hi := 124) (zr_c (lo := 4) (hi := 4) (by decide)) h3 (by decide)) (by decide)) (fun v4 e5 h4 => ?_)
  refine zok_pi (s_X9_vramByte hσ.P) (fun v6 h6 => ?_)
  refine zok_if (fun q7 => ?_) (fun q7 => ?_)
  · have h8 := zc_eql (208) (208) q7 h6 (zr_c (lo := 208) (hi := 208) (by decide)) (by decide)
    exact (s_X3_drawOldSprites_114 hσ)
  refine zok_pi (s_X3_rowOfSprite hσ.P h_x1 h6) (fun v8 h9 => ?_)
  refine zok_if (fun q10 => ?_) (fun q10 => ?_)
  · have h11 := zc_ltl (-1) q10 h9 (zr_c (lo := 0) (hi := 0) (by decide)) (by decide)
    exact (s_X3_drawOldSprites_108 hk29 hσ h_x1 h_x2 h_x3 h3 hMk29)
  have h12 := zc_ler (0) (z_nlt q10) (zr_c (lo := 0) (hi := 0) (by decide)) h9 (by decide)
  refine zok_br (zr_add (lo := 1) (hi := 8) h_x3 (zr_c (lo := 1) (hi := 1) (by decide)) (by decide)) (fun v9 e14 h13 => ?_)
  refine zok_if (fun q15 => ?_) (fun q15 => ?_)
  · have h16 := zc_lel (4) q15 h13 (zr_c (lo := 4) (hi := 4) (by decide)) (by decide)
    refine zok_bu (s_X3_drawOldSprite hσ h4 h12) (fun σ10 i17 => ?_)
    exact (s_X3_drawOldSprites_108 hk29 i17 h_x1 h_x2 (zr_w h16 (by decide)) h3 hMk29)
  have h18 := zc_ltr (5) (z_nle q15) (zr_c (lo := 4) (hi := 4) (by decide)) h13 (by decide)
  refine zok_bu (s_X9_markFifth hσ h3) (fun σ11 i19 => ?_)
  exact (s_X3_drawOldSprites_114 i19)
theorem s_X3_drawOldSprites_29 {G : Nat → Int} : ∀ (n : Nat) {σ : zSt} (hσ : zIC G σ) {x1 : Int32} (h_x1 : zr (0) (239) x1) {x2 : Int32} (h_x2 : zr (0) (16256) x2) {x3 : Int32} (h_x3 : zr (0) (7) x3) {x4 : Int32} (h_x4 : zr (0) (32) x4) (hm : (32) - x4.toInt < n), zok (fX3_drawOldSprites_29 n σ x1 x2 x3 x4) (zIC G) := by
  intro n
  induction n with
  | zero => intro σ hσ x1 h_x1 x2 h_x2 x3 h_x3 x4 h_x4 hm ; have h9 := h_x4.1; have h8 := h_x4.2; exfalso; omega
  | succ n ih => intro σ hσ x1 h_x1 x2 h_x2 x3 h_x3 x4 h_x4 hm ; exact s_X3_drawOldSprites_29_body (fun σ x1 x2 x3 x4 hσ h_x1 h_x2 h_x3 h_x4 hm1 => ih hσ h_x1 h_x2 h_x3 h_x4 (by omega)) hσ h_x1 h_x2 h_x3 h_x4 (Int.le_refl _)
theorem s_X3_drawOldSprites {G : Nat → Int} {σ : zSt} (hσ : zIC G σ) {x1 : Int32} (h_x1 : zr (0) (239) x1) : zok (fX3_drawOldSprites σ x1) (zIC G) := by
  unfold fX3_drawOldSprites
  refine zok_bu (s_J7_fill_53178_k28 hσ (zr_c (lo := 0) (hi := 0) (by decide))) (fun σ12 i1 => ?_)
  refine zok_pi (s_X9_held i1.P) (fun v14 h2 => ?_)
  refine zok_br (zr_mul (lo := 0) (hi := 16256) (zr_c (lo := 128) (hi := 128) (by decide)) (zr_andr (lo := 0) (hi := 127) (zr_c (lo := 127) (hi := 127) (by decide)) (by decide)) (by decide)) (fun v15 e4 h3 => ?_)
  exact (s_X3_drawOldSprites_29 zfuel i1 h_x1 h3 (zr_w (zr_c (lo := 0) (hi := 0) (by decide)) (by decide)) (zr_w (zr_c (lo := 0) (hi := 0) (by decide)) (by decide)) (by decide))
end ZJN5
section ZJN6
theorem s_X3_fillBack_25 {G : Nat → Int} {σ : zSt} {k2 : zSt → Int32 → Int32 → Option (zSt)} {Mk2 : Int} (hk2 : ∀ (σ : zSt) (x1 : Int32) (x2 : Int32), zIC G σ → zr (0) (31) x1 → zr (0) (256) x2 → (256) - x2.toInt < Mk2 → zok (k2 σ x1 x2) (zIC G)) (hσ : zIC G σ) {x1 : Int32} (h_x1 : zr (0) (31) x1) {x2 : Int32} (h_x2 : zr (0) (255) x2) (hMk2 : (256) - x2.toInt ≤ Mk2) : zok (fX3_fillBack_25 k2 σ x1 x2) (zIC G) := by
  unfold fX3_fillBack_25
  refine zok_br (zr_add (lo := 1) (hi := 256) h_x2 (zr_c (lo := 1) (hi := 1) (by decide)) (by decide)) (fun v1 e2 h1 => ?_)
  exact hk2 _ _ _ hσ h_x1 (zr_w h1 (by decide)) (by rw [e2]; have := z_tadd (y := (1 : Int32)) h_x2 (zr_c (lo := 1) (hi := 1) (by decide)) (by decide); have e9 : (1 : Int32).toInt = 1 := rfl; omega) 
theorem s_X3_fillBack_2_body {G : Nat → Int} {σ : zSt} {k2 : zSt → Int32 → Int32 → Option (zSt)} {Mk2 : Int} (hk2 : ∀ (σ : zSt) (x1 : Int32) (x2 : Int32), zIC G σ → zr (0) (31) x1 → zr (0) (256) x2 → (256) - x2.toInt < Mk2 → zok (k2 σ x1 x2) (zIC G)) (hσ : zIC G σ) {x1 : Int32} (h_x1 : zr (0) (31) x1) {x2 : Int32} (h_x2 : zr (0) (256) x2) (hMk2 : (256) - x2.toInt ≤ Mk2) : zok (fX3_fillBack_2_body k2 σ x1 x2) (zIC G) := by
  unfold fX3_fillBack_2_body
  refine zok_if (fun q1 => ?_) (fun q1 => ?_)
  · have h2 := zc_ler (256) q1 (zr_c (lo := 256) (hi := 256) (by decide)) h_x2 (by decide)
    exact zok_some hσ
  have h3 := zc_ltl (255) (z_nle q1) h_x2 (zr_c (lo := 256) (hi := 256) (by decide)) (by decide)
  refine zok_ck (zin_ok h3 (by decide)) ?_
  refine zok_if (fun q4 => ?_) (fun q4 => ?_)
  · have h5 := zc_eql (0) (0) q4 zr_any (zr_c (lo := 0) (hi := 0) (by decide)) (by decide)
    refine zok_ck (zin_ok h3 (by decide)) ?_
    refine zok_bs (hσ.wk (by decide)) (fun σ2 e7 i6 => ?_)
    exact (s_X3_fillBack_25 hk2 i6 h_x1 h3 hMk2)
  exact (s_X3_fillBack_25 hk2 hσ h_x1 h3 hMk2)
theorem s_X3_fillBack_2 {G : Nat → Int} : ∀ (n : Nat) {σ : zSt} (hσ : zIC G σ) {x1 : Int32} (h_x1 : zr (0) (31) x1) {x2 : Int32} (h_x2 : zr (0) (256) x2) (hm : (256) - x2.toInt < n), zok (fX3_fillBack_2 n σ x1 x2) (zIC G) := by
  intro n
  induction n with
  | zero => intro σ hσ x1 h_x1 x2 h_x2 hm ; have h9 := h_x2.1; have h8 := h_x2.2; exfalso; omega
  | succ n ih => intro σ hσ x1 h_x1 x2 h_x2 hm ; exact s_X3_fillBack_2_body (fun σ x1 x2 hσ h_x1 h_x2 hm1 => ih hσ h_x1 h_x2 (by omega)) hσ h_x1 h_x2 (Int.le_refl _)
theorem s_X3_fillBack {G : Nat → Int} {σ : zSt} (hσ : zIC G σ) {x1 : Int32} (h_x1 : zr (0) (31) x1) : zok (fX3_fillBack σ x1) (zIC G) := by
  unfold fX3_fillBack
  exact (s_X3_fillBack_2 zfuel hσ h_x1 (zr_w (zr_c (lo := 0) (hi := 0) (by decide)) (by decide)) (by decide))
theorem s_X3_draw_21 {σ : zSt} (hσ : zPC σ) : zok (fX3_draw_21 σ ) (zPu σ) := by
  unfold fX3_draw_21
  exact zok_spu
theorem s_X3_draw_152_body {G : Nat → Int} {σ : zSt} {k152 : zSt → Int32 → Int32 → Option (zSt)} {Mk152 : Int} (hk152 : ∀ (σ : zSt) (x1 : Int32) (x4 : Int32), zIC G σ → zr (0) (239) x1 → zr (0) (256) x4 → (256) - x4.toInt < Mk152 → zok (k152 σ x1 x4) (zIC G)) (hσ : zIC G σ) {x1 : Int32} (h_x1 : zr (0) (239) x1) {x4 : Int32} (h_x4 : zr (0) (256) x4) (hMk152 : (256) - x4.toInt ≤ Mk152) : zok (fX3_draw_152_body k152 σ x1 x4) (zIC G) := by
  unfold fX3_draw_152_body
  refine zok_if (fun q1 => ?_) (fun q1 => ?_)
  · have h2 := zc_ler (256) q1 (zr_c (lo := 256) (hi := 256) (by decide)) h_x4 (by decide)
    exact zok_some hσ
  have h3 := zc_ltl (255) (z_nle q1) h_x4 (zr_c (lo := 256) (hi := 256) (by decide)) (by decide)
  refine zok_ck (zin_ok h3 (by decide)) ?_
  refine zok_ck (zin_ok (zr_andr (lo := 0) (hi := 31) (zr_c (lo := 31) (hi := 31) (by decide)) (by decide)) (by decide)) ?_
  refine zok_ck (zin_ok (zr_add (lo := 0) (hi := 61439) (zr_mul (lo := 0) (hi := 61184) h_x1 (zr_c (lo := 256) (hi := 256) (by decide)) (by decide)) h3 (by decide)) (by decide)) ?_
  refine zok_bs (hσ.wk (by decide)) (fun σ1 e5 i4 => ?_)
  refine zok_br (zr_add (lo := 1) (hi := 256) h3 (zr_c (lo := 1) (hi := 1) (by decide)) (by decide)) (fun v2 e7 h6 => ?_)
  exact hk152 _ _ _ i4 h_x1 (zr_w h6 (by decide)) (by rw [e7]; have := z_tadd (y := (1 : Int32)) h3 (zr_c (lo := 1) (hi := 1) (by decide)) (by decide); have e9 : (1 : Int32).toInt = 1 := rfl; omega) 
theorem s_X3_draw_152 {G : Nat → Int} : ∀ (n : Nat) {σ : zSt} (hσ : zIC G σ) {x1 : Int32} (h_x1 : zr (0) (239) x1) {x4 : Int32} (h_x4 : zr (0) (256) x4) (hm : (256) - x4.toInt < n), zok (fX3_draw_152 n σ x1 x4) (zIC G) := by
  intro n
  induction n with
  | zero => intro σ hσ x1 h_x1 x4 h_x4 hm ; have h9 := h_x4.1; have h8 := h_x4.2; exfalso; omega
  | succ n ih => intro σ hσ x1 h_x1 x4 h_x4 hm ; exact s_X3_draw_152_body (fun σ x1 x4 hσ h_x1 h_x4 hm1 => ih hσ h_x1 h_x4 (by omega)) hσ h_x1 h_x4 (Int.le_refl _)
theorem s_X3_draw_144 {G : Nat → Int} {σ : zSt} (hσ : zIC G σ) {x1 : Int32} (h_x1 : zr (0) (239) x1) {x2 : Int32} (h_x2 : zr (0) (4) x2) : zok (fX3_draw_144 σ x1 x2) (zIC G) := by
  unfold fX3_draw_144
  refine zok_bu (s_X3_mixColours hσ h_x2) (fun σ3 i1 => ?_)
  exact (s_X3_draw_152 zfuel i1 h_x1 (zr_w (zr_c (lo := 0) (hi := 0) (by decide)) (by decide)) (by decide))
theorem s_X3_draw_139 {G : Nat → Int} {σ : zSt} (hσ : zIC G σ) {x1 : Int32} (h_x1 : zr (0) (239) x1) {x2 : Int32} (h_x2 : zr (0) (3) x2) {x3 : Int32} (h_x3 : zr (0) (31) x3) : zok (fX3_draw_139 σ x1 x2 x3) (zIC G) := by
  unfold fX3_draw_139
  refine zok_bu (s_X3_fillBack hσ h_x3) (fun σ4 i1 => ?_)
  exact (s_X3_draw_144 i1 h_x1 (zr_w h_x2 (by decide)))
theorem s_X3_draw_41 {G : Nat → Int} {σ : zSt} (hσ : zIC G σ) {x1 : Int32} (h_x1 : zr (0) (239) x1) {x2 : Int32} (h_x2 : zr (0) (4) x2) {s0 : Int32} (h_s0 : zr (0) (16) s0) : zok (fX3_draw_41 σ x1 x2 s0) (zIC G) := by
  unfold fX3_draw_41
  refine zok_pi (s_X9_held hσ.P) (fun v6 h1 => ?_)
  refine zok_br (zr_add (lo := 0) (hi := 31) h_s0 (zr_andr (lo := 0) (hi := 15) (zr_c (lo := 15) (hi := 15) (by decide)) (by decide)) (by decide)) (fun v7 e3 h2 => ?_)
  refine zok_pi (s_X9_held hσ.P) (fun v9 h4 => ?_)
  refine zok_if (fun q5 => ?_) (fun q5 => ?_)
  · have h6 := zc_eql (0) (0) q5 (zr_andr (lo := 0) (hi := 64) (zr_c (lo := 64) (hi := 64) (by decide)) (by decide)) (zr_c (lo := 0) (hi := 0) (by decide)) (by decide)
    refine zok_bu (s_J7_fill_53178_k27 hσ h2) (fun σ17 i7 => ?_)
    exact (s_X3_draw_144 i7 h_x1 h_x2)
  have h8 := zc_nel (1) (64) q5 (zr_andr (lo := 0) (hi := 64) (zr_c (lo := 64) (hi := 64) (by decide)) (by decide)) (zr_c (lo := 0) (hi := 0) (by decide)) (by decide)
  refine zok_if (fun q9 => ?_) (fun q9 => ?_)
  · have h10 := zc_eql (4) (4) q9 h_x2 (zr_c (lo := 4) (hi := 4) (by decide)) (by decide)
    refine zok_bu (s_X3_drawTiles hσ h_x1) (fun σ12 i11 => ?_)
    refine zok_bu (s_X3_drawSprites i11 h_x1) (fun σ13 i12 => ?_)
    refine zok_pi (s_X9_held i12.P) (fun v15 h13 => ?_)
    refine zok_if (fun q14 => ?_) (fun q14 => ?_)
    · have h15 := zc_eql (0) (0) q14 (zr_andr (lo := 0) (hi := 32) (zr_c (lo := 32) (hi := 32) (by decide)) (by decide)) (zr_c (lo := 0) (hi := 0) (by decide)) (by decide)
      exact (s_X3_draw_144 i12 h_x1 (zr_w h10 (by decide)))
    have h16 := zc_nel (1) (32) q14 (zr_andr (lo := 0) (hi := 32) (zr_c (lo := 32) (hi := 32) (by decide)) (by decide)) (zr_c (lo := 0) (hi := 0) (by decide)) (by decide)
    refine zok_bu (s_J7_fill_fda19_k27 i12 (zr_c (lo := 0) (hi := 0) (by decide)) (zr_c (lo := 8) (hi := 8) (by decide)) h2) (fun σ16 i17 => ?_)
    exact (s_X3_draw_144 i17 h_x1 (zr_w h10 (by decide)))
  have h18 := zc_nel (0) (3) q9 h_x2 (zr_c (lo := 4) (hi := 4) (by decide)) (by decide)
  refine zok_bu (s_X3_drawOld hσ h18 h_x1) (fun σ10 i19 => ?_)
  refine zok_if (fun q20 => ?_) (fun q20 => ?_)
  · have h21 := zc_eql (1) (1) q20 h18 (zr_c (lo := 1) (hi := 1) (by decide)) (by decide)
    exact (s_X3_draw_139 i19 h_x1 (zr_w h21 (by decide)) h2)
  refine zok_bu (s_X3_drawOldSprites i19 h_x1) (fun σ11 i22 => ?_)
  exact (s_X3_draw_139 i22 h_x1 h18 h2)
theorem s_X3_draw {G : Nat → Int} {σ : zSt} (hσ : zIC G σ) : zok (fX3_draw σ ) (zIC G) := by
  unfold fX3_draw
  refine zok_pi (s_X9_held hσ.P) (fun v19 h1 => ?_)
  refine zok_if (fun q2 => ?_) (fun q2 => ?_)
  · have h3 := zc_ltl (-1) q2 zr_any (zr_c (lo := 0) (hi := 0) (by decide)) (by decide)
    exact zok_pau hσ (s_X3_draw_21 hσ.P)
  have h4 := zc_ler (0) (z_nlt q2) (zr_c (lo := 0) (hi := 0) (by decide)) zr_any (by decide)
  refine zok_if (fun q5 => ?_) (fun q5 => ?_)
  · have h6 := zc_ltl (239) q5 h4 (zr_c (lo := 240) (hi := 240) (by decide)) (by decide)
    refine zok_pi (s_X9_mode hσ.P) (fun v21 h7 => ?_)
    refine zok_if (fun q8 => ?_) (fun q8 => ?_)
    · have h9 := zc_eql (4) (4) q8 h7 (zr_c (lo := 4) (hi := 4) (by decide)) (by decide)
      exact (s_X3_draw_41 hσ h6 (zr_w h9 (by decide)) (zr_w (zr_c (lo := 16) (hi := 16) (by decide)) (by decide)))
    have h10 := zc_nel (0) (3) q8 h7 (zr_c (lo := 4) (hi := 4) (by decide)) (by decide)
    exact (s_X3_draw_41 hσ h6 (zr_w h10 (by decide)) (zr_w (zr_c (lo := 0) (hi := 0) (by decide)) (by decide)))
  have h11 := zc_ler (240) (z_nlt q5) (zr_c (lo := 240) (hi := 240) (by decide)) h4 (by decide)
  exact zok_pau hσ (s_X3_draw_21 hσ.P)
theorem s_X4_clear {G : Nat → Int} {σ : zSt} (hσ : zIC G σ) : zok (fX4_clear σ ) (zIC G) := by
  unfold fX4_clear
  refine zok_ck rfl ?_
  refine zok_bs (hσ.wi 0 0 (by decide) (zr_c (lo := 255) (hi := 255) (by decide)) (by decide +kernel)) (fun σ1 e2 i1 => ?_)
  refine zok_ck rfl ?_
  refine zok_bs (i1.wi 1 1 (by decide) (zr_c (lo := 127) (hi := 127) (by decide)) (by decide +kernel)) (fun σ2 e4 i3 => ?_)
  refine zok_ck rfl ?_
  refine zok_bs (i3.wi 2 2 (by decide) (zr_c (lo := 255) (hi := 255) (by decide)) (by decide +kernel)) (fun σ3 e6 i5 => ?_)
  refine zok_ck rfl ?_
  refine zok_bs (i5.wi 3 3 (by decide) (zr_c (lo := 0) (hi := 0) (by decide)) (by decide +kernel)) (fun σ4 e8 i7 => ?_)
  refine zok_ck rfl ?_
  refine zok_bs (i7.wi 4 4 (by decide) (zr_c (lo := 255) (hi := 255) (by decide)) (by decide +kernel)) (fun σ5 e10 i9 => ?_)
  refine zok_ck rfl ?_
  refine zok_bs (i9.wi 5 5 (by decide) (zr_c (lo := 0) (hi := 0) (by decide)) (by decide +kernel)) (fun σ6 e12 i11 => ?_)
  refine zok_ck rfl ?_
  refine zok_bs (i11.wi 6 6 (by decide) (zr_c (lo := 0) (hi := 0) (by decide)) (by decide +kernel)) (fun σ7 e14 i13 => ?_)
  exact zok_some i13
theorem s_X4_keep {G : Nat → Int} {σ : zSt} (hσ : zIC G σ) : zok (fX4_keep σ ) (zIC G) := by
  unfold fX4_keep
  refine zok_ck (by decide) ?_
  refine zok_bs (hσ.wc (by decide +kernel) rfl rfl) (fun σ1 e2 i1 => ?_)
  exact zok_some i1
theorem s_X4_bringBack {G : Nat → Int} {σ : zSt} (hσ : zIC G σ) : zok (fX4_bringBack σ ) (zIC G) := by
  unfold fX4_bringBack
  refine zok_ck (by decide) ?_
  refine zok_bs (hσ.wc (by decide +kernel) rfl rfl) (fun σ1 e2 i1 => ?_)
  exact zok_some i1
theorem s_X4_value_20 {σ : zSt} (hσ : zPC σ) {s0 : Int32} (h_s0 : zr (0) (255) s0) : zok (fX4_value_20 σ s0) (zPi σ (fun v : Int32 => zr (0) (255) v)) := by
  unfold fX4_value_20
  exact zok_spi h_s0
theorem s_X4_value {σ : zSt} (hσ : zPC σ) {x1 : Int32} (h_x1 : zr (0) (6) x1) : zok (fX4_value σ x1) (zPi σ (fun v : Int32 => zr (0) (255) v)) := by
  unfold fX4_value
  refine zok_if (fun q1 => ?_) (fun q1 => ?_)
  · exact zr_no (zc_ltl (-1) q1 h_x1 (zr_c (lo := 0) (hi := 0) (by decide)) (by decide)) (by decide)
  refine zok_if (fun q2 => ?_) (fun q2 => ?_)
  · exact zr_no (zc_lel (6) q2 (zr_c (lo := 12) (hi := 12) (by decide)) h_x1 (by decide)) (by decide)
  refine zok_ck (zin_ok h_x1 (by decide)) ?_
  exact (s_X4_value_20 hσ (rC_55 hσ.sg _ (z_ix h_x1 (by decide))))
theorem s_X4_canPress_24 {σ : zSt} (hσ : zPC σ) {s0 : Int32} (h_s0 : zr (0) (1) s0) : zok (fX4_canPress_24 σ s0) (zPi σ (fun v : Int32 => zr (0) (1) v)) := by
  unfold fX4_canPress_24
  refine zok_ck (zbo_ok h_s0 (by decide)) ?_
  exact zok_spi h_s0
theorem s_X4_canPress_23 {σ : zSt} (hσ : zPC σ) : zok (fX4_canPress_23 σ ) (zPi σ (fun v : Int32 => zr (0) (1) v)) := by
  unfold fX4_canPress_23
  exact (s_X4_canPress_24 hσ (zr_w (zr_c (lo := 0) (hi := 0) (by decide)) (by decide)))
theorem s_X4_canPress {σ : zSt} (hσ : zPC σ) {x0 : Int32} {x1 : Int32} : zok (fX4_canPress σ x0 x1) (zPi σ (fun v : Int32 => zr (0) (1) v)) := by
  unfold fX4_canPress
  refine zok_if (fun q1 => ?_) (fun q1 => ?_)
  · have h2 := zc_ltl (-1) q1 zr_any (zr_c (lo := 0) (hi := 0) (by decide)) (by decide)
    exact (s_X4_canPress_23 hσ)
  have h3 := zc_ler (0) (z_nlt q1) (zr_c (lo := 0) (hi := 0) (by decide)) zr_any (by decide)
  refine zok_if (fun q4 => ?_) (fun q4 => ?_)
  · have h5 := zc_ltr (2) q4 (zr_c (lo := 1) (hi := 1) (by decide)) h3 (by decide)
    exact (s_X4_canPress_23 hσ)
  have h6 := zc_lel (1) (z_nlt q4) h3 (zr_c (lo := 1) (hi := 1) (by decide)) (by decide)
  refine zok_if (fun q7 => ?_) (fun q7 => ?_)
  · have h8 := zc_ltl (-1) q7 zr_any (zr_c (lo := 0) (hi := 0) (by decide)) (by decide)
    exact (s_X4_canPress_23 hσ)
  have h9 := zc_ler (0) (z_nlt q7) (zr_c (lo := 0) (hi := 0) (by decide)) zr_any (by decide)
  refine zok_if (fun q10 => ?_) (fun q10 => ?_)
  · have h11 := zc_ltr (64) q10 (zr_c (lo := 63) (hi := 63) (by decide)) h9 (by decide)
    exact (s_X4_canPress_23 hσ)
  have h12 := zc_lel (63) (z_nlt q10) h9 (zr_c (lo := 63) (hi := 63) (by decide)) (by decide)
  exact (s_X4_canPress_24 hσ (zr_w (zr_c (lo := 1) (hi := 1) (by decide)) (by decide)))
theorem s_X4_holdStart_15 {G : Nat → Int} {σ : zSt} (hσ : zIC G σ) {s0 : Int32} (h_s0 : zr (0) (1) s0) {s1 : Int32} (h_s1 : zr (9) (9) s1) : zok (fX4_holdStart_15 σ s0 s1) (zIC G) := by
  unfold fX4_holdStart_15
  refine zok_ck (zin_ok h_s1 (by decide)) ?_
  refine zok_bs (hσ.wi 9 9 (z_ix h_s1 (by decide)) h_s0 (by decide +kernel)) (fun σ1 e2 i1 => ?_)
  exact zok_some i1
theorem s_X4_holdStart {G : Nat → Int} {σ : zSt} (hσ : zIC G σ) {x1 : Int32} (h_x1 : zr (0) (1) x1) : zok (fX4_holdStart σ x1) (zIC G) := by
  unfold fX4_holdStart
  refine zok_if (fun q1 => ?_) (fun q1 => ?_)
  · have h2 := zc_eql (0) (0) q1 h_x1 (zr_c (lo := 0) (hi := 0) (by decide)) (by decide)
    exact (s_X4_holdStart_15 hσ (zr_w (zr_c (lo := 0) (hi := 0) (by decide)) (by decide)) (zr_c (lo := 9) (hi := 9) (by decide)))
  have h3 := zc_nel (1) (1) q1 h_x1 (zr_c (lo := 0) (hi := 0) (by decide)) (by decide)
  exact (s_X4_holdStart_15 hσ (zr_w (zr_c (lo := 1) (hi := 1) (by decide)) (by decide)) (zr_c (lo := 9) (hi := 9) (by decide)))
theorem s_X4_lines_52 {σ : zSt} (hσ : zPC σ) {x2 : Int32} (h_x2 : zr (0) (1) x2) {s0 : Int32} (h_s0 : zr (0) (1) s0) : zok (fX4_lines_52 σ x2 s0) (zPi σ (fun v : Int32 => zr (0) (3) v)) := by
  unfold fX4_lines_52
  exact zok_spi (zr_or (lo := 0) (hi := 3) 2 h_x2 (zr_shl (lo := 0) (hi := 2) 1 (by decide) h_s0 (by decide)) (by decide))
theorem s_X4_lines_28 {σ : zSt} (hσ : zPC σ) {x1 : Int32} (h_x1 : zr (0) (255) x1) {s0 : Int32} (h_s0 : zr (0) (1) s0) : zok (fX4_lines_28 σ x1 s0) (zPi σ (fun v : Int32 => zr (0) (3) v)) := by
  unfold fX4_lines_28
  refine zok_if (fun q1 => ?_) (fun q1 => ?_)
  · have h2 := zc_eql (0) (0) q1 (zr_andr (lo := 0) (hi := 8) (zr_c (lo := 8) (hi := 8) (by decide)) (by decide)) (zr_c (lo := 0) (hi := 0) (by decide)) (by decide)
    exact (s_X4_lines_52 hσ h_s0 (zr_andr (lo := 0) (hi := 1) (zr_c (lo := 1) (hi := 1) (by decide)) (by decide)))
  have h3 := zc_nel (1) (8) q1 (zr_andr (lo := 0) (hi := 8) (zr_c (lo := 8) (hi := 8) (by decide)) (by decide)) (zr_c (lo := 0) (hi := 0) (by decide)) (by decide)
  refine zok_ck rfl ?_
  exact (s_X4_lines_52 hσ h_s0 (rC_56 hσ.sg _ (by decide)))
theorem s_X4_lines {σ : zSt} (hσ : zPC σ) : zok (fX4_lines σ ) (zPi σ (fun v : Int32 => zr (0) (3) v)) := by
  unfold fX4_lines
  refine zok_ck rfl ?_
  refine zok_br (rC_55 hσ.sg _ (by decide)) (fun v1 e2 h1 => ?_)
  refine zok_if (fun q3 => ?_) (fun q3 => ?_)
  · have h4 := zc_eql (0) (0) q3 (zr_andr (lo := 0) (hi := 2) (zr_c (lo := 2) (hi := 2) (by decide)) (by decide)) (zr_c (lo := 0) (hi := 0) (by decide)) (by decide)
    exact (s_X4_lines_28 hσ h1 (zr_andr (lo := 0) (hi := 1) (zr_c (lo := 1) (hi := 1) (by decide)) (by decide)))
  have h5 := zc_nel (1) (2) q3 (zr_andr (lo := 0) (hi := 2) (zr_c (lo := 2) (hi := 2) (by decide)) (by decide)) (zr_c (lo := 0) (hi := 0) (by decide)) (by decide)
  refine zok_ck rfl ?_
  exact (s_X4_lines_28 hσ h1 (rC_56 hσ.sg _ (by decide)))
theorem s_X9_hCount_27 {σ : zSt} (hσ : zPC σ) {s0 : Int32} (h_s0 : zr (0) (255) s0) : zok (fX9_hCount_27 σ s0) (zPi σ (fun v : Int32 => zr (0) (255) v)) := by
  unfold fX9_hCount_27
  exact zok_spi h_s0
theorem s_X9_hCount {σ : zSt} (hσ : zPC σ) : zok (fX9_hCount σ ) (zPi σ (fun v : Int32 => zr (0) (255) v)) := by
  unfold fX9_hCount
  refine zok_ck rfl ?_
  refine zok_ck (by decide) ?_
  refine zok_br (zr_div (lo := 0) (hi := 170) 4 (by decide) (zr_mul (lo := 0) (hi := 681) (rC_42 hσ.sg _ (by decide)) (zr_c (lo := 3) (hi := 3) (by decide)) (by decide)) (by decide)) (fun v1 e2 h1 => ?_)
  refine zok_if (fun q3 => ?_) (fun q3 => ?_)
  · have h4 := zc_ltl (147) q3 h1 (zr_c (lo := 148) (hi := 148) (by decide)) (by decide)
    exact (s_X9_hCount_27 hσ (zr_w h4 (by decide)))
  have h5 := zc_ler (148) (z_nlt q3) (zr_c (lo := 148) (hi := 148) (by decide)) h1 (by decide)
  exact (s_X9_hCount_27 hσ (zr_w (zr_add (lo := 233) (hi := 255) h5 (zr_c (lo := 85) (hi := 85) (by decide)) (by decide)) (by decide)))
theorem s_X4_changeLines_37 {σ : zSt} (hσ : zPC σ) : zok (fX4_changeLines_37 σ ) (zPu σ) := by
  unfold fX4_changeLines_37
  exact zok_spu
theorem s_X4_changeLines {G : Nat → Int} {σ : zSt} (hσ : zIC G σ) {x1 : Int32} (h_x1 : zr (10) (11) x1) {x2 : Int32} (h_x2 : zr (0) (1) x2) : zok (fX4_changeLines σ x1 x2) (zIC G) := by
  unfold fX4_changeLines
  refine zok_pi (s_X4_lines hσ.P) (fun v2 h1 => ?_)
  refine zok_ck (zin_ok h_x1 (by decide)) ?_
  refine zok_bs (hσ.wi 10 11 (z_ix h_x1 (by decide)) h_x2 (by decide +kernel)) (fun σ3 e3 i2 => ?_)
  refine zok_pi (s_X4_lines i2.P) (fun v5 h4 => ?_)
  refine zok_if (fun q5 => ?_) (fun q5 => ?_)
  · have h6 := zc_eql (0) (0) q5 (zr_andl (lo := 0) (hi := 3) h4 (by decide)) (zr_c (lo := 0) (hi := 0) (by decide)) (by decide)
    exact zok_pau i2 (s_X4_changeLines_37 i2.P)
  have h7 := zc_nel (1) (3) q5 (zr_andl (lo := 0) (hi := 3) h4 (by decide)) (zr_c (lo := 0) (hi := 0) (by decide)) (by decide)
  refine zok_pi (s_X9_hCount i2.P) (fun v7 h8 => ?_)
  refine zok_ck rfl ?_
  refine zok_bs (i2.wi 6 6 (by decide) h8 (by decide +kernel)) (fun σ8 e10 i9 => ?_)
  exact zok_pau i9 (s_X4_changeLines_37 i9.P)
theorem s_X4_changeLines__0 {G : Nat → Int} {σ : zSt} (hσ : zIC G σ) {x1 : Int32} (h_x1 : zr (0) (0) x1) {x2 : Int32} (h_x2 : zr (0) (255) x2) : zok (fX4_changeLines σ x1 x2) (zIC G) := by
  unfold fX4_changeLines
  refine zok_pi (s_X4_lines hσ.P) (fun v2 h1 => ?_)
  refine zok_ck (zin_ok h_x1 (by decide)) ?_
  refine zok_bs (hσ.wi 0 0 (z_ix h_x1 (by decide)) h_x2 (by decide +kernel)) (fun σ3 e3 i2 => ?_)
  refine zok_pi (s_X4_lines i2.P) (fun v5 h4 => ?_)
  refine zok_if (fun q5 => ?_) (fun q5 => ?_)
  · have h6 := zc_eql (0) (0) q5 (zr_andl (lo := 0) (hi := 3) h4 (by decide)) (zr_c (lo := 0) (hi := 0) (by decide)) (by decide)
    exact zok_pau i2 (s_X4_changeLines_37 i2.P)
  have h7 := zc_nel (1) (3) q5 (zr_andl (lo := 0) (hi := 3) h4 (by decide)) (zr_c (lo := 0) (hi := 0) (by decide)) (by decide)
  refine zok_pi (s_X9_hCount i2.P) (fun v7 h8 => ?_)
  refine zok_ck rfl ?_
  refine zok_bs (i2.wi 6 6 (by decide) h8 (by decide +kernel)) (fun σ8 e10 i9 => ?_)
  exact zok_pau i9 (s_X4_changeLines_37 i9.P)
theorem s_X4_moveLine_16 {G : Nat → Int} {σ : zSt} (hσ : zIC G σ) {s0 : Int32} (h_s0 : zr (0) (1) s0) {s1 : Int32} (h_s1 : zr (10) (11) s1) : zok (fX4_moveLine_16 σ s0 s1) (zIC G) := by
  unfold fX4_moveLine_16
  refine zok_bu (s_X4_changeLines hσ h_s1 h_s0) (fun σ1 i1 => ?_)
  exact zok_some i1
theorem s_X4_moveLine {G : Nat → Int} {σ : zSt} (hσ : zIC G σ) {x1 : Int32} (h_x1 : zr (0) (1) x1) {x2 : Int32} (h_x2 : zr (0) (1) x2) : zok (fX4_moveLine σ x1 x2) (zIC G) := by
  unfold fX4_moveLine
  refine zok_if (fun q1 => ?_) (fun q1 => ?_)
  · have h2 := zc_eql (0) (0) q1 h_x2 (zr_c (lo := 0) (hi := 0) (by decide)) (by decide)
    exact (s_X4_moveLine_16 hσ (zr_w (zr_c (lo := 0) (hi := 0) (by decide)) (by decide)) (zr_add (lo := 10) (hi := 11) (zr_c (lo := 10) (hi := 10) (by decide)) (zr_andr (lo := 0) (hi := 1) (zr_c (lo := 1) (hi := 1) (by decide)) (by decide)) (by decide)))
  have h3 := zc_nel (1) (1) q1 h_x2 (zr_c (lo := 0) (hi := 0) (by decide)) (by decide)
  exact (s_X4_moveLine_16 hσ (zr_w (zr_c (lo := 1) (hi := 1) (by decide)) (by decide)) (zr_add (lo := 10) (hi := 11) (zr_c (lo := 10) (hi := 10) (by decide)) (zr_andr (lo := 0) (hi := 1) (zr_c (lo := 1) (hi := 1) (by decide)) (by decide)) (by decide)))
theorem s_X10_value {σ : zSt} (hσ : zPC σ) {x1 : Int32} : zok (fX10_value σ x1) (zPi σ (fun v : Int32 => True)) := by
  unfold fX10_value
  refine zok_if (fun q1 => ?_) (fun q1 => ?_)
  · have h2 := zc_ltl (-1) q1 zr_any (zr_c (lo := 0) (hi := 0) (by decide)) (by decide)
    unfold fX10_value_11
    exact zok_spi trivial
  have h3 := zc_ler (0) (z_nlt q1) (zr_c (lo := 0) (hi := 0) (by decide)) zr_any (by decide)
  refine zok_if (fun q4 => ?_) (fun q4 => ?_)
  · have h5 := zc_ltl (271) q4 h3 (zr_c (lo := 272) (hi := 272) (by decide)) (by decide)
    refine zok_if (fun q6 => ?_) (fun q6 => ?_)
    · have h7 := zc_eql (66) (66) q6 h5 (zr_c (lo := 66) (hi := 66) (by decide)) (by decide)
      refine zok_ck rfl ?_
      unfold fX10_value_38
      exact zok_spi trivial
    refine zok_ck (zin_ok h5 (by decide)) ?_
    unfold fX10_value_38
    exact zok_spi trivial
  have h8 := zc_ler (272) (z_nlt q4) (zr_c (lo := 272) (hi := 272) (by decide)) h3 (by decide)
  unfold fX10_value_11
  exact zok_spi trivial
theorem s_X10_value__64 {σ : zSt} (hσ : zPC σ) {x1 : Int32} (h_x1 : zr (64) (64) x1) : zok (fX10_value σ x1) (zPi σ (fun v : Int32 => zr (0) (3) v)) := by
  unfold fX10_value
  refine zok_if (fun q1 => ?_) (fun q1 => ?_)
  · exact zr_no (zc_ltl (-1) q1 h_x1 (zr_c (lo := 0) (hi := 0) (by decide)) (by decide)) (by decide)
  refine zok_if (fun q2 => ?_) (fun q2 => ?_)
  · refine zok_if (fun q3 => ?_) (fun q3 => ?_)
    · have h4 := zc_eql (66) (64) q3 h_x1 (zr_c (lo := 66) (hi := 66) (by decide)) (by decide)
      exact zr_no h4 (by decide)
    refine zok_ck (zin_ok h_x1 (by decide)) ?_
    unfold fX10_value_38
    exact zok_spi (rC_61 hσ.sg _ (z_ix h_x1 (by decide)))
  exact zr_no (zc_lel (64) (z_nlt q2) (zr_c (lo := 272) (hi := 272) (by decide)) h_x1 (by decide)) (by decide)
theorem s_X4_readEvenPads_56 {σ : zSt} (hσ : zPC σ) {s0 : Int32} (h_s0 : zr (0) (255) s0) : zok (fX4_readEvenPads_56 σ s0) (zPi σ (fun v : Int32 => zr (0) (255) v)) := by
  unfold fX4_readEvenPads_56
  exact zok_spi h_s0
theorem s_X4_readEvenPads {σ : zSt} (hσ : zPC σ) : zok (fX4_readEvenPads σ ) (zPi σ (fun v : Int32 => zr (0) (255) v)) := by
  unfold fX4_readEvenPads
  refine zok_ck rfl ?_
  refine zok_ck rfl ?_
  refine zok_br (zr_andr (lo := 0) (hi := 255) (zr_c (lo := 255) (hi := 255) (by decide)) (by decide)) (fun v1 e2 h1 => ?_)
  refine zok_ck rfl ?_
  refine zok_if (fun q3 => ?_) (fun q3 => ?_)
  · have h4 := zc_eql (0) (0) q3 (zr_andr (lo := 0) (hi := 1) (zr_c (lo := 1) (hi := 1) (by decide)) (by decide)) (zr_c (lo := 0) (hi := 0) (by decide)) (by decide)
    refine zok_ck rfl ?_
    exact (s_X4_readEvenPads_56 hσ (zr_or (lo := 0) (hi := 255) 8 (zr_andl (lo := 0) (hi := 255) h1 (by decide)) (zr_shl (lo := 0) (hi := 32) 1 (by decide) (zr_andr (lo := 0) (hi := 16) (zr_c (lo := 16) (hi := 16) (by decide)) (by decide)) (by decide)) (by decide)))
  have h5 := zc_nel (1) (1) q3 (zr_andr (lo := 0) (hi := 1) (zr_c (lo := 1) (hi := 1) (by decide)) (by decide)) (zr_c (lo := 0) (hi := 0) (by decide)) (by decide)
  exact (s_X4_readEvenPads_56 hσ h1)
theorem s_X4_readOddPads_57 {σ : zSt} (hσ : zPC σ) {s0 : Int32} (h_s0 : zr (0) (255) s0) : zok (fX4_readOddPads_57 σ s0) (zPi σ (fun v : Int32 => zr (0) (255) v)) := by
  unfold fX4_readOddPads_57
  exact zok_spi h_s0
theorem s_X4_readOddPads {σ : zSt} (hσ : zPC σ) : zok (fX4_readOddPads σ ) (zPi σ (fun v : Int32 => zr (0) (255) v)) := by
  unfold fX4_readOddPads
  refine zok_ck rfl ?_
  refine zok_pi (s_X4_lines hσ) (fun v2 h1 => ?_)
  refine zok_br (zr_or (lo := 0) (hi := 255) 8 (zr_or (lo := 0) (hi := 63) 6 (zr_andr (lo := 0) (hi := 15) (zr_c (lo := 15) (hi := 15) (by decide)) (by decide)) (zr_c (lo := 48) (hi := 48) (by decide)) (by decide)) (zr_shl (lo := 0) (hi := 192) 6 (by decide) h1 (by decide)) (by decide)) (fun v3 e3 h2 => ?_)
  refine zok_ck rfl ?_
  refine zok_if (fun q4 => ?_) (fun q4 => ?_)
  · have h5 := zc_eql (0) (0) q4 (zr_andr (lo := 0) (hi := 4) (zr_c (lo := 4) (hi := 4) (by decide)) (by decide)) (zr_c (lo := 0) (hi := 0) (by decide)) (by decide)
    refine zok_ck rfl ?_
    exact (s_X4_readOddPads_57 hσ (zr_or (lo := 0) (hi := 255) 8 (zr_andl (lo := 0) (hi := 255) h2 (by decide)) (zr_shr (lo := 0) (hi := 8) 3 (by decide) (zr_andr (lo := 0) (hi := 64) (zr_c (lo := 64) (hi := 64) (by decide)) (by decide)) (by decide)) (by decide)))
  have h6 := zc_nel (1) (4) q4 (zr_andr (lo := 0) (hi := 4) (zr_c (lo := 4) (hi := 4) (by decide)) (by decide)) (zr_c (lo := 0) (hi := 0) (by decide)) (by decide)
  exact (s_X4_readOddPads_57 hσ h2)
theorem s_X9_readAhead {G : Nat → Int} {σ : zSt} (hσ : zIC G σ) : zok (fX9_readAhead σ ) (zIC G) := by
  unfold fX9_readAhead
  refine zok_ck rfl ?_
  refine zok_ck (zin_ok (zr_andr (lo := 0) (hi := 16383) (zr_c (lo := 16383) (hi := 16383) (by decide)) (by decide)) (by decide)) ?_
  refine zok_ck rfl ?_
  refine zok_bs (hσ.wi 13 13 (by decide) (rC_19 hσ.sg _ (z_ix (zr_andr (lo := 0) (hi := 16383) (zr_c (lo := 16383) (hi := 16383) (by decide)) (by decide)) (by decide))) (by decide +kernel)) (fun σ1 e2 i1 => ?_)
  refine zok_ck rfl ?_
  refine zok_ck rfl ?_
  refine zok_bs (i1.wi 11 11 (by decide) (zr_andr (lo := 0) (hi := 16383) (zr_c (lo := 16383) (hi := 16383) (by decide)) (by decide)) (by decide +kernel)) (fun σ2 e4 i3 => ?_)
  exact zok_some i3
theorem s_X9_readData {G : Nat → Int} {σ : zSt} (hσ : zIC G σ) : zok (fX9_readData σ ) (zAi (zIC G) (fun v : Int32 => zr (0) (255) v)) := by
  unfold fX9_readData
  refine zok_ck rfl ?_
  refine zok_br (rC_38 hσ.sg _ (by decide)) (fun v1 e2 h1 => ?_)
  refine zok_ck rfl ?_
  refine zok_bs (hσ.wi 14 14 (by decide) (zr_c (lo := 0) (hi := 0) (by decide)) (by decide +kernel)) (fun σ2 e4 i3 => ?_)
  refine zok_bu (s_X9_readAhead i3) (fun σ3 i5 => ?_)
  exact zok_sai i5 h1
theorem s_X9_readStatus {G : Nat → Int} {σ : zSt} (hσ : zIC G σ) : zok (fX9_readStatus σ ) (zAi (zIC G) (fun v : Int32 => zr (0) (255) v)) := by
  unfold fX9_readStatus
  refine zok_ck rfl ?_
  refine zok_br (rC_40 hσ.sg _ (by decide)) (fun v1 e2 h1 => ?_)
  refine zok_ck rfl ?_
  refine zok_bs (hσ.wi 14 14 (by decide) (zr_c (lo := 0) (hi := 0) (by decide)) (by decide +kernel)) (fun σ2 e4 i3 => ?_)
  refine zok_ck rfl ?_
  refine zok_bs (i3.wi 15 15 (by decide) (zr_c (lo := 0) (hi := 0) (by decide)) (by decide +kernel)) (fun σ3 e6 i5 => ?_)
  refine zok_ck rfl ?_
  refine zok_bs (i5.wi 16 16 (by decide) (zr_c (lo := 0) (hi := 0) (by decide)) (by decide +kernel)) (fun σ4 e8 i7 => ?_)
  exact zok_sai i7 h1
theorem s_X9_vCount_137 {σ : zSt} (hσ : zPC σ) {s0 : Int32} : zok (fX9_vCount_137 σ s0) (zPi σ (fun v : Int32 => zr (0) (255) v)) := by
  unfold fX9_vCount_137
  exact zok_spi (zr_andr (lo := 0) (hi := 255) (zr_c (lo := 255) (hi := 255) (by decide)) (by decide))
theorem s_X9_vCount_136 {σ : zSt} (hσ : zPC σ) {s0 : Int32} (h_s0 : zr (6) (57) s0) {s1 : Int32} : zok (fX9_vCount_136 σ s0 s1) (zPi σ (fun v : Int32 => zr (0) (255) v)) := by
  unfold fX9_vCount_136
  exact (s_X9_vCount_137 hσ)
theorem s_X9_vCount_97 {σ : zSt} (hσ : zPC σ) {x2 : Int32} (h_x2 : zr (0) (1) x2) {x3 : Int32} : zok (fX9_vCount_97 σ x2 x3) (zPi σ (fun v : Int32 => zr (0) (255) v)) := by
  unfold fX9_vCount_97
  refine zok_ck rfl ?_
  refine zok_if (fun q1 => ?_) (fun q1 => ?_)
  · refine zok_ck rfl ?_
    refine zok_if (fun q2 => ?_) (fun q2 => ?_)
    · have h3 := zc_eql (0) (0) q2 h_x2 (zr_c (lo := 0) (hi := 0) (by decide)) (by decide)
      exact (s_X9_vCount_136 hσ (zr_w (zr_c (lo := 6) (hi := 6) (by decide)) (by decide)))
    have h4 := zc_nel (1) (1) q2 h_x2 (zr_c (lo := 0) (hi := 0) (by decide)) (by decide)
    exact (s_X9_vCount_136 hσ (zr_w (zr_c (lo := 57) (hi := 57) (by decide)) (by decide)))
  have h5 := zc_ltl (2147483646) (z_nle q1) zr_any zr_any (by decide)
  have h6 := zc_ltr (-2147483647) (z_nle q1) zr_any zr_any (by decide)
  refine zok_ck rfl ?_
  exact (s_X9_vCount_137 hσ)
theorem s_X9_vCount_96 {σ : zSt} (hσ : zPC σ) {x2 : Int32} (h_x2 : zr (0) (1) x2) {s0 : Int32} : zok (fX9_vCount_96 σ x2 s0) (zPi σ (fun v : Int32 => zr (0) (255) v)) := by
  unfold fX9_vCount_96
  exact (s_X9_vCount_97 hσ h_x2)
theorem s_X9_vCount_78 {σ : zSt} (hσ : zPC σ) {x2 : Int32} (h_x2 : zr (0) (1) x2) {s0 : Int32} (h_s0 : zr (235) (259) s0) : zok (fX9_vCount_78 σ x2 s0) (zPi σ (fun v : Int32 => zr (0) (255) v)) := by
  unfold fX9_vCount_78
  exact (s_X9_vCount_97 hσ h_x2)
theorem s_X9_vCount_61 {σ : zSt} (hσ : zPC σ) {x2 : Int32} (h_x2 : zr (0) (1) x2) {s0 : Int32} (h_s0 : zr (219) (243) s0) : zok (fX9_vCount_61 σ x2 s0) (zPi σ (fun v : Int32 => zr (0) (255) v)) := by
  unfold fX9_vCount_61
  exact (s_X9_vCount_97 hσ h_x2)
theorem s_X9_vCount_20 {σ : zSt} (hσ : zPC σ) {x1 : Int32} (h_x1 : zr (192) (240) x1) {s0 : Int32} (h_s0 : zr (0) (1) s0) : zok (fX9_vCount_20 σ x1 s0) (zPi σ (fun v : Int32 => zr (0) (255) v)) := by
  unfold fX9_vCount_20
  refine zok_if (fun q1 => ?_) (fun q1 => ?_)
  · have h2 := zc_eql (192) (192) q1 h_x1 (zr_c (lo := 192) (hi := 192) (by decide)) (by decide)
    refine zok_if (fun q3 => ?_) (fun q3 => ?_)
    · have h4 := zc_eql (0) (0) q3 h_s0 (zr_c (lo := 0) (hi := 0) (by decide)) (by decide)
      exact (s_X9_vCount_61 hσ (zr_w h4 (by decide)) (zr_w (zr_c (lo := 219) (hi := 219) (by decide)) (by decide)))
    have h5 := zc_nel (1) (1) q3 h_s0 (zr_c (lo := 0) (hi := 0) (by decide)) (by decide)
    exact (s_X9_vCount_61 hσ (zr_w h5 (by decide)) (zr_w (zr_c (lo := 243) (hi := 243) (by decide)) (by decide)))
  have h6 := zc_nel (193) (240) q1 h_x1 (zr_c (lo := 192) (hi := 192) (by decide)) (by decide)
  refine zok_if (fun q7 => ?_) (fun q7 => ?_)
  · have h8 := zc_eql (224) (224) q7 h6 (zr_c (lo := 224) (hi := 224) (by decide)) (by decide)
    refine zok_if (fun q9 => ?_) (fun q9 => ?_)
    · have h10 := zc_eql (0) (0) q9 h_s0 (zr_c (lo := 0) (hi := 0) (by decide)) (by decide)
      exact (s_X9_vCount_78 hσ (zr_w h10 (by decide)) (zr_w (zr_c (lo := 235) (hi := 235) (by decide)) (by decide)))
    have h11 := zc_nel (1) (1) q9 h_s0 (zr_c (lo := 0) (hi := 0) (by decide)) (by decide)
    exact (s_X9_vCount_78 hσ (zr_w h11 (by decide)) (zr_w (zr_c (lo := 259) (hi := 259) (by decide)) (by decide)))
  refine zok_if (fun q12 => ?_) (fun q12 => ?_)
  · have h13 := zc_eql (0) (0) q12 h_s0 (zr_c (lo := 0) (hi := 0) (by decide)) (by decide)
    exact (s_X9_vCount_96 hσ (zr_w h13 (by decide)))
  have h14 := zc_nel (1) (1) q12 h_s0 (zr_c (lo := 0) (hi := 0) (by decide)) (by decide)
  exact (s_X9_vCount_96 hσ (zr_w h14 (by decide)))
theorem s_X9_vCount {σ : zSt} (hσ : zPC σ) : zok (fX9_vCount σ ) (zPi σ (fun v : Int32 => zr (0) (255) v)) := by
  unfold fX9_vCount
  refine zok_pi (s_X9_height hσ) (fun v2 h1 => ?_)
  refine zok_if (fun q2 => ?_) (fun q2 => ?_)
  · have h3 := zc_eql (313) (313) q2 zr_any (zr_c (lo := 313) (hi := 313) (by decide)) (by decide)
    exact (s_X9_vCount_20 hσ h1 (zr_w (zr_c (lo := 1) (hi := 1) (by decide)) (by decide)))
  exact (s_X9_vCount_20 hσ h1 (zr_w (zr_c (lo := 0) (hi := 0) (by decide)) (by decide)))
theorem s_X4_readHandy_23 {σ : zSt} (hσ : zPC σ) {s0 : Int32} (h_s0 : zr (64) (192) s0) : zok (fX4_readHandy_23 σ s0) (zPi σ (fun v : Int32 => zr (0) (255) v)) := by
  unfold fX4_readHandy_23
  exact zok_spi (zr_w h_s0 (by decide))
theorem s_X4_readHandy_46 {σ : zSt} (hσ : zPC σ) {s0 : Int32} (h_s0 : zr (0) (255) s0) : zok (fX4_readHandy_46 σ s0) (zPi σ (fun v : Int32 => zr (0) (255) v)) := by
  unfold fX4_readHandy_46
  exact zok_spi h_s0
theorem s_X4_readHandy_43 {σ : zSt} (hσ : zPC σ) : zok (fX4_readHandy_43 σ ) (zPi σ (fun v : Int32 => zr (0) (255) v)) := by
  unfold fX4_readHandy_43
  exact (s_X4_readHandy_46 hσ (zr_w (zr_c (lo := 255) (hi := 255) (by decide)) (by decide)))
theorem s_X4_readHandy {σ : zSt} (hσ : zPC σ) {x1 : Int32} (h_x1 : zr (0) (255) x1) : zok (fX4_readHandy σ x1) (zPi σ (fun v : Int32 => zr (0) (255) v)) := by
  unfold fX4_readHandy
  refine zok_if (fun q1 => ?_) (fun q1 => ?_)
  · have h2 := zc_eql (0) (0) q1 h_x1 (zr_c (lo := 0) (hi := 0) (by decide)) (by decide)
    refine zok_ck rfl ?_
    refine zok_if (fun q3 => ?_) (fun q3 => ?_)
    · have h4 := zc_eql (1) (1) q3 zr_any (zr_c (lo := 1) (hi := 1) (by decide)) (by decide)
      exact (s_X4_readHandy_23 hσ (zr_w (zr_c (lo := 64) (hi := 64) (by decide)) (by decide)))
    exact (s_X4_readHandy_23 hσ (zr_w (zr_c (lo := 192) (hi := 192) (by decide)) (by decide)))
  have h5 := zc_nel (1) (255) q1 h_x1 (zr_c (lo := 0) (hi := 0) (by decide)) (by decide)
  refine zok_if (fun q6 => ?_) (fun q6 => ?_)
  · exact zr_no (zc_ltl (0) q6 h5 (zr_c (lo := 1) (hi := 1) (by decide)) (by decide)) (by decide)
  refine zok_if (fun q7 => ?_) (fun q7 => ?_)
  · have h8 := zc_ltr (6) q7 (zr_c (lo := 5) (hi := 5) (by decide)) h5 (by decide)
    exact (s_X4_readHandy_43 hσ)
  have h9 := zc_lel (5) (z_nlt q7) h5 (zr_c (lo := 5) (hi := 5) (by decide)) (by decide)
  refine zok_ck (zin_ok h9 (by decide)) ?_
  exact (s_X4_readHandy_46 hσ (rC_55 hσ.sg _ (z_ix h9 (by decide))))
theorem s_X4_read_146 {σ : zSt} (hσ : zPC σ) {s0 : Int32} (h_s0 : zr (0) (255) s0) : zok (fX4_read_146 σ s0) (zPi σ (fun v : Int32 => zr (0) (255) v)) := by
  unfold fX4_read_146
  exact zok_spi h_s0
theorem s_X4_read_131 {σ : zSt} (hσ : zPC σ) {x2 : Int32} (h_x2 : zr (0) (1) x2) : zok (fX4_read_131 σ x2) (zPi σ (fun v : Int32 => zr (0) (255) v)) := by
  unfold fX4_read_131
  refine zok_if (fun q1 => ?_) (fun q1 => ?_)
  · have h2 := zc_eql (0) (0) q1 h_x2 (zr_c (lo := 0) (hi := 0) (by decide)) (by decide)
    refine zok_pi (s_X4_readOddPads hσ) (fun v2 h3 => ?_)
    exact (s_X4_read_146 hσ h3)
  have h4 := zc_nel (1) (1) q1 h_x2 (zr_c (lo := 0) (hi := 0) (by decide)) (by decide)
  refine zok_pi (s_X4_readEvenPads hσ) (fun v4 h5 => ?_)
  exact (s_X4_read_146 hσ h5)
theorem s_X4_read_106 {σ : zSt} (hσ : zPC σ) {s0 : Int32} (h_s0 : zr (0) (255) s0) : zok (fX4_read_106 σ s0) (zPi σ (fun v : Int32 => zr (0) (255) v)) := by
  unfold fX4_read_106
  exact zok_spi h_s0
theorem s_X4_read_84 {σ : zSt} (hσ : zPC σ) {s0 : Int32} (h_s0 : zr (0) (255) s0) : zok (fX4_read_84 σ s0) (zPi σ (fun v : Int32 => zr (0) (255) v)) := by
  unfold fX4_read_84
  exact zok_spi h_s0
theorem s_X4_read_62 {σ : zSt} (hσ : zPC σ) {s0 : Int32} (h_s0 : zr (0) (255) s0) : zok (fX4_read_62 σ s0) (zPi σ (fun v : Int32 => zr (0) (255) v)) := by
  unfold fX4_read_62
  exact zok_spi h_s0
theorem s_X4_read_11 {G : Nat → Int} {σ : zSt} (hσ : zIC G σ) {x1 : Int32} (h_x1 : zr (0) (255) x1) {s0 : Int32} (h_s0 : zr (0) (1) s0) : zok (fX4_read_11 σ x1 s0) (zAi (zIC G) (fun v : Int32 => zr (0) (255) v)) := by
  unfold fX4_read_11
  refine zok_if (fun q1 => ?_) (fun q1 => ?_)
  · have h2 := zc_eql (0) (0) q1 (zr_shr (lo := 0) (hi := 3) 6 (by decide) h_x1 (by decide)) (zr_c (lo := 0) (hi := 0) (by decide)) (by decide)
    refine zok_if (fun q3 => ?_) (fun q3 => ?_)
    · have h4 := zc_eql (0) (0) q3 zr_any (zr_c (lo := 0) (hi := 0) (by decide)) (by decide)
      exact zok_pai hσ (s_X4_read_62 hσ.P (zr_w (zr_c (lo := 255) (hi := 255) (by decide)) (by decide)))
    refine zok_pi (s_X4_readHandy hσ.P h_x1) (fun v6 h5 => ?_)
    exact zok_pai hσ (s_X4_read_62 hσ.P h5)
  have h6 := zc_nel (1) (3) q1 (zr_shr (lo := 0) (hi := 3) 6 (by decide) h_x1 (by decide)) (zr_c (lo := 0) (hi := 0) (by decide)) (by decide)
  refine zok_if (fun q7 => ?_) (fun q7 => ?_)
  · have h8 := zc_eql (1) (1) q7 h6 (zr_c (lo := 1) (hi := 1) (by decide)) (by decide)
    refine zok_if (fun q9 => ?_) (fun q9 => ?_)
    · have h10 := zc_eql (0) (0) q9 h_s0 (zr_c (lo := 0) (hi := 0) (by decide)) (by decide)
      refine zok_ck rfl ?_
      exact zok_pai hσ (s_X4_read_84 hσ.P (rC_55 hσ.sg _ (by decide)))
    have h11 := zc_nel (1) (1) q9 h_s0 (zr_c (lo := 0) (hi := 0) (by decide)) (by decide)
    refine zok_pi (s_X9_vCount hσ.P) (fun v8 h12 => ?_)
    exact zok_pai hσ (s_X4_read_84 hσ.P h12)
  have h13 := zc_nel (2) (3) q7 h6 (zr_c (lo := 1) (hi := 1) (by decide)) (by decide)
  refine zok_if (fun q14 => ?_) (fun q14 => ?_)
  · have h15 := zc_eql (2) (2) q14 h13 (zr_c (lo := 2) (hi := 2) (by decide)) (by decide)
    refine zok_if (fun q16 => ?_) (fun q16 => ?_)
    · have h17 := zc_eql (0) (0) q16 h_s0 (zr_c (lo := 0) (hi := 0) (by decide)) (by decide)
      refine zok_ai (s_X9_readStatus hσ) (fun σ9 v10 i18 h19 => ?_)
      exact zok_pai i18 (s_X4_read_106 i18.P h19)
    have h20 := zc_nel (1) (1) q16 h_s0 (zr_c (lo := 0) (hi := 0) (by decide)) (by decide)
    refine zok_ai (s_X9_readData hσ) (fun σ11 v12 i21 h22 => ?_)
    exact zok_pai i21 (s_X4_read_106 i21.P h22)
  have h23 := zc_nel (3) (3) q14 h13 (zr_c (lo := 2) (hi := 2) (by decide)) (by decide)
  refine zok_if (fun q24 => ?_) (fun q24 => ?_)
  · have h25 := zc_eql (242) (242) q24 h_x1 (zr_c (lo := 242) (hi := 242) (by decide)) (by decide)
    refine zok_if (fun q26 => ?_) (fun q26 => ?_)
    · have h27 := zc_eql (0) (0) q26 zr_any (zr_c (lo := 0) (hi := 0) (by decide)) (by decide)
      refine zok_pi (s_X10_value__64 hσ.P (zr_c (lo := 64) (hi := 64) (by decide))) (fun v14 h28 => ?_)
      exact zok_sai hσ (zr_w h28 (by decide))
    exact zok_pai hσ (s_X4_read_131 hσ.P h_s0)
  exact zok_pai hσ (s_X4_read_131 hσ.P h_s0)
theorem s_X4_read {G : Nat → Int} {σ : zSt} (hσ : zIC G σ) {x1 : Int32} (h_x1 : zr (0) (255) x1) : zok (fX4_read σ x1) (zAi (zIC G) (fun v : Int32 => zr (0) (255) v)) := by
  unfold fX4_read
  refine zok_if (fun q1 => ?_) (fun q1 => ?_)
  · have h2 := zc_eql (0) (0) q1 (zr_andr (lo := 0) (hi := 1) (zr_c (lo := 1) (hi := 1) (by decide)) (by decide)) (zr_c (lo := 0) (hi := 0) (by decide)) (by decide)
    exact (s_X4_read_11 hσ h_x1 (zr_w (zr_c (lo := 1) (hi := 1) (by decide)) (by decide)))
  have h3 := zc_nel (1) (1) q1 (zr_andr (lo := 0) (hi := 1) (zr_c (lo := 1) (hi := 1) (by decide)) (by decide)) (zr_c (lo := 0) (hi := 0) (by decide)) (by decide)
  exact (s_X4_read_11 hσ h_x1 (zr_w (zr_c (lo := 0) (hi := 0) (by decide)) (by decide)))
theorem s_X10_take_57 {σ : zSt} (hσ : zPC σ) : zok (fX10_take_57 σ ) (zPu σ) := by
  unfold fX10_take_57
  exact zok_spu
theorem s_X10_take {G : Nat → Int} {σ : zSt} (hσ : zIC G σ) {x1 : Int32} (h_x1 : zr (240) (242) x1) {x2 : Int32} (h_x2 : zr (0) (255) x2) : zok (fX10_take σ x1 x2) (zIC G) := by
  unfold fX10_take
  refine zok_if (fun q1 => ?_) (fun q1 => ?_)
  · have h2 := zc_eql (240) (240) q1 h_x1 (zr_c (lo := 240) (hi := 240) (by decide)) (by decide)
    refine zok_ck rfl ?_
    refine zok_bs (hσ.wi 68 68 (by decide) (zr_andr (lo := 0) (hi := 63) (zr_c (lo := 63) (hi := 63) (by decide)) (by decide)) (by decide +kernel)) (fun σ3 e4 i3 => ?_)
    exact zok_pau i3 (s_X10_take_57 i3.P)
  have h5 := zc_nel (241) (242) q1 h_x1 (zr_c (lo := 240) (hi := 240) (by decide)) (by decide)
  refine zok_if (fun q6 => ?_) (fun q6 => ?_)
  · have h7 := zc_eql (241) (241) q6 h5 (zr_c (lo := 241) (hi := 241) (by decide)) (by decide)
    refine zok_ck rfl ?_
    refine zok_ck (zin_ok (zr_andr (lo := 0) (hi := 63) (zr_c (lo := 63) (hi := 63) (by decide)) (by decide)) (by decide)) ?_
    refine zok_bs (hσ.wi 0 63 (z_ix (zr_andr (lo := 0) (hi := 63) (zr_c (lo := 63) (hi := 63) (by decide)) (by decide)) (by decide)) h_x2 (by decide +kernel)) (fun σ2 e9 i8 => ?_)
    exact zok_pau i8 (s_X10_take_57 i8.P)
  have h10 := zc_nel (242) (242) q6 h5 (zr_c (lo := 241) (hi := 241) (by decide)) (by decide)
  refine zok_ck rfl ?_
  refine zok_bs (hσ.wi 64 64 (by decide) (zr_andr (lo := 0) (hi := 3) (zr_c (lo := 3) (hi := 3) (by decide)) (by decide)) (by decide +kernel)) (fun σ1 e12 i11 => ?_)
  exact zok_pau i11 (s_X10_take_57 i11.P)
theorem s_X9_writeColour_72 {σ : zSt} (hσ : zPC σ) : zok (fX9_writeColour_72 σ ) (zPu σ) := by
  unfold fX9_writeColour_72
  exact zok_spu
theorem s_X9_writeColour {G : Nat → Int} {σ : zSt} (hσ : zIC G σ) {x1 : Int32} (h_x1 : zr (0) (16383) x1) {x2 : Int32} (h_x2 : zr (0) (255) x2) : zok (fX9_writeColour σ x1 x2) (zIC G) := by
  unfold fX9_writeColour
  refine zok_if (fun q1 => ?_) (fun q1 => ?_)
  · have h2 := zc_eql (0) (0) q1 zr_any (zr_c (lo := 0) (hi := 0) (by decide)) (by decide)
    refine zok_ck (zin_ok (zr_add (lo := 32) (hi := 63) (zr_c (lo := 32) (hi := 32) (by decide)) (zr_andr (lo := 0) (hi := 31) (zr_c (lo := 31) (hi := 31) (by decide)) (by decide)) (by decide)) (by decide)) ?_
    refine zok_bs (hσ.wi 32 63 (z_ix (zr_add (lo := 32) (hi := 63) (zr_c (lo := 32) (hi := 32) (by decide)) (zr_andr (lo := 0) (hi := 31) (zr_c (lo := 31) (hi := 31) (by decide)) (by decide)) (by decide)) (by decide)) h_x2 (by decide +kernel)) (fun σ4 e4 i3 => ?_)
    exact zok_pau i3 (s_X9_writeColour_72 i3.P)
  refine zok_if (fun q5 => ?_) (fun q5 => ?_)
  · have h6 := zc_eql (0) (0) q5 (zr_andr (lo := 0) (hi := 1) (zr_c (lo := 1) (hi := 1) (by decide)) (by decide)) (zr_c (lo := 0) (hi := 0) (by decide)) (by decide)
    refine zok_ck rfl ?_
    refine zok_bs (hσ.wi 26 26 (by decide) h_x2 (by decide +kernel)) (fun σ3 e8 i7 => ?_)
    exact zok_pau i7 (s_X9_writeColour_72 i7.P)
  have h9 := zc_nel (1) (1) q5 (zr_andr (lo := 0) (hi := 1) (zr_c (lo := 1) (hi := 1) (by decide)) (by decide)) (zr_c (lo := 0) (hi := 0) (by decide)) (by decide)
  refine zok_ck rfl ?_
  refine zok_ck (zin_ok (zr_add (lo := 32) (hi := 94) (zr_c (lo := 32) (hi := 32) (by decide)) (zr_andr (lo := 0) (hi := 62) (zr_c (lo := 62) (hi := 62) (by decide)) (by decide)) (by decide)) (by decide)) ?_
  refine zok_bs (hσ.wi 32 94 (z_ix (zr_add (lo := 32) (hi := 94) (zr_c (lo := 32) (hi := 32) (by decide)) (zr_andr (lo := 0) (hi := 62) (zr_c (lo := 62) (hi := 62) (by decide)) (by decide)) (by decide)) (by decide)) (rC_43 hσ.sg _ (by decide)) (by decide +kernel)) (fun σ1 e11 i10 => ?_)
  refine zok_ck (zin_ok (zr_add (lo := 32) (hi := 95) (zr_c (lo := 32) (hi := 32) (by decide)) (zr_andr (lo := 0) (hi := 63) (zr_c (lo := 63) (hi := 63) (by decide)) (by decide)) (by decide)) (by decide)) ?_
  refine zok_bs (i10.wi 32 95 (z_ix (zr_add (lo := 32) (hi := 95) (zr_c (lo := 32) (hi := 32) (by decide)) (zr_andr (lo := 0) (hi := 63) (zr_c (lo := 63) (hi := 63) (by decide)) (by decide)) (by decide)) (by decide)) h_x2 (by decide +kernel)) (fun σ2 e13 i12 => ?_)
  exact zok_pau i12 (s_X9_writeColour_72 i12.P)
theorem s_X9_writeData_69 {σ : zSt} (hσ : zPC σ) : zok (fX9_writeData_69 σ ) (zPu σ) := by
  unfold fX9_writeData_69
  exact zok_spu
theorem s_X9_writeData {G : Nat → Int} {σ : zSt} (hσ : zIC G σ) {x1 : Int32} (h_x1 : zr (0) (255) x1) : zok (fX9_writeData σ x1) (zIC G) := by
  unfold fX9_writeData
  refine zok_ck rfl ?_
  refine zok_br (zr_andr (lo := 0) (hi := 16383) (zr_c (lo := 16383) (hi := 16383) (by decide)) (by decide)) (fun v1 e2 h1 => ?_)
  refine zok_ck rfl ?_
  refine zok_bs (hσ.wi 14 14 (by decide) (zr_c (lo := 0) (hi := 0) (by decide)) (by decide +kernel)) (fun σ2 e4 i3 => ?_)
  refine zok_ck rfl ?_
  refine zok_bs (i3.wi 13 13 (by decide) h_x1 (by decide +kernel)) (fun σ3 e6 i5 => ?_)
  refine zok_ck rfl ?_
  refine zok_bs (i5.wi 11 11 (by decide) (zr_andr (lo := 0) (hi := 16383) (zr_c (lo := 16383) (hi := 16383) (by decide)) (by decide)) (by decide +kernel)) (fun σ4 e8 i7 => ?_)
  refine zok_ck rfl ?_
  refine zok_if (fun q9 => ?_) (fun q9 => ?_)
  · have h10 := zc_eql (3) (3) q9 (rC_37 i7.sg _ (by decide)) (zr_c (lo := 3) (hi := 3) (by decide)) (by decide)
    refine zok_bu (s_X9_writeColour i7 h1 h_x1) (fun σ6 i11 => ?_)
    exact zok_pau i11 (s_X9_writeData_69 i11.P)
  have h12 := zc_nel (0) (2) q9 (rC_37 i7.sg _ (by decide)) (zr_c (lo := 3) (hi := 3) (by decide)) (by decide)
  refine zok_ck (zin_ok h1 (by decide)) ?_
  refine zok_bs (i7.wi 0 16383 (z_ix h1 (by decide)) h_x1 (by decide +kernel)) (fun σ5 e14 i13 => ?_)
  exact zok_pau i13 (s_X9_writeData_69 i13.P)
theorem s_X9_writeControl_141 {σ : zSt} (hσ : zPC σ) : zok (fX9_writeControl_141 σ ) (zPu σ) := by
  unfold fX9_writeControl_141
  exact zok_spu
theorem s_X9_writeControl {G : Nat → Int} {σ : zSt} (hσ : zIC G σ) {x1 : Int32} (h_x1 : zr (0) (255) x1) : zok (fX9_writeControl σ x1) (zIC G) := by
  unfold fX9_writeControl
  refine zok_ck rfl ?_
  refine zok_if (fun q1 => ?_) (fun q1 => ?_)
  · have h2 := zc_eql (0) (0) q1 (rC_39 hσ.sg _ (by decide)) (zr_c (lo := 0) (hi := 0) (by decide)) (by decide)
    refine zok_ck rfl ?_
    refine zok_ck rfl ?_
    refine zok_bs (hσ.wi 11 11 (by decide) (zr_or (lo := 0) (hi := 16383) 14 (zr_andr (lo := 0) (hi := 16128) (zr_c (lo := 16128) (hi := 16128) (by decide)) (by decide)) h_x1 (by decide)) (by decide +kernel)) (fun σ6 e4 i3 => ?_)
    refine zok_ck rfl ?_
    refine zok_bs (i3.wi 14 14 (by decide) (zr_c (lo := 1) (hi := 1) (by decide)) (by decide +kernel)) (fun σ7 e6 i5 => ?_)
    exact zok_some i5
  have h7 := zc_nel (1) (1) q1 (rC_39 hσ.sg _ (by decide)) (zr_c (lo := 0) (hi := 0) (by decide)) (by decide)
  refine zok_ck rfl ?_
  refine zok_bs (hσ.wi 14 14 (by decide) (zr_c (lo := 0) (hi := 0) (by decide)) (by decide +kernel)) (fun σ1 e9 i8 => ?_)
  refine zok_ck rfl ?_
  refine zok_ck rfl ?_
  refine zok_bs (i8.wi 11 11 (by decide) (zr_or (lo := 0) (hi := 16383) 14 (zr_shl (lo := 0) (hi := 16128) 8 (by decide) (zr_andr (lo := 0) (hi := 63) (zr_c (lo := 63) (hi := 63) (by decide)) (by decide)) (by decide)) (zr_andr (lo := 0) (hi := 255) (zr_c (lo := 255) (hi := 255) (by decide)) (by decide)) (by decide)) (by decide +kernel)) (fun σ2 e11 i10 => ?_)
  refine zok_ck rfl ?_
  refine zok_bs (i10.wi 12 12 (by decide) (zr_shr (lo := 0) (hi := 3) 6 (by decide) h_x1 (by decide)) (by decide +kernel)) (fun σ3 e13 i12 => ?_)
  refine zok_ck rfl ?_
  refine zok_if (fun q14 => ?_) (fun q14 => ?_)
  · have h15 := zc_eql (0) (0) q14 (rC_37 i12.sg _ (by decide)) (zr_c (lo := 0) (hi := 0) (by decide)) (by decide)
    refine zok_bu (s_X9_readAhead i12) (fun σ5 i16 => ?_)
    exact zok_pau i16 (s_X9_writeControl_141 i16.P)
  have h17 := zc_nel (1) (3) q14 (rC_37 i12.sg _ (by decide)) (zr_c (lo := 0) (hi := 0) (by decide)) (by decide)
  refine zok_ck rfl ?_
  refine zok_if (fun q18 => ?_) (fun q18 => ?_)
  · have h19 := zc_eql (2) (2) q18 h17 (zr_c (lo := 2) (hi := 2) (by decide)) (by decide)
    refine zok_if (fun q20 => ?_) (fun q20 => ?_)
    · have h21 := zc_ltr (11) q20 (zr_c (lo := 10) (hi := 10) (by decide)) (zr_andr (lo := 0) (hi := 15) (zr_c (lo := 15) (hi := 15) (by decide)) (by decide)) (by decide)
      exact zok_pau i12 (s_X9_writeControl_141 i12.P)
    have h22 := zc_lel (10) (z_nlt q20) (zr_andr (lo := 0) (hi := 15) (zr_c (lo := 15) (hi := 15) (by decide)) (by decide)) (zr_c (lo := 10) (hi := 10) (by decide)) (by decide)
    refine zok_ck rfl ?_
    refine zok_ck (zin_ok h22 (by decide)) ?_
    refine zok_bs (i12.wi 0 10 (z_ix h22 (by decide)) (zr_andr (lo := 0) (hi := 255) (zr_c (lo := 255) (hi := 255) (by decide)) (by decide)) (by decide +kernel)) (fun σ4 e24 i23 => ?_)
    exact zok_pau i23 (s_X9_writeControl_141 i23.P)
  exact zok_pau i12 (s_X9_writeControl_141 i12.P)
theorem s_X7_take_155 {σ : zSt} (hσ : zPC σ) : zok (fX7_take_155 σ ) (zPu σ) := by
  unfold fX7_take_155
  exact zok_spu
theorem s_X7_take_30 {G : Nat → Int} {σ : zSt} (hσ : zIC G σ) {x1 : Int32} (h_x1 : zr (0) (255) x1) {x2 : Int32} (h_x2 : zr (0) (1) x2) : zok (fX7_take_30 σ x1 x2) (zIC G) := by
  unfold fX7_take_30
  refine zok_ck rfl ?_
  refine zok_br (zr_shr (lo := 0) (hi := 3) 1 (by decide) (rC_59 hσ.sg _ (by decide)) (by decide)) (fun v1 e2 h1 => ?_)
  refine zok_ck rfl ?_
  refine zok_if (fun q3 => ?_) (fun q3 => ?_)
  · have h4 := zc_eql (1) (1) q3 (zr_andr (lo := 0) (hi := 1) (zr_c (lo := 1) (hi := 1) (by decide)) (by decide)) (zr_c (lo := 1) (hi := 1) (by decide)) (by decide)
    refine zok_ck (zin_ok (zr_add (lo := 9) (hi := 12) (zr_c (lo := 9) (hi := 9) (by decide)) h1 (by decide)) (by decide)) ?_
    refine zok_bs (hσ.wi 9 12 (z_ix (zr_add (lo := 9) (hi := 12) (zr_c (lo := 9) (hi := 9) (by decide)) h1 (by decide)) (by decide)) (zr_andr (lo := 0) (hi := 15) (zr_c (lo := 15) (hi := 15) (by decide)) (by decide)) (by decide +kernel)) (fun σ6 e6 i5 => ?_)
    exact zok_pau i5 (s_X7_take_155 i5.P)
  have h7 := zc_nel (0) (0) q3 (zr_andr (lo := 0) (hi := 1) (zr_c (lo := 1) (hi := 1) (by decide)) (by decide)) (zr_c (lo := 1) (hi := 1) (by decide)) (by decide)
  refine zok_if (fun q8 => ?_) (fun q8 => ?_)
  · have h9 := zc_eql (3) (3) q8 h1 (zr_c (lo := 3) (hi := 3) (by decide)) (by decide)
    refine zok_ck rfl ?_
    refine zok_bs (hσ.wi 13 13 (by decide) (zr_andr (lo := 0) (hi := 7) (zr_c (lo := 7) (hi := 7) (by decide)) (by decide)) (by decide +kernel)) (fun σ4 e11 i10 => ?_)
    refine zok_ck rfl ?_
    refine zok_bs (i10.wi 16 16 (by decide) (zr_c (lo := 32768) (hi := 32768) (by decide)) (by decide +kernel)) (fun σ5 e13 i12 => ?_)
    exact zok_pau i12 (s_X7_take_155 i12.P)
  have h14 := zc_nel (0) (2) q8 h1 (zr_c (lo := 3) (hi := 3) (by decide)) (by decide)
  refine zok_if (fun q15 => ?_) (fun q15 => ?_)
  · have h16 := zc_eql (0) (0) q15 h_x2 (zr_c (lo := 0) (hi := 0) (by decide)) (by decide)
    refine zok_ck (zin_ok (zr_add (lo := 0) (hi := 2) (zr_c (lo := 0) (hi := 0) (by decide)) h14 (by decide)) (by decide)) ?_
    refine zok_ck (zin_ok (zr_add (lo := 0) (hi := 2) (zr_c (lo := 0) (hi := 0) (by decide)) h14 (by decide)) (by decide)) ?_
    refine zok_bs (hσ.wi 0 2 (z_ix (zr_add (lo := 0) (hi := 2) (zr_c (lo := 0) (hi := 0) (by decide)) h14 (by decide)) (by decide)) (zr_or (lo := 0) (hi := 1023) 10 (zr_andr (lo := 0) (hi := 15) (zr_c (lo := 15) (hi := 15) (by decide)) (by decide)) (zr_shl (lo := 0) (hi := 1008) 4 (by decide) (zr_andr (lo := 0) (hi := 63) (zr_c (lo := 63) (hi := 63) (by decide)) (by decide)) (by decide)) (by decide)) (by decide +kernel)) (fun σ2 e18 i17 => ?_)
    exact zok_pau i17 (s_X7_take_155 i17.P)
  have h19 := zc_nel (1) (1) q15 h_x2 (zr_c (lo := 0) (hi := 0) (by decide)) (by decide)
  refine zok_ck (zin_ok (zr_add (lo := 0) (hi := 2) (zr_c (lo := 0) (hi := 0) (by decide)) h14 (by decide)) (by decide)) ?_
  refine zok_ck (zin_ok (zr_add (lo := 0) (hi := 2) (zr_c (lo := 0) (hi := 0) (by decide)) h14 (by decide)) (by decide)) ?_
  refine zok_bs (hσ.wi 0 2 (z_ix (zr_add (lo := 0) (hi := 2) (zr_c (lo := 0) (hi := 0) (by decide)) h14 (by decide)) (by decide)) (zr_or (lo := 0) (hi := 1023) 10 (zr_andr (lo := 0) (hi := 1008) (zr_c (lo := 1008) (hi := 1008) (by decide)) (by decide)) (zr_andr (lo := 0) (hi := 15) (zr_c (lo := 15) (hi := 15) (by decide)) (by decide)) (by decide)) (by decide +kernel)) (fun σ3 e21 i20 => ?_)
  exact zok_pau i20 (s_X7_take_155 i20.P)
theorem s_X7_take_12 {G : Nat → Int} {σ : zSt} (hσ : zIC G σ) {x1 : Int32} (h_x1 : zr (0) (255) x1) {s0 : Int32} (h_s0 : zr (0) (1) s0) : zok (fX7_take_12 σ x1 s0) (zIC G) := by
  unfold fX7_take_12
  refine zok_if (fun q1 => ?_) (fun q1 => ?_)
  · have h2 := zc_eql (0) (0) q1 h_s0 (zr_c (lo := 0) (hi := 0) (by decide)) (by decide)
    exact (s_X7_take_30 hσ h_x1 (zr_w h2 (by decide)))
  have h3 := zc_nel (1) (1) q1 h_s0 (zr_c (lo := 0) (hi := 0) (by decide)) (by decide)
  refine zok_ck rfl ?_
  refine zok_bs (hσ.wi 17 17 (by decide) (zr_andr (lo := 0) (hi := 7) (zr_c (lo := 7) (hi := 7) (by decide)) (by decide)) (by decide +kernel)) (fun σ7 e5 i4 => ?_)
  exact (s_X7_take_30 i4 h_x1 (zr_w h3 (by decide)))
theorem s_X7_take {G : Nat → Int} {σ : zSt} (hσ : zIC G σ) {x1 : Int32} (h_x1 : zr (0) (255) x1) : zok (fX7_take σ x1) (zIC G) := by
  unfold fX7_take
  refine zok_if (fun q1 => ?_) (fun q1 => ?_)
  · have h2 := zc_ltl (127) q1 h_x1 (zr_c (lo := 128) (hi := 128) (by decide)) (by decide)
    exact (s_X7_take_12 hσ (zr_w h2 (by decide)) (zr_w (zr_c (lo := 0) (hi := 0) (by decide)) (by decide)))
  have h3 := zc_ler (128) (z_nlt q1) (zr_c (lo := 128) (hi := 128) (by decide)) h_x1 (by decide)
  exact (s_X7_take_12 hσ (zr_w h3 (by decide)) (zr_w (zr_c (lo := 1) (hi := 1) (by decide)) (by decide)))
theorem s_X7_takeStereo {G : Nat → Int} {σ : zSt} (hσ : zIC G σ) {x1 : Int32} (h_x1 : zr (0) (255) x1) : zok (fX7_takeStereo σ x1) (zIC G) := by
  unfold fX7_takeStereo
  refine zok_ck rfl ?_
  refine zok_bs (hσ.wi 18 18 (by decide) h_x1 (by decide +kernel)) (fun σ1 e2 i1 => ?_)
  exact zok_some i1
theorem s_X4_writeHandy_34 {σ : zSt} (hσ : zPC σ) : zok (fX4_writeHandy_34 σ ) (zPu σ) := by
  unfold fX4_writeHandy_34
  exact zok_spu
theorem s_X4_writeHandy {G : Nat → Int} {σ : zSt} (hσ : zIC G σ) {x1 : Int32} (h_x1 : zr (1) (6) x1) {x2 : Int32} (h_x2 : zr (0) (255) x2) : zok (fX4_writeHandy σ x1 x2) (zIC G) := by
  unfold fX4_writeHandy
  refine zok_if (fun q1 => ?_) (fun q1 => ?_)
  · have h2 := zc_eql (6) (6) q1 h_x1 (zr_c (lo := 6) (hi := 6) (by decide)) (by decide)
    refine zok_bu (s_X7_takeStereo hσ h_x2) (fun σ2 i3 => ?_)
    exact zok_pau i3 (s_X4_writeHandy_34 i3.P)
  have h4 := zc_nel (1) (5) q1 h_x1 (zr_c (lo := 6) (hi := 6) (by decide)) (by decide)
  refine zok_if (fun q5 => ?_) (fun q5 => ?_)
  · exact zr_no (zc_ltl (0) q5 h4 (zr_c (lo := 1) (hi := 1) (by decide)) (by decide)) (by decide)
  refine zok_if (fun q6 => ?_) (fun q6 => ?_)
  · exact zr_no (zc_ltl (4) q6 (zr_c (lo := 5) (hi := 5) (by decide)) h4 (by decide)) (by decide)
  refine zok_ck (zin_ok h4 (by decide)) ?_
  refine zok_bs (hσ.wi 1 5 (z_ix h4 (by decide)) h_x2 (by decide +kernel)) (fun σ1 e8 i7 => ?_)
  exact zok_pau i7 (s_X4_writeHandy_34 i7.P)
theorem s_X4_write_151 {σ : zSt} (hσ : zPC σ) : zok (fX4_write_151 σ ) (zPu σ) := by
  unfold fX4_write_151
  exact zok_spu
theorem s_X4_write_71 {G : Nat → Int} {σ : zSt} (hσ : zIC G σ) {x2 : Int32} (h_x2 : zr (0) (255) x2) {x3 : Int32} (h_x3 : zr (0) (1) x3) : zok (fX4_write_71 σ x2 x3) (zIC G) := by
  unfold fX4_write_71
  refine zok_if (fun q1 => ?_) (fun q1 => ?_)
  · have h2 := zc_eql (0) (0) q1 h_x3 (zr_c (lo := 0) (hi := 0) (by decide)) (by decide)
    refine zok_bu (s_X4_changeLines__0 hσ (zr_c (lo := 0) (hi := 0) (by decide)) h_x2) (fun σ1 i3 => ?_)
    exact zok_pau i3 (s_X4_write_151 i3.P)
  have h4 := zc_nel (1) (1) q1 h_x3 (zr_c (lo := 0) (hi := 0) (by decide)) (by decide)
  exact zok_pau hσ (s_X4_write_151 hσ.P)
theorem s_X4_write_11 {G : Nat → Int} {σ : zSt} (hσ : zIC G σ) {x1 : Int32} (h_x1 : zr (0) (255) x1) {x2 : Int32} (h_x2 : zr (0) (255) x2) {s0 : Int32} (h_s0 : zr (0) (1) s0) : zok (fX4_write_11 σ x1 x2 s0) (zIC G) := by
  unfold fX4_write_11
  refine zok_if (fun q1 => ?_) (fun q1 => ?_)
  · have h2 := zc_eql (0) (0) q1 (zr_shr (lo := 0) (hi := 3) 6 (by decide) h_x1 (by decide)) (zr_c (lo := 0) (hi := 0) (by decide)) (by decide)
    refine zok_if (fun q3 => ?_) (fun q3 => ?_)
    · have h4 := zc_eql (0) (0) q3 zr_any (zr_c (lo := 0) (hi := 0) (by decide)) (by decide)
      exact (s_X4_write_71 hσ h_x2 h_s0)
    refine zok_if (fun q5 => ?_) (fun q5 => ?_)
    · have h6 := zc_ltl (0) q5 h_x1 (zr_c (lo := 1) (hi := 1) (by decide)) (by decide)
      exact (s_X4_write_71 hσ h_x2 h_s0)
    have h7 := zc_ler (1) (z_nlt q5) (zr_c (lo := 1) (hi := 1) (by decide)) h_x1 (by decide)
    refine zok_if (fun q8 => ?_) (fun q8 => ?_)
    · have h9 := zc_ltr (7) q8 (zr_c (lo := 6) (hi := 6) (by decide)) h7 (by decide)
      exact (s_X4_write_71 hσ h_x2 h_s0)
    have h10 := zc_lel (6) (z_nlt q8) h7 (zr_c (lo := 6) (hi := 6) (by decide)) (by decide)
    refine zok_bu (s_X4_writeHandy hσ h10 h_x2) (fun σ2 i11 => ?_)
    exact zok_pau i11 (s_X4_write_151 i11.P)
  have h12 := zc_nel (1) (3) q1 (zr_shr (lo := 0) (hi := 3) 6 (by decide) h_x1 (by decide)) (zr_c (lo := 0) (hi := 0) (by decide)) (by decide)
  refine zok_if (fun q13 => ?_) (fun q13 => ?_)
  · have h14 := zc_eql (1) (1) q13 h12 (zr_c (lo := 1) (hi := 1) (by decide)) (by decide)
    refine zok_bu (s_X7_take hσ h_x2) (fun σ3 i15 => ?_)
    exact zok_pau i15 (s_X4_write_151 i15.P)
  have h16 := zc_nel (2) (3) q13 h12 (zr_c (lo := 1) (hi := 1) (by decide)) (by decide)
  refine zok_if (fun q17 => ?_) (fun q17 => ?_)
  · have h18 := zc_eql (2) (2) q17 h16 (zr_c (lo := 2) (hi := 2) (by decide)) (by decide)
    refine zok_if (fun q19 => ?_) (fun q19 => ?_)
    · have h20 := zc_eql (0) (0) q19 h_s0 (zr_c (lo := 0) (hi := 0) (by decide)) (by decide)
      refine zok_bu (s_X9_writeControl hσ h_x2) (fun σ4 i21 => ?_)
      exact zok_pau i21 (s_X4_write_151 i21.P)
    have h22 := zc_nel (1) (1) q19 h_s0 (zr_c (lo := 0) (hi := 0) (by decide)) (by decide)
    refine zok_bu (s_X9_writeData hσ h_x2) (fun σ5 i23 => ?_)
    exact zok_pau i23 (s_X4_write_151 i23.P)
  have h24 := zc_nel (3) (3) q17 h16 (zr_c (lo := 2) (hi := 2) (by decide)) (by decide)
  refine zok_if (fun q25 => ?_) (fun q25 => ?_)
  · have h26 := zc_eql (0) (0) q25 zr_any (zr_c (lo := 0) (hi := 0) (by decide)) (by decide)
    refine zok_if (fun q27 => ?_) (fun q27 => ?_)
    · have h28 := zc_ltl (239) q27 h_x1 (zr_c (lo := 240) (hi := 240) (by decide)) (by decide)
      exact zok_pau hσ (s_X4_write_151 hσ.P)
    have h29 := zc_ler (240) (z_nlt q27) (zr_c (lo := 240) (hi := 240) (by decide)) h_x1 (by decide)
    refine zok_if (fun q30 => ?_) (fun q30 => ?_)
    · have h31 := zc_ltr (243) q30 (zr_c (lo := 242) (hi := 242) (by decide)) h29 (by decide)
      exact zok_pau hσ (s_X4_write_151 hσ.P)
    have h32 := zc_lel (242) (z_nlt q30) h29 (zr_c (lo := 242) (hi := 242) (by decide)) (by decide)
    refine zok_bu (s_X10_take hσ h32 h_x2) (fun σ6 i33 => ?_)
    exact zok_pau i33 (s_X4_write_151 i33.P)
  exact zok_pau hσ (s_X4_write_151 hσ.P)
theorem s_X4_write {G : Nat → Int} {σ : zSt} (hσ : zIC G σ) {x1 : Int32} (h_x1 : zr (0) (255) x1) {x2 : Int32} (h_x2 : zr (0) (255) x2) : zok (fX4_write σ x1 x2) (zIC G) := by
  unfold fX4_write
  refine zok_if (fun q1 => ?_) (fun q1 => ?_)
  · have h2 := zc_eql (0) (0) q1 (zr_andr (lo := 0) (hi := 1) (zr_c (lo := 1) (hi := 1) (by decide)) (by decide)) (zr_c (lo := 0) (hi := 0) (by decide)) (by decide)
    exact (s_X4_write_11 hσ h_x1 h_x2 (zr_w (zr_c (lo := 1) (hi := 1) (by decide)) (by decide)))
  have h3 := zc_nel (1) (1) q1 (zr_andr (lo := 0) (hi := 1) (zr_c (lo := 1) (hi := 1) (by decide)) (by decide)) (zr_c (lo := 0) (hi := 0) (by decide)) (by decide)
  exact (s_X4_write_11 hσ h_x1 h_x2 (zr_w (zr_c (lo := 0) (hi := 0) (by decide)) (by decide)))
theorem s_J7_fill_53178_k36_5_body {G : Nat → Int} {σ : zSt} {k5 : zSt → Int32 → Int32 → Int32 → Option (zSt)} {Mk5 : Int} (hk5 : ∀ (σ : zSt) (x1 : Int32) (x2 : Int32) (x3 : Int32), zIC G σ → zr (0) (0) x1 → zr (0) (29) x2 → zr (29) (29) x3 → (29) - x2.toInt < Mk5 → zok (k5 σ x1 x2 x3) (zIC G)) (hσ : zIC G σ) {x1 : Int32} (h_x1 : zr (0) (0) x1) {x2 : Int32} (h_x2 : zr (0) (29) x2) {x3 : Int32} (h_x3 : zr (29) (29) x3) (hMk5 : (29) - x2.toInt ≤ Mk5) : zok (fJ7_fill_53178_k36_5_body k5 σ x1 x2 x3) (zIC G) := by
  unfold fJ7_fill_53178_k36_5_body
  refine zok_if (fun q1 => ?_) (fun q1 => ?_)
  · have h2 := zc_ler (29) q1 h_x3 h_x2 (by decide)
    exact zok_some hσ
  have h3 := zc_ltl (28) (z_nle q1) h_x2 h_x3 (by decide)
  refine zok_ck (zin_ok h3 (by decide)) ?_
  refine zok_bs (hσ.wi 0 28 (z_ix h3 (by decide)) h_x1 (by decide +kernel)) (fun σ1 e5 i4 => ?_)
  refine zok_br (zr_add (lo := 1) (hi := 29) h3 (zr_c (lo := 1) (hi := 1) (by decide)) (by decide)) (fun v2 e7 h6 => ?_)
  exact hk5 _ _ _ _ i4 h_x1 (zr_w h6 (by decide)) h_x3 (by rw [e7]; have := z_tadd (y := (1 : Int32)) h3 (zr_c (lo := 1) (hi := 1) (by decide)) (by decide); have e9 : (1 : Int32).toInt = 1 := rfl; omega) 
theorem s_J7_fill_53178_k36_5 {G : Nat → Int} : ∀ (n : Nat) {σ : zSt} (hσ : zIC G σ) {x1 : Int32} (h_x1 : zr (0) (0) x1) {x2 : Int32} (h_x2 : zr (0) (29) x2) {x3 : Int32} (h_x3 : zr (29) (29) x3) (hm : (29) - x2.toInt < n), zok (fJ7_fill_53178_k36_5 n σ x1 x2 x3) (zIC G) := by
  intro n
  induction n with
  | zero => intro σ hσ x1 h_x1 x2 h_x2 x3 h_x3 hm ; have h9 := h_x2.1; have h8 := h_x2.2; exfalso; omega
  | succ n ih => intro σ hσ x1 h_x1 x2 h_x2 x3 h_x3 hm ; exact s_J7_fill_53178_k36_5_body (fun σ x1 x2 x3 hσ h_x1 h_x2 h_x3 hm1 => ih hσ h_x1 h_x2 h_x3 (by omega)) hσ h_x1 h_x2 h_x3 (Int.le_refl _)
theorem s_J7_fill_53178_k36 {G : Nat → Int} {σ : zSt} (hσ : zIC G σ) {x1 : Int32} (h_x1 : zr (0) (0) x1) : zok (fJ7_fill_53178_k36 σ x1) (zIC G) := by
  unfold fJ7_fill_53178_k36
  exact (s_J7_fill_53178_k36_5 zfuel hσ h_x1 (zr_w (zr_c (lo := 0) (hi := 0) (by decide)) (by decide)) (zr_c (lo := 29) (hi := 29) (by decide)) (by decide))
theorem s_X5_clear {G : Nat → Int} {σ : zSt} (hσ : zIC G σ) : zok (fX5_clear σ ) (zIC G) := by
  unfold fX5_clear
  refine zok_bu (s_J7_fill_53178_k36 hσ (zr_c (lo := 0) (hi := 0) (by decide))) (fun σ1 i1 => ?_)
  refine zok_ck rfl ?_
  refine zok_bs (i1.wi 18 18 (by decide) (zr_c (lo := 57328) (hi := 57328) (by decide)) (by decide +kernel)) (fun σ2 e3 i2 => ?_)
  exact zok_some i2
theorem s_X5_keep {G : Nat → Int} {σ : zSt} (hσ : zIC G σ) : zok (fX5_keep σ ) (zIC G) := by
  unfold fX5_keep
  refine zok_ck (by decide) ?_
  refine zok_bs (hσ.wc (by decide +kernel) rfl rfl) (fun σ1 e2 i1 => ?_)
  exact zok_some i1
theorem s_X5_bringBack {G : Nat → Int} {σ : zSt} (hσ : zIC G σ) : zok (fX5_bringBack σ ) (zIC G) := by
  unfold fX5_bringBack
  refine zok_ck (by decide) ?_
  refine zok_bs (hσ.wc (by decide +kernel) rfl rfl) (fun σ1 e2 i1 => ?_)
  exact zok_some i1
theorem s_X5_value_20 {σ : zSt} (hσ : zPC σ) {s0 : Int32} : zok (fX5_value_20 σ s0) (zPi σ (fun v : Int32 => True)) := by
  unfold fX5_value_20
  exact zok_spi trivial
theorem s_X5_value {σ : zSt} (hσ : zPC σ) {x1 : Int32} (h_x1 : zr (0) (27) x1) : zok (fX5_value σ x1) (zPi σ (fun v : Int32 => True)) := by
  unfold fX5_value
  refine zok_if (fun q1 => ?_) (fun q1 => ?_)
  · exact zr_no (zc_ltl (-1) q1 h_x1 (zr_c (lo := 0) (hi := 0) (by decide)) (by decide)) (by decide)
  refine zok_if (fun q2 => ?_) (fun q2 => ?_)
  · exact zr_no (zc_lel (27) q2 (zr_c (lo := 29) (hi := 29) (by decide)) h_x1 (by decide)) (by decide)
  refine zok_ck (zin_ok h_x1 (by decide)) ?_
  exact (s_X5_value_20 hσ)
theorem s_X5_change_81 {σ : zSt} (hσ : zPC σ) : zok (fX5_change_81 σ ) (zPu σ) := by
  unfold fX5_change_81
  exact zok_spu
theorem s_X5_change_75 {G : Nat → Int} {σ : zSt} (hσ : zIC G σ) {x2 : Int32} {s0 : Int32} (h_s0 : zr (0) (22) s0) : zok (fX5_change_75 σ x2 s0) (zIC G) := by
  unfold fX5_change_75
  unfold fX5_change_80
  refine zok_ck (zin_ok h_s0 (by decide)) ?_
  refine zok_bs (hσ.wi 0 22 (z_ix h_s0 (by decide)) (zr_andr (lo := 0) (hi := 255) (zr_c (lo := 255) (hi := 255) (by decide)) (by decide)) (by decide +kernel)) (fun σ1 e2 i1 => ?_)
  exact zok_pau i1 (s_X5_change_81 i1.P)
theorem s_X5_change {G : Nat → Int} {σ : zSt} (hσ : zIC G σ) {x1 : Int32} (h_x1 : zr (0) (25) x1) {x2 : Int32} : zok (fX5_change σ x1 x2) (zIC G) := by
  unfold fX5_change
  refine zok_if (fun q1 => ?_) (fun q1 => ?_)
  · exact zr_no (zc_ltl (-1) q1 h_x1 (zr_c (lo := 0) (hi := 0) (by decide)) (by decide)) (by decide)
  refine zok_if (fun q2 => ?_) (fun q2 => ?_)
  · refine zok_if (fun q3 => ?_) (fun q3 => ?_)
    · have h4 := zc_eql (25) (25) q3 h_x1 (zr_c (lo := 25) (hi := 25) (by decide)) (by decide)
      refine zok_ck (zin_ok h4 (by decide)) ?_
      refine zok_bs (hσ.wi 25 25 (z_ix h4 (by decide)) (zr_min (lo := 0) (hi := 2) (zr_c (lo := 2) (hi := 2) (by decide)) (zr_andr (lo := 0) (hi := 3) (zr_c (lo := 3) (hi := 3) (by decide)) (by decide)) (by decide)) (by decide +kernel)) (fun σ3 e6 i5 => ?_)
      exact zok_pau i5 (s_X5_change_81 i5.P)
    have h7 := zc_nel (0) (24) q3 h_x1 (zr_c (lo := 25) (hi := 25) (by decide)) (by decide)
    refine zok_if (fun q8 => ?_) (fun q8 => ?_)
    · have h9 := zc_ltl (22) q8 h7 (zr_c (lo := 23) (hi := 23) (by decide)) (by decide)
      refine zok_if (fun q10 => ?_) (fun q10 => ?_)
      · have h11 := zc_ltl (15) q10 h9 (zr_c (lo := 16) (hi := 16) (by decide)) (by decide)
        exact (s_X5_change_75 hσ (zr_w h11 (by decide)))
      have h12 := zc_ler (16) (z_nlt q10) (zr_c (lo := 16) (hi := 16) (by decide)) h9 (by decide)
      refine zok_if (fun q13 => ?_) (fun q13 => ?_)
      · have h14 := zc_ltr (21) q13 (zr_c (lo := 20) (hi := 20) (by decide)) h12 (by decide)
        exact (s_X5_change_75 hσ (zr_w h14 (by decide)))
      have h15 := zc_lel (20) (z_nlt q13) h12 (zr_c (lo := 20) (hi := 20) (by decide)) (by decide)
      unfold fX5_change_80
      refine zok_ck (zin_ok h15 (by decide)) ?_
      refine zok_bs (hσ.wi 16 20 (z_ix h15 (by decide)) (zr_andr (lo := 0) (hi := 65535) (zr_c (lo := 65535) (hi := 65535) (by decide)) (by decide)) (by decide +kernel)) (fun σ1 e17 i16 => ?_)
      exact zok_pau i16 (s_X5_change_81 i16.P)
    have h18 := zc_ler (23) (z_nlt q8) (zr_c (lo := 23) (hi := 23) (by decide)) h7 (by decide)
    refine zok_ck (zin_ok h18 (by decide)) ?_
    refine zok_bs (hσ.wi 23 24 (z_ix h18 (by decide)) (zr_andr (lo := 0) (hi := 1) (zr_c (lo := 1) (hi := 1) (by decide)) (by decide)) (by decide +kernel)) (fun σ2 e20 i19 => ?_)
    exact zok_pau i19 (s_X5_change_81 i19.P)
  exact zr_no (zc_ltl (24) (z_nle q2) (zr_c (lo := 25) (hi := 25) (by decide)) h_x1 (by decide)) (by decide)
theorem s_X5_askForPause {G : Nat → Int} {σ : zSt} (hσ : zIC G σ) : zok (fX5_askForPause σ ) (zIC G) := by
  unfold fX5_askForPause
  refine zok_ck rfl ?_
  refine zok_bs (hσ.wi 27 27 (by decide) (zr_c (lo := 1) (hi := 1) (by decide)) (by decide +kernel)) (fun σ1 e2 i1 => ?_)
  exact zok_some i1
theorem s_X5_growR {G : Nat → Int} {σ : zSt} (hσ : zIC G σ) : zok (fX5_growR σ ) (zIC G) := by
  unfold fX5_growR
  refine zok_ck rfl ?_
  refine zok_ck rfl ?_
  refine zok_ck rfl ?_
  refine zok_bs (hσ.wi 22 22 (by decide) (zr_or (lo := 0) (hi := 255) 8 (zr_andr (lo := 0) (hi := 128) (zr_c (lo := 128) (hi := 128) (by decide)) (by decide)) (zr_andr (lo := 0) (hi := 127) (zr_c (lo := 127) (hi := 127) (by decide)) (by decide)) (by decide)) (by decide +kernel)) (fun σ1 e2 i1 => ?_)
  exact zok_some i1
theorem s_X5_push {G : Nat → Int} {σ : zSt} (hσ : zIC G σ) {x1 : Int32} (h_x1 : zr (0) (65535) x1) : zok (fX5_push σ x1) (zIC G) := by
  unfold fX5_push
  refine zok_ck rfl ?_
  refine zok_bu (s_X2_write hσ (zr_w (zr_sub (lo := -1) (hi := 65534) (rC_22 hσ.sg _ (by decide)) (zr_c (lo := 1) (hi := 1) (by decide)) (by decide)) (by decide)) (zr_shr (lo := 0) (hi := 255) 8 (by decide) h_x1 (by decide))) (fun σ1 i1 => ?_)
  refine zok_ck rfl ?_
  refine zok_bu (s_X2_write i1 (zr_w (zr_sub (lo := -2) (hi := 65533) (rC_22 i1.sg _ (by decide)) (zr_c (lo := 2) (hi := 2) (by decide)) (by decide)) (by decide)) (zr_andr (lo := 0) (hi := 255) (zr_c (lo := 255) (hi := 255) (by decide)) (by decide))) (fun σ2 i2 => ?_)
  refine zok_ck rfl ?_
  refine zok_ck rfl ?_
  refine zok_bs (i2.wi 18 18 (by decide) (zr_andr (lo := 0) (hi := 65535) (zr_c (lo := 65535) (hi := 65535) (by decide)) (by decide)) (by decide +kernel)) (fun σ3 e4 i3 => ?_)
  exact zok_some i3
theorem s_X5_goTo {G : Nat → Int} {σ : zSt} (hσ : zIC G σ) {x1 : Int32} (h_x1 : zr (0) (65535) x1) : zok (fX5_goTo σ x1) (zIC G) := by
  unfold fX5_goTo
  refine zok_ck rfl ?_
  refine zok_bs (hσ.wi 19 19 (by decide) h_x1 (by decide +kernel)) (fun σ1 e2 i1 => ?_)
  refine zok_ck rfl ?_
  refine zok_bs (i1.wi 20 20 (by decide) h_x1 (by decide +kernel)) (fun σ2 e4 i3 => ?_)
  exact zok_some i3
theorem s_X5_breakOff {G : Nat → Int} {σ : zSt} (hσ : zIC G σ) {x1 : Int32} (h_x1 : zr (0) (65535) x1) : zok (fX5_breakOff σ x1) (zIC G) := by
  unfold fX5_breakOff
  refine zok_bu (s_X5_growR hσ) (fun σ1 i1 => ?_)
  refine zok_ck rfl ?_
  refine zok_bs (i1.wi 26 26 (by decide) (zr_c (lo := 0) (hi := 0) (by decide)) (by decide +kernel)) (fun σ2 e3 i2 => ?_)
  refine zok_ck rfl ?_
  refine zok_bu (s_X5_push i2 (rC_22 i2.sg _ (by decide))) (fun σ3 i4 => ?_)
  refine zok_bu (s_X5_goTo i4 h_x1) (fun σ4 i5 => ?_)
  exact zok_some i5
theorem s_X5_readWord {σ : zSt} (hσ : zPC σ) {x1 : Int32} (h_x1 : zr (0) (65535) x1) : zok (fX5_readWord σ x1) (zPi σ (fun v : Int32 => zr (0) (65535) v)) := by
  unfold fX5_readWord
  refine zok_pi (s_X2_read hσ) (fun v2 h1 => ?_)
  refine zok_pi (s_X2_read hσ) (fun v4 h2 => ?_)
  exact zok_spi (zr_or (lo := 0) (hi := 65535) 16 h1 (zr_shl (lo := 0) (hi := 65280) 8 (by decide) h2 (by decide)) (by decide))
theorem s_X5_answerCalls_82 {σ : zSt} (hσ : zPC σ) : zok (fX5_answerCalls_82 σ ) (zPi σ (fun v : Int32 => zr (0) (19) v)) := by
  unfold fX5_answerCalls_82
  exact zok_spi (zr_w (zr_c (lo := 0) (hi := 0) (by decide)) (by decide))
theorem s_X5_answerCalls_64 {G : Nat → Int} {σ : zSt} (hσ : zIC G σ) {x1 : Int32} (h_x1 : zr (0) (1) x1) {x2 : Int32} (h_x2 : zr (0) (1) x2) : zok (fX5_answerCalls_64 σ x1 x2) (zAi (zIC G) (fun v : Int32 => zr (0) (19) v)) := by
  unfold fX5_answerCalls_64
  refine zok_if (fun q1 => ?_) (fun q1 => ?_)
  · have h2 := zc_eql (0) (0) q1 h_x2 (zr_c (lo := 0) (hi := 0) (by decide)) (by decide)
    exact zok_pai hσ (s_X5_answerCalls_82 hσ.P)
  have h3 := zc_nel (1) (1) q1 h_x2 (zr_c (lo := 0) (hi := 0) (by decide)) (by decide)
  refine zok_if (fun q4 => ?_) (fun q4 => ?_)
  · have h5 := zc_eql (0) (0) q4 h_x1 (zr_c (lo := 0) (hi := 0) (by decide)) (by decide)
    exact zok_pai hσ (s_X5_answerCalls_82 hσ.P)
  have h6 := zc_nel (1) (1) q4 h_x1 (zr_c (lo := 0) (hi := 0) (by decide)) (by decide)
  refine zok_ck rfl ?_
  refine zok_if (fun q7 => ?_) (fun q7 => ?_)
  · have h8 := zc_eql (0) (0) q7 (rC_24 hσ.sg _ (by decide)) (zr_c (lo := 0) (hi := 0) (by decide)) (by decide)
    exact zok_pai hσ (s_X5_answerCalls_82 hσ.P)
  have h9 := zc_nel (1) (1) q7 (rC_24 hσ.sg _ (by decide)) (zr_c (lo := 0) (hi := 0) (by decide)) (by decide)
  refine zok_ck rfl ?_
  refine zok_bs (hσ.wi 23 23 (by decide) (zr_c (lo := 0) (hi := 0) (by decide)) (by decide +kernel)) (fun σ1 e11 i10 => ?_)
  refine zok_ck rfl ?_
  refine zok_bs (i10.wi 24 24 (by decide) (zr_c (lo := 0) (hi := 0) (by decide)) (by decide +kernel)) (fun σ2 e13 i12 => ?_)
  refine zok_ck rfl ?_
  refine zok_if (fun q14 => ?_) (fun q14 => ?_)
  · have h15 := zc_eql (2) (2) q14 (rC_25 i12.sg _ (by decide)) (zr_c (lo := 2) (hi := 2) (by decide)) (by decide)
    refine zok_ck rfl ?_
    refine zok_pi (s_X5_readWord i12.P (zr_or (lo := 0) (hi := 65535) 16 (zr_shl (lo := 0) (hi := 65280) 8 (by decide) (rC_23 i12.sg _ (by decide)) (by decide)) (zr_c (lo := 255) (hi := 255) (by decide)) (by decide))) (fun v5 h16 => ?_)
    refine zok_bu (s_X5_breakOff i12 h16) (fun σ6 i17 => ?_)
    exact zok_sai i17 (zr_w (zr_c (lo := 19) (hi := 19) (by decide)) (by decide))
  have h18 := zc_nel (0) (1) q14 (rC_25 i12.sg _ (by decide)) (zr_c (lo := 2) (hi := 2) (by decide)) (by decide)
  refine zok_bu (s_X5_breakOff i12 (zr_w (zr_c (lo := 56) (hi := 56) (by decide)) (by decide))) (fun σ3 i19 => ?_)
  exact zok_sai i19 (zr_w (zr_c (lo := 13) (hi := 13) (by decide)) (by decide))
theorem s_X5_answerCalls_15 {G : Nat → Int} {σ : zSt} (hσ : zIC G σ) {x1 : Int32} (h_x1 : zr (0) (1) x1) {s0 : Int32} (h_s0 : zr (0) (1) s0) : zok (fX5_answerCalls_15 σ x1 s0) (zAi (zIC G) (fun v : Int32 => zr (0) (19) v)) := by
  unfold fX5_answerCalls_15
  refine zok_ck rfl ?_
  refine zok_bs (hσ.wi 28 28 (by decide) (zr_c (lo := 0) (hi := 0) (by decide)) (by decide +kernel)) (fun σ7 e2 i1 => ?_)
  refine zok_if (fun q3 => ?_) (fun q3 => ?_)
  · have h4 := zc_eql (0) (0) q3 h_s0 (zr_c (lo := 0) (hi := 0) (by decide)) (by decide)
    exact (s_X5_answerCalls_64 i1 h_x1 (zr_w h4 (by decide)))
  have h5 := zc_nel (1) (1) q3 h_s0 (zr_c (lo := 0) (hi := 0) (by decide)) (by decide)
  refine zok_ck rfl ?_
  refine zok_if (fun q6 => ?_) (fun q6 => ?_)
  · have h7 := zc_eql (1) (1) q6 (rC_26 i1.sg _ (by decide)) (zr_c (lo := 1) (hi := 1) (by decide)) (by decide)
    refine zok_ck rfl ?_
    refine zok_bs (i1.wi 27 27 (by decide) (zr_c (lo := 0) (hi := 0) (by decide)) (by decide +kernel)) (fun σ8 e9 i8 => ?_)
    refine zok_ck rfl ?_
    refine zok_bs (i8.wi 23 23 (by decide) (zr_c (lo := 0) (hi := 0) (by decide)) (by decide +kernel)) (fun σ9 e11 i10 => ?_)
    refine zok_bu (s_X5_breakOff i10 (zr_w (zr_c (lo := 102) (hi := 102) (by decide)) (by decide))) (fun σ10 i12 => ?_)
    exact zok_sai i12 (zr_w (zr_c (lo := 11) (hi := 11) (by decide)) (by decide))
  have h13 := zc_nel (0) (0) q6 (rC_26 i1.sg _ (by decide)) (zr_c (lo := 1) (hi := 1) (by decide)) (by decide)
  exact (s_X5_answerCalls_64 i1 h_x1 (zr_w h5 (by decide)))
theorem s_X5_answerCalls {G : Nat → Int} {σ : zSt} (hσ : zIC G σ) {x1 : Int32} (h_x1 : zr (0) (1) x1) : zok (fX5_answerCalls σ x1) (zAi (zIC G) (fun v : Int32 => zr (0) (19) v)) := by
  unfold fX5_answerCalls
  refine zok_ck rfl ?_
  refine zok_if (fun q1 => ?_) (fun q1 => ?_)
  · have h2 := zc_eql (0) (0) q1 (rC_26 hσ.sg _ (by decide)) (zr_c (lo := 0) (hi := 0) (by decide)) (by decide)
    exact (s_X5_answerCalls_15 hσ h_x1 (zr_w (zr_c (lo := 1) (hi := 1) (by decide)) (by decide)))
  have h3 := zc_nel (1) (1) q1 (rC_26 hσ.sg _ (by decide)) (zr_c (lo := 0) (hi := 0) (by decide)) (by decide)
  exact (s_X5_answerCalls_15 hσ h_x1 (zr_w (zr_c (lo := 0) (hi := 0) (by decide)) (by decide)))
theorem s_X5_pairAt {σ : zSt} (hσ : zPC σ) {x1 : Int32} (h_x1 : zr (0) (6) x1) : zok (fX5_pairAt σ x1) (zPi σ (fun v : Int32 => zr (0) (65535) v)) := by
  unfold fX5_pairAt
  refine zok_ck (zin_ok h_x1 (by decide)) ?_
  refine zok_ck (zin_ok (zr_add (lo := 1) (hi := 7) h_x1 (zr_c (lo := 1) (hi := 1) (by decide)) (by decide)) (by decide)) ?_
  exact zok_spi (zr_or (lo := 0) (hi := 65535) 16 (zr_shl (lo := 0) (hi := 65280) 8 (by decide) (rC_21 hσ.sg _ (z_ix h_x1 (by decide))) (by decide)) (rC_21 hσ.sg _ (z_ix (zr_add (lo := 1) (hi := 7) h_x1 (zr_c (lo := 1) (hi := 1) (by decide)) (by decide)) (by decide))) (by decide))
theorem s_X5_fetch {G : Nat → Int} {σ : zSt} (hσ : zIC G σ) : zok (fX5_fetch σ ) (zAi (zIC G) (fun v : Int32 => zr (0) (255) v)) := by
  unfold fX5_fetch
  refine zok_ck rfl ?_
  refine zok_pi (s_X2_read hσ.P) (fun v2 h1 => ?_)
  refine zok_ck rfl ?_
  refine zok_ck rfl ?_
  refine zok_bs (hσ.wi 19 19 (by decide) (zr_andr (lo := 0) (hi := 65535) (zr_c (lo := 65535) (hi := 65535) (by decide)) (by decide)) (by decide +kernel)) (fun σ3 e3 i2 => ?_)
  exact zok_sai i2 h1
theorem s_X5_fetchOp {G : Nat → Int} {σ : zSt} (hσ : zIC G σ) : zok (fX5_fetchOp σ ) (zAi (zIC G) (fun v : Int32 => zr (0) (255) v)) := by
  unfold fX5_fetchOp
  refine zok_bu (s_X5_growR hσ) (fun σ1 i1 => ?_)
  refine zok_ai (s_X5_fetch i1) (fun σ2 v3 i2 h3 => ?_)
  exact zok_sai i2 h3
theorem s_X5_askBit_38 {G : Nat → Int} {σ : zSt} (hσ : zIC G σ) {x3 : Int32} (h_x3 : zr (0) (255) x3) {s0 : Int32} (h_s0 : zr (0) (68) s0) {s1 : Int32} (h_s1 : zr (0) (255) s1) {s2 : Int32} (h_s2 : zr (1) (1) s2) : zok (fX5_askBit_38 σ x3 s0 s1 s2) (zIC G) := by
  unfold fX5_askBit_38
  refine zok_ck (zin_ok h_s2 (by decide)) ?_
  refine zok_bs (hσ.wi 1 1 (z_ix h_s2 (by decide)) (zr_or (lo := 0) (hi := 255) 8 (zr_or (lo := 0) (hi := 255) 8 (zr_or (lo := 0) (hi := 255) 8 h_s1 h_s0 (by decide)) (zr_c (lo := 16) (hi := 16) (by decide)) (by decide)) (zr_andr (lo := 0) (hi := 40) (zr_c (lo := 40) (hi := 40) (by decide)) (by decide)) (by decide)) (by decide +kernel)) (fun σ1 e2 i1 => ?_)
  exact zok_some i1
theorem s_X5_askBit {G : Nat → Int} {σ : zSt} (hσ : zIC G σ) {x1 : Int32} (h_x1 : zr (0) (7) x1) {x2 : Int32} (h_x2 : zr (0) (255) x2) {x3 : Int32} (h_x3 : zr (0) (255) x3) : zok (fX5_askBit σ x1 x2 x3) (zIC G) := by
  unfold fX5_askBit
  refine zok_br (zr_andr (lo := 0) (hi := 128) (zr_shld (lo := 0) (hi := 128) (zr_c (lo := 1) (hi := 1) (by decide)) h_x1 (by decide)) (by decide)) (fun v2 e2 h1 => ?_)
  refine zok_ck rfl ?_
  refine zok_if (fun q3 => ?_) (fun q3 => ?_)
  · have h4 := zc_eql (0) (0) q3 h1 (zr_c (lo := 0) (hi := 0) (by decide)) (by decide)
    exact (s_X5_askBit_38 hσ h_x3 (zr_w (zr_c (lo := 68) (hi := 68) (by decide)) (by decide)) (zr_w (zr_or (lo := 0) (hi := 1) 1 (zr_andr (lo := 0) (hi := 1) (zr_c (lo := 1) (hi := 1) (by decide)) (by decide)) (zr_andl (lo := 0) (hi := 0) h4 (by decide)) (by decide)) (by decide)) (zr_c (lo := 1) (hi := 1) (by decide)))
  have h5 := zc_nel (1) (128) q3 h1 (zr_c (lo := 0) (hi := 0) (by decide)) (by decide)
  exact (s_X5_askBit_38 hσ h_x3 (zr_w (zr_c (lo := 0) (hi := 0) (by decide)) (by decide)) (zr_or (lo := 0) (hi := 255) 8 (zr_andr (lo := 0) (hi := 1) (zr_c (lo := 1) (hi := 1) (by decide)) (by decide)) (zr_andr (lo := 0) (hi := 128) (zr_c (lo := 128) (hi := 128) (by decide)) (by decide)) (by decide)) (zr_c (lo := 1) (hi := 1) (by decide)))
theorem s_X5_by_15 {σ : zSt} (hσ : zPC σ) {s0 : Int32} (h_s0 : zr (0) (64) s0) {s1 : Int32} (h_s1 : zr (0) (168) s1) : zok (fX5_by_15 σ s0 s1) (zPi σ (fun v : Int32 => zr (0) (255) v)) := by
  unfold fX5_by_15
  exact zok_spi (zr_or (lo := 0) (hi := 255) 8 h_s1 h_s0 (by decide))
theorem s_X5_by {σ : zSt} (hσ : zPC σ) {x0 : Int32} (h_x0 : zr (0) (255) x0) : zok (fX5_by σ x0) (zPi σ (fun v : Int32 => zr (0) (255) v)) := by
  unfold fX5_by
  refine zok_if (fun q1 => ?_) (fun q1 => ?_)
  · have h2 := zc_eql (0) (0) q1 h_x0 (zr_c (lo := 0) (hi := 0) (by decide)) (by decide)
    exact (s_X5_by_15 hσ (zr_w (zr_c (lo := 64) (hi := 64) (by decide)) (by decide)) (zr_w (zr_andl (lo := 0) (hi := 0) h2 (by decide)) (by decide)))
  have h3 := zc_nel (1) (255) q1 h_x0 (zr_c (lo := 0) (hi := 0) (by decide)) (by decide)
  exact (s_X5_by_15 hσ (zr_w (zr_c (lo := 0) (hi := 0) (by decide)) (by decide)) (zr_andr (lo := 0) (hi := 168) (zr_c (lo := 168) (hi := 168) (by decide)) (by decide)))
theorem s_J6_bitCount_0f7a4 {σ : zSt} (hσ : zPC σ) {x0 : Int32} (h_x0 : zr (0) (255) x0) : zok (fJ6_bitCount_0f7a4 σ x0) (zPi σ (fun v : Int32 => zr (0) (63) v)) := by
  unfold fJ6_bitCount_0f7a4
  refine zok_br (zr_sub (lo := -1431655765) (hi := 255) h_x0 (zr_andr (lo := 0) (hi := 1431655765) (zr_c (lo := 1431655765) (hi := 1431655765) (by decide)) (by decide)) (by decide)) (fun v1 e2 h1 => ?_)
  refine zok_br (zr_add (lo := 0) (hi := 1717986918) (zr_andr (lo := 0) (hi := 858993459) (zr_c (lo := 858993459) (hi := 858993459) (by decide)) (by decide)) (zr_andr (lo := 0) (hi := 858993459) (zr_c (lo := 858993459) (hi := 858993459) (by decide)) (by decide)) (by decide)) (fun v2 e4 h3 => ?_)
  refine zok_br (zr_andr (lo := 0) (hi := 252645135) (zr_c (lo := 252645135) (hi := 252645135) (by decide)) (by decide)) (fun v3 e6 h5 => ?_)
  refine zok_bv (fun v4 e8 => ?_)
  refine zok_bv (fun v5 e10 => ?_)
  exact zok_spi (zr_andr (lo := 0) (hi := 63) (zr_c (lo := 63) (hi := 63) (by decide)) (by decide))
theorem s_X5_parity_14 {σ : zSt} (hσ : zPC σ) {s0 : Int32} (h_s0 : zr (0) (4) s0) : zok (fX5_parity_14 σ s0) (zPi σ (fun v : Int32 => zr (0) (4) v)) := by
  unfold fX5_parity_14
  exact zok_spi h_s0
theorem s_X5_parity {σ : zSt} (hσ : zPC σ) {x0 : Int32} (h_x0 : zr (0) (255) x0) : zok (fX5_parity σ x0) (zPi σ (fun v : Int32 => zr (0) (4) v)) := by
  unfold fX5_parity
  refine zok_pi (s_J6_bitCount_0f7a4 hσ h_x0) (fun v2 h1 => ?_)
  refine zok_if (fun q2 => ?_) (fun q2 => ?_)
  · have h3 := zc_eql (0) (0) q2 (zr_andr (lo := 0) (hi := 1) (zr_c (lo := 1) (hi := 1) (by decide)) (by decide)) (zr_c (lo := 0) (hi := 0) (by decide)) (by decide)
    exact (s_X5_parity_14 hσ (zr_w (zr_c (lo := 4) (hi := 4) (by decide)) (by decide)))
  have h4 := zc_nel (1) (1) q2 (zr_andr (lo := 0) (hi := 1) (zr_c (lo := 1) (hi := 1) (by decide)) (by decide)) (zr_c (lo := 0) (hi := 0) (by decide)) (by decide)
  exact (s_X5_parity_14 hσ (zr_w (zr_c (lo := 0) (hi := 0) (by decide)) (by decide)))
theorem s_X5_turn_136 {G : Nat → Int} {σ : zSt} (hσ : zIC G σ) {x4 : Int32} (h_x4 : zr (0) (1) x4) {s0 : Int32} (h_s0 : zr (0) (255) s0) : zok (fX5_turn_136 σ x4 s0) (zAi (zIC G) (fun v : Int32 => zr (0) (255) v)) := by
  unfold fX5_turn_136
  refine zok_pi (s_X5_by hσ.P h_s0) (fun v2 h1 => ?_)
  refine zok_pi (s_X5_parity hσ.P h_s0) (fun v4 h2 => ?_)
  refine zok_ck rfl ?_
  refine zok_bs (hσ.wi 1 1 (by decide) (zr_or (lo := 0) (hi := 255) 8 (zr_or (lo := 0) (hi := 255) 8 h1 h2 (by decide)) h_x4 (by decide)) (by decide +kernel)) (fun σ5 e4 i3 => ?_)
  exact zok_sai i3 h_s0
theorem s_X5_turn_110 {G : Nat → Int} {σ : zSt} (hσ : zIC G σ) {x2 : Int32} (h_x2 : zr (0) (255) x2) {x3 : Int32} (h_x3 : zr (0) (1) x3) {x4 : Int32} (h_x4 : zr (0) (1) x4) {x5 : Int32} (h_x5 : zr (0) (1) x5) : zok (fX5_turn_110 σ x2 x3 x4 x5) (zAi (zIC G) (fun v : Int32 => zr (0) (255) v)) := by
  unfold fX5_turn_110
  refine zok_if (fun q1 => ?_) (fun q1 => ?_)
  · have h2 := zc_eql (0) (0) q1 h_x3 (zr_c (lo := 0) (hi := 0) (by decide)) (by decide)
    exact (s_X5_turn_136 hσ h_x4 (zr_or (lo := 0) (hi := 255) 8 (zr_shr (lo := 0) (hi := 127) 1 (by decide) h_x2 (by decide)) (zr_shl (lo := 0) (hi := 128) 7 (by decide) h_x5 (by decide)) (by decide)))
  have h3 := zc_nel (1) (1) q1 h_x3 (zr_c (lo := 0) (hi := 0) (by decide)) (by decide)
  exact (s_X5_turn_136 hσ h_x4 (zr_or (lo := 0) (hi := 255) 8 (zr_andr (lo := 0) (hi := 255) (zr_c (lo := 255) (hi := 255) (by decide)) (by decide)) h_x5 (by decide)))
theorem s_X5_turn_72 {G : Nat → Int} {σ : zSt} (hσ : zIC G σ) {x2 : Int32} (h_x2 : zr (0) (255) x2) {x3 : Int32} (h_x3 : zr (0) (1) x3) {x4 : Int32} (h_x4 : zr (0) (1) x4) : zok (fX5_turn_72 σ x2 x3 x4) (zAi (zIC G) (fun v : Int32 => zr (0) (255) v)) := by
  unfold fX5_turn_72
  exact (s_X5_turn_110 hσ h_x2 h_x3 h_x4 h_x4)
theorem s_X5_turn_79 {G : Nat → Int} {σ : zSt} (hσ : zIC G σ) {x2 : Int32} (h_x2 : zr (0) (255) x2) {x3 : Int32} (h_x3 : zr (0) (1) x3) {x4 : Int32} (h_x4 : zr (0) (1) x4) : zok (fX5_turn_79 σ x2 x3 x4) (zAi (zIC G) (fun v : Int32 => zr (0) (255) v)) := by
  unfold fX5_turn_79
  refine zok_ck rfl ?_
  refine zok_br (zr_andr (lo := 0) (hi := 1) (zr_c (lo := 1) (hi := 1) (by decide)) (by decide)) (fun v6 e2 h1 => ?_)
  exact (s_X5_turn_110 hσ h_x2 h_x3 h_x4 h1)
theorem s_X5_turn_107 {G : Nat → Int} {σ : zSt} (hσ : zIC G σ) {x2 : Int32} (h_x2 : zr (0) (255) x2) {x3 : Int32} (h_x3 : zr (0) (1) x3) {x4 : Int32} (h_x4 : zr (0) (1) x4) : zok (fX5_turn_107 σ x2 x3 x4) (zAi (zIC G) (fun v : Int32 => zr (0) (255) v)) := by
  unfold fX5_turn_107
  exact (s_X5_turn_110 hσ h_x2 h_x3 h_x4 (zr_w (zr_c (lo := 0) (hi := 0) (by decide)) (by decide)))
theorem s_X5_turn_26 {G : Nat → Int} {σ : zSt} (hσ : zIC G σ) {x1 : Int32} (h_x1 : zr (0) (7) x1) {x2 : Int32} (h_x2 : zr (0) (255) x2) {x3 : Int32} (h_x3 : zr (0) (1) x3) {s0 : Int32} (h_s0 : zr (0) (1) s0) : zok (fX5_turn_26 σ x1 x2 x3 s0) (zAi (zIC G) (fun v : Int32 => zr (0) (255) v)) := by
  unfold fX5_turn_26
  refine zok_if (fun q1 => ?_) (fun q1 => ?_)
  · have h2 := zc_eql (0) (0) q1 h_x1 (zr_c (lo := 0) (hi := 0) (by decide)) (by decide)
    exact (s_X5_turn_72 hσ h_x2 h_x3 h_s0)
  have h3 := zc_nel (1) (7) q1 h_x1 (zr_c (lo := 0) (hi := 0) (by decide)) (by decide)
  refine zok_if (fun q4 => ?_) (fun q4 => ?_)
  · have h5 := zc_eql (1) (1) q4 h3 (zr_c (lo := 1) (hi := 1) (by decide)) (by decide)
    exact (s_X5_turn_72 hσ h_x2 h_x3 h_s0)
  have h6 := zc_nel (2) (7) q4 h3 (zr_c (lo := 1) (hi := 1) (by decide)) (by decide)
  refine zok_if (fun q7 => ?_) (fun q7 => ?_)
  · have h8 := zc_eql (2) (2) q7 h6 (zr_c (lo := 2) (hi := 2) (by decide)) (by decide)
    exact (s_X5_turn_79 hσ h_x2 h_x3 h_s0)
  have h9 := zc_nel (3) (7) q7 h6 (zr_c (lo := 2) (hi := 2) (by decide)) (by decide)
  refine zok_if (fun q10 => ?_) (fun q10 => ?_)
  · have h11 := zc_eql (3) (3) q10 h9 (zr_c (lo := 3) (hi := 3) (by decide)) (by decide)
    exact (s_X5_turn_79 hσ h_x2 h_x3 h_s0)
  have h12 := zc_nel (4) (7) q10 h9 (zr_c (lo := 3) (hi := 3) (by decide)) (by decide)
  refine zok_if (fun q13 => ?_) (fun q13 => ?_)
  · have h14 := zc_eql (4) (4) q13 h12 (zr_c (lo := 4) (hi := 4) (by decide)) (by decide)
    exact (s_X5_turn_107 hσ h_x2 h_x3 h_s0)
  have h15 := zc_nel (5) (7) q13 h12 (zr_c (lo := 4) (hi := 4) (by decide)) (by decide)
  refine zok_if (fun q16 => ?_) (fun q16 => ?_)
  · have h17 := zc_eql (5) (5) q16 h15 (zr_c (lo := 5) (hi := 5) (by decide)) (by decide)
    refine zok_br (zr_shr (lo := 0) (hi := 1) 7 (by decide) h_x2 (by decide)) (fun v7 e19 h18 => ?_)
    exact (s_X5_turn_110 hσ h_x2 h_x3 h_s0 h18)
  have h20 := zc_nel (6) (7) q16 h15 (zr_c (lo := 5) (hi := 5) (by decide)) (by decide)
  refine zok_if (fun q21 => ?_) (fun q21 => ?_)
  · have h22 := zc_eql (6) (6) q21 h20 (zr_c (lo := 6) (hi := 6) (by decide)) (by decide)
    exact (s_X5_turn_110 hσ h_x2 h_x3 h_s0 (zr_w (zr_c (lo := 1) (hi := 1) (by decide)) (by decide)))
  have h23 := zc_nel (7) (7) q21 h20 (zr_c (lo := 6) (hi := 6) (by decide)) (by decide)
  exact (s_X5_turn_107 hσ h_x2 h_x3 h_s0)
theorem s_X5_turn_11 {G : Nat → Int} {σ : zSt} (hσ : zIC G σ) {x1 : Int32} (h_x1 : zr (0) (7) x1) {x2 : Int32} (h_x2 : zr (0) (255) x2) {s0 : Int32} (h_s0 : zr (0) (1) s0) : zok (fX5_turn_11 σ x1 x2 s0) (zAi (zIC G) (fun v : Int32 => zr (0) (255) v)) := by
  unfold fX5_turn_11
  refine zok_if (fun q1 => ?_) (fun q1 => ?_)
  · have h2 := zc_eql (0) (0) q1 h_s0 (zr_c (lo := 0) (hi := 0) (by decide)) (by decide)
    exact (s_X5_turn_26 hσ h_x1 h_x2 (zr_w h2 (by decide)) (zr_andr (lo := 0) (hi := 1) (zr_c (lo := 1) (hi := 1) (by decide)) (by decide)))
  have h3 := zc_nel (1) (1) q1 h_s0 (zr_c (lo := 0) (hi := 0) (by decide)) (by decide)
  exact (s_X5_turn_26 hσ h_x1 h_x2 (zr_w h3 (by decide)) (zr_shr (lo := 0) (hi := 1) 7 (by decide) h_x2 (by decide)))
theorem s_X5_turn {G : Nat → Int} {σ : zSt} (hσ : zIC G σ) {x1 : Int32} (h_x1 : zr (0) (7) x1) {x2 : Int32} (h_x2 : zr (0) (255) x2) : zok (fX5_turn σ x1 x2) (zAi (zIC G) (fun v : Int32 => zr (0) (255) v)) := by
  unfold fX5_turn
  refine zok_if (fun q1 => ?_) (fun q1 => ?_)
  · have h2 := zc_eql (0) (0) q1 (zr_andr (lo := 0) (hi := 1) (zr_c (lo := 1) (hi := 1) (by decide)) (by decide)) (zr_c (lo := 0) (hi := 0) (by decide)) (by decide)
    exact (s_X5_turn_11 hσ h_x1 h_x2 (zr_w (zr_c (lo := 1) (hi := 1) (by decide)) (by decide)))
  have h3 := zc_nel (1) (1) q1 (zr_andr (lo := 0) (hi := 1) (zr_c (lo := 1) (hi := 1) (by decide)) (by decide)) (zr_c (lo := 0) (hi := 0) (by decide)) (by decide)
  exact (s_X5_turn_11 hσ h_x1 h_x2 (zr_w (zr_c (lo := 0) (hi := 0) (by decide)) (by decide)))
theorem s_X5_turned {G : Nat → Int} {σ : zSt} (hσ : zIC G σ) {x1 : Int32} (h_x1 : zr (0) (255) x1) {x2 : Int32} (h_x2 : zr (0) (255) x2) : zok (fX5_turned σ x1 x2) (zAi (zIC G) (fun v : Int32 => zr (0) (255) v)) := by
  unfold fX5_turned
  refine zok_br (zr_andr (lo := 0) (hi := 7) (zr_c (lo := 7) (hi := 7) (by decide)) (by decide)) (fun v1 e2 h1 => ?_)
  refine zok_if (fun q3 => ?_) (fun q3 => ?_)
  · have h4 := zc_eql (0) (0) q3 (zr_shr (lo := 0) (hi := 3) 6 (by decide) h_x1 (by decide)) (zr_c (lo := 0) (hi := 0) (by decide)) (by decide)
    refine zok_ai (s_X5_turn hσ h1 h_x2) (fun σ2 v3 i5 h6 => ?_)
    exact zok_sai i5 h6
  have h7 := zc_nel (1) (3) q3 (zr_shr (lo := 0) (hi := 3) 6 (by decide) h_x1 (by decide)) (zr_c (lo := 0) (hi := 0) (by decide)) (by decide)
  refine zok_if (fun q8 => ?_) (fun q8 => ?_)
  · have h9 := zc_eql (2) (2) q8 h7 (zr_c (lo := 2) (hi := 2) (by decide)) (by decide)
    exact zok_sai hσ (zr_andl (lo := 0) (hi := 255) h_x2 (by decide))
  exact zok_sai hσ (zr_or (lo := 0) (hi := 255) 8 h_x2 (zr_shld (lo := 0) (hi := 128) (zr_c (lo := 1) (hi := 1) (by decide)) h1 (by decide)) (by decide))
theorem s_X5_putPairHalf_69 {σ : zSt} (hσ : zPC σ) : zok (fX5_putPairHalf_69 σ ) (zPu σ) := by
  unfold fX5_putPairHalf_69
  exact zok_spu
theorem s_X5_putPairHalf_68 {G : Nat → Int} {σ : zSt} (hσ : zIC G σ) {s0 : Int32} (h_s0 : zr (0) (65535) s0) {s1 : Int32} (h_s1 : zr (16) (17) s1) : zok (fX5_putPairHalf_68 σ s0 s1) (zIC G) := by
  unfold fX5_putPairHalf_68
  refine zok_ck (zin_ok h_s1 (by decide)) ?_
  refine zok_bs (hσ.wi 16 17 (z_ix h_s1 (by decide)) h_s0 (by decide +kernel)) (fun σ1 e2 i1 => ?_)
  exact zok_pau i1 (s_X5_putPairHalf_69 i1.P)
theorem s_X5_putPairHalf {G : Nat → Int} {σ : zSt} (hσ : zIC G σ) {x1 : Int32} (h_x1 : zr (6) (7) x1) {x2 : Int32} (h_x2 : zr (0) (255) x2) : zok (fX5_putPairHalf σ x1 x2) (zIC G) := by
  unfold fX5_putPairHalf
  refine zok_if (fun q1 => ?_) (fun q1 => ?_)
  · have h2 := zc_eql (6) (6) q1 (rC_5 hσ.sg _ (by decide)) (zr_c (lo := 6) (hi := 6) (by decide)) (by decide)
    refine zok_ck (zin_ok h_x1 (by decide)) ?_
    refine zok_bs (hσ.wi 6 7 (z_ix h_x1 (by decide)) h_x2 (by decide +kernel)) (fun σ2 e4 i3 => ?_)
    exact zok_pau i3 (s_X5_putPairHalf_69 i3.P)
  have h5 := zc_nel (7) (17) q1 (rC_5 hσ.sg _ (by decide)) (zr_c (lo := 6) (hi := 6) (by decide)) (by decide)
  have h6 := xC_sp hσ.sp h5 (by decide)
  refine zok_if (fun q7 => ?_) (fun q7 => ?_)
  · have h8 := zc_eql (6) (6) q7 h_x1 (zr_c (lo := 6) (hi := 6) (by decide)) (by decide)
    refine zok_ck (zin_ok h6 (by decide)) ?_
    exact (s_X5_putPairHalf_68 hσ (zr_or (lo := 0) (hi := 65535) 16 (zr_shl (lo := 0) (hi := 65280) 8 (by decide) h_x2 (by decide)) (zr_andr (lo := 0) (hi := 255) (zr_c (lo := 255) (hi := 255) (by decide)) (by decide)) (by decide)) h6)
  have h9 := zc_nel (7) (7) q7 h_x1 (zr_c (lo := 6) (hi := 6) (by decide)) (by decide)
  refine zok_ck (zin_ok h6 (by decide)) ?_
  exact (s_X5_putPairHalf_68 hσ (zr_or (lo := 0) (hi := 65535) 16 (zr_andr (lo := 0) (hi := 65280) (zr_c (lo := 65280) (hi := 65280) (by decide)) (by decide)) h_x2 (by decide)) h6)
theorem s_X5_putOne_88 {σ : zSt} (hσ : zPC σ) : zok (fX5_putOne_88 σ ) (zPu σ) := by
  unfold fX5_putOne_88
  exact zok_spu
end ZJN6
section ZJN7
theorem s_X5_putOne {G : Nat → Int} {σ : zSt} (hσ : zIC G σ) {x1 : Int32} (h_x1 : zr (0) (7) x1) {x2 : Int32} (h_x2 : zr (0) (255) x2) : zok (fX5_putOne σ x1 x2) (zIC G) := by
  unfold fX5_putOne
  refine zok_if (fun q1 => ?_) (fun q1 => ?_)
  · have h2 := zc_eql (4) (4) q1 h_x1 (zr_c (lo := 4) (hi := 4) (by decide)) (by decide)
    refine zok_bu (s_X5_putPairHalf hσ (zr_w (zr_c (lo := 6) (hi := 6) (by decide)) (by decide)) h_x2) (fun σ1 i3 => ?_)
    exact zok_pau i3 (s_X5_putOne_88 i3.P)
  refine zok_if (fun q4 => ?_) (fun q4 => ?_)
  · have h5 := zc_eql (5) (5) q4 h_x1 (zr_c (lo := 5) (hi := 5) (by decide)) (by decide)
    refine zok_bu (s_X5_putPairHalf hσ (zr_w (zr_c (lo := 7) (hi := 7) (by decide)) (by decide)) h_x2) (fun σ2 i6 => ?_)
    exact zok_pau i6 (s_X5_putOne_88 i6.P)
  refine zok_if (fun q7 => ?_) (fun q7 => ?_)
  · have h8 := zc_eql (6) (6) q7 h_x1 (zr_c (lo := 6) (hi := 6) (by decide)) (by decide)
    refine zok_bu (s_X2_write hσ (zr_w (rC_6 hσ.sg _ (by decide)) (by decide)) h_x2) (fun σ3 i9 => ?_)
    exact zok_pau i9 (s_X5_putOne_88 i9.P)
  refine zok_if (fun q10 => ?_) (fun q10 => ?_)
  · have h11 := zc_eql (7) (7) q10 h_x1 (zr_c (lo := 7) (hi := 7) (by decide)) (by decide)
    refine zok_ck rfl ?_
    refine zok_bs (hσ.wi 0 0 (by decide) h_x2 (by decide +kernel)) (fun σ4 e13 i12 => ?_)
    exact zok_pau i12 (s_X5_putOne_88 i12.P)
  have h14 := zc_nel (0) (6) q10 h_x1 (zr_c (lo := 7) (hi := 7) (by decide)) (by decide)
  refine zok_ck (zin_ok (zr_add (lo := 2) (hi := 5) (zr_c (lo := 2) (hi := 2) (by decide)) (zr_andr (lo := 0) (hi := 3) (zr_c (lo := 3) (hi := 3) (by decide)) (by decide)) (by decide)) (by decide)) ?_
  refine zok_bs (hσ.wi 2 5 (z_ix (zr_add (lo := 2) (hi := 5) (zr_c (lo := 2) (hi := 2) (by decide)) (zr_andr (lo := 0) (hi := 3) (zr_c (lo := 3) (hi := 3) (by decide)) (by decide)) (by decide)) (by decide)) h_x2 (by decide +kernel)) (fun σ5 e16 i15 => ?_)
  exact zok_pau i15 (s_X5_putOne_88 i15.P)
theorem s_X5_turnBeside_128 {σ : zSt} (hσ : zPC σ) : zok (fX5_turnBeside_128 σ ) (zPi σ (fun v : Int32 => zr (20) (23) v)) := by
  unfold fX5_turnBeside_128
  exact zok_spi (zr_w (zr_c (lo := 23) (hi := 23) (by decide)) (by decide))
theorem s_X5_turnBeside {G : Nat → Int} {σ : zSt} (hσ : zIC G σ) : zok (fX5_turnBeside σ ) (zAi (zIC G) (fun v : Int32 => zr (20) (23) v)) := by
  unfold fX5_turnBeside
  refine zok_ck (zin_ok (rC_5 hσ.sg _ (by decide)) (by decide)) ?_
  refine zok_ai (s_X5_fetch hσ) (fun σ1 v2 i1 h2 => ?_)
  refine zok_ck rfl ?_
  refine zok_bs (i1.wi 20 20 (by decide) (zr_andr (lo := 0) (hi := 65535) (zr_c (lo := 65535) (hi := 65535) (by decide)) (by decide)) (by decide +kernel)) (fun σ3 e4 i3 => ?_)
  refine zok_ck rfl ?_
  refine zok_bs (i3.wi 5 5 (by decide) (rC_22 i3.sg _ (by decide)) (by decide +kernel)) (fun σ4 e6 i5 => ?_)
  refine zok_bs (i5.sp0 (zr_c (lo := 6) (hi := 6) (by decide)) (by decide)) (fun σ5 e8 i7 => ?_)
  refine zok_ai (s_X5_fetch i7) (fun σ6 v7 i9 h10 => ?_)
  refine zok_pi (s_X2_read i9.P) (fun v9 h11 => ?_)
  refine zok_if (fun q12 => ?_) (fun q12 => ?_)
  · have h13 := zc_eql (1) (1) q12 (zr_shr (lo := 0) (hi := 3) 6 (by decide) h10 (by decide)) (zr_c (lo := 1) (hi := 1) (by decide)) (by decide)
    refine zok_ck rfl ?_
    refine zok_bu (s_X5_askBit i9 (zr_andr (lo := 0) (hi := 7) (zr_c (lo := 7) (hi := 7) (by decide)) (by decide)) h11 (zr_shr (lo := 0) (hi := 255) 8 (by decide) (rC_22 i9.sg _ (by decide)) (by decide))) (fun σ14 i14 => ?_)
    exact zok_sai i14 (zr_w (zr_c (lo := 20) (hi := 20) (by decide)) (by decide))
  refine zok_ai (s_X5_turned i9 h10 h11) (fun σ10 v11 i15 h16 => ?_)
  refine zok_bu (s_X2_write i15 (zr_w (rC_6 i15.sg _ (by decide)) (by decide)) h16) (fun σ12 i17 => ?_)
  refine zok_if (fun q18 => ?_) (fun q18 => ?_)
  · have h19 := zc_eql (6) (6) q18 (zr_andr (lo := 0) (hi := 7) (zr_c (lo := 7) (hi := 7) (by decide)) (by decide)) (zr_c (lo := 6) (hi := 6) (by decide)) (by decide)
    exact zok_pai i17 (s_X5_turnBeside_128 i17.P)
  refine zok_bu (s_X5_putOne i17 (zr_andr (lo := 0) (hi := 7) (zr_c (lo := 7) (hi := 7) (by decide)) (by decide)) h16) (fun σ13 i20 => ?_)
  exact zok_pai i20 (s_X5_turnBeside_128 i20.P)
theorem s_X5_meansPlace_97 {σ : zSt} (hσ : zPC σ) {s0 : Int32} (h_s0 : zr (0) (1) s0) : zok (fX5_meansPlace_97 σ s0) (zPi σ (fun v : Int32 => zr (0) (1) v)) := by
  unfold fX5_meansPlace_97
  refine zok_ck (zbo_ok h_s0 (by decide)) ?_
  exact zok_spi h_s0
theorem s_X5_meansPlace_86 {σ : zSt} (hσ : zPC σ) {s0 : Int32} (h_s0 : zr (0) (1) s0) : zok (fX5_meansPlace_86 σ s0) (zPi σ (fun v : Int32 => zr (0) (1) v)) := by
  unfold fX5_meansPlace_86
  refine zok_ck (zbo_ok h_s0 (by decide)) ?_
  exact zok_spi h_s0
theorem s_X5_meansPlace_85 {σ : zSt} (hσ : zPC σ) : zok (fX5_meansPlace_85 σ ) (zPi σ (fun v : Int32 => zr (0) (1) v)) := by
  unfold fX5_meansPlace_85
  exact (s_X5_meansPlace_86 hσ (zr_w (zr_c (lo := 0) (hi := 0) (by decide)) (by decide)))
theorem s_X5_meansPlace_29 {σ : zSt} (hσ : zPC σ) {x0 : Int32} (h_x0 : zr (0) (255) x0) {x1 : Int32} (h_x1 : zr (0) (1) x1) {s0 : Int32} (h_s0 : zr (0) (1) s0) : zok (fX5_meansPlace_29 σ x0 x1 s0) (zPi σ (fun v : Int32 => zr (0) (1) v)) := by
  unfold fX5_meansPlace_29
  refine zok_if (fun q1 => ?_) (fun q1 => ?_)
  · have h2 := zc_eql (0) (0) q1 (zr_shr (lo := 0) (hi := 3) 6 (by decide) h_x0 (by decide)) (zr_c (lo := 0) (hi := 0) (by decide)) (by decide)
    refine zok_if (fun q3 => ?_) (fun q3 => ?_)
    · have h4 := zc_eql (0) (0) q3 h_x1 (zr_c (lo := 0) (hi := 0) (by decide)) (by decide)
      exact (s_X5_meansPlace_85 hσ)
    have h5 := zc_nel (1) (1) q3 h_x1 (zr_c (lo := 0) (hi := 0) (by decide)) (by decide)
    refine zok_if (fun q6 => ?_) (fun q6 => ?_)
    · have h7 := zc_ltl (3) q6 (zr_andr (lo := 0) (hi := 7) (zr_c (lo := 7) (hi := 7) (by decide)) (by decide)) (zr_c (lo := 4) (hi := 4) (by decide)) (by decide)
      exact (s_X5_meansPlace_85 hσ)
    have h8 := zc_ler (4) (z_nlt q6) (zr_c (lo := 4) (hi := 4) (by decide)) (zr_andr (lo := 0) (hi := 7) (zr_c (lo := 7) (hi := 7) (by decide)) (by decide)) (by decide)
    refine zok_if (fun q9 => ?_) (fun q9 => ?_)
    · have h10 := zc_ltr (7) q9 (zr_c (lo := 6) (hi := 6) (by decide)) h8 (by decide)
      exact (s_X5_meansPlace_85 hσ)
    have h11 := zc_lel (6) (z_nlt q9) h8 (zr_c (lo := 6) (hi := 6) (by decide)) (by decide)
    exact (s_X5_meansPlace_86 hσ (zr_w (zr_c (lo := 1) (hi := 1) (by decide)) (by decide)))
  have h12 := zc_nel (1) (3) q1 (zr_shr (lo := 0) (hi := 3) 6 (by decide) h_x0 (by decide)) (zr_c (lo := 0) (hi := 0) (by decide)) (by decide)
  refine zok_if (fun q13 => ?_) (fun q13 => ?_)
  · have h14 := zc_eql (1) (1) q13 h12 (zr_c (lo := 1) (hi := 1) (by decide)) (by decide)
    refine zok_if (fun q15 => ?_) (fun q15 => ?_)
    · exact (s_X5_meansPlace_97 hσ (zr_w (zr_c (lo := 0) (hi := 0) (by decide)) (by decide)))
    exact (s_X5_meansPlace_97 hσ (zr_w (zr_c (lo := 1) (hi := 1) (by decide)) (by decide)))
  have h16 := zc_nel (2) (3) q13 h12 (zr_c (lo := 1) (hi := 1) (by decide)) (by decide)
  refine zok_if (fun q17 => ?_) (fun q17 => ?_)
  · have h18 := zc_eql (2) (2) q17 h16 (zr_c (lo := 2) (hi := 2) (by decide)) (by decide)
    refine zok_ck (zbo_ok h_s0 (by decide)) ?_
    exact zok_spi h_s0
  have h19 := zc_nel (3) (3) q17 h16 (zr_c (lo := 2) (hi := 2) (by decide)) (by decide)
  refine zok_ck rfl ?_
  exact zok_spi (zr_w (zr_c (lo := 0) (hi := 0) (by decide)) (by decide))
theorem s_X5_meansPlace_14 {σ : zSt} (hσ : zPC σ) {x0 : Int32} (h_x0 : zr (0) (255) x0) {s0 : Int32} (h_s0 : zr (0) (1) s0) : zok (fX5_meansPlace_14 σ x0 s0) (zPi σ (fun v : Int32 => zr (0) (1) v)) := by
  unfold fX5_meansPlace_14
  refine zok_if (fun q1 => ?_) (fun q1 => ?_)
  · have h2 := zc_eql (6) (6) q1 (zr_andr (lo := 0) (hi := 7) (zr_c (lo := 7) (hi := 7) (by decide)) (by decide)) (zr_c (lo := 6) (hi := 6) (by decide)) (by decide)
    exact (s_X5_meansPlace_29 hσ h_x0 h_s0 (zr_w (zr_c (lo := 1) (hi := 1) (by decide)) (by decide)))
  exact (s_X5_meansPlace_29 hσ h_x0 h_s0 (zr_w (zr_c (lo := 0) (hi := 0) (by decide)) (by decide)))
theorem s_X5_meansPlace {σ : zSt} (hσ : zPC σ) {x0 : Int32} (h_x0 : zr (0) (255) x0) : zok (fX5_meansPlace σ x0) (zPi σ (fun v : Int32 => zr (0) (1) v)) := by
  unfold fX5_meansPlace
  refine zok_if (fun q1 => ?_) (fun q1 => ?_)
  · have h2 := zc_eql (48) (48) q1 (zr_andr (lo := 0) (hi := 56) (zr_c (lo := 56) (hi := 56) (by decide)) (by decide)) (zr_c (lo := 48) (hi := 48) (by decide)) (by decide)
    exact (s_X5_meansPlace_14 hσ h_x0 (zr_w (zr_c (lo := 1) (hi := 1) (by decide)) (by decide)))
  exact (s_X5_meansPlace_14 hσ h_x0 (zr_w (zr_c (lo := 0) (hi := 0) (by decide)) (by decide)))
theorem s_X5_takePlace_64 {σ : zSt} (hσ : zPC σ) {s0 : Int32} (h_s0 : zr (9) (12) s0) : zok (fX5_takePlace_64 σ s0) (zPi σ (fun v : Int32 => zr (4) (12) v)) := by
  unfold fX5_takePlace_64
  exact zok_spi (zr_w h_s0 (by decide))
theorem s_X5_takePlace {G : Nat → Int} {σ : zSt} (hσ : zIC G σ) {x1 : Int32} (h_x1 : zr (0) (255) x1) : zok (fX5_takePlace σ x1) (zAi (zIC G) (fun v : Int32 => zr (4) (12) v)) := by
  unfold fX5_takePlace
  refine zok_pi (s_X5_meansPlace hσ.P h_x1) (fun v2 h1 => ?_)
  refine zok_if (fun q2 => ?_) (fun q2 => ?_)
  · have h3 := zc_eql (0) (0) q2 h1 (zr_c (lo := 0) (hi := 0) (by decide)) (by decide)
    exact zok_sai hσ (zr_w (zr_c (lo := 4) (hi := 4) (by decide)) (by decide))
  have h4 := zc_nel (1) (1) q2 h1 (zr_c (lo := 0) (hi := 0) (by decide)) (by decide)
  refine zok_ck (zin_ok (rC_5 hσ.sg _ (by decide)) (by decide)) ?_
  refine zok_ai (s_X5_fetch hσ) (fun σ3 v4 i5 h6 => ?_)
  refine zok_ck rfl ?_
  refine zok_bs (i5.wi 20 20 (by decide) (zr_andr (lo := 0) (hi := 65535) (zr_c (lo := 65535) (hi := 65535) (by decide)) (by decide)) (by decide +kernel)) (fun σ5 e8 i7 => ?_)
  refine zok_ck rfl ?_
  refine zok_bs (i7.wi 5 5 (by decide) (rC_22 i7.sg _ (by decide)) (by decide +kernel)) (fun σ6 e10 i9 => ?_)
  refine zok_bs (i9.sp0 (zr_c (lo := 6) (hi := 6) (by decide)) (by decide)) (fun σ7 e12 i11 => ?_)
  refine zok_if (fun q13 => ?_) (fun q13 => ?_)
  · have h14 := zc_eql (54) (54) q13 h_x1 (zr_c (lo := 54) (hi := 54) (by decide)) (by decide)
    exact zok_pai i11 (s_X5_takePlace_64 i11.P (zr_w (zr_c (lo := 9) (hi := 9) (by decide)) (by decide)))
  exact zok_pai i11 (s_X5_takePlace_64 i11.P (zr_w (zr_c (lo := 12) (hi := 12) (by decide)) (by decide)))
theorem s_X5_one_96 {σ : zSt} (hσ : zPC σ) {s0 : Int32} (h_s0 : zr (0) (255) s0) : zok (fX5_one_96 σ s0) (zPi σ (fun v : Int32 => zr (0) (255) v)) := by
  unfold fX5_one_96
  exact zok_spi h_s0
theorem s_X5_one_63 {σ : zSt} (hσ : zPC σ) {s0 : Int32} (h_s0 : zr (0) (255) s0) : zok (fX5_one_63 σ s0) (zPi σ (fun v : Int32 => zr (0) (255) v)) := by
  unfold fX5_one_63
  exact zok_spi h_s0
theorem s_X5_one {σ : zSt} (hσ : zPC σ) {x1 : Int32} (h_x1 : zr (0) (7) x1) : zok (fX5_one σ x1) (zPi σ (fun v : Int32 => zr (0) (255) v)) := by
  unfold fX5_one
  refine zok_if (fun q1 => ?_) (fun q1 => ?_)
  · have h2 := zc_eql (4) (4) q1 h_x1 (zr_c (lo := 4) (hi := 4) (by decide)) (by decide)
    refine zok_if (fun q3 => ?_) (fun q3 => ?_)
    · have h4 := zc_eql (6) (6) q3 (rC_5 hσ.sg _ (by decide)) (zr_c (lo := 6) (hi := 6) (by decide)) (by decide)
      refine zok_ck rfl ?_
      exact (s_X5_one_63 hσ (rC_21 hσ.sg _ (by decide)))
    have h5 := zc_nel (7) (17) q3 (rC_5 hσ.sg _ (by decide)) (zr_c (lo := 6) (hi := 6) (by decide)) (by decide)
    have h6 := xC_sp hσ.sp h5 (by decide)
    refine zok_ck (zin_ok h6 (by decide)) ?_
    exact (s_X5_one_63 hσ (zr_shr (lo := 0) (hi := 255) 8 (by decide) (rC_22 hσ.sg _ (z_ix h6 (by decide))) (by decide)))
  refine zok_if (fun q7 => ?_) (fun q7 => ?_)
  · have h8 := zc_eql (5) (5) q7 h_x1 (zr_c (lo := 5) (hi := 5) (by decide)) (by decide)
    refine zok_if (fun q9 => ?_) (fun q9 => ?_)
    · have h10 := zc_eql (6) (6) q9 (rC_5 hσ.sg _ (by decide)) (zr_c (lo := 6) (hi := 6) (by decide)) (by decide)
      refine zok_ck rfl ?_
      exact (s_X5_one_96 hσ (rC_21 hσ.sg _ (by decide)))
    have h11 := zc_nel (7) (17) q9 (rC_5 hσ.sg _ (by decide)) (zr_c (lo := 6) (hi := 6) (by decide)) (by decide)
    have h12 := xC_sp hσ.sp h11 (by decide)
    refine zok_ck (zin_ok h12 (by decide)) ?_
    exact (s_X5_one_96 hσ (zr_andr (lo := 0) (hi := 255) (zr_c (lo := 255) (hi := 255) (by decide)) (by decide)))
  refine zok_if (fun q13 => ?_) (fun q13 => ?_)
  · have h14 := zc_eql (6) (6) q13 h_x1 (zr_c (lo := 6) (hi := 6) (by decide)) (by decide)
    refine zok_pi (s_X2_read hσ) (fun v2 h15 => ?_)
    exact zok_spi h15
  refine zok_if (fun q16 => ?_) (fun q16 => ?_)
  · have h17 := zc_eql (7) (7) q16 h_x1 (zr_c (lo := 7) (hi := 7) (by decide)) (by decide)
    refine zok_ck rfl ?_
    exact zok_spi (rC_21 hσ.sg _ (by decide))
  have h18 := zc_nel (0) (6) q16 h_x1 (zr_c (lo := 7) (hi := 7) (by decide)) (by decide)
  refine zok_ck (zin_ok (zr_add (lo := 2) (hi := 5) (zr_c (lo := 2) (hi := 2) (by decide)) (zr_andr (lo := 0) (hi := 3) (zr_c (lo := 3) (hi := 3) (by decide)) (by decide)) (by decide)) (by decide)) ?_
  exact zok_spi (rC_21 hσ.sg _ (z_ix (zr_add (lo := 2) (hi := 5) (zr_c (lo := 2) (hi := 2) (by decide)) (zr_andr (lo := 0) (hi := 3) (zr_c (lo := 3) (hi := 3) (by decide)) (by decide)) (by decide)) (by decide)))
theorem s_X5_turns_63 {σ : zSt} (hσ : zPC σ) {s0 : Int32} (h_s0 : zr (8) (12) s0) : zok (fX5_turns_63 σ s0) (zPi σ (fun v : Int32 => zr (8) (15) v)) := by
  unfold fX5_turns_63
  exact zok_spi (zr_w h_s0 (by decide))
theorem s_X5_turns_47 {G : Nat → Int} {σ : zSt} (hσ : zIC G σ) {x2 : Int32} (h_x2 : zr (0) (7) x2) {s0 : Int32} (h_s0 : zr (0) (255) s0) {s1 : Int32} (h_s1 : zr (0) (255) s1) {s2 : Int32} (h_s2 : zr (0) (7) s2) : zok (fX5_turns_47 σ x2 s0 s1 s2) (zAi (zIC G) (fun v : Int32 => zr (8) (15) v)) := by
  unfold fX5_turns_47
  refine zok_bu (s_X5_askBit hσ h_s2 h_s1 h_s0) (fun σ1 i1 => ?_)
  refine zok_if (fun q2 => ?_) (fun q2 => ?_)
  · have h3 := zc_eql (6) (6) q2 h_x2 (zr_c (lo := 6) (hi := 6) (by decide)) (by decide)
    exact zok_pai i1 (s_X5_turns_63 i1.P (zr_w (zr_c (lo := 12) (hi := 12) (by decide)) (by decide)))
  exact zok_pai i1 (s_X5_turns_63 i1.P (zr_w (zr_c (lo := 8) (hi := 8) (by decide)) (by decide)))
theorem s_X5_turns_88 {σ : zSt} (hσ : zPC σ) {s0 : Int32} (h_s0 : zr (8) (15) s0) : zok (fX5_turns_88 σ s0) (zPi σ (fun v : Int32 => zr (8) (15) v)) := by
  unfold fX5_turns_88
  exact zok_spi h_s0
theorem s_X5_turns {G : Nat → Int} {σ : zSt} (hσ : zIC G σ) {x1 : Int32} (h_x1 : zr (0) (255) x1) : zok (fX5_turns σ x1) (zAi (zIC G) (fun v : Int32 => zr (8) (15) v)) := by
  unfold fX5_turns
  refine zok_br (zr_andr (lo := 0) (hi := 7) (zr_c (lo := 7) (hi := 7) (by decide)) (by decide)) (fun v2 e2 h1 => ?_)
  refine zok_pi (s_X5_one hσ.P h1) (fun v4 h3 => ?_)
  refine zok_if (fun q4 => ?_) (fun q4 => ?_)
  · have h5 := zc_eql (1) (1) q4 (zr_shr (lo := 0) (hi := 3) 6 (by decide) h_x1 (by decide)) (zr_c (lo := 1) (hi := 1) (by decide)) (by decide)
    refine zok_if (fun q6 => ?_) (fun q6 => ?_)
    · have h7 := zc_eql (6) (6) q6 h1 (zr_c (lo := 6) (hi := 6) (by decide)) (by decide)
      refine zok_ck rfl ?_
      exact (s_X5_turns_47 hσ (zr_w h7 (by decide)) (zr_shr (lo := 0) (hi := 255) 8 (by decide) (rC_22 hσ.sg _ (by decide)) (by decide)) h3 (zr_andr (lo := 0) (hi := 7) (zr_c (lo := 7) (hi := 7) (by decide)) (by decide)))
    exact (s_X5_turns_47 hσ h1 h3 h3 (zr_andr (lo := 0) (hi := 7) (zr_c (lo := 7) (hi := 7) (by decide)) (by decide)))
  refine zok_ai (s_X5_turned hσ h_x1 h3) (fun σ5 v6 i8 h9 => ?_)
  refine zok_bu (s_X5_putOne i8 h1 h9) (fun σ7 i10 => ?_)
  refine zok_if (fun q11 => ?_) (fun q11 => ?_)
  · have h12 := zc_eql (6) (6) q11 h1 (zr_c (lo := 6) (hi := 6) (by decide)) (by decide)
    exact zok_pai i10 (s_X5_turns_88 i10.P (zr_w (zr_c (lo := 15) (hi := 15) (by decide)) (by decide)))
  exact zok_pai i10 (s_X5_turns_88 i10.P (zr_w (zr_c (lo := 8) (hi := 8) (by decide)) (by decide)))
theorem s_X5_putPairAt {G : Nat → Int} {σ : zSt} (hσ : zIC G σ) {x1 : Int32} (h_x1 : zr (0) (6) x1) {x2 : Int32} (h_x2 : zr (-65536) (131071) x2) : zok (fX5_putPairAt σ x1 x2) (zIC G) := by
  unfold fX5_putPairAt
  refine zok_ck (zin_ok h_x1 (by decide)) ?_
  refine zok_bs (hσ.wi 0 6 (z_ix h_x1 (by decide)) (zr_andr (lo := 0) (hi := 255) (zr_c (lo := 255) (hi := 255) (by decide)) (by decide)) (by decide +kernel)) (fun σ1 e2 i1 => ?_)
  refine zok_ck (zin_ok (zr_add (lo := 1) (hi := 7) h_x1 (zr_c (lo := 1) (hi := 1) (by decide)) (by decide)) (by decide)) ?_
  refine zok_bs (i1.wi 1 7 (z_ix (zr_add (lo := 1) (hi := 7) h_x1 (zr_c (lo := 1) (hi := 1) (by decide)) (by decide)) (by decide)) (zr_andr (lo := 0) (hi := 255) (zr_c (lo := 255) (hi := 255) (by decide)) (by decide)) (by decide +kernel)) (fun σ2 e4 i3 => ?_)
  exact zok_some i3
theorem s_X5_tellOfPort_34 {G : Nat → Int} {σ : zSt} (hσ : zIC G σ) {x2 : Int32} (h_x2 : zr (0) (510) x2) {s0 : Int32} (h_s0 : zr (0) (17) s0) {s1 : Int32} (h_s1 : zr (0) (255) s1) {s2 : Int32} (h_s2 : zr (1) (1) s2) : zok (fX5_tellOfPort_34 σ x2 s0 s1 s2) (zIC G) := by
  unfold fX5_tellOfPort_34
  refine zok_ck rfl ?_
  refine zok_pi (s_X5_parity hσ.P (zr_xor (lo := 0) (hi := 255) 8 (zr_andr (lo := 0) (hi := 7) (zr_c (lo := 7) (hi := 7) (by decide)) (by decide)) (rC_21 hσ.sg _ (by decide)) (by decide))) (fun v2 h1 => ?_)
  refine zok_ck (zin_ok h_s2 (by decide)) ?_
  refine zok_bs (hσ.wi 1 1 (z_ix h_s2 (by decide)) (zr_or (lo := 0) (hi := 255) 8 (zr_or (lo := 0) (hi := 255) 8 h_s1 h_s0 (by decide)) h1 (by decide)) (by decide +kernel)) (fun σ3 e3 i2 => ?_)
  exact zok_some i2
theorem s_X5_tellOfPort {G : Nat → Int} {σ : zSt} (hσ : zIC G σ) {x1 : Int32} (h_x1 : zr (0) (255) x1) {x2 : Int32} (h_x2 : zr (0) (510) x2) : zok (fX5_tellOfPort σ x1 x2) (zIC G) := by
  unfold fX5_tellOfPort
  refine zok_ck rfl ?_
  refine zok_pi (s_X5_by hσ.P (rC_21 hσ.sg _ (by decide))) (fun v5 h1 => ?_)
  refine zok_if (fun q2 => ?_) (fun q2 => ?_)
  · have h3 := zc_lel (255) q2 h_x2 (zr_c (lo := 255) (hi := 255) (by decide)) (by decide)
    exact (s_X5_tellOfPort_34 hσ (zr_w h3 (by decide)) (zr_w (zr_c (lo := 0) (hi := 0) (by decide)) (by decide)) (zr_or (lo := 0) (hi := 255) 8 h1 (zr_andr (lo := 0) (hi := 2) (zr_c (lo := 2) (hi := 2) (by decide)) (by decide)) (by decide)) (zr_c (lo := 1) (hi := 1) (by decide)))
  have h4 := zc_ltr (256) (z_nle q2) (zr_c (lo := 255) (hi := 255) (by decide)) h_x2 (by decide)
  exact (s_X5_tellOfPort_34 hσ (zr_w h4 (by decide)) (zr_w (zr_c (lo := 17) (hi := 17) (by decide)) (by decide)) (zr_or (lo := 0) (hi := 255) 8 h1 (zr_andr (lo := 0) (hi := 2) (zr_c (lo := 2) (hi := 2) (by decide)) (by decide)) (by decide)) (zr_c (lo := 1) (hi := 1) (by decide)))
theorem s_X5_giveOne_105 {σ : zSt} (hσ : zPC σ) {s0 : Int32} (h_s0 : zr (0) (1) s0) : zok (fX5_giveOne_105 σ s0) (zPi σ (fun v : Int32 => zr (0) (1) v)) := by
  unfold fX5_giveOne_105
  refine zok_ck (zbo_ok h_s0 (by decide)) ?_
  exact zok_spi h_s0
theorem s_X5_giveOne {G : Nat → Int} {σ : zSt} (hσ : zIC G σ) {x1 : Int32} (h_x1 : zr (-1) (1) x1) : zok (fX5_giveOne σ x1) (zAi (zIC G) (fun v : Int32 => zr (0) (1) v)) := by
  unfold fX5_giveOne
  refine zok_pi (s_X5_pairAt hσ.P (zr_w (zr_c (lo := 6) (hi := 6) (by decide)) (by decide))) (fun v2 h1 => ?_)
  refine zok_pi (s_X2_read hσ.P) (fun v4 h2 => ?_)
  refine zok_ck rfl ?_
  refine zok_ck rfl ?_
  refine zok_bs (hσ.wi 2 2 (by decide) (zr_andr (lo := 0) (hi := 255) (zr_c (lo := 255) (hi := 255) (by decide)) (by decide)) (by decide +kernel)) (fun σ5 e4 i3 => ?_)
  refine zok_ck rfl ?_
  refine zok_bu (s_X4_write i3 (rC_21 i3.sg _ (by decide)) h2) (fun σ6 i5 => ?_)
  refine zok_pi (s_X5_pairAt i5.P (zr_w (zr_c (lo := 6) (hi := 6) (by decide)) (by decide))) (fun v8 h6 => ?_)
  refine zok_bu (s_X5_putPairAt i5 (zr_w (zr_c (lo := 6) (hi := 6) (by decide)) (by decide)) (zr_w (zr_add (lo := -1) (hi := 65536) h6 h_x1 (by decide)) (by decide))) (fun σ9 i7 => ?_)
  refine zok_pi (s_X5_pairAt i7.P (zr_w (zr_c (lo := 2) (hi := 2) (by decide)) (by decide))) (fun v11 h8 => ?_)
  refine zok_ck rfl ?_
  refine zok_bs (i7.wi 20 20 (by decide) (zr_andr (lo := 0) (hi := 65535) (zr_c (lo := 65535) (hi := 65535) (by decide)) (by decide)) (by decide +kernel)) (fun σ12 e10 i9 => ?_)
  refine zok_ck rfl ?_
  refine zok_bu (s_X5_tellOfPort i9 h2 (zr_add (lo := 0) (hi := 510) h2 (rC_21 i9.sg _ (by decide)) (by decide))) (fun σ13 i11 => ?_)
  refine zok_ck rfl ?_
  refine zok_if (fun q12 => ?_) (fun q12 => ?_)
  · have h13 := zc_eql (0) (0) q12 (rC_21 i11.sg _ (by decide)) (zr_c (lo := 0) (hi := 0) (by decide)) (by decide)
    exact zok_pai i11 (s_X5_giveOne_105 i11.P (zr_w (zr_c (lo := 0) (hi := 0) (by decide)) (by decide)))
  have h14 := zc_nel (1) (255) q12 (rC_21 i11.sg _ (by decide)) (zr_c (lo := 0) (hi := 0) (by decide)) (by decide)
  exact zok_pai i11 (s_X5_giveOne_105 i11.P (zr_w (zr_c (lo := 1) (hi := 1) (by decide)) (by decide)))
theorem s_X5_takeOne_110 {σ : zSt} (hσ : zPC σ) {s0 : Int32} (h_s0 : zr (0) (1) s0) : zok (fX5_takeOne_110 σ s0) (zPi σ (fun v : Int32 => zr (0) (1) v)) := by
  unfold fX5_takeOne_110
  refine zok_ck (zbo_ok h_s0 (by decide)) ?_
  exact zok_spi h_s0
theorem s_X5_takeOne {G : Nat → Int} {σ : zSt} (hσ : zIC G σ) {x1 : Int32} (h_x1 : zr (-1) (1) x1) : zok (fX5_takeOne σ x1) (zAi (zIC G) (fun v : Int32 => zr (0) (1) v)) := by
  unfold fX5_takeOne
  refine zok_pi (s_X5_pairAt hσ.P (zr_w (zr_c (lo := 2) (hi := 2) (by decide)) (by decide))) (fun v2 h1 => ?_)
  refine zok_ck rfl ?_
  refine zok_bs (hσ.wi 20 20 (by decide) (zr_andr (lo := 0) (hi := 65535) (zr_c (lo := 65535) (hi := 65535) (by decide)) (by decide)) (by decide +kernel)) (fun σ3 e3 i2 => ?_)
  refine zok_ck rfl ?_
  refine zok_ai (s_X4_read i2 (rC_21 i2.sg _ (by decide))) (fun σ4 v5 i4 h5 => ?_)
  refine zok_ck rfl ?_
  refine zok_ck rfl ?_
  refine zok_bs (i4.wi 2 2 (by decide) (zr_andr (lo := 0) (hi := 255) (zr_c (lo := 255) (hi := 255) (by decide)) (by decide)) (by decide +kernel)) (fun σ6 e7 i6 => ?_)
  refine zok_pi (s_X5_pairAt i6.P (zr_w (zr_c (lo := 6) (hi := 6) (by decide)) (by decide))) (fun v8 h8 => ?_)
  refine zok_bu (s_X2_write i6 (zr_w h8 (by decide)) h5) (fun σ9 i9 => ?_)
  refine zok_pi (s_X5_pairAt i9.P (zr_w (zr_c (lo := 6) (hi := 6) (by decide)) (by decide))) (fun v11 h10 => ?_)
  refine zok_bu (s_X5_putPairAt i9 (zr_w (zr_c (lo := 6) (hi := 6) (by decide)) (by decide)) (zr_w (zr_add (lo := -1) (hi := 65536) h10 h_x1 (by decide)) (by decide))) (fun σ12 i11 => ?_)
  refine zok_ck rfl ?_
  refine zok_bu (s_X5_tellOfPort i11 h5 (zr_add (lo := 0) (hi := 510) h5 (zr_andr (lo := 0) (hi := 255) (zr_c (lo := 255) (hi := 255) (by decide)) (by decide)) (by decide))) (fun σ13 i12 => ?_)
  refine zok_ck rfl ?_
  refine zok_if (fun q13 => ?_) (fun q13 => ?_)
  · have h14 := zc_eql (0) (0) q13 (rC_21 i12.sg _ (by decide)) (zr_c (lo := 0) (hi := 0) (by decide)) (by decide)
    exact zok_pai i12 (s_X5_takeOne_110 i12.P (zr_w (zr_c (lo := 0) (hi := 0) (by decide)) (by decide)))
  have h15 := zc_nel (1) (255) q13 (rC_21 i12.sg _ (by decide)) (zr_c (lo := 0) (hi := 0) (by decide)) (by decide)
  exact zok_pai i12 (s_X5_takeOne_110 i12.P (zr_w (zr_c (lo := 1) (hi := 1) (by decide)) (by decide)))
theorem s_X5_compareOne_184 {σ : zSt} (hσ : zPC σ) {s0 : Int32} (h_s0 : zr (0) (1) s0) : zok (fX5_compareOne_184 σ s0) (zPi σ (fun v : Int32 => zr (0) (1) v)) := by
  unfold fX5_compareOne_184
  refine zok_ck (zbo_ok h_s0 (by decide)) ?_
  exact zok_spi h_s0
theorem s_X5_compareOne_183 {σ : zSt} (hσ : zPC σ) : zok (fX5_compareOne_183 σ ) (zPi σ (fun v : Int32 => zr (0) (1) v)) := by
  unfold fX5_compareOne_183
  exact (s_X5_compareOne_184 hσ (zr_w (zr_c (lo := 0) (hi := 0) (by decide)) (by decide)))
theorem s_X5_compareOne_166 {G : Nat → Int} {σ : zSt} (hσ : zIC G σ) {x3 : Int32} (h_x3 : zr (0) (255) x3) {x5 : Int32} (h_x5 : zr (0) (1) x5) {s0 : Int32} (h_s0 : zr (0) (4) s0) {s1 : Int32} (h_s1 : zr (0) (255) s1) {s2 : Int32} (h_s2 : zr (1) (1) s2) : zok (fX5_compareOne_166 σ x3 x5 s0 s1 s2) (zAi (zIC G) (fun v : Int32 => zr (0) (1) v)) := by
  unfold fX5_compareOne_166
  refine zok_ck (zin_ok h_s2 (by decide)) ?_
  refine zok_bs (hσ.wi 1 1 (z_ix h_s2 (by decide)) (zr_or (lo := 0) (hi := 255) 8 (zr_or (lo := 0) (hi := 255) 8 h_s1 h_s0 (by decide)) (zr_c (lo := 2) (hi := 2) (by decide)) (by decide)) (by decide +kernel)) (fun σ1 e2 i1 => ?_)
  refine zok_if (fun q3 => ?_) (fun q3 => ?_)
  · have h4 := zc_eql (0) (0) q3 h_x5 (zr_c (lo := 0) (hi := 0) (by decide)) (by decide)
    exact zok_pai i1 (s_X5_compareOne_183 i1.P)
  have h5 := zc_nel (1) (1) q3 h_x5 (zr_c (lo := 0) (hi := 0) (by decide)) (by decide)
  refine zok_if (fun q6 => ?_) (fun q6 => ?_)
  · have h7 := zc_eql (0) (0) q6 h_x3 (zr_c (lo := 0) (hi := 0) (by decide)) (by decide)
    exact zok_pai i1 (s_X5_compareOne_183 i1.P)
  have h8 := zc_nel (1) (255) q6 h_x3 (zr_c (lo := 0) (hi := 0) (by decide)) (by decide)
  exact zok_pai i1 (s_X5_compareOne_184 i1.P (zr_w (zr_c (lo := 1) (hi := 1) (by decide)) (by decide)))
theorem s_X5_compareOne_139 {G : Nat → Int} {σ : zSt} (hσ : zIC G σ) {x3 : Int32} (h_x3 : zr (0) (255) x3) {x4 : Int32} (h_x4 : zr (0) (16) x4) {x5 : Int32} (h_x5 : zr (0) (1) x5) {x6 : Int32} (h_x6 : zr (-1) (255) x6) {s0 : Int32} (h_s0 : zr (0) (64) s0) {s1 : Int32} (h_s1 : zr (0) (255) s1) {s2 : Int32} (h_s2 : zr (1) (1) s2) : zok (fX5_compareOne_139 σ x3 x4 x5 x6 s0 s1 s2) (zAi (zIC G) (fun v : Int32 => zr (0) (1) v)) := by
  unfold fX5_compareOne_139
  refine zok_if (fun q1 => ?_) (fun q1 => ?_)
  · have h2 := zc_eql (0) (0) q1 h_x5 (zr_c (lo := 0) (hi := 0) (by decide)) (by decide)
    exact (s_X5_compareOne_166 hσ h_x3 (zr_w h2 (by decide)) (zr_w (zr_c (lo := 0) (hi := 0) (by decide)) (by decide)) (zr_or (lo := 0) (hi := 255) 8 (zr_or (lo := 0) (hi := 255) 8 (zr_or (lo := 0) (hi := 255) 8 (zr_or (lo := 0) (hi := 255) 8 h_s1 h_s0 (by decide)) h_x4 (by decide)) (zr_shl (lo := 0) (hi := 32) 4 (by decide) (zr_andr (lo := 0) (hi := 2) (zr_c (lo := 2) (hi := 2) (by decide)) (by decide)) (by decide)) (by decide)) (zr_andr (lo := 0) (hi := 8) (zr_c (lo := 8) (hi := 8) (by decide)) (by decide)) (by decide)) h_s2)
  have h3 := zc_nel (1) (1) q1 h_x5 (zr_c (lo := 0) (hi := 0) (by decide)) (by decide)
  exact (s_X5_compareOne_166 hσ h_x3 (zr_w h3 (by decide)) (zr_w (zr_c (lo := 4) (hi := 4) (by decide)) (by decide)) (zr_or (lo := 0) (hi := 255) 8 (zr_or (lo := 0) (hi := 255) 8 (zr_or (lo := 0) (hi := 255) 8 (zr_or (lo := 0) (hi := 255) 8 h_s1 h_s0 (by decide)) h_x4 (by decide)) (zr_shl (lo := 0) (hi := 32) 4 (by decide) (zr_andr (lo := 0) (hi := 2) (zr_c (lo := 2) (hi := 2) (by decide)) (by decide)) (by decide)) (by decide)) (zr_andr (lo := 0) (hi := 8) (zr_c (lo := 8) (hi := 8) (by decide)) (by decide)) (by decide)) h_s2)
theorem s_X5_compareOne_100 {G : Nat → Int} {σ : zSt} (hσ : zIC G σ) {x3 : Int32} (h_x3 : zr (0) (255) x3) {x4 : Int32} (h_x4 : zr (0) (16) x4) {s0 : Int32} (h_s0 : zr (0) (1) s0) : zok (fX5_compareOne_100 σ x3 x4 s0) (zAi (zIC G) (fun v : Int32 => zr (0) (1) v)) := by
  unfold fX5_compareOne_100
  refine zok_br (zr_sub (lo := -1) (hi := 255) h_x3 (zr_shr (lo := 0) (hi := 1) 4 (by decide) h_x4 (by decide)) (by decide)) (fun v2 e2 h1 => ?_)
  refine zok_ck rfl ?_
  refine zok_if (fun q3 => ?_) (fun q3 => ?_)
  · have h4 := zc_eql (0) (0) q3 h_x3 (zr_c (lo := 0) (hi := 0) (by decide)) (by decide)
    exact (s_X5_compareOne_139 hσ (zr_w h4 (by decide)) h_x4 h_s0 h1 (zr_w (zr_c (lo := 64) (hi := 64) (by decide)) (by decide)) (zr_w (zr_or (lo := 0) (hi := 1) 1 (zr_andr (lo := 0) (hi := 1) (zr_c (lo := 1) (hi := 1) (by decide)) (by decide)) (zr_andl (lo := 0) (hi := 0) h4 (by decide)) (by decide)) (by decide)) (zr_c (lo := 1) (hi := 1) (by decide)))
  have h5 := zc_nel (1) (255) q3 h_x3 (zr_c (lo := 0) (hi := 0) (by decide)) (by decide)
  exact (s_X5_compareOne_139 hσ (zr_w h5 (by decide)) h_x4 h_s0 h1 (zr_w (zr_c (lo := 0) (hi := 0) (by decide)) (by decide)) (zr_or (lo := 0) (hi := 255) 8 (zr_andr (lo := 0) (hi := 1) (zr_c (lo := 1) (hi := 1) (by decide)) (by decide)) (zr_andr (lo := 0) (hi := 128) (zr_c (lo := 128) (hi := 128) (by decide)) (by decide)) (by decide)) (zr_c (lo := 1) (hi := 1) (by decide)))
theorem s_X5_compareOne {G : Nat → Int} {σ : zSt} (hσ : zIC G σ) {x1 : Int32} (h_x1 : zr (-1) (1) x1) : zok (fX5_compareOne σ x1) (zAi (zIC G) (fun v : Int32 => zr (0) (1) v)) := by
  unfold fX5_compareOne
  refine zok_pi (s_X5_pairAt hσ.P (zr_w (zr_c (lo := 6) (hi := 6) (by decide)) (by decide))) (fun v4 h1 => ?_)
  refine zok_pi (s_X2_read hσ.P) (fun v6 h2 => ?_)
  refine zok_ck rfl ?_
  refine zok_br (zr_andr (lo := 0) (hi := 255) (zr_c (lo := 255) (hi := 255) (by decide)) (by decide)) (fun v7 e4 h3 => ?_)
  refine zok_ck rfl ?_
  refine zok_br (zr_andr (lo := 0) (hi := 16) (zr_c (lo := 16) (hi := 16) (by decide)) (by decide)) (fun v8 e6 h5 => ?_)
  refine zok_pi (s_X5_pairAt hσ.P (zr_w (zr_c (lo := 6) (hi := 6) (by decide)) (by decide))) (fun v10 h7 => ?_)
  refine zok_bu (s_X5_putPairAt hσ (zr_w (zr_c (lo := 6) (hi := 6) (by decide)) (by decide)) (zr_w (zr_add (lo := -1) (hi := 65536) h7 h_x1 (by decide)) (by decide))) (fun σ11 i8 => ?_)
  refine zok_pi (s_X5_pairAt i8.P (zr_w (zr_c (lo := 2) (hi := 2) (by decide)) (by decide))) (fun v13 h9 => ?_)
  refine zok_bu (s_X5_putPairAt i8 (zr_w (zr_c (lo := 2) (hi := 2) (by decide)) (by decide)) (zr_w (zr_sub (lo := -1) (hi := 65534) h9 (zr_c (lo := 1) (hi := 1) (by decide)) (by decide)) (by decide))) (fun σ14 i10 => ?_)
  refine zok_ck rfl ?_
  refine zok_ck rfl ?_
  refine zok_bs (i10.wi 20 20 (by decide) (zr_andr (lo := 0) (hi := 65535) (zr_c (lo := 65535) (hi := 65535) (by decide)) (by decide)) (by decide +kernel)) (fun σ15 e12 i11 => ?_)
  refine zok_pi (s_X5_pairAt i11.P (zr_w (zr_c (lo := 2) (hi := 2) (by decide)) (by decide))) (fun v17 h13 => ?_)
  refine zok_if (fun q14 => ?_) (fun q14 => ?_)
  · have h15 := zc_eql (0) (0) q14 h13 (zr_c (lo := 0) (hi := 0) (by decide)) (by decide)
    exact (s_X5_compareOne_100 i11 h3 h5 (zr_w (zr_c (lo := 0) (hi := 0) (by decide)) (by decide)))
  have h16 := zc_nel (1) (65535) q14 h13 (zr_c (lo := 0) (hi := 0) (by decide)) (by decide)
  exact (s_X5_compareOne_100 i11 h3 h5 (zr_w (zr_c (lo := 1) (hi := 1) (by decide)) (by decide)))
theorem s_X5_copyOne_126 {G : Nat → Int} {σ : zSt} (hσ : zIC G σ) {x3 : Int32} (h_x3 : zr (0) (1) x3) {s0 : Int32} (h_s0 : zr (0) (4) s0) {s1 : Int32} (h_s1 : zr (0) (255) s1) {s2 : Int32} (h_s2 : zr (1) (1) s2) : zok (fX5_copyOne_126 σ x3 s0 s1 s2) (zAi (zIC G) (fun v : Int32 => zr (0) (1) v)) := by
  unfold fX5_copyOne_126
  refine zok_ck (zin_ok h_s2 (by decide)) ?_
  refine zok_bs (hσ.wi 1 1 (z_ix h_s2 (by decide)) (zr_or (lo := 0) (hi := 255) 8 h_s1 h_s0 (by decide)) (by decide +kernel)) (fun σ1 e2 i1 => ?_)
  refine zok_ck (zbo_ok h_x3 (by decide)) ?_
  exact zok_sai i1 h_x3
theorem s_X5_copyOne_78 {G : Nat → Int} {σ : zSt} (hσ : zIC G σ) {x2 : Int32} (h_x2 : zr (0) (255) x2) {s0 : Int32} (h_s0 : zr (0) (1) s0) : zok (fX5_copyOne_78 σ x2 s0) (zAi (zIC G) (fun v : Int32 => zr (0) (1) v)) := by
  unfold fX5_copyOne_78
  refine zok_ck rfl ?_
  refine zok_br (zr_add (lo := 0) (hi := 510) (rC_21 hσ.sg _ (by decide)) h_x2 (by decide)) (fun v2 e2 h1 => ?_)
  refine zok_ck rfl ?_
  refine zok_if (fun q3 => ?_) (fun q3 => ?_)
  · have h4 := zc_eql (0) (0) q3 h_s0 (zr_c (lo := 0) (hi := 0) (by decide)) (by decide)
    exact (s_X5_copyOne_126 hσ (zr_w h4 (by decide)) (zr_w (zr_c (lo := 0) (hi := 0) (by decide)) (by decide)) (zr_or (lo := 0) (hi := 255) 8 (zr_or (lo := 0) (hi := 255) 8 (zr_andr (lo := 0) (hi := 193) (zr_c (lo := 193) (hi := 193) (by decide)) (by decide)) (zr_shl (lo := 0) (hi := 32) 4 (by decide) (zr_andr (lo := 0) (hi := 2) (zr_c (lo := 2) (hi := 2) (by decide)) (by decide)) (by decide)) (by decide)) (zr_andr (lo := 0) (hi := 8) (zr_c (lo := 8) (hi := 8) (by decide)) (by decide)) (by decide)) (zr_c (lo := 1) (hi := 1) (by decide)))
  have h5 := zc_nel (1) (1) q3 h_s0 (zr_c (lo := 0) (hi := 0) (by decide)) (by decide)
  exact (s_X5_copyOne_126 hσ (zr_w h5 (by decide)) (zr_w (zr_c (lo := 4) (hi := 4) (by decide)) (by decide)) (zr_or (lo := 0) (hi := 255) 8 (zr_or (lo := 0) (hi := 255) 8 (zr_andr (lo := 0) (hi := 193) (zr_c (lo := 193) (hi := 193) (by decide)) (by decide)) (zr_shl (lo := 0) (hi := 32) 4 (by decide) (zr_andr (lo := 0) (hi := 2) (zr_c (lo := 2) (hi := 2) (by decide)) (by decide)) (by decide)) (by decide)) (zr_andr (lo := 0) (hi := 8) (zr_c (lo := 8) (hi := 8) (by decide)) (by decide)) (by decide)) (zr_c (lo := 1) (hi := 1) (by decide)))
theorem s_X5_copyOne {G : Nat → Int} {σ : zSt} (hσ : zIC G σ) {x1 : Int32} (h_x1 : zr (-1) (1) x1) : zok (fX5_copyOne σ x1) (zAi (zIC G) (fun v : Int32 => zr (0) (1) v)) := by
  unfold fX5_copyOne
  refine zok_pi (s_X5_pairAt hσ.P (zr_w (zr_c (lo := 6) (hi := 6) (by decide)) (by decide))) (fun v4 h1 => ?_)
  refine zok_pi (s_X2_read hσ.P) (fun v6 h2 => ?_)
  refine zok_pi (s_X5_pairAt hσ.P (zr_w (zr_c (lo := 4) (hi := 4) (by decide)) (by decide))) (fun v8 h3 => ?_)
  refine zok_bu (s_X2_write hσ (zr_w h3 (by decide)) h2) (fun σ9 i4 => ?_)
  refine zok_pi (s_X5_pairAt i4.P (zr_w (zr_c (lo := 6) (hi := 6) (by decide)) (by decide))) (fun v11 h5 => ?_)
  refine zok_bu (s_X5_putPairAt i4 (zr_w (zr_c (lo := 6) (hi := 6) (by decide)) (by decide)) (zr_w (zr_add (lo := -1) (hi := 65536) h5 h_x1 (by decide)) (by decide))) (fun σ12 i6 => ?_)
  refine zok_pi (s_X5_pairAt i6.P (zr_w (zr_c (lo := 4) (hi := 4) (by decide)) (by decide))) (fun v14 h7 => ?_)
  refine zok_bu (s_X5_putPairAt i6 (zr_w (zr_c (lo := 4) (hi := 4) (by decide)) (by decide)) (zr_w (zr_add (lo := -1) (hi := 65536) h7 h_x1 (by decide)) (by decide))) (fun σ15 i8 => ?_)
  refine zok_pi (s_X5_pairAt i8.P (zr_w (zr_c (lo := 2) (hi := 2) (by decide)) (by decide))) (fun v17 h9 => ?_)
  refine zok_bu (s_X5_putPairAt i8 (zr_w (zr_c (lo := 2) (hi := 2) (by decide)) (by decide)) (zr_w (zr_sub (lo := -1) (hi := 65534) h9 (zr_c (lo := 1) (hi := 1) (by decide)) (by decide)) (by decide))) (fun σ18 i10 => ?_)
  refine zok_pi (s_X5_pairAt i10.P (zr_w (zr_c (lo := 2) (hi := 2) (by decide)) (by decide))) (fun v20 h11 => ?_)
  refine zok_if (fun q12 => ?_) (fun q12 => ?_)
  · have h13 := zc_eql (0) (0) q12 h11 (zr_c (lo := 0) (hi := 0) (by decide)) (by decide)
    exact (s_X5_copyOne_78 i10 h2 (zr_w (zr_c (lo := 0) (hi := 0) (by decide)) (by decide)))
  have h14 := zc_nel (1) (65535) q12 h11 (zr_c (lo := 0) (hi := 0) (by decide)) (by decide)
  exact (s_X5_copyOne_78 i10 h2 (zr_w (zr_c (lo := 1) (hi := 1) (by decide)) (by decide)))
theorem s_X5_block_88 {σ : zSt} (hσ : zPC σ) : zok (fX5_block_88 σ ) (zPi σ (fun v : Int32 => zr (16) (21) v)) := by
  unfold fX5_block_88
  exact zok_spi (zr_w (zr_c (lo := 16) (hi := 16) (by decide)) (by decide))
theorem s_X5_block_135 {σ : zSt} (hσ : zPC σ) : zok (fX5_block_135 σ ) (zPi σ (fun v : Int32 => zr (16) (21) v)) := by
  unfold fX5_block_135
  exact zok_spi (zr_w (zr_c (lo := 21) (hi := 21) (by decide)) (by decide))
theorem s_X5_block_77 {G : Nat → Int} {σ : zSt} (hσ : zIC G σ) {x1 : Int32} (h_x1 : zr (0) (255) x1) {x3 : Int32} (h_x3 : zr (0) (1) x3) : zok (fX5_block_77 σ x1 x3) (zAi (zIC G) (fun v : Int32 => zr (16) (21) v)) := by
  unfold fX5_block_77
  refine zok_if (fun q1 => ?_) (fun q1 => ?_)
  · have h2 := zc_eql (0) (0) q1 h_x3 (zr_c (lo := 0) (hi := 0) (by decide)) (by decide)
    exact zok_pai hσ (s_X5_block_88 hσ.P)
  have h3 := zc_nel (1) (1) q1 h_x3 (zr_c (lo := 0) (hi := 0) (by decide)) (by decide)
  refine zok_if (fun q4 => ?_) (fun q4 => ?_)
  · have h5 := zc_eql (0) (0) q4 (zr_andr (lo := 0) (hi := 16) (zr_c (lo := 16) (hi := 16) (by decide)) (by decide)) (zr_c (lo := 0) (hi := 0) (by decide)) (by decide)
    exact zok_pai hσ (s_X5_block_88 hσ.P)
  have h6 := zc_nel (1) (16) q4 (zr_andr (lo := 0) (hi := 16) (zr_c (lo := 16) (hi := 16) (by decide)) (by decide)) (zr_c (lo := 0) (hi := 0) (by decide)) (by decide)
  refine zok_ck rfl ?_
  refine zok_ck rfl ?_
  refine zok_bs (hσ.wi 19 19 (by decide) (zr_andr (lo := 0) (hi := 65535) (zr_c (lo := 65535) (hi := 65535) (by decide)) (by decide)) (by decide +kernel)) (fun σ1 e8 i7 => ?_)
  refine zok_if (fun q9 => ?_) (fun q9 => ?_)
  · have h10 := zc_eql (0) (0) q9 (zr_andr (lo := 0) (hi := 2) (zr_c (lo := 2) (hi := 2) (by decide)) (by decide)) (zr_c (lo := 0) (hi := 0) (by decide)) (by decide)
    refine zok_ck rfl ?_
    refine zok_ck rfl ?_
    refine zok_bs (i7.wi 20 20 (by decide) (zr_andr (lo := 0) (hi := 65535) (zr_c (lo := 65535) (hi := 65535) (by decide)) (by decide)) (by decide +kernel)) (fun σ2 e12 i11 => ?_)
    exact zok_pai i11 (s_X5_block_135 i11.P)
  have h13 := zc_nel (1) (2) q9 (zr_andr (lo := 0) (hi := 2) (zr_c (lo := 2) (hi := 2) (by decide)) (by decide)) (zr_c (lo := 0) (hi := 0) (by decide)) (by decide)
  exact zok_pai i7 (s_X5_block_135 i7.P)
theorem s_X5_block_12 {G : Nat → Int} {σ : zSt} (hσ : zIC G σ) {x1 : Int32} (h_x1 : zr (0) (255) x1) {s0 : Int32} (h_s0 : zr (-1) (1) s0) : zok (fX5_block_12 σ x1 s0) (zAi (zIC G) (fun v : Int32 => zr (16) (21) v)) := by
  unfold fX5_block_12
  refine zok_if (fun q1 => ?_) (fun q1 => ?_)
  · have h2 := zc_eql (0) (0) q1 (zr_andr (lo := 0) (hi := 3) (zr_c (lo := 3) (hi := 3) (by decide)) (by decide)) (zr_c (lo := 0) (hi := 0) (by decide)) (by decide)
    refine zok_ai (s_X5_copyOne hσ h_s0) (fun σ3 v4 i3 h4 => ?_)
    exact (s_X5_block_77 i3 h_x1 h4)
  have h5 := zc_nel (1) (3) q1 (zr_andr (lo := 0) (hi := 3) (zr_c (lo := 3) (hi := 3) (by decide)) (by decide)) (zr_c (lo := 0) (hi := 0) (by decide)) (by decide)
  refine zok_if (fun q6 => ?_) (fun q6 => ?_)
  · have h7 := zc_eql (1) (1) q6 h5 (zr_c (lo := 1) (hi := 1) (by decide)) (by decide)
    refine zok_ai (s_X5_compareOne hσ h_s0) (fun σ5 v6 i8 h9 => ?_)
    exact (s_X5_block_77 i8 h_x1 h9)
  have h10 := zc_nel (2) (3) q6 h5 (zr_c (lo := 1) (hi := 1) (by decide)) (by decide)
  refine zok_if (fun q11 => ?_) (fun q11 => ?_)
  · have h12 := zc_eql (2) (2) q11 h10 (zr_c (lo := 2) (hi := 2) (by decide)) (by decide)
    refine zok_ai (s_X5_takeOne hσ h_s0) (fun σ7 v8 i13 h14 => ?_)
    exact (s_X5_block_77 i13 h_x1 h14)
  have h15 := zc_nel (3) (3) q11 h10 (zr_c (lo := 2) (hi := 2) (by decide)) (by decide)
  refine zok_ai (s_X5_giveOne hσ h_s0) (fun σ9 v10 i16 h17 => ?_)
  exact (s_X5_block_77 i16 h_x1 h17)
theorem s_X5_block {G : Nat → Int} {σ : zSt} (hσ : zIC G σ) {x1 : Int32} (h_x1 : zr (0) (255) x1) : zok (fX5_block σ x1) (zAi (zIC G) (fun v : Int32 => zr (16) (21) v)) := by
  unfold fX5_block
  refine zok_if (fun q1 => ?_) (fun q1 => ?_)
  · have h2 := zc_eql (0) (0) q1 (zr_andr (lo := 0) (hi := 8) (zr_c (lo := 8) (hi := 8) (by decide)) (by decide)) (zr_c (lo := 0) (hi := 0) (by decide)) (by decide)
    exact (s_X5_block_12 hσ h_x1 (zr_w (zr_c (lo := 1) (hi := 1) (by decide)) (by decide)))
  have h3 := zc_nel (1) (8) q1 (zr_andr (lo := 0) (hi := 8) (zr_c (lo := 8) (hi := 8) (by decide)) (by decide)) (zr_c (lo := 0) (hi := 0) (by decide)) (by decide)
  exact (s_X5_block_12 hσ h_x1 (zr_w (zr_c (lo := -1) (hi := -1) (by decide)) (by decide)))
theorem s_X5_turnDigits_102 {G : Nat → Int} {σ : zSt} (hσ : zIC G σ) {s0 : Int32} (h_s0 : zr (0) (15) s0) {s1 : Int32} (h_s1 : zr (0) (240) s1) {s2 : Int32} (h_s2 : zr (0) (0) s2) : zok (fX5_turnDigits_102 σ s0 s1 s2) (zIC G) := by
  unfold fX5_turnDigits_102
  refine zok_ck (zin_ok h_s2 (by decide)) ?_
  refine zok_bs (hσ.wi 0 0 (z_ix h_s2 (by decide)) (zr_or (lo := 0) (hi := 255) 8 h_s1 h_s0 (by decide)) (by decide +kernel)) (fun σ1 e2 i1 => ?_)
  refine zok_ck rfl ?_
  refine zok_ck rfl ?_
  refine zok_pi (s_X5_by i1.P (rC_21 i1.sg _ (by decide))) (fun v3 h3 => ?_)
  refine zok_ck rfl ?_
  refine zok_pi (s_X5_parity i1.P (rC_21 i1.sg _ (by decide))) (fun v5 h4 => ?_)
  refine zok_ck rfl ?_
  refine zok_bs (i1.wi 1 1 (by decide) (zr_or (lo := 0) (hi := 255) 8 (zr_or (lo := 0) (hi := 255) 8 (zr_andr (lo := 0) (hi := 1) (zr_c (lo := 1) (hi := 1) (by decide)) (by decide)) h3 (by decide)) h4 (by decide)) (by decide +kernel)) (fun σ6 e6 i5 => ?_)
  exact zok_some i5
theorem s_X5_turnDigits_70 {G : Nat → Int} {σ : zSt} (hσ : zIC G σ) {x1 : Int32} (h_x1 : zr (0) (1) x1) {x3 : Int32} (h_x3 : zr (0) (255) x3) {s0 : Int32} (h_s0 : zr (0) (255) s0) {s1 : Int32} (h_s1 : zr (0) (65535) s1) : zok (fX5_turnDigits_70 σ x1 x3 s0 s1) (zIC G) := by
  unfold fX5_turnDigits_70
  refine zok_bu (s_X2_write hσ (zr_w h_s1 (by decide)) h_s0) (fun σ7 i1 => ?_)
  refine zok_ck rfl ?_
  refine zok_if (fun q2 => ?_) (fun q2 => ?_)
  · have h3 := zc_eql (0) (0) q2 h_x1 (zr_c (lo := 0) (hi := 0) (by decide)) (by decide)
    exact (s_X5_turnDigits_102 i1 (zr_shr (lo := 0) (hi := 15) 4 (by decide) h_x3 (by decide)) (zr_andr (lo := 0) (hi := 240) (zr_c (lo := 240) (hi := 240) (by decide)) (by decide)) (zr_c (lo := 0) (hi := 0) (by decide)))
  have h4 := zc_nel (1) (1) q2 h_x1 (zr_c (lo := 0) (hi := 0) (by decide)) (by decide)
  exact (s_X5_turnDigits_102 i1 (zr_andr (lo := 0) (hi := 15) (zr_c (lo := 15) (hi := 15) (by decide)) (by decide)) (zr_andr (lo := 0) (hi := 240) (zr_c (lo := 240) (hi := 240) (by decide)) (by decide)) (zr_c (lo := 0) (hi := 0) (by decide)))
theorem s_X5_turnDigits {G : Nat → Int} {σ : zSt} (hσ : zIC G σ) {x1 : Int32} (h_x1 : zr (0) (1) x1) : zok (fX5_turnDigits σ x1) (zIC G) := by
  unfold fX5_turnDigits
  refine zok_pi (s_X5_pairAt hσ.P (zr_w (zr_c (lo := 6) (hi := 6) (by decide)) (by decide))) (fun v9 h1 => ?_)
  refine zok_pi (s_X2_read hσ.P) (fun v11 h2 => ?_)
  refine zok_ck rfl ?_
  refine zok_br (zr_andr (lo := 0) (hi := 15) (zr_c (lo := 15) (hi := 15) (by decide)) (by decide)) (fun v12 e4 h3 => ?_)
  refine zok_ck rfl ?_
  refine zok_bs (hσ.wi 20 20 (by decide) (zr_andr (lo := 0) (hi := 65535) (zr_c (lo := 65535) (hi := 65535) (by decide)) (by decide)) (by decide +kernel)) (fun σ13 e6 i5 => ?_)
  refine zok_if (fun q7 => ?_) (fun q7 => ?_)
  · have h8 := zc_eql (0) (0) q7 h_x1 (zr_c (lo := 0) (hi := 0) (by decide)) (by decide)
    exact (s_X5_turnDigits_70 i5 (zr_w h8 (by decide)) h2 (zr_or (lo := 0) (hi := 255) 8 (zr_andr (lo := 0) (hi := 255) (zr_c (lo := 255) (hi := 255) (by decide)) (by decide)) h3 (by decide)) h1)
  have h9 := zc_nel (1) (1) q7 h_x1 (zr_c (lo := 0) (hi := 0) (by decide)) (by decide)
  exact (s_X5_turnDigits_70 i5 (zr_w h9 (by decide)) h2 (zr_or (lo := 0) (hi := 255) 8 (zr_shl (lo := 0) (hi := 240) 4 (by decide) h3 (by decide)) (zr_shr (lo := 0) (hi := 15) 4 (by decide) h2 (by decide)) (by decide)) h1)
theorem s_X5_moreOfA_139 {G : Nat → Int} {σ : zSt} (hσ : zIC G σ) {s0 : Int32} (h_s0 : zr (0) (4) s0) {s1 : Int32} (h_s1 : zr (0) (255) s1) {s2 : Int32} (h_s2 : zr (1) (1) s2) : zok (fX5_moreOfA_139 σ s0 s1 s2) (zAi (zIC G) (fun v : Int32 => zr (8) (18) v)) := by
  unfold fX5_moreOfA_139
  refine zok_ck (zin_ok h_s2 (by decide)) ?_
  refine zok_bs (hσ.wi 1 1 (z_ix h_s2 (by decide)) (zr_or (lo := 0) (hi := 255) 8 h_s1 h_s0 (by decide)) (by decide +kernel)) (fun σ1 e2 i1 => ?_)
  exact zok_sai i1 (zr_w (zr_c (lo := 9) (hi := 9) (by decide)) (by decide))
theorem s_X5_moreOfA_99 {G : Nat → Int} {σ : zSt} (hσ : zIC G σ) {s0 : Int32} (h_s0 : zr (0) (255) s0) {s1 : Int32} (h_s1 : zr (0) (0) s1) : zok (fX5_moreOfA_99 σ s0 s1) (zAi (zIC G) (fun v : Int32 => zr (8) (18) v)) := by
  unfold fX5_moreOfA_99
  refine zok_ck (zin_ok h_s1 (by decide)) ?_
  refine zok_bs (hσ.wi 0 0 (z_ix h_s1 (by decide)) h_s0 (by decide +kernel)) (fun σ2 e2 i1 => ?_)
  refine zok_ck rfl ?_
  refine zok_ck rfl ?_
  refine zok_pi (s_X5_by i1.P (rC_21 i1.sg _ (by decide))) (fun v4 h3 => ?_)
  refine zok_ck rfl ?_
  refine zok_if (fun q4 => ?_) (fun q4 => ?_)
  · have h5 := zc_eql (1) (1) q4 (rC_24 i1.sg _ (by decide)) (zr_c (lo := 1) (hi := 1) (by decide)) (by decide)
    exact (s_X5_moreOfA_139 i1 (zr_w (zr_c (lo := 4) (hi := 4) (by decide)) (by decide)) (zr_or (lo := 0) (hi := 255) 8 (zr_andr (lo := 0) (hi := 1) (zr_c (lo := 1) (hi := 1) (by decide)) (by decide)) h3 (by decide)) (zr_c (lo := 1) (hi := 1) (by decide)))
  have h6 := zc_nel (0) (0) q4 (rC_24 i1.sg _ (by decide)) (zr_c (lo := 1) (hi := 1) (by decide)) (by decide)
  exact (s_X5_moreOfA_139 i1 (zr_w (zr_c (lo := 0) (hi := 0) (by decide)) (by decide)) (zr_or (lo := 0) (hi := 255) 8 (zr_andr (lo := 0) (hi := 1) (zr_c (lo := 1) (hi := 1) (by decide)) (by decide)) h3 (by decide)) (zr_c (lo := 1) (hi := 1) (by decide)))
theorem s_X5_moreOfA_72 {G : Nat → Int} {σ : zSt} (hσ : zIC G σ) {x1 : Int32} (h_x1 : zr (2) (3) x1) : zok (fX5_moreOfA_72 σ x1) (zAi (zIC G) (fun v : Int32 => zr (8) (18) v)) := by
  unfold fX5_moreOfA_72
  refine zok_if (fun q1 => ?_) (fun q1 => ?_)
  · have h2 := zc_eql (2) (2) q1 h_x1 (zr_c (lo := 2) (hi := 2) (by decide)) (by decide)
    refine zok_ck rfl ?_
    exact (s_X5_moreOfA_99 hσ (rC_23 hσ.sg _ (by decide)) (zr_c (lo := 0) (hi := 0) (by decide)))
  have h3 := zc_nel (3) (3) q1 h_x1 (zr_c (lo := 2) (hi := 2) (by decide)) (by decide)
  refine zok_ck rfl ?_
  exact (s_X5_moreOfA_99 hσ (rC_23 hσ.sg _ (by decide)) (zr_c (lo := 0) (hi := 0) (by decide)))
theorem s_X5_moreOfA_155 {G : Nat → Int} {σ : zSt} (hσ : zIC G σ) {s0 : Int32} (h_s0 : zr (0) (1) s0) : zok (fX5_moreOfA_155 σ s0) (zAi (zIC G) (fun v : Int32 => zr (8) (18) v)) := by
  unfold fX5_moreOfA_155
  refine zok_bu (s_X5_turnDigits hσ h_s0) (fun σ5 i1 => ?_)
  exact zok_sai i1 (zr_w (zr_c (lo := 18) (hi := 18) (by decide)) (by decide))
theorem s_X5_moreOfA_144 {G : Nat → Int} {σ : zSt} (hσ : zIC G σ) {x1 : Int32} (h_x1 : zr (4) (5) x1) : zok (fX5_moreOfA_144 σ x1) (zAi (zIC G) (fun v : Int32 => zr (8) (18) v)) := by
  unfold fX5_moreOfA_144
  refine zok_if (fun q1 => ?_) (fun q1 => ?_)
  · have h2 := zc_eql (4) (4) q1 h_x1 (zr_c (lo := 4) (hi := 4) (by decide)) (by decide)
    exact (s_X5_moreOfA_155 hσ (zr_w (zr_c (lo := 1) (hi := 1) (by decide)) (by decide)))
  have h3 := zc_nel (5) (5) q1 h_x1 (zr_c (lo := 4) (hi := 4) (by decide)) (by decide)
  exact (s_X5_moreOfA_155 hσ (zr_w (zr_c (lo := 0) (hi := 0) (by decide)) (by decide)))
theorem s_X5_moreOfA {G : Nat → Int} {σ : zSt} (hσ : zIC G σ) {x1 : Int32} (h_x1 : zr (0) (7) x1) : zok (fX5_moreOfA σ x1) (zAi (zIC G) (fun v : Int32 => zr (8) (18) v)) := by
  unfold fX5_moreOfA
  refine zok_if (fun q1 => ?_) (fun q1 => ?_)
  · have h2 := zc_eql (0) (0) q1 h_x1 (zr_c (lo := 0) (hi := 0) (by decide)) (by decide)
    refine zok_ck rfl ?_
    refine zok_ck rfl ?_
    refine zok_bs (hσ.wi 21 21 (by decide) (rC_21 hσ.sg _ (by decide)) (by decide +kernel)) (fun σ6 e4 i3 => ?_)
    exact zok_sai i3 (zr_w (zr_c (lo := 9) (hi := 9) (by decide)) (by decide))
  have h5 := zc_nel (1) (7) q1 h_x1 (zr_c (lo := 0) (hi := 0) (by decide)) (by decide)
  refine zok_if (fun q6 => ?_) (fun q6 => ?_)
  · have h7 := zc_eql (1) (1) q6 h5 (zr_c (lo := 1) (hi := 1) (by decide)) (by decide)
    refine zok_ck rfl ?_
    refine zok_ck rfl ?_
    refine zok_bs (hσ.wi 22 22 (by decide) (rC_21 hσ.sg _ (by decide)) (by decide +kernel)) (fun σ7 e9 i8 => ?_)
    exact zok_sai i8 (zr_w (zr_c (lo := 9) (hi := 9) (by decide)) (by decide))
  have h10 := zc_nel (2) (7) q6 h5 (zr_c (lo := 1) (hi := 1) (by decide)) (by decide)
  refine zok_if (fun q11 => ?_) (fun q11 => ?_)
  · have h12 := zc_eql (2) (2) q11 h10 (zr_c (lo := 2) (hi := 2) (by decide)) (by decide)
    exact (s_X5_moreOfA_72 hσ (zr_w h12 (by decide)))
  have h13 := zc_nel (3) (7) q11 h10 (zr_c (lo := 2) (hi := 2) (by decide)) (by decide)
  refine zok_if (fun q14 => ?_) (fun q14 => ?_)
  · have h15 := zc_eql (3) (3) q14 h13 (zr_c (lo := 3) (hi := 3) (by decide)) (by decide)
    exact (s_X5_moreOfA_72 hσ (zr_w h15 (by decide)))
  have h16 := zc_nel (4) (7) q14 h13 (zr_c (lo := 3) (hi := 3) (by decide)) (by decide)
  refine zok_if (fun q17 => ?_) (fun q17 => ?_)
  · have h18 := zc_eql (4) (4) q17 h16 (zr_c (lo := 4) (hi := 4) (by decide)) (by decide)
    exact (s_X5_moreOfA_144 hσ (zr_w h18 (by decide)))
  have h19 := zc_nel (5) (7) q17 h16 (zr_c (lo := 4) (hi := 4) (by decide)) (by decide)
  refine zok_if (fun q20 => ?_) (fun q20 => ?_)
  · have h21 := zc_eql (5) (5) q20 h19 (zr_c (lo := 5) (hi := 5) (by decide)) (by decide)
    exact (s_X5_moreOfA_144 hσ (zr_w h21 (by decide)))
  have h22 := zc_nel (6) (7) q20 h19 (zr_c (lo := 5) (hi := 5) (by decide)) (by decide)
  exact zok_sai hσ (zr_w (zr_c (lo := 8) (hi := 8) (by decide)) (by decide))
theorem s_X5_pop {G : Nat → Int} {σ : zSt} (hσ : zIC G σ) : zok (fX5_pop σ ) (zAi (zIC G) (fun v : Int32 => zr (0) (65535) v)) := by
  unfold fX5_pop
  refine zok_ck rfl ?_
  refine zok_pi (s_X2_read hσ.P) (fun v2 h1 => ?_)
  refine zok_ck rfl ?_
  refine zok_pi (s_X2_read hσ.P) (fun v4 h2 => ?_)
  refine zok_br (zr_or (lo := 0) (hi := 65535) 16 h1 (zr_shl (lo := 0) (hi := 65280) 8 (by decide) h2 (by decide)) (by decide)) (fun v5 e4 h3 => ?_)
  refine zok_ck rfl ?_
  refine zok_ck rfl ?_
  refine zok_bs (hσ.wi 18 18 (by decide) (zr_andr (lo := 0) (hi := 65535) (zr_c (lo := 65535) (hi := 65535) (by decide)) (by decide)) (by decide +kernel)) (fun σ6 e6 i5 => ?_)
  exact zok_sai i5 h3
theorem s_X5_difference_72 {G : Nat → Int} {σ : zSt} (hσ : zIC G σ) {x5 : Int32} (h_x5 : zr (0) (255) x5) {s0 : Int32} (h_s0 : zr (0) (1) s0) {s1 : Int32} (h_s1 : zr (0) (255) s1) {s2 : Int32} (h_s2 : zr (1) (1) s2) : zok (fX5_difference_72 σ x5 s0 s1 s2) (zAi (zIC G) (fun v : Int32 => zr (0) (255) v)) := by
  unfold fX5_difference_72
  refine zok_ck (zin_ok h_s2 (by decide)) ?_
  refine zok_bs (hσ.wi 1 1 (z_ix h_s2 (by decide)) (zr_or (lo := 0) (hi := 255) 8 h_s1 h_s0 (by decide)) (by decide +kernel)) (fun σ1 e2 i1 => ?_)
  exact zok_sai i1 h_x5
theorem s_X5_difference_59 {G : Nat → Int} {σ : zSt} (hσ : zIC G σ) {x4 : Int32} (h_x4 : zr (-256) (255) x4) {x5 : Int32} (h_x5 : zr (0) (255) x5) {s0 : Int32} (h_s0 : zr (0) (4) s0) {s1 : Int32} (h_s1 : zr (0) (255) s1) {s2 : Int32} (h_s2 : zr (1) (1) s2) : zok (fX5_difference_59 σ x4 x5 s0 s1 s2) (zAi (zIC G) (fun v : Int32 => zr (0) (255) v)) := by
  unfold fX5_difference_59
  refine zok_if (fun q1 => ?_) (fun q1 => ?_)
  · have h2 := zc_ler (0) q1 (zr_c (lo := 0) (hi := 0) (by decide)) h_x4 (by decide)
    exact (s_X5_difference_72 hσ h_x5 (zr_w (zr_c (lo := 0) (hi := 0) (by decide)) (by decide)) (zr_or (lo := 0) (hi := 255) 8 (zr_or (lo := 0) (hi := 255) 8 h_s1 h_s0 (by decide)) (zr_c (lo := 2) (hi := 2) (by decide)) (by decide)) h_s2)
  have h3 := zc_ltl (-1) (z_nle q1) h_x4 (zr_c (lo := 0) (hi := 0) (by decide)) (by decide)
  exact (s_X5_difference_72 hσ h_x5 (zr_w (zr_c (lo := 1) (hi := 1) (by decide)) (by decide)) (zr_or (lo := 0) (hi := 255) 8 (zr_or (lo := 0) (hi := 255) 8 h_s1 h_s0 (by decide)) (zr_c (lo := 2) (hi := 2) (by decide)) (by decide)) h_s2)
theorem s_X5_difference {G : Nat → Int} {σ : zSt} (hσ : zIC G σ) {x1 : Int32} (h_x1 : zr (0) (255) x1) {x2 : Int32} (h_x2 : zr (0) (255) x2) {x3 : Int32} (h_x3 : zr (0) (1) x3) : zok (fX5_difference σ x1 x2 x3) (zAi (zIC G) (fun v : Int32 => zr (0) (255) v)) := by
  unfold fX5_difference
  refine zok_br (zr_sub (lo := -256) (hi := 255) (zr_sub (lo := -255) (hi := 255) h_x1 h_x2 (by decide)) h_x3 (by decide)) (fun v2 e2 h1 => ?_)
  refine zok_br (zr_andr (lo := 0) (hi := 255) (zr_c (lo := 255) (hi := 255) (by decide)) (by decide)) (fun v3 e4 h3 => ?_)
  refine zok_br (zr_andr (lo := 0) (hi := 128) (zr_c (lo := 128) (hi := 128) (by decide)) (by decide)) (fun v4 e6 h5 => ?_)
  refine zok_pi (s_X5_by hσ.P h3) (fun v6 h7 => ?_)
  refine zok_if (fun q8 => ?_) (fun q8 => ?_)
  · have h9 := zc_eql (0) (0) q8 h5 (zr_c (lo := 0) (hi := 0) (by decide)) (by decide)
    exact (s_X5_difference_59 hσ h1 h3 (zr_w (zr_c (lo := 0) (hi := 0) (by decide)) (by decide)) (zr_or (lo := 0) (hi := 255) 8 h7 (zr_andr (lo := 0) (hi := 16) (zr_c (lo := 16) (hi := 16) (by decide)) (by decide)) (by decide)) (zr_c (lo := 1) (hi := 1) (by decide)))
  have h10 := zc_nel (1) (128) q8 h5 (zr_c (lo := 0) (hi := 0) (by decide)) (by decide)
  exact (s_X5_difference_59 hσ h1 h3 (zr_w (zr_c (lo := 4) (hi := 4) (by decide)) (by decide)) (zr_or (lo := 0) (hi := 255) 8 h7 (zr_andr (lo := 0) (hi := 16) (zr_c (lo := 16) (hi := 16) (by decide)) (by decide)) (by decide)) (zr_c (lo := 1) (hi := 1) (by decide)))
theorem s_X5_fetchWord {G : Nat → Int} {σ : zSt} (hσ : zIC G σ) : zok (fX5_fetchWord σ ) (zAi (zIC G) (fun v : Int32 => zr (0) (65535) v)) := by
  unfold fX5_fetchWord
  refine zok_ck rfl ?_
  refine zok_pi (s_X2_read hσ.P) (fun v2 h1 => ?_)
  refine zok_ck rfl ?_
  refine zok_pi (s_X2_read hσ.P) (fun v4 h2 => ?_)
  refine zok_br (zr_or (lo := 0) (hi := 65535) 16 h1 (zr_shl (lo := 0) (hi := 65280) 8 (by decide) h2 (by decide)) (by decide)) (fun v5 e4 h3 => ?_)
  refine zok_ck rfl ?_
  refine zok_ck rfl ?_
  refine zok_bs (hσ.wi 19 19 (by decide) (zr_andr (lo := 0) (hi := 65535) (zr_c (lo := 65535) (hi := 65535) (by decide)) (by decide)) (by decide +kernel)) (fun σ6 e6 i5 => ?_)
  exact zok_sai i5 h3
theorem s_X5_hl_27 {σ : zSt} (hσ : zPC σ) {s0 : Int32} (h_s0 : zr (0) (65535) s0) : zok (fX5_hl_27 σ s0) (zPi σ (fun v : Int32 => zr (0) (65535) v)) := by
  unfold fX5_hl_27
  exact zok_spi h_s0
theorem s_X5_hl {σ : zSt} (hσ : zPC σ) : zok (fX5_hl σ ) (zPi σ (fun v : Int32 => zr (0) (65535) v)) := by
  unfold fX5_hl
  refine zok_if (fun q1 => ?_) (fun q1 => ?_)
  · have h2 := zc_eql (6) (6) q1 (rC_5 hσ.sg _ (by decide)) (zr_c (lo := 6) (hi := 6) (by decide)) (by decide)
    refine zok_pi (s_X5_pairAt hσ (zr_w (zr_c (lo := 6) (hi := 6) (by decide)) (by decide))) (fun v2 h3 => ?_)
    exact (s_X5_hl_27 hσ h3)
  have h4 := zc_nel (7) (17) q1 (rC_5 hσ.sg _ (by decide)) (zr_c (lo := 6) (hi := 6) (by decide)) (by decide)
  have h5 := xC_sp hσ.sp h4 (by decide)
  refine zok_ck (zin_ok h5 (by decide)) ?_
  exact (s_X5_hl_27 hσ (rC_22 hσ.sg _ (z_ix h5 (by decide))))
theorem s_X5_pair {σ : zSt} (hσ : zPC σ) {x1 : Int32} (h_x1 : zr (0) (3) x1) : zok (fX5_pair σ x1) (zPi σ (fun v : Int32 => zr (0) (65535) v)) := by
  unfold fX5_pair
  refine zok_if (fun q1 => ?_) (fun q1 => ?_)
  · have h2 := zc_eql (0) (0) q1 h_x1 (zr_c (lo := 0) (hi := 0) (by decide)) (by decide)
    refine zok_pi (s_X5_pairAt hσ (zr_w (zr_c (lo := 2) (hi := 2) (by decide)) (by decide))) (fun v2 h3 => ?_)
    exact zok_spi h3
  have h4 := zc_nel (1) (3) q1 h_x1 (zr_c (lo := 0) (hi := 0) (by decide)) (by decide)
  refine zok_if (fun q5 => ?_) (fun q5 => ?_)
  · have h6 := zc_eql (1) (1) q5 h4 (zr_c (lo := 1) (hi := 1) (by decide)) (by decide)
    refine zok_pi (s_X5_pairAt hσ (zr_w (zr_c (lo := 4) (hi := 4) (by decide)) (by decide))) (fun v4 h7 => ?_)
    exact zok_spi h7
  have h8 := zc_nel (2) (3) q5 h4 (zr_c (lo := 1) (hi := 1) (by decide)) (by decide)
  refine zok_if (fun q9 => ?_) (fun q9 => ?_)
  · have h10 := zc_eql (2) (2) q9 h8 (zr_c (lo := 2) (hi := 2) (by decide)) (by decide)
    refine zok_pi (s_X5_hl hσ) (fun v6 h11 => ?_)
    exact zok_spi h11
  have h12 := zc_nel (3) (3) q9 h8 (zr_c (lo := 2) (hi := 2) (by decide)) (by decide)
  refine zok_ck rfl ?_
  exact zok_spi (rC_22 hσ.sg _ (by decide))
theorem s_X5_writeWord {G : Nat → Int} {σ : zSt} (hσ : zIC G σ) {x1 : Int32} (h_x1 : zr (0) (65535) x1) {x2 : Int32} (h_x2 : zr (0) (65535) x2) : zok (fX5_writeWord σ x1 x2) (zIC G) := by
  unfold fX5_writeWord
  refine zok_bu (s_X2_write hσ (zr_w h_x1 (by decide)) (zr_andr (lo := 0) (hi := 255) (zr_c (lo := 255) (hi := 255) (by decide)) (by decide))) (fun σ1 i1 => ?_)
  refine zok_bu (s_X2_write i1 (zr_w (zr_add (lo := 1) (hi := 65536) h_x1 (zr_c (lo := 1) (hi := 1) (by decide)) (by decide)) (by decide)) (zr_shr (lo := 0) (hi := 255) 8 (by decide) h_x2 (by decide))) (fun σ2 i2 => ?_)
  exact zok_some i2
theorem s_X5_putHl_32 {σ : zSt} (hσ : zPC σ) : zok (fX5_putHl_32 σ ) (zPu σ) := by
  unfold fX5_putHl_32
  exact zok_spu
theorem s_X5_putHl {G : Nat → Int} {σ : zSt} (hσ : zIC G σ) {x1 : Int32} (h_x1 : zr (-65536) (131071) x1) : zok (fX5_putHl σ x1) (zIC G) := by
  unfold fX5_putHl
  refine zok_if (fun q1 => ?_) (fun q1 => ?_)
  · have h2 := zc_eql (6) (6) q1 (rC_5 hσ.sg _ (by decide)) (zr_c (lo := 6) (hi := 6) (by decide)) (by decide)
    refine zok_bu (s_X5_putPairAt hσ (zr_w (zr_c (lo := 6) (hi := 6) (by decide)) (by decide)) h_x1) (fun σ2 i3 => ?_)
    exact zok_pau i3 (s_X5_putHl_32 i3.P)
  have h4 := zc_nel (7) (17) q1 (rC_5 hσ.sg _ (by decide)) (zr_c (lo := 6) (hi := 6) (by decide)) (by decide)
  have h5 := xC_sp hσ.sp h4 (by decide)
  refine zok_ck (zin_ok h5 (by decide)) ?_
  refine zok_bs (hσ.wi 16 17 (z_ix h5 (by decide)) (zr_andr (lo := 0) (hi := 65535) (zr_c (lo := 65535) (hi := 65535) (by decide)) (by decide)) (by decide +kernel)) (fun σ1 e7 i6 => ?_)
  exact zok_pau i6 (s_X5_putHl_32 i6.P)
theorem s_X5_putPair_65 {σ : zSt} (hσ : zPC σ) : zok (fX5_putPair_65 σ ) (zPu σ) := by
  unfold fX5_putPair_65
  exact zok_spu
theorem s_X5_putPair {G : Nat → Int} {σ : zSt} (hσ : zIC G σ) {x1 : Int32} (h_x1 : zr (0) (3) x1) {x2 : Int32} (h_x2 : zr (-1) (65536) x2) : zok (fX5_putPair σ x1 x2) (zIC G) := by
  unfold fX5_putPair
  refine zok_if (fun q1 => ?_) (fun q1 => ?_)
  · have h2 := zc_eql (0) (0) q1 h_x1 (zr_c (lo := 0) (hi := 0) (by decide)) (by decide)
    refine zok_bu (s_X5_putPairAt hσ (zr_w (zr_c (lo := 2) (hi := 2) (by decide)) (by decide)) (zr_w h_x2 (by decide))) (fun σ1 i3 => ?_)
    exact zok_pau i3 (s_X5_putPair_65 i3.P)
  have h4 := zc_nel (1) (3) q1 h_x1 (zr_c (lo := 0) (hi := 0) (by decide)) (by decide)
  refine zok_if (fun q5 => ?_) (fun q5 => ?_)
  · have h6 := zc_eql (1) (1) q5 h4 (zr_c (lo := 1) (hi := 1) (by decide)) (by decide)
    refine zok_bu (s_X5_putPairAt hσ (zr_w (zr_c (lo := 4) (hi := 4) (by decide)) (by decide)) (zr_w h_x2 (by decide))) (fun σ2 i7 => ?_)
    exact zok_pau i7 (s_X5_putPair_65 i7.P)
  have h8 := zc_nel (2) (3) q5 h4 (zr_c (lo := 1) (hi := 1) (by decide)) (by decide)
  refine zok_if (fun q9 => ?_) (fun q9 => ?_)
  · have h10 := zc_eql (2) (2) q9 h8 (zr_c (lo := 2) (hi := 2) (by decide)) (by decide)
    refine zok_bu (s_X5_putHl hσ (zr_w h_x2 (by decide))) (fun σ3 i11 => ?_)
    exact zok_pau i11 (s_X5_putPair_65 i11.P)
  have h12 := zc_nel (3) (3) q9 h8 (zr_c (lo := 2) (hi := 2) (by decide)) (by decide)
  refine zok_ck rfl ?_
  refine zok_bs (hσ.wi 18 18 (by decide) (zr_andr (lo := 0) (hi := 65535) (zr_c (lo := 65535) (hi := 65535) (by decide)) (by decide)) (by decide +kernel)) (fun σ4 e14 i13 => ?_)
  exact zok_pau i13 (s_X5_putPair_65 i13.P)
theorem s_X5_farPair_51 {σ : zSt} (hσ : zPC σ) : zok (fX5_farPair_51 σ ) (zPi σ (fun v : Int32 => zr (20) (20) v)) := by
  unfold fX5_farPair_51
  exact zok_spi (zr_c (lo := 20) (hi := 20) (by decide))
theorem s_X5_farPair {G : Nat → Int} {σ : zSt} (hσ : zIC G σ) {x1 : Int32} (h_x1 : zr (0) (7) x1) : zok (fX5_farPair σ x1) (zAi (zIC G) (fun v : Int32 => zr (20) (20) v)) := by
  unfold fX5_farPair
  refine zok_ai (s_X5_fetchWord hσ) (fun σ1 v2 i1 h2 => ?_)
  refine zok_ck rfl ?_
  refine zok_bs (i1.wi 20 20 (by decide) (zr_andr (lo := 0) (hi := 65535) (zr_c (lo := 65535) (hi := 65535) (by decide)) (by decide)) (by decide +kernel)) (fun σ3 e4 i3 => ?_)
  refine zok_if (fun q5 => ?_) (fun q5 => ?_)
  · have h6 := zc_eql (0) (0) q5 (zr_andr (lo := 0) (hi := 1) (zr_c (lo := 1) (hi := 1) (by decide)) (by decide)) (zr_c (lo := 0) (hi := 0) (by decide)) (by decide)
    refine zok_pi (s_X5_pair i3.P (zr_shr (lo := 0) (hi := 3) 1 (by decide) h_x1 (by decide))) (fun v8 h7 => ?_)
    refine zok_bu (s_X5_writeWord i3 h2 h7) (fun σ9 i8 => ?_)
    exact zok_pai i8 (s_X5_farPair_51 i8.P)
  have h9 := zc_nel (1) (1) q5 (zr_andr (lo := 0) (hi := 1) (zr_c (lo := 1) (hi := 1) (by decide)) (by decide)) (zr_c (lo := 0) (hi := 0) (by decide)) (by decide)
  refine zok_pi (s_X5_readWord i3.P h2) (fun v5 h10 => ?_)
  refine zok_bu (s_X5_putPair i3 (zr_shr (lo := 0) (hi := 3) 1 (by decide) h_x1 (by decide)) (zr_w h10 (by decide))) (fun σ6 i11 => ?_)
  exact zok_pai i11 (s_X5_farPair_51 i11.P)
theorem s_X5_putWide_44 {G : Nat → Int} {σ : zSt} (hσ : zIC G σ) {x1 : Int32} (h_x1 : zr (0) (65535) x1) {x2 : Int32} (h_x2 : zr (0) (65535) x2) {x3 : Int32} (h_x3 : zr (-65536) (131071) x3) {s0 : Int32} (h_s0 : zr (0) (64) s0) {s1 : Int32} (h_s1 : zr (0) (168) s1) {s2 : Int32} (h_s2 : zr (1) (1) s2) : zok (fX5_putWide_44 σ x1 x2 x3 s0 s1 s2) (zIC G) := by
  unfold fX5_putWide_44
  refine zok_ck (zin_ok h_s2 (by decide)) ?_
  refine zok_bs (hσ.wi 1 1 (z_ix h_s2 (by decide)) (zr_or (lo := 0) (hi := 255) 8 (zr_or (lo := 0) (hi := 255) 8 (zr_or (lo := 0) (hi := 255) 8 h_s1 h_s0 (by decide)) (zr_andr (lo := 0) (hi := 16) (zr_c (lo := 16) (hi := 16) (by decide)) (by decide)) (by decide)) (zr_andr (lo := 0) (hi := 1) (zr_c (lo := 1) (hi := 1) (by decide)) (by decide)) (by decide)) (by decide +kernel)) (fun σ1 e2 i1 => ?_)
  exact zok_some i1
theorem s_X5_putWide {G : Nat → Int} {σ : zSt} (hσ : zIC G σ) {x1 : Int32} (h_x1 : zr (0) (65535) x1) {x2 : Int32} (h_x2 : zr (0) (65535) x2) {x3 : Int32} (h_x3 : zr (-65536) (131071) x3) : zok (fX5_putWide σ x1 x2 x3) (zIC G) := by
  unfold fX5_putWide
  refine zok_ck rfl ?_
  refine zok_bs (hσ.wi 20 20 (by decide) (zr_andr (lo := 0) (hi := 65535) (zr_c (lo := 65535) (hi := 65535) (by decide)) (by decide)) (by decide +kernel)) (fun σ2 e2 i1 => ?_)
  refine zok_bu (s_X5_putHl i1 h_x3) (fun σ3 i3 => ?_)
  refine zok_if (fun q4 => ?_) (fun q4 => ?_)
  · have h5 := zc_eql (0) (0) q4 (zr_andr (lo := 0) (hi := 65535) (zr_c (lo := 65535) (hi := 65535) (by decide)) (by decide)) (zr_c (lo := 0) (hi := 0) (by decide)) (by decide)
    exact (s_X5_putWide_44 i3 h_x1 h_x2 h_x3 (zr_w (zr_c (lo := 64) (hi := 64) (by decide)) (by decide)) (zr_andr (lo := 0) (hi := 168) (zr_c (lo := 168) (hi := 168) (by decide)) (by decide)) (zr_c (lo := 1) (hi := 1) (by decide)))
  have h6 := zc_nel (1) (65535) q4 (zr_andr (lo := 0) (hi := 65535) (zr_c (lo := 65535) (hi := 65535) (by decide)) (by decide)) (zr_c (lo := 0) (hi := 0) (by decide)) (by decide)
  exact (s_X5_putWide_44 i3 h_x1 h_x2 h_x3 (zr_w (zr_c (lo := 0) (hi := 0) (by decide)) (by decide)) (zr_andr (lo := 0) (hi := 168) (zr_c (lo := 168) (hi := 168) (by decide)) (by decide)) (zr_c (lo := 1) (hi := 1) (by decide)))
theorem s_X5_takePair_63 {G : Nat → Int} {σ : zSt} (hσ : zIC G σ) {s0 : Int32} (h_s0 : zr (0) (4) s0) {s1 : Int32} (h_s1 : zr (0) (255) s1) {s2 : Int32} (h_s2 : zr (1) (1) s2) : zok (fX5_takePair_63 σ s0 s1 s2) (zAi (zIC G) (fun v : Int32 => zr (15) (15) v)) := by
  unfold fX5_takePair_63
  refine zok_ck (zin_ok h_s2 (by decide)) ?_
  refine zok_bs (hσ.wi 1 1 (z_ix h_s2 (by decide)) (zr_or (lo := 0) (hi := 255) 8 h_s1 (zr_or (lo := 0) (hi := 7) 3 h_s0 (zr_c (lo := 2) (hi := 2) (by decide)) (by decide)) (by decide)) (by decide +kernel)) (fun σ1 e2 i1 => ?_)
  exact zok_sai i1 (zr_c (lo := 15) (hi := 15) (by decide))
theorem s_X5_takePair {G : Nat → Int} {σ : zSt} (hσ : zIC G σ) {x1 : Int32} (h_x1 : zr (0) (3) x1) : zok (fX5_takePair σ x1) (zAi (zIC G) (fun v : Int32 => zr (15) (15) v)) := by
  unfold fX5_takePair
  refine zok_pi (s_X5_hl hσ.P) (fun v3 h1 => ?_)
  refine zok_pi (s_X5_pair hσ.P h_x1) (fun v5 h2 => ?_)
  refine zok_ck rfl ?_
  refine zok_br (zr_sub (lo := -65536) (hi := 65535) (zr_sub (lo := -65535) (hi := 65535) h1 h2 (by decide)) (zr_andr (lo := 0) (hi := 1) (zr_c (lo := 1) (hi := 1) (by decide)) (by decide)) (by decide)) (fun v6 e4 h3 => ?_)
  refine zok_bu (s_X5_putWide hσ h1 h2 (zr_w h3 (by decide))) (fun σ7 i5 => ?_)
  refine zok_br (zr_andr (lo := 0) (hi := 32768) (zr_c (lo := 32768) (hi := 32768) (by decide)) (by decide)) (fun v8 e7 h6 => ?_)
  refine zok_ck rfl ?_
  refine zok_if (fun q8 => ?_) (fun q8 => ?_)
  · have h9 := zc_eql (0) (0) q8 h6 (zr_c (lo := 0) (hi := 0) (by decide)) (by decide)
    exact (s_X5_takePair_63 i5 (zr_w (zr_c (lo := 0) (hi := 0) (by decide)) (by decide)) (rC_21 i5.sg _ (by decide)) (zr_c (lo := 1) (hi := 1) (by decide)))
  have h10 := zc_nel (1) (32768) q8 h6 (zr_c (lo := 0) (hi := 0) (by decide)) (by decide)
  exact (s_X5_takePair_63 i5 (zr_w (zr_c (lo := 4) (hi := 4) (by decide)) (by decide)) (rC_21 i5.sg _ (by decide)) (zr_c (lo := 1) (hi := 1) (by decide)))
theorem s_X5_addPairAndCarry_65 {G : Nat → Int} {σ : zSt} (hσ : zIC G σ) {s0 : Int32} (h_s0 : zr (0) (4) s0) {s1 : Int32} (h_s1 : zr (0) (255) s1) {s2 : Int32} (h_s2 : zr (1) (1) s2) : zok (fX5_addPairAndCarry_65 σ s0 s1 s2) (zAi (zIC G) (fun v : Int32 => zr (15) (15) v)) := by
  unfold fX5_addPairAndCarry_65
  refine zok_ck (zin_ok h_s2 (by decide)) ?_
  refine zok_bs (hσ.wi 1 1 (z_ix h_s2 (by decide)) (zr_or (lo := 0) (hi := 255) 8 h_s1 h_s0 (by decide)) (by decide +kernel)) (fun σ1 e2 i1 => ?_)
  exact zok_sai i1 (zr_c (lo := 15) (hi := 15) (by decide))
theorem s_X5_addPairAndCarry {G : Nat → Int} {σ : zSt} (hσ : zIC G σ) {x1 : Int32} (h_x1 : zr (0) (3) x1) : zok (fX5_addPairAndCarry σ x1) (zAi (zIC G) (fun v : Int32 => zr (15) (15) v)) := by
  unfold fX5_addPairAndCarry
  refine zok_pi (s_X5_hl hσ.P) (fun v3 h1 => ?_)
  refine zok_pi (s_X5_pair hσ.P h_x1) (fun v5 h2 => ?_)
  refine zok_ck rfl ?_
  refine zok_br (zr_add (lo := 0) (hi := 131071) (zr_add (lo := 0) (hi := 131070) h1 h2 (by decide)) (zr_andr (lo := 0) (hi := 1) (zr_c (lo := 1) (hi := 1) (by decide)) (by decide)) (by decide)) (fun v6 e4 h3 => ?_)
  refine zok_bu (s_X5_putWide hσ h1 h2 (zr_w h3 (by decide))) (fun σ7 i5 => ?_)
  refine zok_br (zr_andr (lo := 0) (hi := 32768) (zr_c (lo := 32768) (hi := 32768) (by decide)) (by decide)) (fun v8 e7 h6 => ?_)
  refine zok_ck rfl ?_
  refine zok_if (fun q8 => ?_) (fun q8 => ?_)
  · have h9 := zc_eql (0) (0) q8 h6 (zr_c (lo := 0) (hi := 0) (by decide)) (by decide)
    exact (s_X5_addPairAndCarry_65 i5 (zr_w (zr_c (lo := 0) (hi := 0) (by decide)) (by decide)) (rC_21 i5.sg _ (by decide)) (zr_c (lo := 1) (hi := 1) (by decide)))
  have h10 := zc_nel (1) (32768) q8 h6 (zr_c (lo := 0) (hi := 0) (by decide)) (by decide)
  exact (s_X5_addPairAndCarry_65 i5 (zr_w (zr_c (lo := 4) (hi := 4) (by decide)) (by decide)) (rC_21 i5.sg _ (by decide)) (zr_c (lo := 1) (hi := 1) (by decide)))
theorem s_X5_takeFromPort_26 {G : Nat → Int} {σ : zSt} (hσ : zIC G σ) {x2 : Int32} (h_x2 : zr (0) (255) x2) : zok (fX5_takeFromPort_26 σ x2) (zIC G) := by
  unfold fX5_takeFromPort_26
  refine zok_ck rfl ?_
  refine zok_pi (s_X5_by hσ.P h_x2) (fun v2 h1 => ?_)
  refine zok_pi (s_X5_parity hσ.P h_x2) (fun v4 h2 => ?_)
  refine zok_ck rfl ?_
  refine zok_bs (hσ.wi 1 1 (by decide) (zr_or (lo := 0) (hi := 255) 8 (zr_or (lo := 0) (hi := 255) 8 (zr_andr (lo := 0) (hi := 1) (zr_c (lo := 1) (hi := 1) (by decide)) (by decide)) h1 (by decide)) h2 (by decide)) (by decide +kernel)) (fun σ5 e4 i3 => ?_)
  exact zok_some i3
theorem s_X5_takeFromPort {G : Nat → Int} {σ : zSt} (hσ : zIC G σ) {x1 : Int32} (h_x1 : zr (0) (7) x1) : zok (fX5_takeFromPort σ x1) (zIC G) := by
  unfold fX5_takeFromPort
  refine zok_ck rfl ?_
  refine zok_ai (s_X4_read hσ (rC_21 hσ.sg _ (by decide))) (fun σ6 v7 i1 h2 => ?_)
  refine zok_if (fun q3 => ?_) (fun q3 => ?_)
  · have h4 := zc_eql (6) (6) q3 h_x1 (zr_c (lo := 6) (hi := 6) (by decide)) (by decide)
    exact (s_X5_takeFromPort_26 i1 h2)
  refine zok_bu (s_X5_putOne i1 h_x1 h2) (fun σ8 i5 => ?_)
  exact (s_X5_takeFromPort_26 i5 h2)
theorem s_X5_behindEd_160 {σ : zSt} (hσ : zPC σ) {s0 : Int32} (h_s0 : zr (15) (15) s0) : zok (fX5_behindEd_160 σ s0) (zPi σ (fun v : Int32 => zr (8) (20) v)) := by
  unfold fX5_behindEd_160
  exact zok_spi (zr_w h_s0 (by decide))
theorem s_X5_behindEd_131 {G : Nat → Int} {σ : zSt} (hσ : zIC G σ) {s0 : Int32} (h_s0 : zr (0) (255) s0) {s1 : Int32} (h_s1 : zr (0) (255) s1) : zok (fX5_behindEd_131 σ s0 s1) (zAi (zIC G) (fun v : Int32 => zr (8) (20) v)) := by
  unfold fX5_behindEd_131
  refine zok_bu (s_X4_write hσ h_s1 h_s0) (fun σ1 i1 => ?_)
  exact zok_sai i1 (zr_w (zr_c (lo := 12) (hi := 12) (by decide)) (by decide))
theorem s_X5_behindEd {G : Nat → Int} {σ : zSt} (hσ : zIC G σ) {x1 : Int32} (h_x1 : zr (0) (255) x1) : zok (fX5_behindEd σ x1) (zAi (zIC G) (fun v : Int32 => zr (8) (20) v)) := by
  unfold fX5_behindEd
  refine zok_if (fun q1 => ?_) (fun q1 => ?_)
  · have h2 := zc_eql (1) (1) q1 (zr_shr (lo := 0) (hi := 3) 6 (by decide) h_x1 (by decide)) (zr_c (lo := 1) (hi := 1) (by decide)) (by decide)
    refine zok_br (zr_andr (lo := 0) (hi := 7) (zr_c (lo := 7) (hi := 7) (by decide)) (by decide)) (fun v2 e4 h3 => ?_)
    refine zok_if (fun q5 => ?_) (fun q5 => ?_)
    · have h6 := zc_eql (0) (0) q5 (zr_andr (lo := 0) (hi := 7) (zr_c (lo := 7) (hi := 7) (by decide)) (by decide)) (zr_c (lo := 0) (hi := 0) (by decide)) (by decide)
      refine zok_pi (s_X5_pairAt hσ.P (zr_w (zr_c (lo := 2) (hi := 2) (by decide)) (by decide))) (fun v4 h7 => ?_)
      refine zok_ck rfl ?_
      refine zok_bs (hσ.wi 20 20 (by decide) (zr_andr (lo := 0) (hi := 65535) (zr_c (lo := 65535) (hi := 65535) (by decide)) (by decide)) (by decide +kernel)) (fun σ5 e9 i8 => ?_)
      refine zok_bu (s_X5_takeFromPort i8 h3) (fun σ6 i10 => ?_)
      exact zok_sai i10 (zr_w (zr_c (lo := 12) (hi := 12) (by decide)) (by decide))
    have h11 := zc_nel (1) (7) q5 (zr_andr (lo := 0) (hi := 7) (zr_c (lo := 7) (hi := 7) (by decide)) (by decide)) (zr_c (lo := 0) (hi := 0) (by decide)) (by decide)
    refine zok_if (fun q12 => ?_) (fun q12 => ?_)
    · have h13 := zc_eql (1) (1) q12 h11 (zr_c (lo := 1) (hi := 1) (by decide)) (by decide)
      refine zok_pi (s_X5_pairAt hσ.P (zr_w (zr_c (lo := 2) (hi := 2) (by decide)) (by decide))) (fun v8 h14 => ?_)
      refine zok_ck rfl ?_
      refine zok_bs (hσ.wi 20 20 (by decide) (zr_andr (lo := 0) (hi := 65535) (zr_c (lo := 65535) (hi := 65535) (by decide)) (by decide)) (by decide +kernel)) (fun σ9 e16 i15 => ?_)
      refine zok_ck rfl ?_
      refine zok_if (fun q17 => ?_) (fun q17 => ?_)
      · have h18 := zc_eql (6) (6) q17 h3 (zr_c (lo := 6) (hi := 6) (by decide)) (by decide)
        exact (s_X5_behindEd_131 i15 (zr_w (zr_c (lo := 0) (hi := 0) (by decide)) (by decide)) (rC_21 i15.sg _ (by decide)))
      refine zok_pi (s_X5_one i15.P h3) (fun v11 h19 => ?_)
      exact (s_X5_behindEd_131 i15 h19 (rC_21 i15.sg _ (by decide)))
    have h20 := zc_nel (2) (7) q12 h11 (zr_c (lo := 1) (hi := 1) (by decide)) (by decide)
    refine zok_if (fun q21 => ?_) (fun q21 => ?_)
    · have h22 := zc_eql (2) (2) q21 h20 (zr_c (lo := 2) (hi := 2) (by decide)) (by decide)
      refine zok_if (fun q23 => ?_) (fun q23 => ?_)
      · have h24 := zc_eql (0) (0) q23 (zr_andr (lo := 0) (hi := 1) (zr_c (lo := 1) (hi := 1) (by decide)) (by decide)) (zr_c (lo := 0) (hi := 0) (by decide)) (by decide)
        refine zok_ai (s_X5_takePair hσ (zr_shr (lo := 0) (hi := 3) 1 (by decide) h3 (by decide))) (fun σ14 v15 i25 h26 => ?_)
        exact zok_pai i25 (s_X5_behindEd_160 i25.P h26)
      have h27 := zc_nel (1) (1) q23 (zr_andr (lo := 0) (hi := 1) (zr_c (lo := 1) (hi := 1) (by decide)) (by decide)) (zr_c (lo := 0) (hi := 0) (by decide)) (by decide)
      refine zok_ai (s_X5_addPairAndCarry hσ (zr_shr (lo := 0) (hi := 3) 1 (by decide) h3 (by decide))) (fun σ12 v13 i28 h29 => ?_)
      exact zok_pai i28 (s_X5_behindEd_160 i28.P h29)
    have h30 := zc_nel (3) (7) q21 h20 (zr_c (lo := 2) (hi := 2) (by decide)) (by decide)
    refine zok_if (fun q31 => ?_) (fun q31 => ?_)
    · have h32 := zc_eql (3) (3) q31 h30 (zr_c (lo := 3) (hi := 3) (by decide)) (by decide)
      refine zok_ai (s_X5_farPair hσ h3) (fun σ16 v17 i33 h34 => ?_)
      exact zok_sai i33 (zr_w h34 (by decide))
    have h35 := zc_nel (4) (7) q31 h30 (zr_c (lo := 3) (hi := 3) (by decide)) (by decide)
    refine zok_if (fun q36 => ?_) (fun q36 => ?_)
    · have h37 := zc_eql (4) (4) q36 h35 (zr_c (lo := 4) (hi := 4) (by decide)) (by decide)
      refine zok_ck rfl ?_
      refine zok_ai (s_X5_difference hσ (zr_w (zr_c (lo := 0) (hi := 0) (by decide)) (by decide)) (rC_21 hσ.sg _ (by decide)) (zr_w (zr_c (lo := 0) (hi := 0) (by decide)) (by decide))) (fun σ18 v19 i38 h39 => ?_)
      refine zok_ck rfl ?_
      refine zok_bs (i38.wi 0 0 (by decide) h39 (by decide +kernel)) (fun σ20 e41 i40 => ?_)
      exact zok_sai i40 (zr_w (zr_c (lo := 8) (hi := 8) (by decide)) (by decide))
    have h42 := zc_nel (5) (7) q36 h35 (zr_c (lo := 4) (hi := 4) (by decide)) (by decide)
    refine zok_if (fun q43 => ?_) (fun q43 => ?_)
    · have h44 := zc_eql (5) (5) q43 h42 (zr_c (lo := 5) (hi := 5) (by decide)) (by decide)
      refine zok_ai (s_X5_pop hσ) (fun σ21 v22 i45 h46 => ?_)
      refine zok_bu (s_X5_goTo i45 h46) (fun σ23 i47 => ?_)
      refine zok_ck rfl ?_
      refine zok_ck rfl ?_
      refine zok_bs (i47.wi 23 23 (by decide) (rC_24 i47.sg _ (by decide)) (by decide +kernel)) (fun σ24 e49 i48 => ?_)
      exact zok_sai i48 (zr_w (zr_c (lo := 14) (hi := 14) (by decide)) (by decide))
    have h50 := zc_nel (6) (7) q43 h42 (zr_c (lo := 5) (hi := 5) (by decide)) (by decide)
    refine zok_if (fun q51 => ?_) (fun q51 => ?_)
    · have h52 := zc_eql (6) (6) q51 h50 (zr_c (lo := 6) (hi := 6) (by decide)) (by decide)
      refine zok_ck rfl ?_
      refine zok_bs (hσ.wi 25 25 (by decide) (zr_max (lo := 0) (hi := 2) (zr_c (lo := 0) (hi := 0) (by decide)) (zr_sub (lo := -1) (hi := 2) (zr_andr (lo := 0) (hi := 3) (zr_c (lo := 3) (hi := 3) (by decide)) (by decide)) (zr_c (lo := 1) (hi := 1) (by decide)) (by decide)) (by decide)) (by decide +kernel)) (fun σ25 e54 i53 => ?_)
      exact zok_sai i53 (zr_w (zr_c (lo := 8) (hi := 8) (by decide)) (by decide))
    have h55 := zc_nel (7) (7) q51 h50 (zr_c (lo := 6) (hi := 6) (by decide)) (by decide)
    refine zok_ai (s_X5_moreOfA hσ h3) (fun σ26 v27 i56 h57 => ?_)
    exact zok_sai i56 (zr_w h57 (by decide))
  exact zok_sai hσ (zr_w (zr_c (lo := 8) (hi := 8) (by decide)) (by decide))
theorem s_X5_exchange_211 {G : Nat → Int} {σ : zSt} (hσ : zIC G σ) {x1 : Int32} (h_x1 : zr (1) (7) x1) : zok (fX5_exchange_211 σ x1) (zAi (zIC G) (fun v : Int32 => zr (4) (19) v)) := by
  unfold fX5_exchange_211
  refine zok_ck rfl ?_
  refine zok_bs (hσ.wi 23 23 (by decide) (zr_andr (lo := 0) (hi := 1) (zr_c (lo := 1) (hi := 1) (by decide)) (by decide)) (by decide +kernel)) (fun σ1 e2 i1 => ?_)
  refine zok_ck rfl ?_
  refine zok_bs (i1.wi 24 24 (by decide) (zr_andr (lo := 0) (hi := 1) (zr_c (lo := 1) (hi := 1) (by decide)) (by decide)) (by decide +kernel)) (fun σ2 e4 i3 => ?_)
  refine zok_ck rfl ?_
  refine zok_bs (i3.wi 28 28 (by decide) (zr_andr (lo := 0) (hi := 1) (zr_c (lo := 1) (hi := 1) (by decide)) (by decide)) (by decide +kernel)) (fun σ3 e6 i5 => ?_)
  exact zok_sai i5 (zr_w (zr_c (lo := 4) (hi := 4) (by decide)) (by decide))
theorem s_X5_exchange {G : Nat → Int} {σ : zSt} (hσ : zIC G σ) {x1 : Int32} (h_x1 : zr (0) (7) x1) : zok (fX5_exchange σ x1) (zAi (zIC G) (fun v : Int32 => zr (4) (19) v)) := by
  unfold fX5_exchange
  refine zok_if (fun q1 => ?_) (fun q1 => ?_)
  · have h2 := zc_eql (0) (0) q1 h_x1 (zr_c (lo := 0) (hi := 0) (by decide)) (by decide)
    refine zok_ai (s_X5_fetchWord hσ) (fun σ4 v5 i3 h4 => ?_)
    refine zok_bu (s_X5_goTo i3 h4) (fun σ6 i5 => ?_)
    exact zok_sai i5 (zr_w (zr_c (lo := 10) (hi := 10) (by decide)) (by decide))
  have h6 := zc_nel (1) (7) q1 h_x1 (zr_c (lo := 0) (hi := 0) (by decide)) (by decide)
  refine zok_if (fun q7 => ?_) (fun q7 => ?_)
  · have h8 := zc_eql (1) (1) q7 h6 (zr_c (lo := 1) (hi := 1) (by decide)) (by decide)
    exact (s_X5_exchange_211 hσ (zr_w h8 (by decide)))
  have h9 := zc_nel (2) (7) q7 h6 (zr_c (lo := 1) (hi := 1) (by decide)) (by decide)
  refine zok_if (fun q10 => ?_) (fun q10 => ?_)
  · have h11 := zc_eql (2) (2) q10 h9 (zr_c (lo := 2) (hi := 2) (by decide)) (by decide)
    refine zok_ai (s_X5_fetch hσ) (fun σ7 v8 i12 h13 => ?_)
    refine zok_ck rfl ?_
    refine zok_bu (s_X4_write i12 h13 (rC_21 i12.sg _ (by decide))) (fun σ9 i14 => ?_)
    refine zok_ck rfl ?_
    refine zok_ck rfl ?_
    refine zok_bs (i14.wi 20 20 (by decide) (zr_or (lo := 0) (hi := 65535) 16 (zr_shl (lo := 0) (hi := 65280) 8 (by decide) (rC_21 i14.sg _ (by decide)) (by decide)) (zr_andr (lo := 0) (hi := 255) (zr_c (lo := 255) (hi := 255) (by decide)) (by decide)) (by decide)) (by decide +kernel)) (fun σ10 e16 i15 => ?_)
    exact zok_sai i15 (zr_w (zr_c (lo := 11) (hi := 11) (by decide)) (by decide))
  have h17 := zc_nel (3) (7) q10 h9 (zr_c (lo := 2) (hi := 2) (by decide)) (by decide)
  refine zok_if (fun q18 => ?_) (fun q18 => ?_)
  · have h19 := zc_eql (3) (3) q18 h17 (zr_c (lo := 3) (hi := 3) (by decide)) (by decide)
    refine zok_ai (s_X5_fetch hσ) (fun σ11 v12 i20 h21 => ?_)
    refine zok_ck rfl ?_
    refine zok_ck rfl ?_
    refine zok_bs (i20.wi 20 20 (by decide) (zr_andr (lo := 0) (hi := 65535) (zr_c (lo := 65535) (hi := 65535) (by decide)) (by decide)) (by decide +kernel)) (fun σ13 e23 i22 => ?_)
    refine zok_ai (s_X4_read i22 h21) (fun σ14 v15 i24 h25 => ?_)
    refine zok_ck rfl ?_
    refine zok_bs (i24.wi 0 0 (by decide) h25 (by decide +kernel)) (fun σ16 e27 i26 => ?_)
    exact zok_sai i26 (zr_w (zr_c (lo := 11) (hi := 11) (by decide)) (by decide))
  have h28 := zc_nel (4) (7) q18 h17 (zr_c (lo := 3) (hi := 3) (by decide)) (by decide)
  refine zok_if (fun q29 => ?_) (fun q29 => ?_)
  · have h30 := zc_eql (4) (4) q29 h28 (zr_c (lo := 4) (hi := 4) (by decide)) (by decide)
    refine zok_ck rfl ?_
    refine zok_pi (s_X5_readWord hσ.P (rC_22 hσ.sg _ (by decide))) (fun v18 h31 => ?_)
    refine zok_ck rfl ?_
    refine zok_pi (s_X5_hl hσ.P) (fun v20 h32 => ?_)
    refine zok_bu (s_X5_writeWord hσ (rC_22 hσ.sg _ (by decide)) h32) (fun σ21 i33 => ?_)
    refine zok_bu (s_X5_putHl i33 (zr_w h31 (by decide))) (fun σ22 i34 => ?_)
    refine zok_ck rfl ?_
    refine zok_bs (i34.wi 20 20 (by decide) h31 (by decide +kernel)) (fun σ23 e36 i35 => ?_)
    exact zok_sai i35 (zr_w (zr_c (lo := 19) (hi := 19) (by decide)) (by decide))
  have h37 := zc_nel (5) (7) q29 h28 (zr_c (lo := 4) (hi := 4) (by decide)) (by decide)
  refine zok_if (fun q38 => ?_) (fun q38 => ?_)
  · have h39 := zc_eql (5) (5) q38 h37 (zr_c (lo := 5) (hi := 5) (by decide)) (by decide)
    refine zok_pi (s_X5_pairAt hσ.P (zr_w (zr_c (lo := 4) (hi := 4) (by decide)) (by decide))) (fun v25 h40 => ?_)
    refine zok_pi (s_X5_pairAt hσ.P (zr_w (zr_c (lo := 6) (hi := 6) (by decide)) (by decide))) (fun v27 h41 => ?_)
    refine zok_bu (s_X5_putPairAt hσ (zr_w (zr_c (lo := 4) (hi := 4) (by decide)) (by decide)) (zr_w h41 (by decide))) (fun σ28 i42 => ?_)
    refine zok_bu (s_X5_putPairAt i42 (zr_w (zr_c (lo := 6) (hi := 6) (by decide)) (by decide)) (zr_w h40 (by decide))) (fun σ29 i43 => ?_)
    exact zok_sai i43 (zr_w (zr_c (lo := 4) (hi := 4) (by decide)) (by decide))
  have h44 := zc_nel (6) (7) q38 h37 (zr_c (lo := 5) (hi := 5) (by decide)) (by decide)
  exact (s_X5_exchange_211 hσ (zr_w h44 (by decide)))
theorem s_X5_sum_61 {G : Nat → Int} {σ : zSt} (hσ : zIC G σ) {x4 : Int32} (h_x4 : zr (0) (511) x4) {x5 : Int32} (h_x5 : zr (0) (255) x5) {s0 : Int32} (h_s0 : zr (0) (4) s0) {s1 : Int32} (h_s1 : zr (0) (255) s1) {s2 : Int32} (h_s2 : zr (1) (1) s2) : zok (fX5_sum_61 σ x4 x5 s0 s1 s2) (zAi (zIC G) (fun v : Int32 => zr (0) (255) v)) := by
  unfold fX5_sum_61
  refine zok_ck (zin_ok h_s2 (by decide)) ?_
  refine zok_bs (hσ.wi 1 1 (z_ix h_s2 (by decide)) (zr_or (lo := 0) (hi := 255) 8 (zr_or (lo := 0) (hi := 255) 8 h_s1 h_s0 (by decide)) (zr_shr (lo := 0) (hi := 1) 8 (by decide) h_x4 (by decide)) (by decide)) (by decide +kernel)) (fun σ1 e2 i1 => ?_)
  exact zok_sai i1 h_x5
theorem s_X5_sum {G : Nat → Int} {σ : zSt} (hσ : zIC G σ) {x1 : Int32} (h_x1 : zr (0) (255) x1) {x2 : Int32} (h_x2 : zr (0) (255) x2) {x3 : Int32} (h_x3 : zr (0) (1) x3) : zok (fX5_sum σ x1 x2 x3) (zAi (zIC G) (fun v : Int32 => zr (0) (255) v)) := by
  unfold fX5_sum
  refine zok_br (zr_add (lo := 0) (hi := 511) (zr_add (lo := 0) (hi := 510) h_x1 h_x2 (by decide)) h_x3 (by decide)) (fun v2 e2 h1 => ?_)
  refine zok_br (zr_andr (lo := 0) (hi := 255) (zr_c (lo := 255) (hi := 255) (by decide)) (by decide)) (fun v3 e4 h3 => ?_)
  refine zok_br (zr_andr (lo := 0) (hi := 128) (zr_c (lo := 128) (hi := 128) (by decide)) (by decide)) (fun v4 e6 h5 => ?_)
  refine zok_pi (s_X5_by hσ.P h3) (fun v6 h7 => ?_)
  refine zok_if (fun q8 => ?_) (fun q8 => ?_)
  · have h9 := zc_eql (0) (0) q8 h5 (zr_c (lo := 0) (hi := 0) (by decide)) (by decide)
    exact (s_X5_sum_61 hσ h1 h3 (zr_w (zr_c (lo := 0) (hi := 0) (by decide)) (by decide)) (zr_or (lo := 0) (hi := 255) 8 h7 (zr_andr (lo := 0) (hi := 16) (zr_c (lo := 16) (hi := 16) (by decide)) (by decide)) (by decide)) (zr_c (lo := 1) (hi := 1) (by decide)))
  have h10 := zc_nel (1) (128) q8 h5 (zr_c (lo := 0) (hi := 0) (by decide)) (by decide)
  exact (s_X5_sum_61 hσ h1 h3 (zr_w (zr_c (lo := 4) (hi := 4) (by decide)) (by decide)) (zr_or (lo := 0) (hi := 255) 8 h7 (zr_andr (lo := 0) (hi := 16) (zr_c (lo := 16) (hi := 16) (by decide)) (by decide)) (by decide)) (zr_c (lo := 1) (hi := 1) (by decide)))
theorem s_X5_doWith_292 {σ : zSt} (hσ : zPC σ) : zok (fX5_doWith_292 σ ) (zPu σ) := by
  unfold fX5_doWith_292
  exact zok_spu
theorem s_X5_doWith {G : Nat → Int} {σ : zSt} (hσ : zIC G σ) {x1 : Int32} (h_x1 : zr (0) (7) x1) {x2 : Int32} (h_x2 : zr (0) (255) x2) : zok (fX5_doWith σ x1 x2) (zIC G) := by
  unfold fX5_doWith
  refine zok_if (fun q1 => ?_) (fun q1 => ?_)
  · have h2 := zc_eql (0) (0) q1 h_x1 (zr_c (lo := 0) (hi := 0) (by decide)) (by decide)
    refine zok_ck rfl ?_
    refine zok_ai (s_X5_sum hσ (rC_21 hσ.sg _ (by decide)) h_x2 (zr_w (zr_c (lo := 0) (hi := 0) (by decide)) (by decide))) (fun σ1 v2 i3 h4 => ?_)
    refine zok_ck rfl ?_
    refine zok_bs (i3.wi 0 0 (by decide) h4 (by decide +kernel)) (fun σ3 e6 i5 => ?_)
    exact zok_pau i5 (s_X5_doWith_292 i5.P)
  have h7 := zc_nel (1) (7) q1 h_x1 (zr_c (lo := 0) (hi := 0) (by decide)) (by decide)
  refine zok_if (fun q8 => ?_) (fun q8 => ?_)
  · have h9 := zc_eql (1) (1) q8 h7 (zr_c (lo := 1) (hi := 1) (by decide)) (by decide)
    refine zok_ck rfl ?_
    refine zok_ck rfl ?_
    refine zok_ai (s_X5_sum hσ (rC_21 hσ.sg _ (by decide)) h_x2 (zr_andr (lo := 0) (hi := 1) (zr_c (lo := 1) (hi := 1) (by decide)) (by decide))) (fun σ4 v5 i10 h11 => ?_)
    refine zok_ck rfl ?_
    refine zok_bs (i10.wi 0 0 (by decide) h11 (by decide +kernel)) (fun σ6 e13 i12 => ?_)
    exact zok_pau i12 (s_X5_doWith_292 i12.P)
  have h14 := zc_nel (2) (7) q8 h7 (zr_c (lo := 1) (hi := 1) (by decide)) (by decide)
  refine zok_if (fun q15 => ?_) (fun q15 => ?_)
  · have h16 := zc_eql (2) (2) q15 h14 (zr_c (lo := 2) (hi := 2) (by decide)) (by decide)
    refine zok_ck rfl ?_
    refine zok_ai (s_X5_difference hσ (rC_21 hσ.sg _ (by decide)) h_x2 (zr_w (zr_c (lo := 0) (hi := 0) (by decide)) (by decide))) (fun σ7 v8 i17 h18 => ?_)
    refine zok_ck rfl ?_
    refine zok_bs (i17.wi 0 0 (by decide) h18 (by decide +kernel)) (fun σ9 e20 i19 => ?_)
    exact zok_pau i19 (s_X5_doWith_292 i19.P)
  have h21 := zc_nel (3) (7) q15 h14 (zr_c (lo := 2) (hi := 2) (by decide)) (by decide)
  refine zok_if (fun q22 => ?_) (fun q22 => ?_)
  · have h23 := zc_eql (3) (3) q22 h21 (zr_c (lo := 3) (hi := 3) (by decide)) (by decide)
    refine zok_ck rfl ?_
    refine zok_ck rfl ?_
    refine zok_ai (s_X5_difference hσ (rC_21 hσ.sg _ (by decide)) h_x2 (zr_andr (lo := 0) (hi := 1) (zr_c (lo := 1) (hi := 1) (by decide)) (by decide))) (fun σ10 v11 i24 h25 => ?_)
    refine zok_ck rfl ?_
    refine zok_bs (i24.wi 0 0 (by decide) h25 (by decide +kernel)) (fun σ12 e27 i26 => ?_)
    exact zok_pau i26 (s_X5_doWith_292 i26.P)
  have h28 := zc_nel (4) (7) q22 h21 (zr_c (lo := 3) (hi := 3) (by decide)) (by decide)
  refine zok_if (fun q29 => ?_) (fun q29 => ?_)
  · have h30 := zc_eql (4) (4) q29 h28 (zr_c (lo := 4) (hi := 4) (by decide)) (by decide)
    refine zok_ck rfl ?_
    refine zok_ck rfl ?_
    refine zok_bs (hσ.wi 0 0 (by decide) (zr_andr (lo := 0) (hi := 255) h_x2 (by decide)) (by decide +kernel)) (fun σ13 e32 i31 => ?_)
    refine zok_ck rfl ?_
    refine zok_pi (s_X5_by i31.P (rC_21 i31.sg _ (by decide))) (fun v15 h33 => ?_)
    refine zok_ck rfl ?_
    refine zok_pi (s_X5_parity i31.P (rC_21 i31.sg _ (by decide))) (fun v17 h34 => ?_)
    refine zok_ck rfl ?_
    refine zok_bs (i31.wi 1 1 (by decide) (zr_or (lo := 0) (hi := 255) 8 (zr_or (lo := 0) (hi := 255) 8 h33 h34 (by decide)) (zr_c (lo := 16) (hi := 16) (by decide)) (by decide)) (by decide +kernel)) (fun σ18 e36 i35 => ?_)
    exact zok_pau i35 (s_X5_doWith_292 i35.P)
  have h37 := zc_nel (5) (7) q29 h28 (zr_c (lo := 4) (hi := 4) (by decide)) (by decide)
  refine zok_if (fun q38 => ?_) (fun q38 => ?_)
  · have h39 := zc_eql (5) (5) q38 h37 (zr_c (lo := 5) (hi := 5) (by decide)) (by decide)
    refine zok_ck rfl ?_
    refine zok_ck rfl ?_
    refine zok_bs (hσ.wi 0 0 (by decide) (zr_xor (lo := 0) (hi := 255) 8 (rC_21 hσ.sg _ (by decide)) h_x2 (by decide)) (by decide +kernel)) (fun σ19 e41 i40 => ?_)
    refine zok_ck rfl ?_
    refine zok_pi (s_X5_by i40.P (rC_21 i40.sg _ (by decide))) (fun v21 h42 => ?_)
    refine zok_ck rfl ?_
    refine zok_pi (s_X5_parity i40.P (rC_21 i40.sg _ (by decide))) (fun v23 h43 => ?_)
    refine zok_ck rfl ?_
    refine zok_bs (i40.wi 1 1 (by decide) (zr_or (lo := 0) (hi := 255) 8 h42 h43 (by decide)) (by decide +kernel)) (fun σ24 e45 i44 => ?_)
    exact zok_pau i44 (s_X5_doWith_292 i44.P)
  have h46 := zc_nel (6) (7) q38 h37 (zr_c (lo := 5) (hi := 5) (by decide)) (by decide)
  refine zok_if (fun q47 => ?_) (fun q47 => ?_)
  · have h48 := zc_eql (6) (6) q47 h46 (zr_c (lo := 6) (hi := 6) (by decide)) (by decide)
    refine zok_ck rfl ?_
    refine zok_ck rfl ?_
    refine zok_bs (hσ.wi 0 0 (by decide) (zr_or (lo := 0) (hi := 255) 8 (rC_21 hσ.sg _ (by decide)) h_x2 (by decide)) (by decide +kernel)) (fun σ25 e50 i49 => ?_)
    refine zok_ck rfl ?_
    refine zok_pi (s_X5_by i49.P (rC_21 i49.sg _ (by decide))) (fun v27 h51 => ?_)
    refine zok_ck rfl ?_
    refine zok_pi (s_X5_parity i49.P (rC_21 i49.sg _ (by decide))) (fun v29 h52 => ?_)
    refine zok_ck rfl ?_
    refine zok_bs (i49.wi 1 1 (by decide) (zr_or (lo := 0) (hi := 255) 8 h51 h52 (by decide)) (by decide +kernel)) (fun σ30 e54 i53 => ?_)
    exact zok_pau i53 (s_X5_doWith_292 i53.P)
  have h55 := zc_nel (7) (7) q47 h46 (zr_c (lo := 6) (hi := 6) (by decide)) (by decide)
  refine zok_ck rfl ?_
  refine zok_ai (s_X5_difference hσ (rC_21 hσ.sg _ (by decide)) h_x2 (zr_w (zr_c (lo := 0) (hi := 0) (by decide)) (by decide))) (fun σ31 v32 i56 h57 => ?_)
  refine zok_ck rfl ?_
  refine zok_ck rfl ?_
  refine zok_bs (i56.wi 1 1 (by decide) (zr_or (lo := 0) (hi := 255) 8 (zr_andl (lo := 0) (hi := 255) (rC_21 i56.sg _ (by decide)) (by decide)) (zr_andr (lo := 0) (hi := 40) (zr_c (lo := 40) (hi := 40) (by decide)) (by decide)) (by decide)) (by decide +kernel)) (fun σ33 e59 i58 => ?_)
  exact zok_pau i58 (s_X5_doWith_292 i58.P)
theorem s_X5_callIf {G : Nat → Int} {σ : zSt} (hσ : zIC G σ) {x1 : Int32} (h_x1 : zr (0) (1) x1) : zok (fX5_callIf σ x1) (zAi (zIC G) (fun v : Int32 => zr (10) (17) v)) := by
  unfold fX5_callIf
  refine zok_ai (s_X5_fetchWord hσ) (fun σ1 v2 i1 h2 => ?_)
  refine zok_ck rfl ?_
  refine zok_bs (i1.wi 20 20 (by decide) h2 (by decide +kernel)) (fun σ3 e4 i3 => ?_)
  refine zok_if (fun q5 => ?_) (fun q5 => ?_)
  · have h6 := zc_eql (0) (0) q5 h_x1 (zr_c (lo := 0) (hi := 0) (by decide)) (by decide)
    exact zok_sai i3 (zr_w (zr_c (lo := 10) (hi := 10) (by decide)) (by decide))
  have h7 := zc_nel (1) (1) q5 h_x1 (zr_c (lo := 0) (hi := 0) (by decide)) (by decide)
  refine zok_ck rfl ?_
  refine zok_bu (s_X5_push i3 (rC_22 i3.sg _ (by decide))) (fun σ4 i8 => ?_)
  refine zok_ck rfl ?_
  refine zok_bs (i8.wi 19 19 (by decide) h2 (by decide +kernel)) (fun σ5 e10 i9 => ?_)
  exact zok_sai i9 (zr_w (zr_c (lo := 17) (hi := 17) (by decide)) (by decide))
theorem s_X5_holds_44 {σ : zSt} (hσ : zPC σ) {s0 : Int32} (h_s0 : zr (0) (1) s0) : zok (fX5_holds_44 σ s0) (zPi σ (fun v : Int32 => zr (0) (1) v)) := by
  unfold fX5_holds_44
  refine zok_ck (zbo_ok h_s0 (by decide)) ?_
  exact zok_spi h_s0
theorem s_X5_holds_36 {σ : zSt} (hσ : zPC σ) {s0 : Int32} (h_s0 : zr (0) (1) s0) {s1 : Int32} (h_s1 : zr (0) (1) s1) : zok (fX5_holds_36 σ s0 s1) (zPi σ (fun v : Int32 => zr (0) (1) v)) := by
  unfold fX5_holds_36
  refine zok_if (fun q1 => ?_) (fun q1 => ?_)
  · exact (s_X5_holds_44 hσ (zr_w (zr_c (lo := 1) (hi := 1) (by decide)) (by decide)))
  exact (s_X5_holds_44 hσ (zr_w (zr_c (lo := 0) (hi := 0) (by decide)) (by decide)))
theorem s_X5_holds_24 {σ : zSt} (hσ : zPC σ) {x1 : Int32} (h_x1 : zr (0) (7) x1) {s0 : Int32} (h_s0 : zr (0) (1) s0) : zok (fX5_holds_24 σ x1 s0) (zPi σ (fun v : Int32 => zr (0) (1) v)) := by
  unfold fX5_holds_24
  refine zok_if (fun q1 => ?_) (fun q1 => ?_)
  · have h2 := zc_eql (1) (1) q1 (zr_andr (lo := 0) (hi := 1) (zr_c (lo := 1) (hi := 1) (by decide)) (by decide)) (zr_c (lo := 1) (hi := 1) (by decide)) (by decide)
    exact (s_X5_holds_36 hσ (zr_w (zr_c (lo := 1) (hi := 1) (by decide)) (by decide)) h_s0)
  have h3 := zc_nel (0) (0) q1 (zr_andr (lo := 0) (hi := 1) (zr_c (lo := 1) (hi := 1) (by decide)) (by decide)) (zr_c (lo := 1) (hi := 1) (by decide)) (by decide)
  exact (s_X5_holds_36 hσ (zr_w (zr_c (lo := 0) (hi := 0) (by decide)) (by decide)) h_s0)
theorem s_X5_holds {σ : zSt} (hσ : zPC σ) {x1 : Int32} (h_x1 : zr (0) (7) x1) : zok (fX5_holds σ x1) (zPi σ (fun v : Int32 => zr (0) (1) v)) := by
  unfold fX5_holds
  refine zok_ck rfl ?_
  refine zok_ck (zin_ok (zr_andr (lo := 0) (hi := 3) (zr_c (lo := 3) (hi := 3) (by decide)) (by decide)) (by decide)) ?_
  refine zok_if (fun q1 => ?_) (fun q1 => ?_)
  · have h2 := zc_eql (0) (0) q1 (zr_andl (lo := 0) (hi := 255) (rC_21 hσ.sg _ (by decide)) (by decide)) (zr_c (lo := 0) (hi := 0) (by decide)) (by decide)
    exact (s_X5_holds_24 hσ h_x1 (zr_w (zr_c (lo := 0) (hi := 0) (by decide)) (by decide)))
  have h3 := zc_nel (1) (255) q1 (zr_andl (lo := 0) (hi := 255) (rC_21 hσ.sg _ (by decide)) (by decide)) (zr_c (lo := 0) (hi := 0) (by decide)) (by decide)
  exact (s_X5_holds_24 hσ h_x1 (zr_w (zr_c (lo := 1) (hi := 1) (by decide)) (by decide)))
theorem s_X5_popPair_25 {σ : zSt} (hσ : zPC σ) : zok (fX5_popPair_25 σ ) (zPi σ (fun v : Int32 => zr (10) (10) v)) := by
  unfold fX5_popPair_25
  exact zok_spi (zr_c (lo := 10) (hi := 10) (by decide))
end ZJN7
section ZJN8
theorem s_X5_popPair {G : Nat → Int} {σ : zSt} (hσ : zIC G σ) {x1 : Int32} (h_x1 : zr (0) (3) x1) : zok (fX5_popPair σ x1) (zAi (zIC G) (fun v : Int32 => zr (10) (10) v)) := by
  unfold fX5_popPair
  refine zok_ai (s_X5_pop hσ) (fun σ1 v2 i1 h2 => ?_)
  refine zok_if (fun q3 => ?_) (fun q3 => ?_)
  · have h4 := zc_eql (3) (3) q3 h_x1 (zr_c (lo := 3) (hi := 3) (by decide)) (by decide)
    refine zok_bu (s_X5_putPairAt i1 (zr_w (zr_c (lo := 0) (hi := 0) (by decide)) (by decide)) (zr_w h2 (by decide))) (fun σ4 i5 => ?_)
    exact zok_pai i5 (s_X5_popPair_25 i5.P)
  have h6 := zc_nel (0) (2) q3 h_x1 (zr_c (lo := 3) (hi := 3) (by decide)) (by decide)
  refine zok_bu (s_X5_putPair i1 (zr_w h6 (by decide)) (zr_w h2 (by decide))) (fun σ3 i7 => ?_)
  exact zok_pai i7 (s_X5_popPair_25 i7.P)
theorem s_X5_changeWithOther {G : Nat → Int} {σ : zSt} (hσ : zIC G σ) {x1 : Int32} (h_x1 : zr (0) (7) x1) : zok (fX5_changeWithOther σ x1) (zIC G) := by
  unfold fX5_changeWithOther
  refine zok_ck (zin_ok h_x1 (by decide)) ?_
  refine zok_br (rC_21 hσ.sg _ (z_ix h_x1 (by decide))) (fun v1 e2 h1 => ?_)
  refine zok_ck (zin_ok (zr_add (lo := 8) (hi := 15) h_x1 (zr_c (lo := 8) (hi := 8) (by decide)) (by decide)) (by decide)) ?_
  refine zok_ck (zin_ok h_x1 (by decide)) ?_
  refine zok_bs (hσ.wi 0 7 (z_ix h_x1 (by decide)) (rC_21 hσ.sg _ (z_ix (zr_add (lo := 8) (hi := 15) h_x1 (zr_c (lo := 8) (hi := 8) (by decide)) (by decide)) (by decide))) (by decide +kernel)) (fun σ2 e4 i3 => ?_)
  refine zok_ck (zin_ok (zr_add (lo := 8) (hi := 15) h_x1 (zr_c (lo := 8) (hi := 8) (by decide)) (by decide)) (by decide)) ?_
  refine zok_bs (i3.wi 8 15 (z_ix (zr_add (lo := 8) (hi := 15) h_x1 (zr_c (lo := 8) (hi := 8) (by decide)) (by decide)) (by decide)) h1 (by decide +kernel)) (fun σ3 e6 i5 => ?_)
  exact zok_some i5
theorem s_X5_leave_41_body {G : Nat → Int} {σ : zSt} {k41 : zSt → Int32 → Option (zSt × Int32)} {Mk41 : Int} (hk41 : ∀ (σ : zSt) (x2 : Int32), zIC G σ → zr (2) (8) x2 → (8) - x2.toInt < Mk41 → zok (k41 σ x2) (zAi (zIC G) (fun v : Int32 => zr (4) (10) v))) (hσ : zIC G σ) {x2 : Int32} (h_x2 : zr (2) (8) x2) (hMk41 : (8) - x2.toInt ≤ Mk41) : zok (fX5_leave_41_body k41 σ x2) (zAi (zIC G) (fun v : Int32 => zr (4) (10) v)) := by
  unfold fX5_leave_41_body
  refine zok_if (fun q1 => ?_) (fun q1 => ?_)
  · have h2 := zc_ltr (8) q1 (zr_c (lo := 7) (hi := 7) (by decide)) h_x2 (by decide)
    exact zok_sai hσ (zr_w (zr_c (lo := 4) (hi := 4) (by decide)) (by decide))
  have h3 := zc_lel (7) (z_nlt q1) h_x2 (zr_c (lo := 7) (hi := 7) (by decide)) (by decide)
  refine zok_bu (s_X5_changeWithOther hσ (zr_w h3 (by decide))) (fun σ1 i4 => ?_)
  refine zok_br (zr_add (lo := 3) (hi := 8) h3 (zr_c (lo := 1) (hi := 1) (by decide)) (by decide)) (fun v2 e6 h5 => ?_)
  exact hk41 _ _ i4 (zr_w h5 (by decide)) (by rw [e6]; have := z_tadd (y := (1 : Int32)) h3 (zr_c (lo := 1) (hi := 1) (by decide)) (by decide); have e9 : (1 : Int32).toInt = 1 := rfl; omega) 
theorem s_X5_leave_41 {G : Nat → Int} : ∀ (n : Nat) {σ : zSt} (hσ : zIC G σ) {x2 : Int32} (h_x2 : zr (2) (8) x2) (hm : (8) - x2.toInt < n), zok (fX5_leave_41 n σ x2) (zAi (zIC G) (fun v : Int32 => zr (4) (10) v)) := by
  intro n
  induction n with
  | zero => intro σ hσ x2 h_x2 hm ; have h9 := h_x2.1; have h8 := h_x2.2; exfalso; omega
  | succ n ih => intro σ hσ x2 h_x2 hm ; exact s_X5_leave_41_body (fun σ x2 hσ h_x2 hm1 => ih hσ h_x2 (by omega)) hσ h_x2 (Int.le_refl _)
theorem s_X5_leave {G : Nat → Int} {σ : zSt} (hσ : zIC G σ) {x1 : Int32} (h_x1 : zr (0) (3) x1) : zok (fX5_leave σ x1) (zAi (zIC G) (fun v : Int32 => zr (4) (10) v)) := by
  unfold fX5_leave
  refine zok_if (fun q1 => ?_) (fun q1 => ?_)
  · have h2 := zc_eql (0) (0) q1 h_x1 (zr_c (lo := 0) (hi := 0) (by decide)) (by decide)
    refine zok_ai (s_X5_pop hσ) (fun σ3 v4 i3 h4 => ?_)
    refine zok_bu (s_X5_goTo i3 h4) (fun σ5 i5 => ?_)
    exact zok_sai i5 (zr_w (zr_c (lo := 10) (hi := 10) (by decide)) (by decide))
  have h6 := zc_nel (1) (3) q1 h_x1 (zr_c (lo := 0) (hi := 0) (by decide)) (by decide)
  refine zok_if (fun q7 => ?_) (fun q7 => ?_)
  · have h8 := zc_eql (1) (1) q7 h6 (zr_c (lo := 1) (hi := 1) (by decide)) (by decide)
    exact (s_X5_leave_41 zfuel hσ (zr_w (zr_c (lo := 2) (hi := 2) (by decide)) (by decide)) (by decide))
  have h9 := zc_nel (2) (3) q7 h6 (zr_c (lo := 1) (hi := 1) (by decide)) (by decide)
  refine zok_if (fun q10 => ?_) (fun q10 => ?_)
  · have h11 := zc_eql (2) (2) q10 h9 (zr_c (lo := 2) (hi := 2) (by decide)) (by decide)
    refine zok_pi (s_X5_hl hσ.P) (fun v7 h12 => ?_)
    refine zok_ck rfl ?_
    refine zok_bs (hσ.wi 19 19 (by decide) h12 (by decide +kernel)) (fun σ8 e14 i13 => ?_)
    exact zok_sai i13 (zr_w (zr_c (lo := 4) (hi := 4) (by decide)) (by decide))
  have h15 := zc_nel (3) (3) q10 h9 (zr_c (lo := 2) (hi := 2) (by decide)) (by decide)
  refine zok_pi (s_X5_hl hσ.P) (fun v10 h16 => ?_)
  refine zok_ck rfl ?_
  refine zok_bs (hσ.wi 18 18 (by decide) h16 (by decide +kernel)) (fun σ11 e18 i17 => ?_)
  exact zok_sai i17 (zr_w (zr_c (lo := 6) (hi := 6) (by decide)) (by decide))
theorem s_X5_lastQuarter_196 {G : Nat → Int} {σ : zSt} (hσ : zIC G σ) {x2 : Int32} (h_x2 : zr (0) (7) x2) : zok (fX5_lastQuarter_196 σ x2) (zAi (zIC G) (fun v : Int32 => zr (4) (17) v)) := by
  unfold fX5_lastQuarter_196
  refine zok_ck rfl ?_
  refine zok_bu (s_X5_push hσ (rC_22 hσ.sg _ (by decide))) (fun σ1 i1 => ?_)
  refine zok_bu (s_X5_goTo i1 (zr_w (zr_mul (lo := 0) (hi := 56) (zr_c (lo := 8) (hi := 8) (by decide)) h_x2 (by decide)) (by decide))) (fun σ2 i2 => ?_)
  exact zok_sai i2 (zr_w (zr_c (lo := 11) (hi := 11) (by decide)) (by decide))
theorem s_X5_lastQuarter_178 {G : Nat → Int} {σ : zSt} (hσ : zIC G σ) {s0 : Int32} (h_s0 : zr (0) (65535) s0) : zok (fX5_lastQuarter_178 σ s0) (zAi (zIC G) (fun v : Int32 => zr (4) (17) v)) := by
  unfold fX5_lastQuarter_178
  refine zok_bu (s_X5_push hσ h_s0) (fun σ3 i1 => ?_)
  exact zok_sai i1 (zr_w (zr_c (lo := 11) (hi := 11) (by decide)) (by decide))
theorem s_X5_lastQuarter_130 {σ : zSt} (hσ : zPC σ) : zok (fX5_lastQuarter_130 σ ) (zPi σ (fun v : Int32 => zr (4) (17) v)) := by
  unfold fX5_lastQuarter_130
  exact zok_spi (zr_w (zr_c (lo := 10) (hi := 10) (by decide)) (by decide))
theorem s_X5_lastQuarter_96 {σ : zSt} (hσ : zPC σ) {s0 : Int32} (h_s0 : zr (4) (10) s0) : zok (fX5_lastQuarter_96 σ s0) (zPi σ (fun v : Int32 => zr (4) (17) v)) := by
  unfold fX5_lastQuarter_96
  exact zok_spi (zr_w h_s0 (by decide))
theorem s_X5_lastQuarter {G : Nat → Int} {σ : zSt} (hσ : zIC G σ) {x1 : Int32} (h_x1 : zr (0) (255) x1) : zok (fX5_lastQuarter σ x1) (zAi (zIC G) (fun v : Int32 => zr (4) (17) v)) := by
  unfold fX5_lastQuarter
  refine zok_br (zr_andr (lo := 0) (hi := 7) (zr_c (lo := 7) (hi := 7) (by decide)) (by decide)) (fun v4 e2 h1 => ?_)
  refine zok_if (fun q3 => ?_) (fun q3 => ?_)
  · have h4 := zc_eql (0) (0) q3 (zr_andr (lo := 0) (hi := 7) (zr_c (lo := 7) (hi := 7) (by decide)) (by decide)) (zr_c (lo := 0) (hi := 0) (by decide)) (by decide)
    refine zok_pi (s_X5_holds hσ.P h1) (fun v6 h5 => ?_)
    refine zok_if (fun q6 => ?_) (fun q6 => ?_)
    · have h7 := zc_eql (0) (0) q6 h5 (zr_c (lo := 0) (hi := 0) (by decide)) (by decide)
      exact zok_sai hσ (zr_w (zr_c (lo := 5) (hi := 5) (by decide)) (by decide))
    have h8 := zc_nel (1) (1) q6 h5 (zr_c (lo := 0) (hi := 0) (by decide)) (by decide)
    refine zok_ai (s_X5_pop hσ) (fun σ7 v8 i9 h10 => ?_)
    refine zok_bu (s_X5_goTo i9 h10) (fun σ9 i11 => ?_)
    exact zok_sai i11 (zr_w (zr_c (lo := 11) (hi := 11) (by decide)) (by decide))
  have h12 := zc_nel (1) (7) q3 (zr_andr (lo := 0) (hi := 7) (zr_c (lo := 7) (hi := 7) (by decide)) (by decide)) (zr_c (lo := 0) (hi := 0) (by decide)) (by decide)
  refine zok_if (fun q13 => ?_) (fun q13 => ?_)
  · have h14 := zc_eql (1) (1) q13 h12 (zr_c (lo := 1) (hi := 1) (by decide)) (by decide)
    refine zok_if (fun q15 => ?_) (fun q15 => ?_)
    · have h16 := zc_eql (0) (0) q15 (zr_andr (lo := 0) (hi := 1) (zr_c (lo := 1) (hi := 1) (by decide)) (by decide)) (zr_c (lo := 0) (hi := 0) (by decide)) (by decide)
      refine zok_ai (s_X5_popPair hσ (zr_shr (lo := 0) (hi := 3) 1 (by decide) h1 (by decide))) (fun σ12 v13 i17 h18 => ?_)
      exact zok_pai i17 (s_X5_lastQuarter_96 i17.P (zr_w h18 (by decide)))
    have h19 := zc_nel (1) (1) q15 (zr_andr (lo := 0) (hi := 1) (zr_c (lo := 1) (hi := 1) (by decide)) (by decide)) (zr_c (lo := 0) (hi := 0) (by decide)) (by decide)
    refine zok_ai (s_X5_leave hσ (zr_shr (lo := 0) (hi := 3) 1 (by decide) h1 (by decide))) (fun σ10 v11 i20 h21 => ?_)
    exact zok_pai i20 (s_X5_lastQuarter_96 i20.P h21)
  have h22 := zc_nel (2) (7) q13 h12 (zr_c (lo := 1) (hi := 1) (by decide)) (by decide)
  refine zok_if (fun q23 => ?_) (fun q23 => ?_)
  · have h24 := zc_eql (2) (2) q23 h22 (zr_c (lo := 2) (hi := 2) (by decide)) (by decide)
    refine zok_ai (s_X5_fetchWord hσ) (fun σ14 v15 i25 h26 => ?_)
    refine zok_ck rfl ?_
    refine zok_bs (i25.wi 20 20 (by decide) h26 (by decide +kernel)) (fun σ16 e28 i27 => ?_)
    refine zok_pi (s_X5_holds i27.P h1) (fun v18 h29 => ?_)
    refine zok_if (fun q30 => ?_) (fun q30 => ?_)
    · have h31 := zc_eql (0) (0) q30 h29 (zr_c (lo := 0) (hi := 0) (by decide)) (by decide)
      exact zok_pai i27 (s_X5_lastQuarter_130 i27.P)
    have h32 := zc_nel (1) (1) q30 h29 (zr_c (lo := 0) (hi := 0) (by decide)) (by decide)
    refine zok_ck rfl ?_
    refine zok_ck rfl ?_
    refine zok_bs (i27.wi 19 19 (by decide) (rC_22 i27.sg _ (by decide)) (by decide +kernel)) (fun σ19 e34 i33 => ?_)
    exact zok_pai i33 (s_X5_lastQuarter_130 i33.P)
  have h35 := zc_nel (3) (7) q23 h22 (zr_c (lo := 2) (hi := 2) (by decide)) (by decide)
  refine zok_if (fun q36 => ?_) (fun q36 => ?_)
  · have h37 := zc_eql (3) (3) q36 h35 (zr_c (lo := 3) (hi := 3) (by decide)) (by decide)
    exact (s_X5_lastQuarter_196 hσ h1)
  have h38 := zc_nel (4) (7) q36 h35 (zr_c (lo := 3) (hi := 3) (by decide)) (by decide)
  refine zok_if (fun q39 => ?_) (fun q39 => ?_)
  · have h40 := zc_eql (4) (4) q39 h38 (zr_c (lo := 4) (hi := 4) (by decide)) (by decide)
    refine zok_pi (s_X5_holds hσ.P h1) (fun v21 h41 => ?_)
    refine zok_ai (s_X5_callIf hσ h41) (fun σ22 v23 i42 h43 => ?_)
    exact zok_sai i42 (zr_w h43 (by decide))
  have h44 := zc_nel (5) (7) q39 h38 (zr_c (lo := 4) (hi := 4) (by decide)) (by decide)
  refine zok_if (fun q45 => ?_) (fun q45 => ?_)
  · have h46 := zc_eql (5) (5) q45 h44 (zr_c (lo := 5) (hi := 5) (by decide)) (by decide)
    refine zok_if (fun q47 => ?_) (fun q47 => ?_)
    · have h48 := zc_eql (1) (1) q47 (zr_andr (lo := 0) (hi := 1) (zr_c (lo := 1) (hi := 1) (by decide)) (by decide)) (zr_c (lo := 1) (hi := 1) (by decide)) (by decide)
      refine zok_ai (s_X5_callIf hσ (zr_w (zr_c (lo := 1) (hi := 1) (by decide)) (by decide))) (fun σ28 v29 i49 h50 => ?_)
      exact zok_sai i49 (zr_w h50 (by decide))
    have h51 := zc_nel (0) (0) q47 (zr_andr (lo := 0) (hi := 1) (zr_c (lo := 1) (hi := 1) (by decide)) (by decide)) (zr_c (lo := 1) (hi := 1) (by decide)) (by decide)
    refine zok_if (fun q52 => ?_) (fun q52 => ?_)
    · have h53 := zc_eql (6) (6) q52 h1 (zr_c (lo := 6) (hi := 6) (by decide)) (by decide)
      refine zok_pi (s_X5_pairAt hσ.P (zr_w (zr_c (lo := 0) (hi := 0) (by decide)) (by decide))) (fun v27 h54 => ?_)
      exact (s_X5_lastQuarter_178 hσ h54)
    refine zok_pi (s_X5_pair hσ.P (zr_shr (lo := 0) (hi := 3) 1 (by decide) h1 (by decide))) (fun v25 h55 => ?_)
    exact (s_X5_lastQuarter_178 hσ h55)
  have h56 := zc_nel (6) (7) q45 h44 (zr_c (lo := 5) (hi := 5) (by decide)) (by decide)
  refine zok_if (fun q57 => ?_) (fun q57 => ?_)
  · have h58 := zc_eql (6) (6) q57 h56 (zr_c (lo := 6) (hi := 6) (by decide)) (by decide)
    refine zok_ai (s_X5_fetch hσ) (fun σ30 v31 i59 h60 => ?_)
    refine zok_bu (s_X5_doWith i59 h1 h60) (fun σ32 i61 => ?_)
    exact zok_sai i61 (zr_w (zr_c (lo := 7) (hi := 7) (by decide)) (by decide))
  have h62 := zc_nel (7) (7) q57 h56 (zr_c (lo := 6) (hi := 6) (by decide)) (by decide)
  exact (s_X5_lastQuarter_196 hσ h1)
theorem s_X5_doWithRegister_33 {σ : zSt} (hσ : zPC σ) {s0 : Int32} (h_s0 : zr (4) (7) s0) : zok (fX5_doWithRegister_33 σ s0) (zPi σ (fun v : Int32 => zr (4) (7) v)) := by
  unfold fX5_doWithRegister_33
  exact zok_spi h_s0
theorem s_X5_doWithRegister {G : Nat → Int} {σ : zSt} (hσ : zIC G σ) {x1 : Int32} (h_x1 : zr (0) (255) x1) : zok (fX5_doWithRegister σ x1) (zAi (zIC G) (fun v : Int32 => zr (4) (7) v)) := by
  unfold fX5_doWithRegister
  refine zok_pi (s_X5_one hσ.P (zr_andr (lo := 0) (hi := 7) (zr_c (lo := 7) (hi := 7) (by decide)) (by decide))) (fun v2 h1 => ?_)
  refine zok_bu (s_X5_doWith hσ (zr_andr (lo := 0) (hi := 7) (zr_c (lo := 7) (hi := 7) (by decide)) (by decide)) h1) (fun σ3 i2 => ?_)
  refine zok_if (fun q3 => ?_) (fun q3 => ?_)
  · have h4 := zc_eql (6) (6) q3 (zr_andr (lo := 0) (hi := 7) (zr_c (lo := 7) (hi := 7) (by decide)) (by decide)) (zr_c (lo := 6) (hi := 6) (by decide)) (by decide)
    exact zok_pai i2 (s_X5_doWithRegister_33 i2.P (zr_w (zr_c (lo := 7) (hi := 7) (by decide)) (by decide)))
  exact zok_pai i2 (s_X5_doWithRegister_33 i2.P (zr_w (zr_c (lo := 4) (hi := 4) (by decide)) (by decide)))
theorem s_X5_move_56 {σ : zSt} (hσ : zPC σ) {s0 : Int32} (h_s0 : zr (4) (7) s0) : zok (fX5_move_56 σ s0) (zPi σ (fun v : Int32 => zr (4) (7) v)) := by
  unfold fX5_move_56
  exact zok_spi h_s0
theorem s_X5_move_50 {σ : zSt} (hσ : zPC σ) : zok (fX5_move_50 σ ) (zPi σ (fun v : Int32 => zr (4) (7) v)) := by
  unfold fX5_move_50
  exact (s_X5_move_56 hσ (zr_w (zr_c (lo := 7) (hi := 7) (by decide)) (by decide)))
theorem s_X5_move {G : Nat → Int} {σ : zSt} (hσ : zIC G σ) {x1 : Int32} (h_x1 : zr (0) (255) x1) : zok (fX5_move σ x1) (zAi (zIC G) (fun v : Int32 => zr (4) (7) v)) := by
  unfold fX5_move
  refine zok_if (fun q1 => ?_) (fun q1 => ?_)
  · have h2 := zc_eql (118) (118) q1 h_x1 (zr_c (lo := 118) (hi := 118) (by decide)) (by decide)
    refine zok_ck rfl ?_
    refine zok_bs (hσ.wi 26 26 (by decide) (zr_c (lo := 1) (hi := 1) (by decide)) (by decide +kernel)) (fun σ6 e4 i3 => ?_)
    exact zok_sai i3 (zr_w (zr_c (lo := 4) (hi := 4) (by decide)) (by decide))
  refine zok_br (zr_andr (lo := 0) (hi := 7) (zr_c (lo := 7) (hi := 7) (by decide)) (by decide)) (fun v1 e6 h5 => ?_)
  refine zok_br (zr_andr (lo := 0) (hi := 7) (zr_c (lo := 7) (hi := 7) (by decide)) (by decide)) (fun v2 e8 h7 => ?_)
  refine zok_pi (s_X5_one hσ.P h7) (fun v4 h9 => ?_)
  refine zok_bu (s_X5_putOne hσ h5 h9) (fun σ5 i10 => ?_)
  refine zok_if (fun q11 => ?_) (fun q11 => ?_)
  · have h12 := zc_eql (6) (6) q11 h5 (zr_c (lo := 6) (hi := 6) (by decide)) (by decide)
    exact zok_pai i10 (s_X5_move_50 i10.P)
  refine zok_if (fun q13 => ?_) (fun q13 => ?_)
  · have h14 := zc_eql (6) (6) q13 h7 (zr_c (lo := 6) (hi := 6) (by decide)) (by decide)
    exact zok_pai i10 (s_X5_move_50 i10.P)
  exact zok_pai i10 (s_X5_move_56 i10.P (zr_w (zr_c (lo := 4) (hi := 4) (by decide)) (by decide)))
theorem s_X5_adjustA_202 {G : Nat → Int} {σ : zSt} (hσ : zIC G σ) {x4 : Int32} (h_x4 : zr (0) (1) x4) {s0 : Int32} (h_s0 : zr (0) (16) s0) {s1 : Int32} (h_s1 : zr (0) (255) s1) {s2 : Int32} (h_s2 : zr (1) (1) s2) : zok (fX5_adjustA_202 σ x4 s0 s1 s2) (zIC G) := by
  unfold fX5_adjustA_202
  refine zok_ck rfl ?_
  refine zok_ck (zin_ok h_s2 (by decide)) ?_
  refine zok_bs (hσ.wi 1 1 (z_ix h_s2 (by decide)) (zr_or (lo := 0) (hi := 255) 8 (zr_or (lo := 0) (hi := 255) 8 (zr_or (lo := 0) (hi := 255) 8 h_s1 h_s0 (by decide)) (zr_andr (lo := 0) (hi := 2) (zr_c (lo := 2) (hi := 2) (by decide)) (by decide)) (by decide)) h_x4 (by decide)) (by decide +kernel)) (fun σ1 e2 i1 => ?_)
  exact zok_some i1
theorem s_X5_adjustA_161 {G : Nat → Int} {σ : zSt} (hσ : zIC G σ) {x4 : Int32} (h_x4 : zr (0) (1) x4) {x6 : Int32} (h_x6 : zr (0) (1) x6) {s0 : Int32} (h_s0 : zr (-102) (357) s0) : zok (fX5_adjustA_161 σ x4 x6 s0) (zIC G) := by
  unfold fX5_adjustA_161
  refine zok_br (zr_andr (lo := 0) (hi := 255) (zr_c (lo := 255) (hi := 255) (by decide)) (by decide)) (fun v2 e2 h1 => ?_)
  refine zok_ck rfl ?_
  refine zok_bs (hσ.wi 0 0 (by decide) h1 (by decide +kernel)) (fun σ3 e4 i3 => ?_)
  refine zok_pi (s_X5_by i3.P h1) (fun v5 h5 => ?_)
  refine zok_pi (s_X5_parity i3.P h1) (fun v7 h6 => ?_)
  refine zok_if (fun q7 => ?_) (fun q7 => ?_)
  · have h8 := zc_eql (0) (0) q7 h_x6 (zr_c (lo := 0) (hi := 0) (by decide)) (by decide)
    exact (s_X5_adjustA_202 i3 h_x4 (zr_w (zr_c (lo := 0) (hi := 0) (by decide)) (by decide)) (zr_or (lo := 0) (hi := 255) 8 h5 h6 (by decide)) (zr_c (lo := 1) (hi := 1) (by decide)))
  have h9 := zc_nel (1) (1) q7 h_x6 (zr_c (lo := 0) (hi := 0) (by decide)) (by decide)
  exact (s_X5_adjustA_202 i3 h_x4 (zr_w (zr_c (lo := 16) (hi := 16) (by decide)) (by decide)) (zr_or (lo := 0) (hi := 255) 8 h5 h6 (by decide)) (zr_c (lo := 1) (hi := 1) (by decide)))
theorem s_X5_adjustA_134 {G : Nat → Int} {σ : zSt} (hσ : zIC G σ) {x3 : Int32} (h_x3 : zr (0) (1) x3) {x4 : Int32} (h_x4 : zr (0) (1) x4) {x5 : Int32} (h_x5 : zr (0) (102) x5) {s0 : Int32} (h_s0 : zr (0) (1) s0) : zok (fX5_adjustA_134 σ x3 x4 x5 s0) (zIC G) := by
  unfold fX5_adjustA_134
  refine zok_if (fun q1 => ?_) (fun q1 => ?_)
  · have h2 := zc_eql (0) (0) q1 h_x3 (zr_c (lo := 0) (hi := 0) (by decide)) (by decide)
    refine zok_ck rfl ?_
    exact (s_X5_adjustA_161 hσ h_x4 h_s0 (zr_w (zr_add (lo := 0) (hi := 357) (rC_21 hσ.sg _ (by decide)) h_x5 (by decide)) (by decide)))
  have h3 := zc_nel (1) (1) q1 h_x3 (zr_c (lo := 0) (hi := 0) (by decide)) (by decide)
  refine zok_ck rfl ?_
  exact (s_X5_adjustA_161 hσ h_x4 h_s0 (zr_w (zr_sub (lo := -102) (hi := 255) (rC_21 hσ.sg _ (by decide)) h_x5 (by decide)) (by decide)))
theorem s_X5_adjustA_119 {G : Nat → Int} {σ : zSt} (hσ : zIC G σ) {x3 : Int32} (h_x3 : zr (1) (1) x3) {x4 : Int32} (h_x4 : zr (0) (1) x4) {x5 : Int32} (h_x5 : zr (0) (102) x5) : zok (fX5_adjustA_119 σ x3 x4 x5) (zIC G) := by
  unfold fX5_adjustA_119
  exact (s_X5_adjustA_134 hσ (zr_w h_x3 (by decide)) h_x4 h_x5 (zr_w (zr_c (lo := 0) (hi := 0) (by decide)) (by decide)))
theorem s_X5_adjustA_98 {G : Nat → Int} {σ : zSt} (hσ : zIC G σ) {x1 : Int32} (h_x1 : zr (0) (15) x1) {x2 : Int32} (h_x2 : zr (0) (1) x2) {x3 : Int32} (h_x3 : zr (0) (1) x3) {x4 : Int32} (h_x4 : zr (0) (1) x4) {s0 : Int32} (h_s0 : zr (0) (96) s0) {s1 : Int32} (h_s1 : zr (0) (6) s1) : zok (fX5_adjustA_98 σ x1 x2 x3 x4 s0 s1) (zIC G) := by
  unfold fX5_adjustA_98
  refine zok_br (zr_add (lo := 0) (hi := 102) h_s1 h_s0 (by decide)) (fun v8 e2 h1 => ?_)
  refine zok_if (fun q3 => ?_) (fun q3 => ?_)
  · have h4 := zc_eql (0) (0) q3 h_x3 (zr_c (lo := 0) (hi := 0) (by decide)) (by decide)
    refine zok_if (fun q5 => ?_) (fun q5 => ?_)
    · have h6 := zc_lel (9) q5 h_x1 (zr_c (lo := 9) (hi := 9) (by decide)) (by decide)
      exact (s_X5_adjustA_134 hσ (zr_w h4 (by decide)) h_x4 h1 (zr_w (zr_c (lo := 0) (hi := 0) (by decide)) (by decide)))
    have h7 := zc_ltr (10) (z_nle q5) (zr_c (lo := 9) (hi := 9) (by decide)) h_x1 (by decide)
    exact (s_X5_adjustA_134 hσ (zr_w h4 (by decide)) h_x4 h1 (zr_w (zr_c (lo := 1) (hi := 1) (by decide)) (by decide)))
  have h8 := zc_nel (1) (1) q3 h_x3 (zr_c (lo := 0) (hi := 0) (by decide)) (by decide)
  refine zok_if (fun q9 => ?_) (fun q9 => ?_)
  · have h10 := zc_eql (0) (0) q9 h_x2 (zr_c (lo := 0) (hi := 0) (by decide)) (by decide)
    exact (s_X5_adjustA_119 hσ h8 h_x4 h1)
  have h11 := zc_nel (1) (1) q9 h_x2 (zr_c (lo := 0) (hi := 0) (by decide)) (by decide)
  refine zok_if (fun q12 => ?_) (fun q12 => ?_)
  · have h13 := zc_ler (6) q12 (zr_c (lo := 6) (hi := 6) (by decide)) h_x1 (by decide)
    exact (s_X5_adjustA_119 hσ h8 h_x4 h1)
  have h14 := zc_ltl (5) (z_nle q12) h_x1 (zr_c (lo := 6) (hi := 6) (by decide)) (by decide)
  exact (s_X5_adjustA_134 hσ (zr_w h8 (by decide)) h_x4 h1 (zr_w (zr_c (lo := 1) (hi := 1) (by decide)) (by decide)))
theorem s_X5_adjustA_87 {G : Nat → Int} {σ : zSt} (hσ : zIC G σ) {x1 : Int32} (h_x1 : zr (0) (15) x1) {x2 : Int32} (h_x2 : zr (0) (1) x2) {x3 : Int32} (h_x3 : zr (0) (1) x3) {x4 : Int32} (h_x4 : zr (0) (1) x4) {s0 : Int32} (h_s0 : zr (0) (6) s0) : zok (fX5_adjustA_87 σ x1 x2 x3 x4 s0) (zIC G) := by
  unfold fX5_adjustA_87
  refine zok_if (fun q1 => ?_) (fun q1 => ?_)
  · have h2 := zc_eql (0) (0) q1 h_x4 (zr_c (lo := 0) (hi := 0) (by decide)) (by decide)
    exact (s_X5_adjustA_98 hσ h_x1 h_x2 h_x3 (zr_w h2 (by decide)) (zr_w (zr_c (lo := 0) (hi := 0) (by decide)) (by decide)) h_s0)
  have h3 := zc_nel (1) (1) q1 h_x4 (zr_c (lo := 0) (hi := 0) (by decide)) (by decide)
  exact (s_X5_adjustA_98 hσ h_x1 h_x2 h_x3 (zr_w h3 (by decide)) (zr_w (zr_c (lo := 96) (hi := 96) (by decide)) (by decide)) h_s0)
theorem s_X5_adjustA_81 {G : Nat → Int} {σ : zSt} (hσ : zIC G σ) {x1 : Int32} (h_x1 : zr (0) (15) x1) {x2 : Int32} (h_x2 : zr (0) (1) x2) {x3 : Int32} (h_x3 : zr (0) (1) x3) {x4 : Int32} (h_x4 : zr (0) (1) x4) : zok (fX5_adjustA_81 σ x1 x2 x3 x4) (zIC G) := by
  unfold fX5_adjustA_81
  exact (s_X5_adjustA_87 hσ h_x1 h_x2 h_x3 h_x4 (zr_w (zr_c (lo := 6) (hi := 6) (by decide)) (by decide)))
theorem s_X5_adjustA_69 {G : Nat → Int} {σ : zSt} (hσ : zIC G σ) {x1 : Int32} (h_x1 : zr (0) (15) x1) {x2 : Int32} (h_x2 : zr (0) (1) x2) {x3 : Int32} (h_x3 : zr (0) (1) x3) {s0 : Int32} (h_s0 : zr (0) (1) s0) : zok (fX5_adjustA_69 σ x1 x2 x3 s0) (zIC G) := by
  unfold fX5_adjustA_69
  refine zok_if (fun q1 => ?_) (fun q1 => ?_)
  · have h2 := zc_ltr (10) q1 (zr_c (lo := 9) (hi := 9) (by decide)) h_x1 (by decide)
    exact (s_X5_adjustA_81 hσ (zr_w h2 (by decide)) h_x2 h_x3 h_s0)
  have h3 := zc_lel (9) (z_nlt q1) h_x1 (zr_c (lo := 9) (hi := 9) (by decide)) (by decide)
  refine zok_if (fun q4 => ?_) (fun q4 => ?_)
  · have h5 := zc_eql (0) (0) q4 h_x2 (zr_c (lo := 0) (hi := 0) (by decide)) (by decide)
    exact (s_X5_adjustA_87 hσ (zr_w h3 (by decide)) (zr_w h5 (by decide)) h_x3 h_s0 (zr_w (zr_c (lo := 0) (hi := 0) (by decide)) (by decide)))
  have h6 := zc_nel (1) (1) q4 h_x2 (zr_c (lo := 0) (hi := 0) (by decide)) (by decide)
  exact (s_X5_adjustA_81 hσ (zr_w h3 (by decide)) (zr_w h6 (by decide)) h_x3 h_s0)
theorem s_X5_adjustA_44 {G : Nat → Int} {σ : zSt} (hσ : zIC G σ) {x1 : Int32} (h_x1 : zr (0) (15) x1) {x2 : Int32} (h_x2 : zr (0) (1) x2) {s0 : Int32} (h_s0 : zr (0) (1) s0) : zok (fX5_adjustA_44 σ x1 x2 s0) (zIC G) := by
  unfold fX5_adjustA_44
  refine zok_ck rfl ?_
  refine zok_if (fun q1 => ?_) (fun q1 => ?_)
  · have h2 := zc_lel (153) q1 (rC_21 hσ.sg _ (by decide)) (zr_c (lo := 153) (hi := 153) (by decide)) (by decide)
    refine zok_ck rfl ?_
    exact (s_X5_adjustA_69 hσ h_x1 h_x2 h_s0 (zr_andr (lo := 0) (hi := 1) (zr_c (lo := 1) (hi := 1) (by decide)) (by decide)))
  have h3 := zc_ltr (154) (z_nle q1) (zr_c (lo := 153) (hi := 153) (by decide)) (rC_21 hσ.sg _ (by decide)) (by decide)
  exact (s_X5_adjustA_69 hσ h_x1 h_x2 h_s0 (zr_w (zr_c (lo := 1) (hi := 1) (by decide)) (by decide)))
theorem s_X5_adjustA_27 {G : Nat → Int} {σ : zSt} (hσ : zIC G σ) {x1 : Int32} (h_x1 : zr (0) (15) x1) {s0 : Int32} (h_s0 : zr (0) (1) s0) : zok (fX5_adjustA_27 σ x1 s0) (zIC G) := by
  unfold fX5_adjustA_27
  refine zok_ck rfl ?_
  refine zok_if (fun q1 => ?_) (fun q1 => ?_)
  · have h2 := zc_eql (0) (0) q1 (zr_andr (lo := 0) (hi := 2) (zr_c (lo := 2) (hi := 2) (by decide)) (by decide)) (zr_c (lo := 0) (hi := 0) (by decide)) (by decide)
    exact (s_X5_adjustA_44 hσ h_x1 h_s0 (zr_w (zr_c (lo := 0) (hi := 0) (by decide)) (by decide)))
  have h3 := zc_nel (1) (2) q1 (zr_andr (lo := 0) (hi := 2) (zr_c (lo := 2) (hi := 2) (by decide)) (by decide)) (zr_c (lo := 0) (hi := 0) (by decide)) (by decide)
  exact (s_X5_adjustA_44 hσ h_x1 h_s0 (zr_w (zr_c (lo := 1) (hi := 1) (by decide)) (by decide)))
theorem s_X5_adjustA {G : Nat → Int} {σ : zSt} (hσ : zIC G σ) : zok (fX5_adjustA σ ) (zIC G) := by
  unfold fX5_adjustA
  refine zok_ck rfl ?_
  refine zok_br (zr_andr (lo := 0) (hi := 15) (zr_c (lo := 15) (hi := 15) (by decide)) (by decide)) (fun v9 e2 h1 => ?_)
  refine zok_ck rfl ?_
  refine zok_if (fun q3 => ?_) (fun q3 => ?_)
  · have h4 := zc_eql (0) (0) q3 (zr_andr (lo := 0) (hi := 16) (zr_c (lo := 16) (hi := 16) (by decide)) (by decide)) (zr_c (lo := 0) (hi := 0) (by decide)) (by decide)
    exact (s_X5_adjustA_27 hσ h1 (zr_w (zr_c (lo := 0) (hi := 0) (by decide)) (by decide)))
  have h5 := zc_nel (1) (16) q3 (zr_andr (lo := 0) (hi := 16) (zr_c (lo := 16) (hi := 16) (by decide)) (by decide)) (zr_c (lo := 0) (hi := 0) (by decide)) (by decide)
  exact (s_X5_adjustA_27 hσ h1 (zr_w (zr_c (lo := 1) (hi := 1) (by decide)) (by decide)))
theorem s_X5_changeA_130 {G : Nat → Int} {σ : zSt} (hσ : zIC G σ) {s0 : Int32} (h_s0 : zr (1) (16) s0) {s1 : Int32} (h_s1 : zr (0) (196) s1) {s2 : Int32} (h_s2 : zr (1) (1) s2) : zok (fX5_changeA_130 σ s0 s1 s2) (zIC G) := by
  unfold fX5_changeA_130
  refine zok_ck rfl ?_
  refine zok_ck (zin_ok h_s2 (by decide)) ?_
  refine zok_bs (hσ.wi 1 1 (z_ix h_s2 (by decide)) (zr_or (lo := 0) (hi := 255) 8 (zr_or (lo := 0) (hi := 255) 8 h_s1 h_s0 (by decide)) (zr_andr (lo := 0) (hi := 40) (zr_c (lo := 40) (hi := 40) (by decide)) (by decide)) (by decide)) (by decide +kernel)) (fun σ1 e2 i1 => ?_)
  exact zok_some i1
theorem s_X5_changeA {G : Nat → Int} {σ : zSt} (hσ : zIC G σ) {x1 : Int32} (h_x1 : zr (0) (7) x1) : zok (fX5_changeA σ x1) (zIC G) := by
  unfold fX5_changeA
  refine zok_ck rfl ?_
  refine zok_br (zr_andr (lo := 0) (hi := 196) (zr_c (lo := 196) (hi := 196) (by decide)) (by decide)) (fun v2 e2 h1 => ?_)
  refine zok_ck rfl ?_
  refine zok_br (zr_andr (lo := 0) (hi := 1) (zr_c (lo := 1) (hi := 1) (by decide)) (by decide)) (fun v3 e4 h3 => ?_)
  refine zok_if (fun q5 => ?_) (fun q5 => ?_)
  · have h6 := zc_eql (4) (4) q5 h_x1 (zr_c (lo := 4) (hi := 4) (by decide)) (by decide)
    refine zok_bu (s_X5_adjustA hσ) (fun σ4 i7 => ?_)
    exact zok_some i7
  refine zok_if (fun q8 => ?_) (fun q8 => ?_)
  · have h9 := zc_eql (5) (5) q8 h_x1 (zr_c (lo := 5) (hi := 5) (by decide)) (by decide)
    refine zok_ck rfl ?_
    refine zok_ck rfl ?_
    refine zok_bs (hσ.wi 0 0 (by decide) (zr_xor (lo := 0) (hi := 255) 8 (rC_21 hσ.sg _ (by decide)) (zr_c (lo := 255) (hi := 255) (by decide)) (by decide)) (by decide +kernel)) (fun σ5 e11 i10 => ?_)
    refine zok_ck rfl ?_
    refine zok_ck rfl ?_
    refine zok_bs (i10.wi 1 1 (by decide) (zr_or (lo := 0) (hi := 255) 8 (zr_or (lo := 0) (hi := 255) 8 (zr_or (lo := 0) (hi := 255) 8 (zr_or (lo := 0) (hi := 255) 8 h1 h3 (by decide)) (zr_c (lo := 16) (hi := 16) (by decide)) (by decide)) (zr_c (lo := 2) (hi := 2) (by decide)) (by decide)) (zr_andr (lo := 0) (hi := 40) (zr_c (lo := 40) (hi := 40) (by decide)) (by decide)) (by decide)) (by decide +kernel)) (fun σ6 e13 i12 => ?_)
    exact zok_some i12
  refine zok_if (fun q14 => ?_) (fun q14 => ?_)
  · have h15 := zc_eql (6) (6) q14 h_x1 (zr_c (lo := 6) (hi := 6) (by decide)) (by decide)
    refine zok_ck rfl ?_
    refine zok_ck rfl ?_
    refine zok_bs (hσ.wi 1 1 (by decide) (zr_or (lo := 0) (hi := 255) 8 (zr_or (lo := 0) (hi := 255) 8 h1 (zr_c (lo := 1) (hi := 1) (by decide)) (by decide)) (zr_andr (lo := 0) (hi := 40) (zr_c (lo := 40) (hi := 40) (by decide)) (by decide)) (by decide)) (by decide +kernel)) (fun σ7 e17 i16 => ?_)
    exact zok_some i16
  refine zok_if (fun q18 => ?_) (fun q18 => ?_)
  · have h19 := zc_eql (7) (7) q18 h_x1 (zr_c (lo := 7) (hi := 7) (by decide)) (by decide)
    refine zok_if (fun q20 => ?_) (fun q20 => ?_)
    · have h21 := zc_eql (0) (0) q20 h3 (zr_c (lo := 0) (hi := 0) (by decide)) (by decide)
      exact (s_X5_changeA_130 hσ (zr_w (zr_c (lo := 1) (hi := 1) (by decide)) (by decide)) h1 (zr_c (lo := 1) (hi := 1) (by decide)))
    have h22 := zc_nel (1) (1) q20 h3 (zr_c (lo := 0) (hi := 0) (by decide)) (by decide)
    exact (s_X5_changeA_130 hσ (zr_w (zr_c (lo := 16) (hi := 16) (by decide)) (by decide)) h1 (zr_c (lo := 1) (hi := 1) (by decide)))
  have h23 := zc_nel (0) (6) q18 h_x1 (zr_c (lo := 7) (hi := 7) (by decide)) (by decide)
  refine zok_ck rfl ?_
  refine zok_ai (s_X5_turn hσ (zr_w h23 (by decide)) (rC_21 hσ.sg _ (by decide))) (fun σ8 v9 i24 h25 => ?_)
  refine zok_ck rfl ?_
  refine zok_bs (i24.wi 0 0 (by decide) h25 (by decide +kernel)) (fun σ10 e27 i26 => ?_)
  refine zok_ck rfl ?_
  refine zok_ck rfl ?_
  refine zok_bs (i26.wi 1 1 (by decide) (zr_or (lo := 0) (hi := 255) 8 h1 (zr_andr (lo := 0) (hi := 41) (zr_c (lo := 41) (hi := 41) (by decide)) (by decide)) (by decide)) (by decide +kernel)) (fun σ11 e29 i28 => ?_)
  exact zok_some i28
theorem s_X5_oneLess_53 {G : Nat → Int} {σ : zSt} (hσ : zIC G σ) {x2 : Int32} (h_x2 : zr (0) (255) x2) {s0 : Int32} (h_s0 : zr (0) (4) s0) {s1 : Int32} (h_s1 : zr (0) (255) s1) {s2 : Int32} (h_s2 : zr (1) (1) s2) : zok (fX5_oneLess_53 σ x2 s0 s1 s2) (zAi (zIC G) (fun v : Int32 => zr (0) (255) v)) := by
  unfold fX5_oneLess_53
  refine zok_ck (zin_ok h_s2 (by decide)) ?_
  refine zok_bs (hσ.wi 1 1 (z_ix h_s2 (by decide)) (zr_or (lo := 0) (hi := 255) 8 (zr_or (lo := 0) (hi := 255) 8 h_s1 h_s0 (by decide)) (zr_c (lo := 2) (hi := 2) (by decide)) (by decide)) (by decide +kernel)) (fun σ1 e2 i1 => ?_)
  exact zok_sai i1 h_x2
theorem s_X5_oneLess_41 {G : Nat → Int} {σ : zSt} (hσ : zIC G σ) {x2 : Int32} (h_x2 : zr (0) (255) x2) {s0 : Int32} (h_s0 : zr (0) (16) s0) {s1 : Int32} (h_s1 : zr (0) (255) s1) {s2 : Int32} (h_s2 : zr (1) (1) s2) : zok (fX5_oneLess_41 σ x2 s0 s1 s2) (zAi (zIC G) (fun v : Int32 => zr (0) (255) v)) := by
  unfold fX5_oneLess_41
  refine zok_if (fun q1 => ?_) (fun q1 => ?_)
  · have h2 := zc_eql (127) (127) q1 h_x2 (zr_c (lo := 127) (hi := 127) (by decide)) (by decide)
    exact (s_X5_oneLess_53 hσ (zr_w h2 (by decide)) (zr_w (zr_c (lo := 4) (hi := 4) (by decide)) (by decide)) (zr_or (lo := 0) (hi := 255) 8 h_s1 h_s0 (by decide)) h_s2)
  exact (s_X5_oneLess_53 hσ h_x2 (zr_w (zr_c (lo := 0) (hi := 0) (by decide)) (by decide)) (zr_or (lo := 0) (hi := 255) 8 h_s1 h_s0 (by decide)) h_s2)
theorem s_X5_oneLess {G : Nat → Int} {σ : zSt} (hσ : zIC G σ) {x1 : Int32} (h_x1 : zr (0) (255) x1) : zok (fX5_oneLess σ x1) (zAi (zIC G) (fun v : Int32 => zr (0) (255) v)) := by
  unfold fX5_oneLess
  refine zok_br (zr_andr (lo := 0) (hi := 255) (zr_c (lo := 255) (hi := 255) (by decide)) (by decide)) (fun v2 e2 h1 => ?_)
  refine zok_ck rfl ?_
  refine zok_pi (s_X5_by hσ.P h1) (fun v4 h3 => ?_)
  refine zok_if (fun q4 => ?_) (fun q4 => ?_)
  · have h5 := zc_eql (15) (15) q4 (zr_andr (lo := 0) (hi := 15) (zr_c (lo := 15) (hi := 15) (by decide)) (by decide)) (zr_c (lo := 15) (hi := 15) (by decide)) (by decide)
    exact (s_X5_oneLess_41 hσ h1 (zr_w (zr_c (lo := 16) (hi := 16) (by decide)) (by decide)) (zr_or (lo := 0) (hi := 255) 8 (zr_andr (lo := 0) (hi := 1) (zr_c (lo := 1) (hi := 1) (by decide)) (by decide)) h3 (by decide)) (zr_c (lo := 1) (hi := 1) (by decide)))
  have h6 := zc_nel (0) (14) q4 (zr_andr (lo := 0) (hi := 15) (zr_c (lo := 15) (hi := 15) (by decide)) (by decide)) (zr_c (lo := 15) (hi := 15) (by decide)) (by decide)
  exact (s_X5_oneLess_41 hσ h1 (zr_w (zr_c (lo := 0) (hi := 0) (by decide)) (by decide)) (zr_or (lo := 0) (hi := 255) 8 (zr_andr (lo := 0) (hi := 1) (zr_c (lo := 1) (hi := 1) (by decide)) (by decide)) h3 (by decide)) (zr_c (lo := 1) (hi := 1) (by decide)))
theorem s_X5_oneMore_52 {G : Nat → Int} {σ : zSt} (hσ : zIC G σ) {x2 : Int32} (h_x2 : zr (0) (255) x2) {s0 : Int32} (h_s0 : zr (0) (4) s0) {s1 : Int32} (h_s1 : zr (0) (255) s1) {s2 : Int32} (h_s2 : zr (1) (1) s2) : zok (fX5_oneMore_52 σ x2 s0 s1 s2) (zAi (zIC G) (fun v : Int32 => zr (0) (255) v)) := by
  unfold fX5_oneMore_52
  refine zok_ck (zin_ok h_s2 (by decide)) ?_
  refine zok_bs (hσ.wi 1 1 (z_ix h_s2 (by decide)) (zr_or (lo := 0) (hi := 255) 8 h_s1 h_s0 (by decide)) (by decide +kernel)) (fun σ1 e2 i1 => ?_)
  exact zok_sai i1 h_x2
theorem s_X5_oneMore_39 {G : Nat → Int} {σ : zSt} (hσ : zIC G σ) {x2 : Int32} (h_x2 : zr (0) (255) x2) {s0 : Int32} (h_s0 : zr (0) (16) s0) {s1 : Int32} (h_s1 : zr (0) (255) s1) {s2 : Int32} (h_s2 : zr (1) (1) s2) : zok (fX5_oneMore_39 σ x2 s0 s1 s2) (zAi (zIC G) (fun v : Int32 => zr (0) (255) v)) := by
  unfold fX5_oneMore_39
  refine zok_if (fun q1 => ?_) (fun q1 => ?_)
  · have h2 := zc_eql (128) (128) q1 h_x2 (zr_c (lo := 128) (hi := 128) (by decide)) (by decide)
    exact (s_X5_oneMore_52 hσ (zr_w h2 (by decide)) (zr_w (zr_c (lo := 4) (hi := 4) (by decide)) (by decide)) (zr_or (lo := 0) (hi := 255) 8 h_s1 h_s0 (by decide)) h_s2)
  exact (s_X5_oneMore_52 hσ h_x2 (zr_w (zr_c (lo := 0) (hi := 0) (by decide)) (by decide)) (zr_or (lo := 0) (hi := 255) 8 h_s1 h_s0 (by decide)) h_s2)
theorem s_X5_oneMore {G : Nat → Int} {σ : zSt} (hσ : zIC G σ) {x1 : Int32} (h_x1 : zr (0) (255) x1) : zok (fX5_oneMore σ x1) (zAi (zIC G) (fun v : Int32 => zr (0) (255) v)) := by
  unfold fX5_oneMore
  refine zok_br (zr_andr (lo := 0) (hi := 255) (zr_c (lo := 255) (hi := 255) (by decide)) (by decide)) (fun v2 e2 h1 => ?_)
  refine zok_ck rfl ?_
  refine zok_pi (s_X5_by hσ.P h1) (fun v4 h3 => ?_)
  refine zok_if (fun q4 => ?_) (fun q4 => ?_)
  · have h5 := zc_eql (0) (0) q4 (zr_andr (lo := 0) (hi := 15) (zr_c (lo := 15) (hi := 15) (by decide)) (by decide)) (zr_c (lo := 0) (hi := 0) (by decide)) (by decide)
    exact (s_X5_oneMore_39 hσ h1 (zr_w (zr_c (lo := 16) (hi := 16) (by decide)) (by decide)) (zr_or (lo := 0) (hi := 255) 8 (zr_andr (lo := 0) (hi := 1) (zr_c (lo := 1) (hi := 1) (by decide)) (by decide)) h3 (by decide)) (zr_c (lo := 1) (hi := 1) (by decide)))
  have h6 := zc_nel (1) (15) q4 (zr_andr (lo := 0) (hi := 15) (zr_c (lo := 15) (hi := 15) (by decide)) (by decide)) (zr_c (lo := 0) (hi := 0) (by decide)) (by decide)
  exact (s_X5_oneMore_39 hσ h1 (zr_w (zr_c (lo := 0) (hi := 0) (by decide)) (by decide)) (zr_or (lo := 0) (hi := 255) 8 (zr_andr (lo := 0) (hi := 1) (zr_c (lo := 1) (hi := 1) (by decide)) (by decide)) h3 (by decide)) (zr_c (lo := 1) (hi := 1) (by decide)))
theorem s_X5_far_78 {σ : zSt} (hσ : zPC σ) : zok (fX5_far_78 σ ) (zPi σ (fun v : Int32 => zr (7) (16) v)) := by
  unfold fX5_far_78
  exact zok_spi (zr_w (zr_c (lo := 16) (hi := 16) (by decide)) (by decide))
theorem s_X5_far_152 {σ : zSt} (hσ : zPC σ) {s0 : Int32} (h_s0 : zr (7) (13) s0) : zok (fX5_far_152 σ s0) (zPi σ (fun v : Int32 => zr (7) (16) v)) := by
  unfold fX5_far_152
  exact zok_spi (zr_w h_s0 (by decide))
theorem s_X5_far_140 {σ : zSt} (hσ : zPC σ) {x1 : Int32} (h_x1 : zr (0) (7) x1) : zok (fX5_far_140 σ x1) (zPi σ (fun v : Int32 => zr (7) (16) v)) := by
  unfold fX5_far_140
  refine zok_if (fun q1 => ?_) (fun q1 => ?_)
  · have h2 := zc_ler (4) q1 (zr_c (lo := 4) (hi := 4) (by decide)) h_x1 (by decide)
    exact (s_X5_far_152 hσ (zr_w (zr_c (lo := 13) (hi := 13) (by decide)) (by decide)))
  have h3 := zc_ltl (3) (z_nle q1) h_x1 (zr_c (lo := 4) (hi := 4) (by decide)) (by decide)
  exact (s_X5_far_152 hσ (zr_w (zr_c (lo := 7) (hi := 7) (by decide)) (by decide)))
theorem s_X5_far_32 {G : Nat → Int} {σ : zSt} (hσ : zIC G σ) {x1 : Int32} (h_x1 : zr (0) (7) x1) {x2 : Int32} (h_x2 : zr (0) (1) x2) {s0 : Int32} (h_s0 : zr (0) (65535) s0) : zok (fX5_far_32 σ x1 x2 s0) (zAi (zIC G) (fun v : Int32 => zr (7) (16) v)) := by
  unfold fX5_far_32
  refine zok_ck rfl ?_
  refine zok_bs (hσ.wi 20 20 (by decide) (zr_andr (lo := 0) (hi := 65535) (zr_c (lo := 65535) (hi := 65535) (by decide)) (by decide)) (by decide +kernel)) (fun σ1 e2 i1 => ?_)
  refine zok_if (fun q3 => ?_) (fun q3 => ?_)
  · have h4 := zc_eql (2) (2) q3 (zr_shr (lo := 0) (hi := 3) 1 (by decide) h_x1 (by decide)) (zr_c (lo := 2) (hi := 2) (by decide)) (by decide)
    refine zok_if (fun q5 => ?_) (fun q5 => ?_)
    · have h6 := zc_eql (0) (0) q5 h_x2 (zr_c (lo := 0) (hi := 0) (by decide)) (by decide)
      refine zok_pi (s_X5_hl i1.P) (fun v8 h7 => ?_)
      refine zok_bu (s_X5_writeWord i1 h_s0 h7) (fun σ9 i8 => ?_)
      exact zok_pai i8 (s_X5_far_78 i8.P)
    have h9 := zc_nel (1) (1) q5 h_x2 (zr_c (lo := 0) (hi := 0) (by decide)) (by decide)
    refine zok_pi (s_X5_readWord i1.P h_s0) (fun v11 h10 => ?_)
    refine zok_bu (s_X5_putHl i1 (zr_w h10 (by decide))) (fun σ12 i11 => ?_)
    exact zok_pai i11 (s_X5_far_78 i11.P)
  refine zok_if (fun q12 => ?_) (fun q12 => ?_)
  · have h13 := zc_eql (0) (0) q12 h_x2 (zr_c (lo := 0) (hi := 0) (by decide)) (by decide)
    refine zok_ck rfl ?_
    refine zok_bu (s_X2_write i1 (zr_w h_s0 (by decide)) (rC_21 i1.sg _ (by decide))) (fun σ2 i14 => ?_)
    refine zok_ck rfl ?_
    refine zok_ck rfl ?_
    refine zok_bs (i14.wi 20 20 (by decide) (zr_or (lo := 0) (hi := 65535) 16 (zr_shl (lo := 0) (hi := 65280) 8 (by decide) (rC_21 i14.sg _ (by decide)) (by decide)) (zr_andr (lo := 0) (hi := 255) (zr_c (lo := 255) (hi := 255) (by decide)) (by decide)) (by decide)) (by decide +kernel)) (fun σ3 e16 i15 => ?_)
    exact zok_pai i15 (s_X5_far_140 i15.P h_x1)
  have h17 := zc_nel (1) (1) q12 h_x2 (zr_c (lo := 0) (hi := 0) (by decide)) (by decide)
  refine zok_pi (s_X2_read i1.P) (fun v5 h18 => ?_)
  refine zok_ck rfl ?_
  refine zok_bs (i1.wi 0 0 (by decide) h18 (by decide +kernel)) (fun σ6 e20 i19 => ?_)
  exact zok_pai i19 (s_X5_far_140 i19.P h_x1)
theorem s_X5_far_12 {G : Nat → Int} {σ : zSt} (hσ : zIC G σ) {x1 : Int32} (h_x1 : zr (0) (7) x1) {s0 : Int32} (h_s0 : zr (0) (1) s0) : zok (fX5_far_12 σ x1 s0) (zAi (zIC G) (fun v : Int32 => zr (7) (16) v)) := by
  unfold fX5_far_12
  refine zok_if (fun q1 => ?_) (fun q1 => ?_)
  · have h2 := zc_ler (4) q1 (zr_c (lo := 4) (hi := 4) (by decide)) h_x1 (by decide)
    refine zok_ai (s_X5_fetchWord hσ) (fun σ13 v14 i3 h4 => ?_)
    exact (s_X5_far_32 i3 (zr_w h2 (by decide)) h_s0 h4)
  have h5 := zc_ltl (3) (z_nle q1) h_x1 (zr_c (lo := 4) (hi := 4) (by decide)) (by decide)
  refine zok_pi (s_X5_pair hσ.P (zr_w (zr_shr (lo := 0) (hi := 1) 1 (by decide) h5 (by decide)) (by decide))) (fun v16 h6 => ?_)
  exact (s_X5_far_32 hσ (zr_w h5 (by decide)) h_s0 h6)
theorem s_X5_far {G : Nat → Int} {σ : zSt} (hσ : zIC G σ) {x1 : Int32} (h_x1 : zr (0) (7) x1) : zok (fX5_far σ x1) (zAi (zIC G) (fun v : Int32 => zr (7) (16) v)) := by
  unfold fX5_far
  refine zok_if (fun q1 => ?_) (fun q1 => ?_)
  · have h2 := zc_eql (1) (1) q1 (zr_andr (lo := 0) (hi := 1) (zr_c (lo := 1) (hi := 1) (by decide)) (by decide)) (zr_c (lo := 1) (hi := 1) (by decide)) (by decide)
    exact (s_X5_far_12 hσ h_x1 (zr_w (zr_c (lo := 1) (hi := 1) (by decide)) (by decide)))
  have h3 := zc_nel (0) (0) q1 (zr_andr (lo := 0) (hi := 1) (zr_c (lo := 1) (hi := 1) (by decide)) (by decide)) (zr_c (lo := 1) (hi := 1) (by decide)) (by decide)
  exact (s_X5_far_12 hσ h_x1 (zr_w (zr_c (lo := 0) (hi := 0) (by decide)) (by decide)))
theorem s_X5_loadPair {G : Nat → Int} {σ : zSt} (hσ : zIC G σ) {x1 : Int32} (h_x1 : zr (0) (3) x1) : zok (fX5_loadPair σ x1) (zAi (zIC G) (fun v : Int32 => zr (10) (10) v)) := by
  unfold fX5_loadPair
  refine zok_ai (s_X5_fetchWord hσ) (fun σ1 v2 i1 h2 => ?_)
  refine zok_bu (s_X5_putPair i1 h_x1 (zr_w h2 (by decide))) (fun σ3 i3 => ?_)
  exact zok_sai i3 (zr_c (lo := 10) (hi := 10) (by decide))
theorem s_X5_addPair {G : Nat → Int} {σ : zSt} (hσ : zIC G σ) {x1 : Int32} (h_x1 : zr (0) (3) x1) : zok (fX5_addPair σ x1) (zAi (zIC G) (fun v : Int32 => zr (11) (11) v)) := by
  unfold fX5_addPair
  refine zok_pi (s_X5_hl hσ.P) (fun v2 h1 => ?_)
  refine zok_pi (s_X5_pair hσ.P h_x1) (fun v4 h2 => ?_)
  refine zok_br (zr_add (lo := 0) (hi := 131070) h1 h2 (by decide)) (fun v5 e4 h3 => ?_)
  refine zok_ck rfl ?_
  refine zok_bs (hσ.wi 20 20 (by decide) (zr_andr (lo := 0) (hi := 65535) (zr_c (lo := 65535) (hi := 65535) (by decide)) (by decide)) (by decide +kernel)) (fun σ6 e6 i5 => ?_)
  refine zok_bu (s_X5_putHl i5 (zr_w h3 (by decide))) (fun σ7 i7 => ?_)
  refine zok_ck rfl ?_
  refine zok_ck rfl ?_
  refine zok_bs (i7.wi 1 1 (by decide) (zr_or (lo := 0) (hi := 255) 8 (zr_or (lo := 0) (hi := 255) 8 (zr_or (lo := 0) (hi := 255) 8 (zr_andr (lo := 0) (hi := 196) (zr_c (lo := 196) (hi := 196) (by decide)) (by decide)) (zr_andr (lo := 0) (hi := 40) (zr_c (lo := 40) (hi := 40) (by decide)) (by decide)) (by decide)) (zr_andr (lo := 0) (hi := 16) (zr_c (lo := 16) (hi := 16) (by decide)) (by decide)) (by decide)) (zr_shr (lo := 0) (hi := 1) 16 (by decide) h3 (by decide)) (by decide)) (by decide +kernel)) (fun σ8 e9 i8 => ?_)
  exact zok_sai i8 (zr_c (lo := 11) (hi := 11) (by decide))
theorem s_X5_near_20 {σ : zSt} (hσ : zPC σ) : zok (fX5_near_20 σ ) (zPi σ (fun v : Int32 => zr (4) (13) v)) := by
  unfold fX5_near_20
  exact zok_spi (zr_w (zr_c (lo := 4) (hi := 4) (by decide)) (by decide))
theorem s_X5_near_133 {σ : zSt} (hσ : zPC σ) {s0 : Int32} (h_s0 : zr (0) (1) s0) {s1 : Int32} (h_s1 : zr (7) (12) s1) : zok (fX5_near_133 σ s0 s1) (zPi σ (fun v : Int32 => zr (4) (13) v)) := by
  unfold fX5_near_133
  exact zok_spi (zr_w (zr_add (lo := 7) (hi := 13) h_s1 h_s0 (by decide)) (by decide))
theorem s_X5_near_123 {σ : zSt} (hσ : zPC σ) {x1 : Int32} (h_x1 : zr (2) (7) x1) {s0 : Int32} (h_s0 : zr (7) (12) s0) : zok (fX5_near_123 σ x1 s0) (zPi σ (fun v : Int32 => zr (4) (13) v)) := by
  unfold fX5_near_123
  refine zok_if (fun q1 => ?_) (fun q1 => ?_)
  · have h2 := zc_eql (2) (2) q1 h_x1 (zr_c (lo := 2) (hi := 2) (by decide)) (by decide)
    exact (s_X5_near_133 hσ (zr_w (zr_c (lo := 1) (hi := 1) (by decide)) (by decide)) h_s0)
  have h3 := zc_nel (3) (7) q1 h_x1 (zr_c (lo := 2) (hi := 2) (by decide)) (by decide)
  exact (s_X5_near_133 hσ (zr_w (zr_c (lo := 0) (hi := 0) (by decide)) (by decide)) h_s0)
theorem s_X5_near_112 {σ : zSt} (hσ : zPC σ) {x1 : Int32} (h_x1 : zr (2) (7) x1) {x3 : Int32} (h_x3 : zr (0) (1) x3) : zok (fX5_near_112 σ x1 x3) (zPi σ (fun v : Int32 => zr (4) (13) v)) := by
  unfold fX5_near_112
  refine zok_if (fun q1 => ?_) (fun q1 => ?_)
  · have h2 := zc_eql (0) (0) q1 h_x3 (zr_c (lo := 0) (hi := 0) (by decide)) (by decide)
    exact (s_X5_near_123 hσ h_x1 (zr_w (zr_c (lo := 7) (hi := 7) (by decide)) (by decide)))
  have h3 := zc_nel (1) (1) q1 h_x3 (zr_c (lo := 0) (hi := 0) (by decide)) (by decide)
  exact (s_X5_near_123 hσ h_x1 (zr_w (zr_c (lo := 12) (hi := 12) (by decide)) (by decide)))
theorem s_X5_near_92 {G : Nat → Int} {σ : zSt} (hσ : zIC G σ) {x1 : Int32} (h_x1 : zr (2) (7) x1) {x2 : Int32} (h_x2 : zr (-128) (127) x2) {x3 : Int32} (h_x3 : zr (0) (1) x3) : zok (fX5_near_92 σ x1 x2 x3) (zAi (zIC G) (fun v : Int32 => zr (4) (13) v)) := by
  unfold fX5_near_92
  refine zok_if (fun q1 => ?_) (fun q1 => ?_)
  · have h2 := zc_eql (0) (0) q1 h_x3 (zr_c (lo := 0) (hi := 0) (by decide)) (by decide)
    exact zok_pai hσ (s_X5_near_112 hσ.P h_x1 (zr_w h2 (by decide)))
  have h3 := zc_nel (1) (1) q1 h_x3 (zr_c (lo := 0) (hi := 0) (by decide)) (by decide)
  refine zok_ck rfl ?_
  refine zok_bu (s_X5_goTo hσ (zr_andr (lo := 0) (hi := 65535) (zr_c (lo := 65535) (hi := 65535) (by decide)) (by decide))) (fun σ1 i4 => ?_)
  exact zok_pai i4 (s_X5_near_112 i4.P h_x1 (zr_w h3 (by decide)))
theorem s_X5_near_91 {G : Nat → Int} {σ : zSt} (hσ : zIC G σ) {x1 : Int32} (h_x1 : zr (2) (2) x1) {x2 : Int32} (h_x2 : zr (-128) (127) x2) {s0 : Int32} (h_s0 : zr (0) (1) s0) : zok (fX5_near_91 σ x1 x2 s0) (zAi (zIC G) (fun v : Int32 => zr (4) (13) v)) := by
  unfold fX5_near_91
  exact (s_X5_near_92 hσ (zr_w h_x1 (by decide)) h_x2 h_s0)
theorem s_X5_near_53 {G : Nat → Int} {σ : zSt} (hσ : zIC G σ) {x1 : Int32} (h_x1 : zr (2) (7) x1) {x2 : Int32} (h_x2 : zr (-128) (127) x2) {s0 : Int32} (h_s0 : zr (0) (1) s0) : zok (fX5_near_53 σ x1 x2 s0) (zAi (zIC G) (fun v : Int32 => zr (4) (13) v)) := by
  unfold fX5_near_53
  refine zok_if (fun q1 => ?_) (fun q1 => ?_)
  · have h2 := zc_eql (2) (2) q1 h_x1 (zr_c (lo := 2) (hi := 2) (by decide)) (by decide)
    refine zok_ck rfl ?_
    refine zok_ck rfl ?_
    refine zok_bs (hσ.wi 2 2 (by decide) (zr_andr (lo := 0) (hi := 255) (zr_c (lo := 255) (hi := 255) (by decide)) (by decide)) (by decide +kernel)) (fun σ2 e4 i3 => ?_)
    refine zok_ck rfl ?_
    refine zok_if (fun q5 => ?_) (fun q5 => ?_)
    · have h6 := zc_eql (0) (0) q5 (rC_21 i3.sg _ (by decide)) (zr_c (lo := 0) (hi := 0) (by decide)) (by decide)
      exact (s_X5_near_91 i3 h2 h_x2 (zr_w (zr_c (lo := 0) (hi := 0) (by decide)) (by decide)))
    have h7 := zc_nel (1) (255) q5 (rC_21 i3.sg _ (by decide)) (zr_c (lo := 0) (hi := 0) (by decide)) (by decide)
    exact (s_X5_near_91 i3 h2 h_x2 (zr_w (zr_c (lo := 1) (hi := 1) (by decide)) (by decide)))
  have h8 := zc_nel (3) (7) q1 h_x1 (zr_c (lo := 2) (hi := 2) (by decide)) (by decide)
  exact (s_X5_near_92 hσ (zr_w h8 (by decide)) h_x2 h_s0)
theorem s_X5_near_48 {G : Nat → Int} {σ : zSt} (hσ : zIC G σ) {x1 : Int32} (h_x1 : zr (3) (7) x1) {x2 : Int32} (h_x2 : zr (-128) (127) x2) : zok (fX5_near_48 σ x1 x2) (zAi (zIC G) (fun v : Int32 => zr (4) (13) v)) := by
  unfold fX5_near_48
  exact (s_X5_near_53 hσ (zr_w h_x1 (by decide)) h_x2 (zr_w (zr_c (lo := 1) (hi := 1) (by decide)) (by decide)))
theorem s_X5_near_52 {G : Nat → Int} {σ : zSt} (hσ : zIC G σ) {x1 : Int32} (h_x1 : zr (2) (7) x1) {x2 : Int32} (h_x2 : zr (-128) (127) x2) : zok (fX5_near_52 σ x1 x2) (zAi (zIC G) (fun v : Int32 => zr (4) (13) v)) := by
  unfold fX5_near_52
  exact (s_X5_near_53 hσ h_x1 h_x2 (zr_w (zr_c (lo := 0) (hi := 0) (by decide)) (by decide)))
theorem s_X5_near {G : Nat → Int} {σ : zSt} (hσ : zIC G σ) {x1 : Int32} (h_x1 : zr (0) (7) x1) : zok (fX5_near σ x1) (zAi (zIC G) (fun v : Int32 => zr (4) (13) v)) := by
  unfold fX5_near
  refine zok_if (fun q1 => ?_) (fun q1 => ?_)
  · have h2 := zc_ler (2) q1 (zr_c (lo := 2) (hi := 2) (by decide)) h_x1 (by decide)
    refine zok_ai (s_X5_fetch hσ) (fun σ3 v4 i3 h4 => ?_)
    refine zok_br (zr_i8 (lo := -128) (hi := 127) (by decide)) (fun v5 e6 h5 => ?_)
    refine zok_if (fun q7 => ?_) (fun q7 => ?_)
    · have h8 := zc_eql (3) (3) q7 h2 (zr_c (lo := 3) (hi := 3) (by decide)) (by decide)
      exact (s_X5_near_48 i3 (zr_w h8 (by decide)) h5)
    refine zok_if (fun q9 => ?_) (fun q9 => ?_)
    · have h10 := zc_lel (3) q9 h2 (zr_c (lo := 3) (hi := 3) (by decide)) (by decide)
      exact (s_X5_near_52 i3 (zr_w h10 (by decide)) h5)
    have h11 := zc_ltr (4) (z_nle q9) (zr_c (lo := 3) (hi := 3) (by decide)) h2 (by decide)
    refine zok_pi (s_X5_holds i3.P (zr_w (zr_sub (lo := 0) (hi := 3) h11 (zr_c (lo := 4) (hi := 4) (by decide)) (by decide)) (by decide))) (fun v7 h12 => ?_)
    refine zok_if (fun q13 => ?_) (fun q13 => ?_)
    · have h14 := zc_eql (0) (0) q13 h12 (zr_c (lo := 0) (hi := 0) (by decide)) (by decide)
      exact (s_X5_near_52 i3 (zr_w h11 (by decide)) h5)
    have h15 := zc_nel (1) (1) q13 h12 (zr_c (lo := 0) (hi := 0) (by decide)) (by decide)
    exact (s_X5_near_48 i3 (zr_w h11 (by decide)) h5)
  have h16 := zc_ltl (1) (z_nle q1) h_x1 (zr_c (lo := 2) (hi := 2) (by decide)) (by decide)
  refine zok_if (fun q17 => ?_) (fun q17 => ?_)
  · have h18 := zc_eql (1) (1) q17 h16 (zr_c (lo := 1) (hi := 1) (by decide)) (by decide)
    refine zok_bu (s_X5_changeWithOther hσ (zr_w (zr_c (lo := 0) (hi := 0) (by decide)) (by decide))) (fun σ8 i19 => ?_)
    refine zok_bu (s_X5_changeWithOther i19 (zr_w (zr_c (lo := 1) (hi := 1) (by decide)) (by decide))) (fun σ9 i20 => ?_)
    exact zok_pai i20 (s_X5_near_20 i20.P)
  have h21 := zc_nel (0) (0) q17 h16 (zr_c (lo := 1) (hi := 1) (by decide)) (by decide)
  exact zok_pai hσ (s_X5_near_20 hσ.P)
theorem s_X5_firstQuarter_193 {σ : zSt} (hσ : zPC σ) {s0 : Int32} (h_s0 : zr (7) (10) s0) : zok (fX5_firstQuarter_193 σ s0) (zPi σ (fun v : Int32 => zr (4) (16) v)) := by
  unfold fX5_firstQuarter_193
  exact zok_spi (zr_w h_s0 (by decide))
theorem s_X5_firstQuarter_170 {σ : zSt} (hσ : zPC σ) {s0 : Int32} (h_s0 : zr (4) (11) s0) : zok (fX5_firstQuarter_170 σ s0) (zPi σ (fun v : Int32 => zr (4) (16) v)) := by
  unfold fX5_firstQuarter_170
  exact zok_spi (zr_w h_s0 (by decide))
theorem s_X5_firstQuarter_143 {σ : zSt} (hσ : zPC σ) {s0 : Int32} (h_s0 : zr (4) (11) s0) : zok (fX5_firstQuarter_143 σ s0) (zPi σ (fun v : Int32 => zr (4) (16) v)) := by
  unfold fX5_firstQuarter_143
  exact zok_spi (zr_w h_s0 (by decide))
theorem s_X5_firstQuarter_110 {G : Nat → Int} {σ : zSt} (hσ : zIC G σ) {s0 : Int32} (h_s0 : zr (-1) (1) s0) {s1 : Int32} (h_s1 : zr (0) (65535) s1) {s2 : Int32} (h_s2 : zr (0) (3) s2) : zok (fX5_firstQuarter_110 σ s0 s1 s2) (zAi (zIC G) (fun v : Int32 => zr (4) (16) v)) := by
  unfold fX5_firstQuarter_110
  refine zok_bu (s_X5_putPair hσ h_s2 (zr_add (lo := -1) (hi := 65536) h_s1 h_s0 (by decide))) (fun σ1 i1 => ?_)
  exact zok_sai i1 (zr_w (zr_c (lo := 6) (hi := 6) (by decide)) (by decide))
theorem s_X5_firstQuarter_81 {σ : zSt} (hσ : zPC σ) {s0 : Int32} (h_s0 : zr (10) (11) s0) : zok (fX5_firstQuarter_81 σ s0) (zPi σ (fun v : Int32 => zr (4) (16) v)) := by
  unfold fX5_firstQuarter_81
  exact zok_spi (zr_w h_s0 (by decide))
theorem s_X5_firstQuarter {G : Nat → Int} {σ : zSt} (hσ : zIC G σ) {x1 : Int32} (h_x1 : zr (0) (255) x1) : zok (fX5_firstQuarter σ x1) (zAi (zIC G) (fun v : Int32 => zr (4) (16) v)) := by
  unfold fX5_firstQuarter
  refine zok_br (zr_andr (lo := 0) (hi := 7) (zr_c (lo := 7) (hi := 7) (by decide)) (by decide)) (fun v2 e2 h1 => ?_)
  refine zok_if (fun q3 => ?_) (fun q3 => ?_)
  · have h4 := zc_eql (0) (0) q3 (zr_andr (lo := 0) (hi := 7) (zr_c (lo := 7) (hi := 7) (by decide)) (by decide)) (zr_c (lo := 0) (hi := 0) (by decide)) (by decide)
    refine zok_ai (s_X5_near hσ h1) (fun σ3 v4 i5 h6 => ?_)
    exact zok_sai i5 (zr_w h6 (by decide))
  have h7 := zc_nel (1) (7) q3 (zr_andr (lo := 0) (hi := 7) (zr_c (lo := 7) (hi := 7) (by decide)) (by decide)) (zr_c (lo := 0) (hi := 0) (by decide)) (by decide)
  refine zok_if (fun q8 => ?_) (fun q8 => ?_)
  · have h9 := zc_eql (1) (1) q8 h7 (zr_c (lo := 1) (hi := 1) (by decide)) (by decide)
    refine zok_if (fun q10 => ?_) (fun q10 => ?_)
    · have h11 := zc_eql (0) (0) q10 (zr_andr (lo := 0) (hi := 1) (zr_c (lo := 1) (hi := 1) (by decide)) (by decide)) (zr_c (lo := 0) (hi := 0) (by decide)) (by decide)
      refine zok_ai (s_X5_loadPair hσ (zr_shr (lo := 0) (hi := 3) 1 (by decide) h1 (by decide))) (fun σ7 v8 i12 h13 => ?_)
      exact zok_pai i12 (s_X5_firstQuarter_81 i12.P (zr_w h13 (by decide)))
    have h14 := zc_nel (1) (1) q10 (zr_andr (lo := 0) (hi := 1) (zr_c (lo := 1) (hi := 1) (by decide)) (by decide)) (zr_c (lo := 0) (hi := 0) (by decide)) (by decide)
    refine zok_ai (s_X5_addPair hσ (zr_shr (lo := 0) (hi := 3) 1 (by decide) h1 (by decide))) (fun σ5 v6 i15 h16 => ?_)
    exact zok_pai i15 (s_X5_firstQuarter_81 i15.P (zr_w h16 (by decide)))
  have h17 := zc_nel (2) (7) q8 h7 (zr_c (lo := 1) (hi := 1) (by decide)) (by decide)
  refine zok_if (fun q18 => ?_) (fun q18 => ?_)
  · have h19 := zc_eql (2) (2) q18 h17 (zr_c (lo := 2) (hi := 2) (by decide)) (by decide)
    refine zok_ai (s_X5_far hσ h1) (fun σ9 v10 i20 h21 => ?_)
    exact zok_sai i20 (zr_w h21 (by decide))
  have h22 := zc_nel (3) (7) q18 h17 (zr_c (lo := 2) (hi := 2) (by decide)) (by decide)
  refine zok_if (fun q23 => ?_) (fun q23 => ?_)
  · have h24 := zc_eql (3) (3) q23 h22 (zr_c (lo := 3) (hi := 3) (by decide)) (by decide)
    refine zok_pi (s_X5_pair hσ.P (zr_shr (lo := 0) (hi := 3) 1 (by decide) h1 (by decide))) (fun v12 h25 => ?_)
    refine zok_if (fun q26 => ?_) (fun q26 => ?_)
    · have h27 := zc_eql (0) (0) q26 (zr_andr (lo := 0) (hi := 1) (zr_c (lo := 1) (hi := 1) (by decide)) (by decide)) (zr_c (lo := 0) (hi := 0) (by decide)) (by decide)
      exact (s_X5_firstQuarter_110 hσ (zr_w (zr_c (lo := 1) (hi := 1) (by decide)) (by decide)) h25 (zr_shr (lo := 0) (hi := 3) 1 (by decide) h1 (by decide)))
    have h28 := zc_nel (1) (1) q26 (zr_andr (lo := 0) (hi := 1) (zr_c (lo := 1) (hi := 1) (by decide)) (by decide)) (zr_c (lo := 0) (hi := 0) (by decide)) (by decide)
    exact (s_X5_firstQuarter_110 hσ (zr_w (zr_c (lo := -1) (hi := -1) (by decide)) (by decide)) h25 (zr_shr (lo := 0) (hi := 3) 1 (by decide) h1 (by decide)))
  have h29 := zc_nel (4) (7) q23 h22 (zr_c (lo := 3) (hi := 3) (by decide)) (by decide)
  refine zok_if (fun q30 => ?_) (fun q30 => ?_)
  · have h31 := zc_eql (4) (4) q30 h29 (zr_c (lo := 4) (hi := 4) (by decide)) (by decide)
    refine zok_pi (s_X5_one hσ.P h1) (fun v14 h32 => ?_)
    refine zok_ai (s_X5_oneMore hσ h32) (fun σ15 v16 i33 h34 => ?_)
    refine zok_bu (s_X5_putOne i33 h1 h34) (fun σ17 i35 => ?_)
    refine zok_if (fun q36 => ?_) (fun q36 => ?_)
    · have h37 := zc_eql (6) (6) q36 h1 (zr_c (lo := 6) (hi := 6) (by decide)) (by decide)
      exact zok_pai i35 (s_X5_firstQuarter_143 i35.P (zr_w (zr_c (lo := 11) (hi := 11) (by decide)) (by decide)))
    exact zok_pai i35 (s_X5_firstQuarter_143 i35.P (zr_w (zr_c (lo := 4) (hi := 4) (by decide)) (by decide)))
  have h38 := zc_nel (5) (7) q30 h29 (zr_c (lo := 4) (hi := 4) (by decide)) (by decide)
  refine zok_if (fun q39 => ?_) (fun q39 => ?_)
  · have h40 := zc_eql (5) (5) q39 h38 (zr_c (lo := 5) (hi := 5) (by decide)) (by decide)
    refine zok_pi (s_X5_one hσ.P h1) (fun v19 h41 => ?_)
    refine zok_ai (s_X5_oneLess hσ h41) (fun σ20 v21 i42 h43 => ?_)
    refine zok_bu (s_X5_putOne i42 h1 h43) (fun σ22 i44 => ?_)
    refine zok_if (fun q45 => ?_) (fun q45 => ?_)
    · have h46 := zc_eql (6) (6) q45 h1 (zr_c (lo := 6) (hi := 6) (by decide)) (by decide)
      exact zok_pai i44 (s_X5_firstQuarter_170 i44.P (zr_w (zr_c (lo := 11) (hi := 11) (by decide)) (by decide)))
    exact zok_pai i44 (s_X5_firstQuarter_170 i44.P (zr_w (zr_c (lo := 4) (hi := 4) (by decide)) (by decide)))
  have h47 := zc_nel (6) (7) q39 h38 (zr_c (lo := 5) (hi := 5) (by decide)) (by decide)
  refine zok_if (fun q48 => ?_) (fun q48 => ?_)
  · have h49 := zc_eql (6) (6) q48 h47 (zr_c (lo := 6) (hi := 6) (by decide)) (by decide)
    refine zok_ai (s_X5_fetch hσ) (fun σ23 v24 i50 h51 => ?_)
    refine zok_bu (s_X5_putOne i50 h1 h51) (fun σ25 i52 => ?_)
    refine zok_if (fun q53 => ?_) (fun q53 => ?_)
    · have h54 := zc_eql (6) (6) q53 h1 (zr_c (lo := 6) (hi := 6) (by decide)) (by decide)
      exact zok_pai i52 (s_X5_firstQuarter_193 i52.P (zr_w (zr_c (lo := 10) (hi := 10) (by decide)) (by decide)))
    exact zok_pai i52 (s_X5_firstQuarter_193 i52.P (zr_w (zr_c (lo := 7) (hi := 7) (by decide)) (by decide)))
  have h55 := zc_nel (7) (7) q48 h47 (zr_c (lo := 6) (hi := 6) (by decide)) (by decide)
  refine zok_bu (s_X5_changeA hσ h1) (fun σ26 i56 => ?_)
  exact zok_sai i56 (zr_w (zr_c (lo := 4) (hi := 4) (by decide)) (by decide))
theorem s_X5_carryOn_90 {G : Nat → Int} {σ : zSt} (hσ : zIC G σ) : zok (fX5_carryOn_90 σ ) (zAi (zIC G) (fun v : Int32 => zr (4) (31) v)) := by
  unfold fX5_carryOn_90
  refine zok_ck rfl ?_
  refine zok_bs (hσ.wi 28 28 (by decide) (zr_c (lo := 1) (hi := 1) (by decide)) (by decide +kernel)) (fun σ1 e2 i1 => ?_)
  exact zok_sai i1 (zr_w (zr_c (lo := 4) (hi := 4) (by decide)) (by decide))
theorem s_X5_carryOn_193 {σ : zSt} (hσ : zPC σ) {s0 : Int32} (h_s0 : zr (8) (21) s0) : zok (fX5_carryOn_193 σ s0) (zPi σ (fun v : Int32 => zr (4) (31) v)) := by
  unfold fX5_carryOn_193
  exact zok_spi (zr_w h_s0 (by decide))
theorem s_X5_carryOn_275 {σ : zSt} (hσ : zPC σ) {s0 : Int32} (h_s0 : zr (4) (19) s0) {s1 : Int32} (h_s1 : zr (0) (12) s1) : zok (fX5_carryOn_275 σ s0 s1) (zPi σ (fun v : Int32 => zr (4) (31) v)) := by
  unfold fX5_carryOn_275
  exact zok_spi (zr_add (lo := 4) (hi := 31) h_s1 h_s0 (by decide))
theorem s_X5_carryOn_141 {G : Nat → Int} {σ : zSt} (hσ : zIC G σ) {x1 : Int32} (h_x1 : zr (0) (255) x1) {x2 : Int32} (h_x2 : zr (0) (12) x2) : zok (fX5_carryOn_141 σ x1 x2) (zAi (zIC G) (fun v : Int32 => zr (4) (31) v)) := by
  unfold fX5_carryOn_141
  refine zok_if (fun q1 => ?_) (fun q1 => ?_)
  · have h2 := zc_eql (203) (203) q1 h_x1 (zr_c (lo := 203) (hi := 203) (by decide)) (by decide)
    refine zok_ai (s_X5_fetchOp hσ) (fun σ18 v19 i3 h4 => ?_)
    refine zok_ai (s_X5_turns i3 h4) (fun σ20 v21 i5 h6 => ?_)
    exact zok_sai i5 (zr_w h6 (by decide))
  refine zok_if (fun q7 => ?_) (fun q7 => ?_)
  · have h8 := zc_eql (237) (237) q7 h_x1 (zr_c (lo := 237) (hi := 237) (by decide)) (by decide)
    refine zok_ai (s_X5_fetchOp hσ) (fun σ12 v13 i9 h10 => ?_)
    refine zok_if (fun q11 => ?_) (fun q11 => ?_)
    · have h12 := zc_eql (160) (160) q11 (zr_andr (lo := 0) (hi := 228) (zr_c (lo := 228) (hi := 228) (by decide)) (by decide)) (zr_c (lo := 160) (hi := 160) (by decide)) (by decide)
      refine zok_ai (s_X5_block i9 h10) (fun σ16 v17 i13 h14 => ?_)
      exact zok_pai i13 (s_X5_carryOn_193 i13.P (zr_w h14 (by decide)))
    refine zok_ai (s_X5_behindEd i9 h10) (fun σ14 v15 i15 h16 => ?_)
    exact zok_pai i15 (s_X5_carryOn_193 i15.P (zr_w h16 (by decide)))
  refine zok_if (fun q17 => ?_) (fun q17 => ?_)
  · have h18 := zc_eql (0) (0) q17 (zr_shr (lo := 0) (hi := 3) 6 (by decide) h_x1 (by decide)) (zr_c (lo := 0) (hi := 0) (by decide)) (by decide)
    refine zok_ai (s_X5_firstQuarter hσ h_x1) (fun σ2 v3 i19 h20 => ?_)
    exact zok_sai i19 (zr_w (zr_add (lo := 4) (hi := 28) h_x2 h20 (by decide)) (by decide))
  have h21 := zc_nel (1) (3) q17 (zr_shr (lo := 0) (hi := 3) 6 (by decide) h_x1 (by decide)) (zr_c (lo := 0) (hi := 0) (by decide)) (by decide)
  refine zok_if (fun q22 => ?_) (fun q22 => ?_)
  · have h23 := zc_eql (1) (1) q22 h21 (zr_c (lo := 1) (hi := 1) (by decide)) (by decide)
    refine zok_ai (s_X5_move hσ h_x1) (fun σ4 v5 i24 h25 => ?_)
    exact zok_sai i24 (zr_w (zr_add (lo := 4) (hi := 19) h_x2 h25 (by decide)) (by decide))
  have h26 := zc_nel (2) (3) q22 h21 (zr_c (lo := 1) (hi := 1) (by decide)) (by decide)
  refine zok_if (fun q27 => ?_) (fun q27 => ?_)
  · have h28 := zc_eql (2) (2) q27 h26 (zr_c (lo := 2) (hi := 2) (by decide)) (by decide)
    refine zok_ai (s_X5_doWithRegister hσ h_x1) (fun σ6 v7 i29 h30 => ?_)
    exact zok_sai i29 (zr_w (zr_add (lo := 4) (hi := 19) h_x2 h30 (by decide)) (by decide))
  have h31 := zc_nel (3) (3) q27 h26 (zr_c (lo := 2) (hi := 2) (by decide)) (by decide)
  refine zok_if (fun q32 => ?_) (fun q32 => ?_)
  · have h33 := zc_eql (3) (3) q32 (zr_andr (lo := 0) (hi := 7) (zr_c (lo := 7) (hi := 7) (by decide)) (by decide)) (zr_c (lo := 3) (hi := 3) (by decide)) (by decide)
    refine zok_ai (s_X5_exchange hσ (zr_andr (lo := 0) (hi := 7) (zr_c (lo := 7) (hi := 7) (by decide)) (by decide))) (fun σ10 v11 i34 h35 => ?_)
    exact zok_pai i34 (s_X5_carryOn_275 i34.P h35 h_x2)
  refine zok_ai (s_X5_lastQuarter hσ h_x1) (fun σ8 v9 i36 h37 => ?_)
  exact zok_pai i36 (s_X5_carryOn_275 i36.P (zr_w h37 (by decide)) h_x2)
theorem s_X5_carryOn_115 {G : Nat → Int} {σ : zSt} (hσ : zIC G σ) {s0 : Int32} (h_s0 : zr (16) (17) s0) : zok (fX5_carryOn_115 σ s0) (zAi (zIC G) (fun v : Int32 => zr (4) (31) v)) := by
  unfold fX5_carryOn_115
  refine zok_bs (hσ.sp1 h_s0 (by decide)) (fun σ22 e2 i1 => ?_)
  refine zok_ai (s_X5_fetchOp i1) (fun σ23 v24 i3 h4 => ?_)
  refine zok_if (fun q5 => ?_) (fun q5 => ?_)
  · have h6 := zc_eql (203) (203) q5 h4 (zr_c (lo := 203) (hi := 203) (by decide)) (by decide)
    refine zok_ai (s_X5_turnBeside i3) (fun σ27 v28 i7 h8 => ?_)
    exact zok_sai i7 (zr_w h8 (by decide))
  refine zok_ai (s_X5_takePlace i3 h4) (fun σ25 v26 i9 h10 => ?_)
  exact (s_X5_carryOn_141 i9 h4 (zr_w h10 (by decide)))
theorem s_X5_carryOn_54 {G : Nat → Int} {σ : zSt} (hσ : zIC G σ) {x1 : Int32} (h_x1 : zr (221) (253) x1) : zok (fX5_carryOn_54 σ x1) (zAi (zIC G) (fun v : Int32 => zr (4) (31) v)) := by
  unfold fX5_carryOn_54
  refine zok_ck rfl ?_
  refine zok_pi (s_X2_read hσ.P) (fun v30 h1 => ?_)
  refine zok_if (fun q2 => ?_) (fun q2 => ?_)
  · have h3 := zc_eql (221) (221) q2 h1 (zr_c (lo := 221) (hi := 221) (by decide)) (by decide)
    exact (s_X5_carryOn_90 hσ)
  refine zok_if (fun q4 => ?_) (fun q4 => ?_)
  · have h5 := zc_eql (237) (237) q4 h1 (zr_c (lo := 237) (hi := 237) (by decide)) (by decide)
    exact (s_X5_carryOn_90 hσ)
  refine zok_if (fun q6 => ?_) (fun q6 => ?_)
  · have h7 := zc_eql (253) (253) q6 h1 (zr_c (lo := 253) (hi := 253) (by decide)) (by decide)
    exact (s_X5_carryOn_90 hσ)
  refine zok_if (fun q8 => ?_) (fun q8 => ?_)
  · have h9 := zc_eql (221) (221) q8 h_x1 (zr_c (lo := 221) (hi := 221) (by decide)) (by decide)
    exact (s_X5_carryOn_115 hσ (zr_w (zr_c (lo := 16) (hi := 16) (by decide)) (by decide)))
  have h10 := zc_nel (222) (253) q8 h_x1 (zr_c (lo := 221) (hi := 221) (by decide)) (by decide)
  exact (s_X5_carryOn_115 hσ (zr_w (zr_c (lo := 17) (hi := 17) (by decide)) (by decide)))
theorem s_X5_carryOn {G : Nat → Int} {σ : zSt} (hσ : zIC G σ) : zok (fX5_carryOn σ ) (zAi (zIC G) (fun v : Int32 => zr (4) (31) v)) := by
  unfold fX5_carryOn
  refine zok_ck rfl ?_
  refine zok_if (fun q1 => ?_) (fun q1 => ?_)
  · have h2 := zc_eql (1) (1) q1 (rC_26 hσ.sg _ (by decide)) (zr_c (lo := 1) (hi := 1) (by decide)) (by decide)
    refine zok_bu (s_X5_growR hσ) (fun σ37 i3 => ?_)
    exact zok_sai i3 (zr_w (zr_c (lo := 4) (hi := 4) (by decide)) (by decide))
  have h4 := zc_nel (0) (0) q1 (rC_26 hσ.sg _ (by decide)) (zr_c (lo := 1) (hi := 1) (by decide)) (by decide)
  refine zok_bs (hσ.sp0 (zr_c (lo := 6) (hi := 6) (by decide)) (by decide)) (fun σ31 e6 i5 => ?_)
  refine zok_pi (s_X5_pairAt i5.P (zr_w (zr_c (lo := 6) (hi := 6) (by decide)) (by decide))) (fun v33 h7 => ?_)
  refine zok_bs (i5.wi 5 5 (by decide) h7 (by decide +kernel)) (fun σ34 e9 i8 => ?_)
  refine zok_ai (s_X5_fetchOp i8) (fun σ35 v36 i10 h11 => ?_)
  refine zok_if (fun q12 => ?_) (fun q12 => ?_)
  · have h13 := zc_eql (221) (221) q12 h11 (zr_c (lo := 221) (hi := 221) (by decide)) (by decide)
    exact (s_X5_carryOn_54 i10 (zr_w h13 (by decide)))
  refine zok_if (fun q14 => ?_) (fun q14 => ?_)
  · have h15 := zc_eql (253) (253) q14 h11 (zr_c (lo := 253) (hi := 253) (by decide)) (by decide)
    exact (s_X5_carryOn_54 i10 (zr_w h15 (by decide)))
  exact (s_X5_carryOn_141 i10 h11 (zr_w (zr_c (lo := 0) (hi := 0) (by decide)) (by decide)))
theorem s_X6_size_k11 {σ : zSt} (hσ : zPC σ) : zok (fX6_size_k11 σ ) (zPi σ (fun v : Int32 => True)) := by
  unfold fX6_size_k11
  exact zok_spi trivial
theorem s_X6_size_k12 {σ : zSt} (hσ : zPC σ) : zok (fX6_size_k12 σ ) (zPi σ (fun v : Int32 => True)) := by
  unfold fX6_size_k12
  exact zok_spi trivial
theorem s_X6_takeFirst_k11 {G : Nat → Int} {σ : zSt} (hσ : zIC G σ) : zok (fX6_takeFirst_k11 σ ) (zAL (zIC G) (fun v : Int64 => True)) := by
  unfold fX6_takeFirst_k11
  refine zok_if (fun q1 => ?_) (fun q1 => ?_)
  · have h2 := zc_eql (0) (0) q1 zr_any (zr_c (lo := 0) (hi := 0) (by decide)) (by decide)
    exact zok_sal hσ trivial
  refine zok_ck (zin_ok (zr_andr (lo := 0) (hi := 4095) (zr_c (lo := 4095) (hi := 4095) (by decide)) (by decide)) (by decide)) ?_
  refine zok_bv (fun v1 e4 => ?_)
  refine zok_bs (hσ.wk (by decide)) (fun σ2 e6 i5 => ?_)
  refine zok_bs (i5.wk (by decide)) (fun σ3 e8 i7 => ?_)
  exact zok_sal i7 trivial
theorem s_X6_takeFirst_k12 {G : Nat → Int} {σ : zSt} (hσ : zIC G σ) : zok (fX6_takeFirst_k12 σ ) (zAL (zIC G) (fun v : Int64 => True)) := by
  unfold fX6_takeFirst_k12
  refine zok_if (fun q1 => ?_) (fun q1 => ?_)
  · have h2 := zc_eql (0) (0) q1 zr_any (zr_c (lo := 0) (hi := 0) (by decide)) (by decide)
    exact zok_sal hσ trivial
  refine zok_ck (zin_ok (zr_andr (lo := 0) (hi := 4095) (zr_c (lo := 4095) (hi := 4095) (by decide)) (by decide)) (by decide)) ?_
  refine zok_bv (fun v1 e4 => ?_)
  refine zok_bs (hσ.wk (by decide)) (fun σ2 e6 i5 => ?_)
  refine zok_bs (i5.wk (by decide)) (fun σ3 e8 i7 => ?_)
  exact zok_sal i7 trivial
theorem s_J7_fill_53178_k30_5_body {G : Nat → Int} {σ : zSt} {k5 : zSt → Int32 → Int32 → Int32 → Option (zSt)} {Mk5 : Int} (hk5 : ∀ (σ : zSt) (x1 : Int32) (x2 : Int32) (x3 : Int32), zIC G σ → zr (0) (0) x1 → zr (0) (19) x2 → zr (19) (19) x3 → (19) - x2.toInt < Mk5 → zok (k5 σ x1 x2 x3) (zIC G)) (hσ : zIC G σ) {x1 : Int32} (h_x1 : zr (0) (0) x1) {x2 : Int32} (h_x2 : zr (0) (19) x2) {x3 : Int32} (h_x3 : zr (19) (19) x3) (hMk5 : (19) - x2.toInt ≤ Mk5) : zok (fJ7_fill_53178_k30_5_body k5 σ x1 x2 x3) (zIC G) := by
  unfold fJ7_fill_53178_k30_5_body
  refine zok_if (fun q1 => ?_) (fun q1 => ?_)
  · have h2 := zc_ler (19) q1 h_x3 h_x2 (by decide)
    exact zok_some hσ
  have h3 := zc_ltl (18) (z_nle q1) h_x2 h_x3 (by decide)
  refine zok_ck (zin_ok h3 (by decide)) ?_
  refine zok_bs (hσ.wi 0 18 (z_ix h3 (by decide)) h_x1 (by decide +kernel)) (fun σ1 e5 i4 => ?_)
  refine zok_br (zr_add (lo := 1) (hi := 19) h3 (zr_c (lo := 1) (hi := 1) (by decide)) (by decide)) (fun v2 e7 h6 => ?_)
  exact hk5 _ _ _ _ i4 h_x1 (zr_w h6 (by decide)) h_x3 (by rw [e7]; have := z_tadd (y := (1 : Int32)) h3 (zr_c (lo := 1) (hi := 1) (by decide)) (by decide); have e9 : (1 : Int32).toInt = 1 := rfl; omega) 
theorem s_J7_fill_53178_k30_5 {G : Nat → Int} : ∀ (n : Nat) {σ : zSt} (hσ : zIC G σ) {x1 : Int32} (h_x1 : zr (0) (0) x1) {x2 : Int32} (h_x2 : zr (0) (19) x2) {x3 : Int32} (h_x3 : zr (19) (19) x3) (hm : (19) - x2.toInt < n), zok (fJ7_fill_53178_k30_5 n σ x1 x2 x3) (zIC G) := by
  intro n
  induction n with
  | zero => intro σ hσ x1 h_x1 x2 h_x2 x3 h_x3 hm ; have h9 := h_x2.1; have h8 := h_x2.2; exfalso; omega
  | succ n ih => intro σ hσ x1 h_x1 x2 h_x2 x3 h_x3 hm ; exact s_J7_fill_53178_k30_5_body (fun σ x1 x2 x3 hσ h_x1 h_x2 h_x3 hm1 => ih hσ h_x1 h_x2 h_x3 (by omega)) hσ h_x1 h_x2 h_x3 (Int.le_refl _)
theorem s_J7_fill_53178_k30 {G : Nat → Int} {σ : zSt} (hσ : zIC G σ) {x1 : Int32} (h_x1 : zr (0) (0) x1) : zok (fJ7_fill_53178_k30 σ x1) (zIC G) := by
  unfold fJ7_fill_53178_k30
  exact (s_J7_fill_53178_k30_5 zfuel hσ h_x1 (zr_w (zr_c (lo := 0) (hi := 0) (by decide)) (by decide)) (zr_c (lo := 19) (hi := 19) (by decide)) (by decide))
theorem s_J7_fill_fda19_k30_10_body {G : Nat → Int} {σ : zSt} {k10 : zSt → Int32 → Int32 → Int32 → Option (zSt)} {Mk10 : Int} (hk10 : ∀ (σ : zSt) (x2 : Int32) (x3 : Int32) (x4 : Int32), zIC G σ → zr (13) (13) x2 → zr (15) (15) x3 → zr (9) (13) x4 → (13) - x4.toInt < Mk10 → zok (k10 σ x2 x3 x4) (zIC G)) (hσ : zIC G σ) {x2 : Int32} (h_x2 : zr (13) (13) x2) {x3 : Int32} (h_x3 : zr (15) (15) x3) {x4 : Int32} (h_x4 : zr (9) (13) x4) (hMk10 : (13) - x4.toInt ≤ Mk10) : zok (fJ7_fill_fda19_k30_10_body k10 σ x2 x3 x4) (zIC G) := by
  unfold fJ7_fill_fda19_k30_10_body
  refine zok_if (fun q1 => ?_) (fun q1 => ?_)
  · have h2 := zc_ler (13) q1 h_x2 h_x4 (by decide)
    exact zok_some hσ
  have h3 := zc_ltl (12) (z_nle q1) h_x4 h_x2 (by decide)
  refine zok_ck (zin_ok h3 (by decide)) ?_
  refine zok_bs (hσ.wi 9 12 (z_ix h3 (by decide)) h_x3 (by decide +kernel)) (fun σ1 e5 i4 => ?_)
  refine zok_br (zr_add (lo := 10) (hi := 13) h3 (zr_c (lo := 1) (hi := 1) (by decide)) (by decide)) (fun v2 e7 h6 => ?_)
  exact hk10 _ _ _ _ i4 h_x2 h_x3 (zr_w h6 (by decide)) (by rw [e7]; have := z_tadd (y := (1 : Int32)) h3 (zr_c (lo := 1) (hi := 1) (by decide)) (by decide); have e9 : (1 : Int32).toInt = 1 := rfl; omega) 
theorem s_J7_fill_fda19_k30_10 {G : Nat → Int} : ∀ (n : Nat) {σ : zSt} (hσ : zIC G σ) {x2 : Int32} (h_x2 : zr (13) (13) x2) {x3 : Int32} (h_x3 : zr (15) (15) x3) {x4 : Int32} (h_x4 : zr (9) (13) x4) (hm : (13) - x4.toInt < n), zok (fJ7_fill_fda19_k30_10 n σ x2 x3 x4) (zIC G) := by
  intro n
  induction n with
  | zero => intro σ hσ x2 h_x2 x3 h_x3 x4 h_x4 hm ; have h9 := h_x4.1; have h8 := h_x4.2; exfalso; omega
  | succ n ih => intro σ hσ x2 h_x2 x3 h_x3 x4 h_x4 hm ; exact s_J7_fill_fda19_k30_10_body (fun σ x2 x3 x4 hσ h_x2 h_x3 h_x4 hm1 => ih hσ h_x2 h_x3 h_x4 (by omega)) hσ h_x2 h_x3 h_x4 (Int.le_refl _)
theorem s_J7_fill_fda19_k30 {G : Nat → Int} {σ : zSt} (hσ : zIC G σ) {x1 : Int32} (h_x1 : zr (9) (9) x1) {x2 : Int32} (h_x2 : zr (13) (13) x2) {x3 : Int32} (h_x3 : zr (15) (15) x3) : zok (fJ7_fill_fda19_k30 σ x1 x2 x3) (zIC G) := by
  unfold fJ7_fill_fda19_k30
  refine zok_pu (s_rangeCheck (zr_c (lo := 19) (hi := 19) (by decide)) h_x1 h_x2 (by decide)) ?_
  exact (s_J7_fill_fda19_k30_10 zfuel hσ h_x2 h_x3 (zr_w h_x1 (by decide)) (z_su h_x1 (by decide)))
theorem s_X7_clear {G : Nat → Int} {σ : zSt} (hσ : zIC G σ) : zok (fX7_clear σ ) (zIC G) := by
  unfold fX7_clear
  refine zok_bu (s_J7_fill_53178_k30 hσ (zr_c (lo := 0) (hi := 0) (by decide))) (fun σ1 i1 => ?_)
  refine zok_bu (s_J7_fill_fda19_k30 i1 (zr_c (lo := 9) (hi := 9) (by decide)) (zr_c (lo := 13) (hi := 13) (by decide)) (zr_c (lo := 15) (hi := 15) (by decide))) (fun σ2 i2 => ?_)
  refine zok_ck rfl ?_
  refine zok_bs (i2.wi 16 16 (by decide) (zr_c (lo := 32768) (hi := 32768) (by decide)) (by decide +kernel)) (fun σ3 e4 i3 => ?_)
  refine zok_ck rfl ?_
  refine zok_bs (i3.wi 18 18 (by decide) (zr_c (lo := 255) (hi := 255) (by decide)) (by decide +kernel)) (fun σ4 e6 i5 => ?_)
  exact zok_some i5
theorem s_X7_keep {G : Nat → Int} {σ : zSt} (hσ : zIC G σ) : zok (fX7_keep σ ) (zIC G) := by
  unfold fX7_keep
  refine zok_ck (by decide) ?_
  refine zok_bs (hσ.wc (by decide +kernel) rfl rfl) (fun σ1 e2 i1 => ?_)
  exact zok_some i1
theorem s_X7_bringBack {G : Nat → Int} {σ : zSt} (hσ : zIC G σ) : zok (fX7_bringBack σ ) (zIC G) := by
  unfold fX7_bringBack
  refine zok_ck (by decide) ?_
  refine zok_bs (hσ.wc (by decide +kernel) rfl rfl) (fun σ1 e2 i1 => ?_)
  exact zok_some i1
theorem s_X7_value_20 {σ : zSt} (hσ : zPC σ) {s0 : Int32} : zok (fX7_value_20 σ s0) (zPi σ (fun v : Int32 => True)) := by
  unfold fX7_value_20
  exact zok_spi trivial
theorem s_X7_value {σ : zSt} (hσ : zPC σ) {x1 : Int32} (h_x1 : zr (0) (18) x1) : zok (fX7_value σ x1) (zPi σ (fun v : Int32 => True)) := by
  unfold fX7_value
  refine zok_if (fun q1 => ?_) (fun q1 => ?_)
  · exact zr_no (zc_ltl (-1) q1 h_x1 (zr_c (lo := 0) (hi := 0) (by decide)) (by decide)) (by decide)
  refine zok_if (fun q2 => ?_) (fun q2 => ?_)
  · exact zr_no (zc_lel (18) q2 (zr_c (lo := 19) (hi := 19) (by decide)) h_x1 (by decide)) (by decide)
  refine zok_ck (zin_ok h_x1 (by decide)) ?_
  exact (s_X7_value_20 hσ)
theorem s_X8_take {G : Nat → Int} {σ : zSt} (hσ : zIC G σ) : zok (fX8_take σ ) (zAi (zIC G) (fun v : Int32 => zr (0) (255) v)) := by
  unfold fX8_take
  refine zok_pi (s_X2_read hσ.P) (fun v2 h1 => ?_)
  refine zok_bs (hσ.wi 4 4 (by decide) zr_any (by decide +kernel)) (fun σ3 e3 i2 => ?_)
  exact zok_sai i2 h1
theorem s_X8_putSign_29 {σ : zSt} (hσ : zPC σ) : zok (fX8_putSign_29 σ ) (zPu σ) := by
  unfold fX8_putSign_29
  exact zok_spu
theorem s_X8_putSign {G : Nat → Int} {σ : zSt} (hσ : zIC G σ) {x1 : Int32} : zok (fX8_putSign σ x1) (zIC G) := by
  unfold fX8_putSign
  refine zok_if (fun q1 => ?_) (fun q1 => ?_)
  · have h2 := zc_ler (32) q1 (zr_c (lo := 32) (hi := 32) (by decide)) (rC_9 hσ.sg _ (by decide)) (by decide)
    exact zok_pau hσ (s_X8_putSign_29 hσ.P)
  have h3 := zc_ltl (31) (z_nle q1) (rC_9 hσ.sg _ (by decide)) (zr_c (lo := 32) (hi := 32) (by decide)) (by decide)
  refine zok_ck (zin_ok h3 (by decide)) ?_
  refine zok_bs (hσ.wk (by decide)) (fun σ1 e5 i4 => ?_)
  refine zok_bs (i4.wi 2 2 (by decide) (zr_add (lo := 1) (hi := 32) (z_tr e5 rfl h3) (zr_c (lo := 1) (hi := 1) (by decide)) (by decide)) (by decide +kernel)) (fun σ2 e7 i6 => ?_)
  exact zok_pau i6 (s_X8_putSign_29 i6.P)
theorem s_X8_putByte {G : Nat → Int} {σ : zSt} (hσ : zIC G σ) {x1 : Int32} : zok (fX8_putByte σ x1) (zIC G) := by
  unfold fX8_putByte
  refine zok_ck (by decide) ?_
  refine zok_ck (zin_ok (zr_andr (lo := 0) (hi := 15) (zr_c (lo := 15) (hi := 15) (by decide)) (by decide)) (by decide)) ?_
  refine zok_bu (s_X8_putSign hσ) (fun σ1 i1 => ?_)
  refine zok_ck (by decide) ?_
  refine zok_ck (zin_ok (zr_andr (lo := 0) (hi := 15) (zr_c (lo := 15) (hi := 15) (by decide)) (by decide)) (by decide)) ?_
  refine zok_bu (s_X8_putSign i1) (fun σ2 i2 => ?_)
  exact zok_some i2
theorem s_X8_putWord {G : Nat → Int} {σ : zSt} (hσ : zIC G σ) {x1 : Int32} : zok (fX8_putWord σ x1) (zIC G) := by
  unfold fX8_putWord
  refine zok_bu (s_X8_putByte hσ) (fun σ1 i1 => ?_)
  refine zok_bu (s_X8_putByte i1) (fun σ2 i2 => ?_)
  exact zok_some i2
theorem s_X8_putHl_35 {G : Nat → Int} {σ : zSt} (hσ : zIC G σ) {s0 : Int32} : zok (fX8_putHl_35 σ s0) (zIC G) := by
  unfold fX8_putHl_35
  refine zok_bu (s_X8_putSign hσ) (fun σ1 i1 => ?_)
  exact zok_some i1
theorem s_X8_putHl_15 {G : Nat → Int} {σ : zSt} (hσ : zIC G σ) {s0 : Int32} (h_s0 : zr (104) (105) s0) : zok (fX8_putHl_15 σ s0) (zIC G) := by
  unfold fX8_putHl_15
  refine zok_bu (s_X8_putSign hσ) (fun σ2 i1 => ?_)
  refine zok_if (fun q2 => ?_) (fun q2 => ?_)
  · have h3 := zc_eql (0) (0) q2 zr_any (zr_c (lo := 0) (hi := 0) (by decide)) (by decide)
    exact (s_X8_putHl_35 i1)
  exact (s_X8_putHl_35 i1)
theorem s_X8_putHl {G : Nat → Int} {σ : zSt} (hσ : zIC G σ) : zok (fX8_putHl σ ) (zIC G) := by
  unfold fX8_putHl
  refine zok_if (fun q1 => ?_) (fun q1 => ?_)
  · have h2 := zc_eql (0) (0) q1 zr_any (zr_c (lo := 0) (hi := 0) (by decide)) (by decide)
    exact (s_X8_putHl_15 hσ (zr_w (zr_c (lo := 104) (hi := 104) (by decide)) (by decide)))
  exact (s_X8_putHl_15 hσ (zr_w (zr_c (lo := 105) (hi := 105) (by decide)) (by decide)))
theorem s_X8_putPlace_45 {G : Nat → Int} {σ : zSt} (hσ : zIC G σ) {s0 : Int32} (h_s0 : zr (-2147483648) (128) s0) : zok (fX8_putPlace_45 σ s0) (zIC G) := by
  unfold fX8_putPlace_45
  refine zok_bu (s_X8_putByte hσ) (fun σ1 i1 => ?_)
  refine zok_bu (s_X8_putSign i1) (fun σ2 i2 => ?_)
  exact zok_some i2
theorem s_X8_putPlace_25 {G : Nat → Int} {σ : zSt} (hσ : zIC G σ) {x1 : Int32} {s0 : Int32} (h_s0 : zr (43) (45) s0) : zok (fX8_putPlace_25 σ x1 s0) (zIC G) := by
  unfold fX8_putPlace_25
  refine zok_bu (s_X8_putSign hσ) (fun σ3 i1 => ?_)
  refine zok_if (fun q2 => ?_) (fun q2 => ?_)
  · have h3 := zc_ler (128) q2 (zr_c (lo := 128) (hi := 128) (by decide)) zr_any (by decide)
    exact (s_X8_putPlace_45 i1 (zr_w (zr_sub (lo := -2147483391) (hi := 128) (zr_c (lo := 256) (hi := 256) (by decide)) h3 (by decide)) (by decide)))
  have h4 := zc_ltl (127) (z_nle q2) zr_any (zr_c (lo := 128) (hi := 128) (by decide)) (by decide)
  exact (s_X8_putPlace_45 i1 (zr_w h4 (by decide)))
theorem s_X8_putPlace {G : Nat → Int} {σ : zSt} (hσ : zIC G σ) {x1 : Int32} : zok (fX8_putPlace σ x1) (zIC G) := by
  unfold fX8_putPlace
  refine zok_bu (s_X8_putSign hσ) (fun σ4 i1 => ?_)
  refine zok_bu (s_X8_putHl i1) (fun σ5 i2 => ?_)
  refine zok_if (fun q3 => ?_) (fun q3 => ?_)
  · have h4 := zc_ler (128) q3 (zr_c (lo := 128) (hi := 128) (by decide)) zr_any (by decide)
    exact (s_X8_putPlace_25 i2 (zr_w (zr_c (lo := 45) (hi := 45) (by decide)) (by decide)))
  have h5 := zc_ltl (127) (z_nle q3) zr_any (zr_c (lo := 128) (hi := 128) (by decide)) (by decide)
  exact (s_X8_putPlace_25 i2 (zr_w (zr_c (lo := 43) (hi := 43) (by decide)) (by decide)))
theorem s_X8_putName_46 {G : Nat → Int} {σ : zSt} {k5 : zSt → Nat → Int32 → Int32 → Int32 → Option (zSt)} {Mk5 : Int} (hk5 : ∀ (σ : zSt) (n1 : Nat) (x2 : Int32) (x3 : Int32) (x4 : Int32), zIC G σ → n1 ∈ ([2, 3, 4, 5] : List Nat) → zr (0) (19) x4 → (19) - x4.toInt < Mk5 → zok (k5 σ n1 x2 x3 x4) (zIC G)) (hσ : zIC G σ) {n1 : Nat} (h_n1 : n1 ∈ ([2, 3, 4, 5] : List Nat)) {x2 : Int32} {x3 : Int32} {x4 : Int32} (h_x4 : zr (0) (18) x4) (hMk5 : (19) - x4.toInt ≤ Mk5) : zok (fX8_putName_46 k5 σ n1 x2 x3 x4) (zIC G) := by
  unfold fX8_putName_46
  refine zok_br (zr_add (lo := 1) (hi := 19) h_x4 (zr_c (lo := 1) (hi := 1) (by decide)) (by decide)) (fun v1 e2 h1 => ?_)
  exact hk5 _ _ _ _ _ hσ h_n1 (zr_w h1 (by decide)) (by rw [e2]; have := z_tadd (y := (1 : Int32)) h_x4 (zr_c (lo := 1) (hi := 1) (by decide)) (by decide); have e9 : (1 : Int32).toInt = 1 := rfl; omega) 
theorem s_X8_putName_5_body {G : Nat → Int} {σ : zSt} {k5 : zSt → Nat → Int32 → Int32 → Int32 → Option (zSt)} {Mk5 : Int} (hk5 : ∀ (σ : zSt) (n1 : Nat) (x2 : Int32) (x3 : Int32) (x4 : Int32), zIC G σ → n1 ∈ ([2, 3, 4, 5] : List Nat) → zr (0) (19) x4 → (19) - x4.toInt < Mk5 → zok (k5 σ n1 x2 x3 x4) (zIC G)) (hσ : zIC G σ) {n1 : Nat} (h_n1 : n1 ∈ ([2, 3, 4, 5] : List Nat)) {x2 : Int32} {x3 : Int32} {x4 : Int32} (h_x4 : zr (0) (19) x4) (hMk5 : (19) - x4.toInt ≤ Mk5) : zok (fX8_putName_5_body k5 σ n1 x2 x3 x4) (zIC G) := by
  unfold fX8_putName_5_body
  refine zok_ck (decide_eq_true (z_memlt h_n1 (by decide))) ?_
  refine zok_if (fun q1 => ?_) (fun q1 => ?_)
  · exact zok_some hσ
  have h2 := zc_ltl (18) (z_nle q1) h_x4 (zkN_r (m := 19) h_n1 (by decide +kernel)) (by decide)
  have h3 := zc_ltr (1) (z_nle q1) h_x4 (zkN_r (m := 19) h_n1 (by decide +kernel)) (by decide)
  refine zok_ck (decide_eq_true (z_memlt h_n1 (by decide))) ?_
  refine zok_ck (zin_k q1 h2 (by decide)) ?_
  refine zok_if (fun q4 => ?_) (fun q4 => ?_)
  · have h5 := zc_eql (59) (59) q4 zr_any (zr_c (lo := 59) (hi := 59) (by decide)) (by decide)
    refine zok_bv (fun v3 e7 => ?_)
    exact (s_X8_putName_46 hk5 hσ h_n1 h2 hMk5)
  refine zok_if (fun q8 => ?_) (fun q8 => ?_)
  · refine zok_ck (decide_eq_true (z_memlt h_n1 (by decide))) ?_
    refine zok_ck (zin_k q1 h2 (by decide)) ?_
    refine zok_bu (s_X8_putSign hσ) (fun σ2 i9 => ?_)
    exact (s_X8_putName_46 hk5 i9 h_n1 h2 hMk5)
  exact (s_X8_putName_46 hk5 hσ h_n1 h2 hMk5)
theorem s_X8_putName_5 {G : Nat → Int} : ∀ (n : Nat) {σ : zSt} (hσ : zIC G σ) {n1 : Nat} (h_n1 : n1 ∈ ([2, 3, 4, 5] : List Nat)) {x2 : Int32} {x3 : Int32} {x4 : Int32} (h_x4 : zr (0) (19) x4) (hm : (19) - x4.toInt < n), zok (fX8_putName_5 n σ n1 x2 x3 x4) (zIC G) := by
  intro n
  induction n with
  | zero => intro σ hσ n1 h_n1 x2 x3 x4 h_x4 hm ; have h9 := h_x4.1; have h8 := h_x4.2; exfalso; omega
  | succ n ih => intro σ hσ n1 h_n1 x2 x3 x4 h_x4 hm ; exact s_X8_putName_5_body (fun σ n1 x2 x3 x4 hσ h_n1 h_x4 hm1 => ih hσ h_n1 h_x4 (by omega)) hσ h_n1 h_x4 (Int.le_refl _)
theorem s_X8_putName {G : Nat → Int} {σ : zSt} (hσ : zIC G σ) {n1 : Nat} (h_n1 : n1 ∈ ([2, 3, 4, 5] : List Nat)) {x2 : Int32} : zok (fX8_putName σ n1 x2) (zIC G) := by
  unfold fX8_putName
  exact (s_X8_putName_5 zfuel hσ h_n1 (zr_w (zr_c (lo := 0) (hi := 0) (by decide)) (by decide)) (by decide))
theorem s_X8_putOne_78 {σ : zSt} (hσ : zPC σ) : zok (fX8_putOne_78 σ ) (zPu σ) := by
  unfold fX8_putOne_78
  exact zok_spu
theorem s_X8_putOne_71 {G : Nat → Int} {σ : zSt} (hσ : zIC G σ) {x1 : Int32} : zok (fX8_putOne_71 σ x1) (zIC G) := by
  unfold fX8_putOne_71
  refine zok_bu (s_X8_putName hσ (by decide)) (fun σ1 i1 => ?_)
  exact zok_pau i1 (s_X8_putOne_78 i1.P)
theorem s_X8_putOne_65 {G : Nat → Int} {σ : zSt} (hσ : zIC G σ) {s0 : Int32} (h_s0 : zr (104) (108) s0) : zok (fX8_putOne_65 σ s0) (zIC G) := by
  unfold fX8_putOne_65
  refine zok_bu (s_X8_putSign hσ) (fun σ2 i1 => ?_)
  exact zok_pau i1 (s_X8_putOne_78 i1.P)
theorem s_X8_putOne_34 {G : Nat → Int} {σ : zSt} (hσ : zIC G σ) {x1 : Int32} (h_x1 : zr (4) (5) x1) : zok (fX8_putOne_34 σ x1) (zIC G) := by
  unfold fX8_putOne_34
  refine zok_if (fun q1 => ?_) (fun q1 => ?_)
  · have h2 := zc_eql (0) (0) q1 zr_any (zr_c (lo := 0) (hi := 0) (by decide)) (by decide)
    exact (s_X8_putOne_71 hσ)
  refine zok_if (fun q3 => ?_) (fun q3 => ?_)
  · have h4 := zc_eql (0) (0) q3 zr_any (zr_c (lo := 0) (hi := 0) (by decide)) (by decide)
    refine zok_bu (s_X8_putHl hσ) (fun σ3 i5 => ?_)
    refine zok_if (fun q6 => ?_) (fun q6 => ?_)
    · have h7 := zc_eql (4) (4) q6 h_x1 (zr_c (lo := 4) (hi := 4) (by decide)) (by decide)
      exact (s_X8_putOne_65 i5 (zr_w (zr_c (lo := 104) (hi := 104) (by decide)) (by decide)))
    have h8 := zc_nel (5) (5) q6 h_x1 (zr_c (lo := 4) (hi := 4) (by decide)) (by decide)
    exact (s_X8_putOne_65 i5 (zr_w (zr_c (lo := 108) (hi := 108) (by decide)) (by decide)))
  exact (s_X8_putOne_71 hσ)
theorem s_X8_putOne_24 {G : Nat → Int} {σ : zSt} (hσ : zIC G σ) {x1 : Int32} : zok (fX8_putOne_24 σ x1) (zIC G) := by
  unfold fX8_putOne_24
  refine zok_if (fun q1 => ?_) (fun q1 => ?_)
  · have h2 := zc_eql (4) (4) q1 zr_any (zr_c (lo := 4) (hi := 4) (by decide)) (by decide)
    exact (s_X8_putOne_34 hσ (zr_w h2 (by decide)))
  refine zok_if (fun q3 => ?_) (fun q3 => ?_)
  · have h4 := zc_eql (5) (5) q3 zr_any (zr_c (lo := 5) (hi := 5) (by decide)) (by decide)
    exact (s_X8_putOne_34 hσ (zr_w h4 (by decide)))
  exact (s_X8_putOne_71 hσ)
theorem s_X8_putOne {G : Nat → Int} {σ : zSt} (hσ : zIC G σ) {x1 : Int32} : zok (fX8_putOne σ x1) (zIC G) := by
  unfold fX8_putOne
  refine zok_if (fun q1 => ?_) (fun q1 => ?_)
  · have h2 := zc_eql (6) (6) q1 zr_any (zr_c (lo := 6) (hi := 6) (by decide)) (by decide)
    refine zok_if (fun q3 => ?_) (fun q3 => ?_)
    · have h4 := zc_eql (0) (0) q3 zr_any (zr_c (lo := 0) (hi := 0) (by decide)) (by decide)
      exact (s_X8_putOne_24 hσ)
    refine zok_ai (s_X8_take hσ) (fun σ4 v5 i5 h6 => ?_)
    refine zok_bu (s_X8_putPlace i5) (fun σ6 i7 => ?_)
    exact zok_pau i7 (s_X8_putOne_78 i7.P)
  exact (s_X8_putOne_24 hσ)
theorem s_X8_putTurned_59 {σ : zSt} (hσ : zPC σ) : zok (fX8_putTurned_59 σ ) (zPu σ) := by
  unfold fX8_putTurned_59
  exact zok_spu
theorem s_X8_putTurned {G : Nat → Int} {σ : zSt} (hσ : zIC G σ) : zok (fX8_putTurned σ ) (zIC G) := by
  unfold fX8_putTurned
  refine zok_if (fun q1 => ?_) (fun q1 => ?_)
  · have h2 := zc_eql (0) (0) q1 zr_any (zr_c (lo := 0) (hi := 0) (by decide)) (by decide)
    refine zok_bu (s_X8_putName hσ (by decide)) (fun σ4 i3 => ?_)
    exact zok_some i3
  refine zok_bu (s_X8_putPlace hσ) (fun σ1 i4 => ?_)
  refine zok_if (fun q5 => ?_) (fun q5 => ?_)
  · have h6 := zc_eql (1) (1) q5 zr_any (zr_c (lo := 1) (hi := 1) (by decide)) (by decide)
    exact zok_pau i4 (s_X8_putTurned_59 i4.P)
  refine zok_if (fun q7 => ?_) (fun q7 => ?_)
  · have h8 := zc_eql (6) (6) q7 zr_any (zr_c (lo := 6) (hi := 6) (by decide)) (by decide)
    exact zok_pau i4 (s_X8_putTurned_59 i4.P)
  refine zok_bu (s_X8_putSign i4) (fun σ2 i9 => ?_)
  refine zok_bu (s_X8_putName i9 (by decide)) (fun σ3 i10 => ?_)
  exact zok_pau i10 (s_X8_putTurned_59 i10.P)
theorem s_X8_putPair_28 {σ : zSt} (hσ : zPC σ) : zok (fX8_putPair_28 σ ) (zPu σ) := by
  unfold fX8_putPair_28
  exact zok_spu
theorem s_X8_putPair {G : Nat → Int} {σ : zSt} (hσ : zIC G σ) {n1 : Nat} (h_n1 : n1 ∈ ([3, 4] : List Nat)) : zok (fX8_putPair σ n1) (zIC G) := by
  unfold fX8_putPair
  refine zok_if (fun q1 => ?_) (fun q1 => ?_)
  · have h2 := zc_eql (2) (2) q1 (zr_shr (lo := -1073741824) (hi := 1073741823) 1 (by decide) zr_any (by decide)) (zr_c (lo := 2) (hi := 2) (by decide)) (by decide)
    refine zok_bu (s_X8_putHl hσ) (fun σ2 i3 => ?_)
    exact zok_pau i3 (s_X8_putPair_28 i3.P)
  refine zok_bu (s_X8_putName hσ (z_memsub h_n1 (by decide))) (fun σ1 i4 => ?_)
  exact zok_pau i4 (s_X8_putPair_28 i4.P)
theorem s_X8_putMeant_275 {σ : zSt} (hσ : zPC σ) : zok (fX8_putMeant_275 σ ) (zPu σ) := by
  unfold fX8_putMeant_275
  exact zok_spu
theorem s_X8_putMeant_256 {G : Nat → Int} {σ : zSt} (hσ : zIC G σ) : zok (fX8_putMeant_256 σ ) (zIC G) := by
  unfold fX8_putMeant_256
  refine zok_ai (s_X8_take hσ) (fun σ1 v2 i1 h2 => ?_)
  refine zok_bu (s_X8_putWord i1) (fun σ3 i3 => ?_)
  exact zok_pau i3 (s_X8_putMeant_275 i3.P)
theorem s_X8_putMeant {G : Nat → Int} {σ : zSt} (hσ : zIC G σ) {x1 : Int32} (h_x1 : zr (65) (90) x1) : zok (fX8_putMeant σ x1) (zIC G) := by
  unfold fX8_putMeant
  refine zok_if (fun q1 => ?_) (fun q1 => ?_)
  · have h2 := zc_eql (66) (66) q1 h_x1 (zr_c (lo := 66) (hi := 66) (by decide)) (by decide)
    refine zok_bu (s_X8_putSign hσ) (fun σ4 i3 => ?_)
    exact zok_pau i3 (s_X8_putMeant_275 i3.P)
  refine zok_if (fun q4 => ?_) (fun q4 => ?_)
  · have h5 := zc_eql (67) (67) q4 h_x1 (zr_c (lo := 67) (hi := 67) (by decide)) (by decide)
    refine zok_bu (s_X8_putName hσ (by decide)) (fun σ5 i6 => ?_)
    exact zok_pau i6 (s_X8_putMeant_275 i6.P)
  refine zok_if (fun q7 => ?_) (fun q7 => ?_)
  · have h8 := zc_eql (68) (68) q7 h_x1 (zr_c (lo := 68) (hi := 68) (by decide)) (by decide)
    refine zok_bu (s_X8_putName hσ (by decide)) (fun σ6 i9 => ?_)
    exact zok_pau i9 (s_X8_putMeant_275 i9.P)
  refine zok_if (fun q10 => ?_) (fun q10 => ?_)
  · have h11 := zc_eql (69) (69) q10 h_x1 (zr_c (lo := 69) (hi := 69) (by decide)) (by decide)
    exact (s_X8_putMeant_256 hσ)
  refine zok_if (fun q12 => ?_) (fun q12 => ?_)
  · have h13 := zc_eql (70) (70) q12 h_x1 (zr_c (lo := 70) (hi := 70) (by decide)) (by decide)
    exact (s_X8_putMeant_256 hσ)
  refine zok_if (fun q14 => ?_) (fun q14 => ?_)
  · have h15 := zc_eql (71) (71) q14 h_x1 (zr_c (lo := 71) (hi := 71) (by decide)) (by decide)
    exact (s_X8_putMeant_256 hσ)
  refine zok_if (fun q16 => ?_) (fun q16 => ?_)
  · have h17 := zc_eql (72) (72) q16 h_x1 (zr_c (lo := 72) (hi := 72) (by decide)) (by decide)
    exact (s_X8_putMeant_256 hσ)
  refine zok_if (fun q18 => ?_) (fun q18 => ?_)
  · have h19 := zc_eql (73) (73) q18 h_x1 (zr_c (lo := 73) (hi := 73) (by decide)) (by decide)
    exact (s_X8_putMeant_256 hσ)
  refine zok_if (fun q20 => ?_) (fun q20 => ?_)
  · have h21 := zc_eql (74) (74) q20 h_x1 (zr_c (lo := 74) (hi := 74) (by decide)) (by decide)
    refine zok_bu (s_X8_putHl hσ) (fun σ7 i22 => ?_)
    exact zok_pau i22 (s_X8_putMeant_275 i22.P)
  refine zok_if (fun q23 => ?_) (fun q23 => ?_)
  · have h24 := zc_eql (75) (75) q23 h_x1 (zr_c (lo := 75) (hi := 75) (by decide)) (by decide)
    exact (s_X8_putMeant_256 hσ)
  refine zok_if (fun q25 => ?_) (fun q25 => ?_)
  · have h26 := zc_eql (76) (76) q25 h_x1 (zr_c (lo := 76) (hi := 76) (by decide)) (by decide)
    exact (s_X8_putMeant_256 hσ)
  refine zok_if (fun q27 => ?_) (fun q27 => ?_)
  · have h28 := zc_eql (77) (77) q27 h_x1 (zr_c (lo := 77) (hi := 77) (by decide)) (by decide)
    exact (s_X8_putMeant_256 hσ)
  refine zok_if (fun q29 => ?_) (fun q29 => ?_)
  · have h30 := zc_eql (78) (78) q29 h_x1 (zr_c (lo := 78) (hi := 78) (by decide)) (by decide)
    refine zok_ai (s_X8_take hσ) (fun σ8 v9 i31 h32 => ?_)
    refine zok_bu (s_X8_putByte i31) (fun σ10 i33 => ?_)
    exact zok_pau i33 (s_X8_putMeant_275 i33.P)
  refine zok_if (fun q34 => ?_) (fun q34 => ?_)
  · have h35 := zc_eql (79) (79) q34 h_x1 (zr_c (lo := 79) (hi := 79) (by decide)) (by decide)
    exact (s_X8_putMeant_256 hσ)
  refine zok_if (fun q36 => ?_) (fun q36 => ?_)
  · have h37 := zc_eql (80) (80) q36 h_x1 (zr_c (lo := 80) (hi := 80) (by decide)) (by decide)
    refine zok_bu (s_X8_putPair hσ (by decide)) (fun σ11 i38 => ?_)
    exact zok_pau i38 (s_X8_putMeant_275 i38.P)
  refine zok_if (fun q39 => ?_) (fun q39 => ?_)
  · have h40 := zc_eql (81) (81) q39 h_x1 (zr_c (lo := 81) (hi := 81) (by decide)) (by decide)
    refine zok_bu (s_X8_putPair hσ (by decide)) (fun σ12 i41 => ?_)
    exact zok_pau i41 (s_X8_putMeant_275 i41.P)
  refine zok_if (fun q42 => ?_) (fun q42 => ?_)
  · have h43 := zc_eql (82) (82) q42 h_x1 (zr_c (lo := 82) (hi := 82) (by decide)) (by decide)
    exact (s_X8_putMeant_256 hσ)
  refine zok_if (fun q44 => ?_) (fun q44 => ?_)
  · have h45 := zc_eql (83) (83) q44 h_x1 (zr_c (lo := 83) (hi := 83) (by decide)) (by decide)
    exact (s_X8_putMeant_256 hσ)
  refine zok_if (fun q46 => ?_) (fun q46 => ?_)
  · have h47 := zc_eql (84) (84) q46 h_x1 (zr_c (lo := 84) (hi := 84) (by decide)) (by decide)
    refine zok_bu (s_X8_putTurned hσ) (fun σ13 i48 => ?_)
    exact zok_pau i48 (s_X8_putMeant_275 i48.P)
  refine zok_if (fun q49 => ?_) (fun q49 => ?_)
  · have h50 := zc_eql (85) (85) q49 h_x1 (zr_c (lo := 85) (hi := 85) (by decide)) (by decide)
    exact (s_X8_putMeant_256 hσ)
  refine zok_if (fun q51 => ?_) (fun q51 => ?_)
  · have h52 := zc_eql (86) (86) q51 h_x1 (zr_c (lo := 86) (hi := 86) (by decide)) (by decide)
    refine zok_bu (s_X8_putByte hσ) (fun σ14 i53 => ?_)
    exact zok_pau i53 (s_X8_putMeant_275 i53.P)
  refine zok_if (fun q54 => ?_) (fun q54 => ?_)
  · have h55 := zc_eql (87) (87) q54 h_x1 (zr_c (lo := 87) (hi := 87) (by decide)) (by decide)
    refine zok_ai (s_X8_take hσ) (fun σ15 v16 i56 h57 => ?_)
    refine zok_ai (s_X8_take i56) (fun σ17 v18 i58 h59 => ?_)
    refine zok_bu (s_X8_putWord i58) (fun σ19 i60 => ?_)
    exact zok_pau i60 (s_X8_putMeant_275 i60.P)
  refine zok_if (fun q61 => ?_) (fun q61 => ?_)
  · have h62 := zc_eql (88) (88) q61 h_x1 (zr_c (lo := 88) (hi := 88) (by decide)) (by decide)
    exact (s_X8_putMeant_256 hσ)
  refine zok_if (fun q63 => ?_) (fun q63 => ?_)
  · have h64 := zc_eql (89) (89) q63 h_x1 (zr_c (lo := 89) (hi := 89) (by decide)) (by decide)
    refine zok_bu (s_X8_putOne hσ) (fun σ20 i65 => ?_)
    exact zok_pau i65 (s_X8_putMeant_275 i65.P)
  refine zok_if (fun q66 => ?_) (fun q66 => ?_)
  · have h67 := zc_eql (90) (90) q66 h_x1 (zr_c (lo := 90) (hi := 90) (by decide)) (by decide)
    refine zok_bu (s_X8_putOne hσ) (fun σ21 i68 => ?_)
    exact zok_pau i68 (s_X8_putMeant_275 i68.P)
  have h69 := zc_nel (65) (89) q66 h_x1 (zr_c (lo := 90) (hi := 90) (by decide)) (by decide)
  exact (s_X8_putMeant_256 hσ)
theorem s_X8_put_110 {G : Nat → Int} {σ : zSt} {k41 : zSt → Nat → Int32 → Int32 → Int32 → Option (zSt)} {Mk41 : Int} (hk41 : ∀ (σ : zSt) (n1 : Nat) (x2 : Int32) (x3 : Int32) (x4 : Int32), zIC G σ → n1 ∈ ([0, 6, 7, 8, 9, 10, 11, 12, 13, 14, 15, 16, 17, 18, 19, 20, 21, 22, 23, 24, 25, 26, 27, 28, 29, 30, 31, 32, 33, 34, 35, 36, 37, 38, 39, 40, 41, 42, 43] : List Nat) → zr (1) (400) x2 → zr (0) (75) x4 → (75) - x4.toInt < Mk41 → zok (k41 σ n1 x2 x3 x4) (zIC G)) (hσ : zIC G σ) {n1 : Nat} (h_n1 : n1 ∈ ([0, 6, 7, 8, 9, 10, 11, 12, 13, 14, 15, 16, 17, 18, 19, 20, 21, 22, 23, 24, 25, 26, 27, 28, 29, 30, 31, 32, 33, 34, 35, 36, 37, 38, 39, 40, 41, 42, 43] : List Nat)) {x2 : Int32} (h_x2 : zr (1) (400) x2) {x3 : Int32} {x4 : Int32} (h_x4 : zr (0) (74) x4) (hMk41 : (75) - x4.toInt ≤ Mk41) : zok (fX8_put_110 k41 σ n1 x2 x3 x4) (zIC G) := by
  unfold fX8_put_110
  refine zok_br (zr_add (lo := 1) (hi := 75) h_x4 (zr_c (lo := 1) (hi := 1) (by decide)) (by decide)) (fun v3 e2 h1 => ?_)
  exact hk41 _ _ _ _ _ hσ h_n1 h_x2 (zr_w h1 (by decide)) (by rw [e2]; have := z_tadd (y := (1 : Int32)) h_x4 (zr_c (lo := 1) (hi := 1) (by decide)) (by decide); have e9 : (1 : Int32).toInt = 1 := rfl; omega) 
end ZJN8
section ZJN9
theorem s_X8_put_104 {G : Nat → Int} {σ : zSt} {k41 : zSt → Nat → Int32 → Int32 → Int32 → Option (zSt)} {Mk41 : Int} (hk41 : ∀ (σ : zSt) (n1 : Nat) (x2 : Int32) (x3 : Int32) (x4 : Int32), zIC G σ → n1 ∈ ([0, 6, 7, 8, 9, 10, 11, 12, 13, 14, 15, 16, 17, 18, 19, 20, 21, 22, 23, 24, 25, 26, 27, 28, 29, 30, 31, 32, 33, 34, 35, 36, 37, 38, 39, 40, 41, 42, 43] : List Nat) → zr (1) (400) x2 → zr (0) (75) x4 → (75) - x4.toInt < Mk41 → zok (k41 σ n1 x2 x3 x4) (zIC G)) (hσ : zIC G σ) {n1 : Nat} (h_n1 : n1 ∈ ([0, 6, 7, 8, 9, 10, 11, 12, 13, 14, 15, 16, 17, 18, 19, 20, 21, 22, 23, 24, 25, 26, 27, 28, 29, 30, 31, 32, 33, 34, 35, 36, 37, 38, 39, 40, 41, 42, 43] : List Nat)) {x2 : Int32} (h_x2 : zr (1) (400) x2) {x3 : Int32} {x4 : Int32} (h_x4 : zr (0) (74) x4) {x5 : Int32} (hMk41 : (75) - x4.toInt ≤ Mk41) : zok (fX8_put_104 k41 σ n1 x2 x3 x4 x5) (zIC G) := by
  unfold fX8_put_104
  refine zok_bu (s_X8_putSign hσ) (fun σ4 i1 => ?_)
  exact (s_X8_put_110 hk41 i1 h_n1 h_x2 h_x4 hMk41)
theorem s_X8_put_41_body {G : Nat → Int} {σ : zSt} {k41 : zSt → Nat → Int32 → Int32 → Int32 → Option (zSt)} {Mk41 : Int} (hk41 : ∀ (σ : zSt) (n1 : Nat) (x2 : Int32) (x3 : Int32) (x4 : Int32), zIC G σ → n1 ∈ ([0, 6, 7, 8, 9, 10, 11, 12, 13, 14, 15, 16, 17, 18, 19, 20, 21, 22, 23, 24, 25, 26, 27, 28, 29, 30, 31, 32, 33, 34, 35, 36, 37, 38, 39, 40, 41, 42, 43] : List Nat) → zr (1) (400) x2 → zr (0) (75) x4 → (75) - x4.toInt < Mk41 → zok (k41 σ n1 x2 x3 x4) (zIC G)) (hσ : zIC G σ) {n1 : Nat} (h_n1 : n1 ∈ ([0, 6, 7, 8, 9, 10, 11, 12, 13, 14, 15, 16, 17, 18, 19, 20, 21, 22, 23, 24, 25, 26, 27, 28, 29, 30, 31, 32, 33, 34, 35, 36, 37, 38, 39, 40, 41, 42, 43] : List Nat)) {x2 : Int32} (h_x2 : zr (1) (400) x2) {x3 : Int32} {x4 : Int32} (h_x4 : zr (0) (75) x4) (hMk41 : (75) - x4.toInt ≤ Mk41) : zok (fX8_put_41_body k41 σ n1 x2 x3 x4) (zIC G) := by
  unfold fX8_put_41_body
  refine zok_ck (decide_eq_true (z_memlt h_n1 (by decide))) ?_
  refine zok_if (fun q1 => ?_) (fun q1 => ?_)
  · exact zok_some hσ
  have h2 := zc_ltl (74) (z_nle q1) h_x4 (zkN_r (m := 75) h_n1 (by decide +kernel)) (by decide)
  have h3 := zc_ltr (1) (z_nle q1) h_x4 (zkN_r (m := 75) h_n1 (by decide +kernel)) (by decide)
  refine zok_ck (decide_eq_true (z_memlt h_n1 (by decide))) ?_
  refine zok_ck (zin_k q1 h2 (by decide)) ?_
  refine zok_bv (fun v5 e5 => ?_)
  refine zok_if (fun q6 => ?_) (fun q6 => ?_)
  · have h7 := zc_eql (59) (59) q6 zr_any (zr_c (lo := 59) (hi := 59) (by decide)) (by decide)
    refine zok_bv (fun v7 e9 => ?_)
    exact (s_X8_put_110 hk41 hσ h_n1 h_x2 h2 hMk41)
  refine zok_ck (zdv_ok h_x2 (by decide)) ?_
  refine zok_if (fun q10 => ?_) (fun q10 => ?_)
  · refine zok_if (fun q11 => ?_) (fun q11 => ?_)
    · have h12 := zc_ltl (64) q11 zr_any (zr_c (lo := 65) (hi := 65) (by decide)) (by decide)
      exact (s_X8_put_104 hk41 hσ h_n1 h_x2 h2 hMk41)
    have h13 := zc_ler (65) (z_nlt q11) (zr_c (lo := 65) (hi := 65) (by decide)) zr_any (by decide)
    refine zok_if (fun q14 => ?_) (fun q14 => ?_)
    · have h15 := zc_ltr (91) q14 (zr_c (lo := 90) (hi := 90) (by decide)) h13 (by decide)
      exact (s_X8_put_104 hk41 hσ h_n1 h_x2 h2 hMk41)
    have h16 := zc_lel (90) (z_nlt q14) h13 (zr_c (lo := 90) (hi := 90) (by decide)) (by decide)
    refine zok_bu (s_X8_putMeant hσ h16) (fun σ6 i17 => ?_)
    exact (s_X8_put_110 hk41 i17 h_n1 h_x2 h2 hMk41)
  exact (s_X8_put_110 hk41 hσ h_n1 h_x2 h2 hMk41)
theorem s_X8_put_41 {G : Nat → Int} : ∀ (n : Nat) {σ : zSt} (hσ : zIC G σ) {n1 : Nat} (h_n1 : n1 ∈ ([0, 6, 7, 8, 9, 10, 11, 12, 13, 14, 15, 16, 17, 18, 19, 20, 21, 22, 23, 24, 25, 26, 27, 28, 29, 30, 31, 32, 33, 34, 35, 36, 37, 38, 39, 40, 41, 42, 43] : List Nat)) {x2 : Int32} (h_x2 : zr (1) (400) x2) {x3 : Int32} {x4 : Int32} (h_x4 : zr (0) (75) x4) (hm : (75) - x4.toInt < n), zok (fX8_put_41 n σ n1 x2 x3 x4) (zIC G) := by
  intro n
  induction n with
  | zero => intro σ hσ n1 h_n1 x2 h_x2 x3 x4 h_x4 hm ; have h9 := h_x4.1; have h8 := h_x4.2; exfalso; omega
  | succ n ih => intro σ hσ n1 h_n1 x2 h_x2 x3 x4 h_x4 hm ; exact s_X8_put_41_body (fun σ n1 x2 x3 x4 hσ h_n1 h_x2 h_x4 hm1 => ih hσ h_n1 h_x2 h_x4 (by omega)) hσ h_n1 h_x2 h_x4 (Int.le_refl _)
theorem s_X8_put_h {G : Nat → Int} : ∀ (n : Nat) {σ : zSt} (hσ : zIC G σ) {n1 : Nat} (h_n1 : n1 ∈ ([0, 6, 7, 8, 9, 10, 11, 12, 13, 14, 15, 16, 17, 18, 19, 20, 21, 22, 23, 24, 25, 26, 27, 28, 29, 30, 31, 32, 33, 34, 35, 36, 37, 38, 39, 40, 41, 42, 43] : List Nat)) {x2 x3 : Int32} (h_x2 : zr 1 400 x2) (h_x3 : zr 0 75 x3) (hr : x2.toInt ≤ x3.toInt + 1) (hm : 75 - x3.toInt < n), zok (fX8_put_4 n σ n1 x2 x3) (zIC G) := by
  intro n
  induction n with
  | zero => intro σ hσ n1 h_n1 x2 x3 h_x2 h_x3 hr hm; have := h_x3.2; exfalso; omega
  | succ n ih =>
    intro σ hσ n1 h_n1 x2 x3 h_x2 h_x3 hr hm
    show zok (fX8_put_4_body (fX8_put_4 n) σ n1 x2 x3) (zIC G)
    unfold fX8_put_4_body
    refine zok_ck (decide_eq_true (z_memlt h_n1 (by decide))) ?_
    have hN := zkN_r (m := 75) h_n1 (by decide +kernel)
    refine zok_if (fun q => ?_) (fun q => ?_)
    · exact s_X8_put_41 zfuel hσ h_n1 h_x2 (zr_c (by decide)) (by decide)
    have hx := zc_ltl (75 - 1) (z_nle q) h_x3 hN (by decide)
    refine zok_ck (decide_eq_true (z_memlt h_n1 (by decide))) ?_
    refine zok_ck (zin_k q h_x3 (by decide)) ?_
    have e1 := z_tadd hx (zr_c (lo := 1) (hi := 1) (x := 1) (by decide)) (by decide)
    have c1 : (1 : Int32).toInt = 1 := rfl
    have c0 : (0 : Int32).toInt = 0 := rfl
    have hx3 := hx.2
    have hx1 := h_x2.1
    have hx2 : zr 1 (75 + 1) x2 := ⟨hx1, by have := hx.2; omega⟩
    have k : ∀ s0 : Int32, zr 0 1 s0 → zok (fX8_put_28 (fX8_put_4 n) σ n1 x3 s0 x2) (zIC G) := fun s0 hs0 => by
      unfold fX8_put_28
      have e2 := z_tadd hx2 hs0 (by decide)
      have b1 := hs0.1
      have b2 := hs0.2
      refine zok_bv (fun v1 ev1 => zok_bv (fun v2 ev2 => ih hσ h_n1 ?_ ?_ ?_ ?_))
      · subst ev1; exact ⟨by omega, by omega⟩
      · subst ev2; have := hx.1; exact ⟨by omega, by omega⟩
      · subst ev1; subst ev2; omega
      · subst ev2; omega
    refine zok_if (fun _ => k 1 (zr_c (by decide))) (fun _ => k 0 (zr_c (by decide)))
theorem s_X8_put_4 {G : Nat → Int} (n : Nat) {σ : zSt} (hσ : zIC G σ) {n1 : Nat} (h_n1 : n1 ∈ ([0, 6, 7, 8, 9, 10, 11, 12, 13, 14, 15, 16, 17, 18, 19, 20, 21, 22, 23, 24, 25, 26, 27, 28, 29, 30, 31, 32, 33, 34, 35, 36, 37, 38, 39, 40, 41, 42, 43] : List Nat)) {x2 x3 : Int32} (h_x2 : zr (1) (1) x2) (h_x3 : zr (0) (0) x3) (hm : (0) - x3.toInt < n) (hn : zfuel ≤ n := by decide) : zok (fX8_put_4 n σ n1 x2 x3) (zIC G) :=
  s_X8_put_h n hσ h_n1 (zr_w h_x2 (by decide)) (zr_w h_x3 (by decide)) (by have := h_x2.2; have := h_x3.1; omega) (by have := h_x3.1; unfold zfuel at hn; omega)
theorem s_X8_put {G : Nat → Int} {σ : zSt} (hσ : zIC G σ) {n1 : Nat} (h_n1 : n1 ∈ ([0, 6, 7, 8, 9, 10, 11, 12, 13, 14, 15, 16, 17, 18, 19, 20, 21, 22, 23, 24, 25, 26, 27, 28, 29, 30, 31, 32, 33, 34, 35, 36, 37, 38, 39, 40, 41, 42, 43] : List Nat)) : zok (fX8_put σ n1) (zIC G) :=
  s_X8_put_4 zfuel hσ h_n1 (zr_c (by decide)) (zr_c (by decide)) (by decide) (Nat.le_refl _)
theorem s_X8_split {G : Nat → Int} {σ : zSt} (hσ : zIC G σ) {x1 : Int32} (h_x1 : zr (0) (255) x1) : zok (fX8_split σ x1) (zIC G) := by
  unfold fX8_split
  refine zok_bs (hσ.wi 5 5 (by decide) (zr_shr (lo := 0) (hi := 3) 6 (by decide) h_x1 (by decide)) (by decide +kernel)) (fun σ1 e2 i1 => ?_)
  refine zok_bs (i1.wi 6 6 (by decide) (zr_andr (lo := 0) (hi := 7) (zr_c (lo := 7) (hi := 7) (by decide)) (by decide)) (by decide +kernel)) (fun σ2 e4 i3 => ?_)
  refine zok_bs (i3.wi 7 7 (by decide) (zr_andr (lo := 0) (hi := 7) (zr_c (lo := 7) (hi := 7) (by decide)) (by decide)) (by decide +kernel)) (fun σ3 e6 i5 => ?_)
  exact zok_some i5
theorem s_X8_turnPatterns {σ : zSt} (hσ : zPC σ) : zok (fX8_turnPatterns σ ) (zPk σ (fun v : Nat => v ∈ ([6, 7, 8, 9] : List Nat))) := by
  unfold fX8_turnPatterns
  refine zok_if (fun q1 => ?_) (fun q1 => ?_)
  · have h2 := zc_eql (0) (0) q1 zr_any (zr_c (lo := 0) (hi := 0) (by decide)) (by decide)
    exact zok_spk (by decide)
  refine zok_if (fun q3 => ?_) (fun q3 => ?_)
  · have h4 := zc_eql (1) (1) q3 zr_any (zr_c (lo := 1) (hi := 1) (by decide)) (by decide)
    exact zok_spk (by decide)
  refine zok_if (fun q5 => ?_) (fun q5 => ?_)
  · have h6 := zc_eql (2) (2) q5 zr_any (zr_c (lo := 2) (hi := 2) (by decide)) (by decide)
    exact zok_spk (by decide)
  exact zok_spk (by decide)
theorem s_X8_blockPatterns_17 {σ : zSt} (hσ : zPC σ) {s0 : Int32} : zok (fX8_blockPatterns_17 σ s0) (zPk σ (fun v : Nat => v ∈ ([0, 10, 11, 12, 13] : List Nat))) := by
  unfold fX8_blockPatterns_17
  refine zok_if (fun q1 => ?_) (fun q1 => ?_)
  · have h2 := zc_eql (0) (0) q1 zr_any (zr_c (lo := 0) (hi := 0) (by decide)) (by decide)
    exact zok_spk (by decide)
  refine zok_if (fun q3 => ?_) (fun q3 => ?_)
  · have h4 := zc_eql (1) (1) q3 zr_any (zr_c (lo := 1) (hi := 1) (by decide)) (by decide)
    exact zok_spk (by decide)
  refine zok_if (fun q5 => ?_) (fun q5 => ?_)
  · have h6 := zc_eql (2) (2) q5 zr_any (zr_c (lo := 2) (hi := 2) (by decide)) (by decide)
    exact zok_spk (by decide)
  refine zok_if (fun q7 => ?_) (fun q7 => ?_)
  · have h8 := zc_eql (3) (3) q7 zr_any (zr_c (lo := 3) (hi := 3) (by decide)) (by decide)
    exact zok_spk (by decide)
  exact zok_spk (by decide)
theorem s_X8_blockPatterns {σ : zSt} (hσ : zPC σ) : zok (fX8_blockPatterns σ ) (zPk σ (fun v : Nat => v ∈ ([0, 10, 11, 12, 13] : List Nat))) := by
  unfold fX8_blockPatterns
  refine zok_if (fun q1 => ?_) (fun q1 => ?_)
  · have h2 := zc_ler (4) q1 (zr_c (lo := 4) (hi := 4) (by decide)) zr_any (by decide)
    exact (s_X8_blockPatterns_17 hσ)
  have h3 := zc_ltl (3) (z_nle q1) zr_any (zr_c (lo := 4) (hi := 4) (by decide)) (by decide)
  exact (s_X8_blockPatterns_17 hσ)
theorem s_X8_morePatterns_114 {σ : zSt} (hσ : zPC σ) {s0 : Nat} (h_s0 : s0 ∈ ([21, 22] : List Nat)) : zok (fX8_morePatterns_114 σ s0) (zPk σ (fun v : Nat => v ∈ ([0, 14, 15, 16, 17, 18, 19, 20, 21, 22, 23, 24] : List Nat))) := by
  unfold fX8_morePatterns_114
  exact zok_spk (z_memsub h_s0 (by decide))
theorem s_X8_morePatterns_89 {σ : zSt} (hσ : zPC σ) {s0 : Nat} (h_s0 : s0 ∈ ([16, 17] : List Nat)) : zok (fX8_morePatterns_89 σ s0) (zPk σ (fun v : Nat => v ∈ ([0, 14, 15, 16, 17, 18, 19, 20, 21, 22, 23, 24] : List Nat))) := by
  unfold fX8_morePatterns_89
  exact zok_spk (z_memsub h_s0 (by decide))
theorem s_X8_morePatterns_72 {σ : zSt} (hσ : zPC σ) {s0 : Nat} (h_s0 : s0 ∈ ([14, 15] : List Nat)) : zok (fX8_morePatterns_72 σ s0) (zPk σ (fun v : Nat => v ∈ ([0, 14, 15, 16, 17, 18, 19, 20, 21, 22, 23, 24] : List Nat))) := by
  unfold fX8_morePatterns_72
  exact zok_spk (z_memsub h_s0 (by decide))
theorem s_X8_morePatterns {σ : zSt} (hσ : zPC σ) : zok (fX8_morePatterns σ ) (zPk σ (fun v : Nat => v ∈ ([0, 14, 15, 16, 17, 18, 19, 20, 21, 22, 23, 24] : List Nat))) := by
  unfold fX8_morePatterns
  refine zok_if (fun q1 => ?_) (fun q1 => ?_)
  · have h2 := zc_eql (1) (1) q1 zr_any (zr_c (lo := 1) (hi := 1) (by decide)) (by decide)
    refine zok_if (fun q3 => ?_) (fun q3 => ?_)
    · have h4 := zc_eql (0) (0) q3 zr_any (zr_c (lo := 0) (hi := 0) (by decide)) (by decide)
      refine zok_if (fun q5 => ?_) (fun q5 => ?_)
      · have h6 := zc_eql (6) (6) q5 zr_any (zr_c (lo := 6) (hi := 6) (by decide)) (by decide)
        exact (s_X8_morePatterns_72 hσ (by decide))
      exact (s_X8_morePatterns_72 hσ (by decide))
    refine zok_if (fun q7 => ?_) (fun q7 => ?_)
    · have h8 := zc_eql (1) (1) q7 zr_any (zr_c (lo := 1) (hi := 1) (by decide)) (by decide)
      refine zok_if (fun q9 => ?_) (fun q9 => ?_)
      · have h10 := zc_eql (6) (6) q9 zr_any (zr_c (lo := 6) (hi := 6) (by decide)) (by decide)
        exact (s_X8_morePatterns_89 hσ (by decide))
      exact (s_X8_morePatterns_89 hσ (by decide))
    refine zok_if (fun q11 => ?_) (fun q11 => ?_)
    · have h12 := zc_eql (2) (2) q11 zr_any (zr_c (lo := 2) (hi := 2) (by decide)) (by decide)
      exact zok_spk (by decide)
    refine zok_if (fun q13 => ?_) (fun q13 => ?_)
    · have h14 := zc_eql (3) (3) q13 zr_any (zr_c (lo := 3) (hi := 3) (by decide)) (by decide)
      exact zok_spk (by decide)
    refine zok_if (fun q15 => ?_) (fun q15 => ?_)
    · have h16 := zc_eql (4) (4) q15 zr_any (zr_c (lo := 4) (hi := 4) (by decide)) (by decide)
      exact zok_spk (by decide)
    refine zok_if (fun q17 => ?_) (fun q17 => ?_)
    · have h18 := zc_eql (5) (5) q17 zr_any (zr_c (lo := 5) (hi := 5) (by decide)) (by decide)
      refine zok_if (fun q19 => ?_) (fun q19 => ?_)
      · have h20 := zc_eql (1) (1) q19 zr_any (zr_c (lo := 1) (hi := 1) (by decide)) (by decide)
        exact (s_X8_morePatterns_114 hσ (by decide))
      exact (s_X8_morePatterns_114 hσ (by decide))
    refine zok_if (fun q21 => ?_) (fun q21 => ?_)
    · have h22 := zc_eql (6) (6) q21 zr_any (zr_c (lo := 6) (hi := 6) (by decide)) (by decide)
      exact zok_spk (by decide)
    exact zok_spk (by decide)
  exact zok_spk (by decide)
theorem s_X8_lastPatterns {σ : zSt} (hσ : zPC σ) : zok (fX8_lastPatterns σ ) (zPk σ (fun v : Nat => v ∈ ([36, 37, 38, 39, 40, 41, 42, 43] : List Nat))) := by
  unfold fX8_lastPatterns
  refine zok_if (fun q1 => ?_) (fun q1 => ?_)
  · have h2 := zc_eql (0) (0) q1 zr_any (zr_c (lo := 0) (hi := 0) (by decide)) (by decide)
    exact zok_spk (by decide)
  refine zok_if (fun q3 => ?_) (fun q3 => ?_)
  · have h4 := zc_eql (1) (1) q3 zr_any (zr_c (lo := 1) (hi := 1) (by decide)) (by decide)
    exact zok_spk (by decide)
  refine zok_if (fun q5 => ?_) (fun q5 => ?_)
  · have h6 := zc_eql (2) (2) q5 zr_any (zr_c (lo := 2) (hi := 2) (by decide)) (by decide)
    exact zok_spk (by decide)
  refine zok_if (fun q7 => ?_) (fun q7 => ?_)
  · have h8 := zc_eql (3) (3) q7 zr_any (zr_c (lo := 3) (hi := 3) (by decide)) (by decide)
    exact zok_spk (by decide)
  refine zok_if (fun q9 => ?_) (fun q9 => ?_)
  · have h10 := zc_eql (4) (4) q9 zr_any (zr_c (lo := 4) (hi := 4) (by decide)) (by decide)
    exact zok_spk (by decide)
  refine zok_if (fun q11 => ?_) (fun q11 => ?_)
  · have h12 := zc_eql (5) (5) q11 zr_any (zr_c (lo := 5) (hi := 5) (by decide)) (by decide)
    exact zok_spk (by decide)
  refine zok_if (fun q13 => ?_) (fun q13 => ?_)
  · have h14 := zc_eql (6) (6) q13 zr_any (zr_c (lo := 6) (hi := 6) (by decide)) (by decide)
    exact zok_spk (by decide)
  exact zok_spk (by decide)
theorem s_X8_firstPatterns {σ : zSt} (hσ : zPC σ) : zok (fX8_firstPatterns σ ) (zPk σ (fun v : Nat => v ∈ ([25, 26, 27, 28, 29, 30, 31, 32] : List Nat))) := by
  unfold fX8_firstPatterns
  refine zok_if (fun q1 => ?_) (fun q1 => ?_)
  · have h2 := zc_eql (0) (0) q1 zr_any (zr_c (lo := 0) (hi := 0) (by decide)) (by decide)
    exact zok_spk (by decide)
  refine zok_if (fun q3 => ?_) (fun q3 => ?_)
  · have h4 := zc_eql (1) (1) q3 zr_any (zr_c (lo := 1) (hi := 1) (by decide)) (by decide)
    exact zok_spk (by decide)
  refine zok_if (fun q5 => ?_) (fun q5 => ?_)
  · have h6 := zc_eql (2) (2) q5 zr_any (zr_c (lo := 2) (hi := 2) (by decide)) (by decide)
    exact zok_spk (by decide)
  refine zok_if (fun q7 => ?_) (fun q7 => ?_)
  · have h8 := zc_eql (3) (3) q7 zr_any (zr_c (lo := 3) (hi := 3) (by decide)) (by decide)
    exact zok_spk (by decide)
  refine zok_if (fun q9 => ?_) (fun q9 => ?_)
  · have h10 := zc_eql (4) (4) q9 zr_any (zr_c (lo := 4) (hi := 4) (by decide)) (by decide)
    exact zok_spk (by decide)
  refine zok_if (fun q11 => ?_) (fun q11 => ?_)
  · have h12 := zc_eql (5) (5) q11 zr_any (zr_c (lo := 5) (hi := 5) (by decide)) (by decide)
    exact zok_spk (by decide)
  refine zok_if (fun q13 => ?_) (fun q13 => ?_)
  · have h14 := zc_eql (6) (6) q13 zr_any (zr_c (lo := 6) (hi := 6) (by decide)) (by decide)
    exact zok_spk (by decide)
  exact zok_spk (by decide)
theorem s_X8_patternsOf_23 {G : Nat → Int} {σ : zSt} (hσ : zIC G σ) {s0 : Int32} (h_s0 : zr (0) (255) s0) : zok (fX8_patternsOf_23 σ s0) (zAk (zIC G) (fun v : Nat => v ∈ ([0, 6, 7, 8, 9, 10, 11, 12, 13, 14, 15, 16, 17, 18, 19, 20, 21, 22, 23, 24, 25, 26, 27, 28, 29, 30, 31, 32, 33, 34, 35, 36, 37, 38, 39, 40, 41, 42, 43] : List Nat))) := by
  unfold fX8_patternsOf_23
  refine zok_bs (hσ.wi 10 10 (by decide) h_s0 (by decide +kernel)) (fun σ1 e2 i1 => ?_)
  refine zok_ai (s_X8_take i1) (fun σ2 v3 i3 h4 => ?_)
  refine zok_bu (s_X8_split i3 h4) (fun σ4 i5 => ?_)
  refine zok_pk (s_X8_turnPatterns i5.P) (fun v6 h6 => ?_)
  exact zok_sak i5 (z_memsub h6 (by decide))
theorem s_X8_patternsOf_73 {σ : zSt} (hσ : zPC σ) {s0 : Nat} (h_s0 : s0 ∈ ([0, 10, 11, 12, 13, 14, 15, 16, 17, 18, 19, 20, 21, 22, 23, 24] : List Nat)) : zok (fX8_patternsOf_73 σ s0) (zPk σ (fun v : Nat => v ∈ ([0, 6, 7, 8, 9, 10, 11, 12, 13, 14, 15, 16, 17, 18, 19, 20, 21, 22, 23, 24, 25, 26, 27, 28, 29, 30, 31, 32, 33, 34, 35, 36, 37, 38, 39, 40, 41, 42, 43] : List Nat))) := by
  unfold fX8_patternsOf_73
  exact zok_spk (z_memsub h_s0 (by decide))
theorem s_X8_patternsOf_126 {σ : zSt} (hσ : zPC σ) {s0 : Nat} (h_s0 : s0 ∈ ([33, 34] : List Nat)) : zok (fX8_patternsOf_126 σ s0) (zPk σ (fun v : Nat => v ∈ ([0, 6, 7, 8, 9, 10, 11, 12, 13, 14, 15, 16, 17, 18, 19, 20, 21, 22, 23, 24, 25, 26, 27, 28, 29, 30, 31, 32, 33, 34, 35, 36, 37, 38, 39, 40, 41, 42, 43] : List Nat))) := by
  unfold fX8_patternsOf_126
  exact zok_spk (z_memsub h_s0 (by decide))
theorem s_X8_patternsOf {G : Nat → Int} {σ : zSt} (hσ : zIC G σ) {x1 : Int32} (h_x1 : zr (0) (255) x1) : zok (fX8_patternsOf σ x1) (zAk (zIC G) (fun v : Nat => v ∈ ([0, 6, 7, 8, 9, 10, 11, 12, 13, 14, 15, 16, 17, 18, 19, 20, 21, 22, 23, 24, 25, 26, 27, 28, 29, 30, 31, 32, 33, 34, 35, 36, 37, 38, 39, 40, 41, 42, 43] : List Nat))) := by
  unfold fX8_patternsOf
  refine zok_if (fun q1 => ?_) (fun q1 => ?_)
  · have h2 := zc_eql (203) (203) q1 h_x1 (zr_c (lo := 203) (hi := 203) (by decide)) (by decide)
    refine zok_if (fun q3 => ?_) (fun q3 => ?_)
    · have h4 := zc_eql (0) (0) q3 zr_any (zr_c (lo := 0) (hi := 0) (by decide)) (by decide)
      exact (s_X8_patternsOf_23 hσ (zr_w (zr_c (lo := 0) (hi := 0) (by decide)) (by decide)))
    refine zok_ai (s_X8_take hσ) (fun σ19 v20 i5 h6 => ?_)
    exact (s_X8_patternsOf_23 i5 h6)
  refine zok_if (fun q7 => ?_) (fun q7 => ?_)
  · have h8 := zc_eql (237) (237) q7 h_x1 (zr_c (lo := 237) (hi := 237) (by decide)) (by decide)
    refine zok_ai (s_X8_take hσ) (fun σ12 v13 i9 h10 => ?_)
    refine zok_bu (s_X8_split i9 h10) (fun σ14 i11 => ?_)
    refine zok_if (fun q12 => ?_) (fun q12 => ?_)
    · have h13 := zc_eql (2) (2) q12 zr_any (zr_c (lo := 2) (hi := 2) (by decide)) (by decide)
      refine zok_pk (s_X8_blockPatterns i11.P) (fun v18 h14 => ?_)
      exact zok_pak i11 (s_X8_patternsOf_73 i11.P (z_memsub h14 (by decide)))
    refine zok_pk (s_X8_morePatterns i11.P) (fun v16 h15 => ?_)
    exact zok_pak i11 (s_X8_patternsOf_73 i11.P (z_memsub h15 (by decide)))
  refine zok_bu (s_X8_split hσ h_x1) (fun σ7 i16 => ?_)
  refine zok_if (fun q17 => ?_) (fun q17 => ?_)
  · have h18 := zc_eql (0) (0) q17 zr_any (zr_c (lo := 0) (hi := 0) (by decide)) (by decide)
    refine zok_pk (s_X8_firstPatterns i16.P) (fun v9 h19 => ?_)
    exact zok_sak i16 (z_memsub h19 (by decide))
  refine zok_if (fun q20 => ?_) (fun q20 => ?_)
  · have h21 := zc_eql (1) (1) q20 zr_any (zr_c (lo := 1) (hi := 1) (by decide)) (by decide)
    refine zok_if (fun q22 => ?_) (fun q22 => ?_)
    · have h23 := zc_eql (118) (118) q22 h_x1 (zr_c (lo := 118) (hi := 118) (by decide)) (by decide)
      exact zok_pak i16 (s_X8_patternsOf_126 i16.P (by decide))
    exact zok_pak i16 (s_X8_patternsOf_126 i16.P (by decide))
  refine zok_if (fun q24 => ?_) (fun q24 => ?_)
  · have h25 := zc_eql (2) (2) q24 zr_any (zr_c (lo := 2) (hi := 2) (by decide)) (by decide)
    exact zok_sak i16 (by decide)
  refine zok_pk (s_X8_lastPatterns i16.P) (fun v11 h26 => ?_)
  exact zok_sak i16 (z_memsub h26 (by decide))
theorem s_X8_write_82 {G : Nat → Int} {σ : zSt} (hσ : zIC G σ) : zok (fX8_write_82 σ ) (zAi (zIC G) (fun v : Int32 => True)) := by
  unfold fX8_write_82
  refine zok_bu (s_X8_put hσ (by decide)) (fun σ1 i1 => ?_)
  exact zok_sai i1 trivial
theorem s_X8_write_124 {G : Nat → Int} {σ : zSt} (hσ : zIC G σ) {x2 : Int32} (h_x2 : zr (0) (255) x2) : zok (fX8_write_124 σ x2) (zAi (zIC G) (fun v : Int32 => True)) := by
  unfold fX8_write_124
  refine zok_ak (s_X8_patternsOf hσ h_x2) (fun σ2 v3 i1 h2 => ?_)
  refine zok_bu (s_X8_put i1 h2) (fun σ4 i3 => ?_)
  exact zok_sai i3 trivial
theorem s_X8_write_108 {G : Nat → Int} {σ : zSt} (hσ : zIC G σ) {s0 : Int32} (h_s0 : zr (120) (121) s0) : zok (fX8_write_108 σ s0) (zAi (zIC G) (fun v : Int32 => True)) := by
  unfold fX8_write_108
  refine zok_bs (hσ.wi 8 8 (by decide) h_s0 (by decide +kernel)) (fun σ5 e2 i1 => ?_)
  refine zok_ai (s_X8_take i1) (fun σ6 v7 i3 h4 => ?_)
  refine zok_pi (s_X5_meansPlace i3.P h4) (fun v9 h5 => ?_)
  refine zok_ck (zbo_ok h5 (by decide)) ?_
  refine zok_bs (i3.wi 9 9 (by decide) h5 (by decide +kernel)) (fun σ10 e7 i6 => ?_)
  exact (s_X8_write_124 i6 h4)
theorem s_X8_write_47 {G : Nat → Int} {σ : zSt} (hσ : zIC G σ) {x2 : Int32} (h_x2 : zr (221) (253) x2) : zok (fX8_write_47 σ x2) (zAi (zIC G) (fun v : Int32 => True)) := by
  unfold fX8_write_47
  refine zok_pi (s_X2_read hσ.P) (fun v12 h1 => ?_)
  refine zok_if (fun q2 => ?_) (fun q2 => ?_)
  · have h3 := zc_eql (221) (221) q2 h1 (zr_c (lo := 221) (hi := 221) (by decide)) (by decide)
    exact (s_X8_write_82 hσ)
  refine zok_if (fun q4 => ?_) (fun q4 => ?_)
  · have h5 := zc_eql (237) (237) q4 h1 (zr_c (lo := 237) (hi := 237) (by decide)) (by decide)
    exact (s_X8_write_82 hσ)
  refine zok_if (fun q6 => ?_) (fun q6 => ?_)
  · have h7 := zc_eql (253) (253) q6 h1 (zr_c (lo := 253) (hi := 253) (by decide)) (by decide)
    exact (s_X8_write_82 hσ)
  refine zok_if (fun q8 => ?_) (fun q8 => ?_)
  · have h9 := zc_eql (221) (221) q8 h_x2 (zr_c (lo := 221) (hi := 221) (by decide)) (by decide)
    exact (s_X8_write_108 hσ (zr_w (zr_c (lo := 120) (hi := 120) (by decide)) (by decide)))
  have h10 := zc_nel (222) (253) q8 h_x2 (zr_c (lo := 221) (hi := 221) (by decide)) (by decide)
  exact (s_X8_write_108 hσ (zr_w (zr_c (lo := 121) (hi := 121) (by decide)) (by decide)))
theorem s_X8_write {G : Nat → Int} {σ : zSt} (hσ : zIC G σ) {x1 : Int32} : zok (fX8_write σ x1) (zAi (zIC G) (fun v : Int32 => True)) := by
  unfold fX8_write
  refine zok_bs (hσ.wi 3 3 (by decide) (zr_andr (lo := 0) (hi := 65535) (zr_c (lo := 65535) (hi := 65535) (by decide)) (by decide)) (by decide +kernel)) (fun σ13 e2 i1 => ?_)
  refine zok_bs (i1.wi 4 4 (by decide) (zr_c (lo := 0) (hi := 0) (by decide)) (by decide +kernel)) (fun σ14 e4 i3 => ?_)
  refine zok_bs (i3.wi 2 2 (by decide) (zr_c (lo := 0) (hi := 0) (by decide)) (by decide +kernel)) (fun σ15 e6 i5 => ?_)
  refine zok_bs (i5.wi 8 8 (by decide) (zr_c (lo := 0) (hi := 0) (by decide)) (by decide +kernel)) (fun σ16 e8 i7 => ?_)
  refine zok_ck rfl ?_
  refine zok_bs (i7.wi 9 9 (by decide) (zr_c (lo := 0) (hi := 0) (by decide)) (by decide +kernel)) (fun σ17 e10 i9 => ?_)
  refine zok_ai (s_X8_take i9) (fun σ18 v19 i11 h12 => ?_)
  refine zok_if (fun q13 => ?_) (fun q13 => ?_)
  · have h14 := zc_eql (221) (221) q13 h12 (zr_c (lo := 221) (hi := 221) (by decide)) (by decide)
    exact (s_X8_write_47 i11 (zr_w h14 (by decide)))
  refine zok_if (fun q15 => ?_) (fun q15 => ?_)
  · have h16 := zc_eql (253) (253) q15 h12 (zr_c (lo := 253) (hi := 253) (by decide)) (by decide)
    exact (s_X8_write_47 i11 (zr_w h16 (by decide)))
  exact (s_X8_write_124 i11 h12)
theorem s_X8_eightFrom_39 {σ : zSt} {k6 : zSt → Int32 → Int64 → Int32 → Option (zSt × Int64)} {Mk6 : Int} (hk6 : ∀ (x1 : Int32) (x2 : Int64) (x4 : Int32), zr (0) (31) x1 → zr (-1) (7) x4 → x4.toInt - (-1) < Mk6 → zok (k6 σ x1 x2 x4) (zPl σ (fun v : Int64 => True))) (hσ : zPC σ) {x1 : Int32} (h_x1 : zr (0) (31) x1) {x2 : Int64} {x4 : Int32} (h_x4 : zr (0) (7) x4) {s0 : Int32} (hMk6 : x4.toInt - (-1) ≤ Mk6) : zok (fX8_eightFrom_39 k6 σ x1 x2 x4 s0) (zPl σ (fun v : Int64 => True)) := by
  unfold fX8_eightFrom_39
  refine zok_bv (fun v1 e2 => ?_)
  refine zok_br (zr_add (lo := -1) (hi := 6) h_x4 (zr_c (lo := -1) (hi := -1) (by decide)) (by decide)) (fun v2 e4 h3 => ?_)
  exact hk6 _ _ _  h_x1 (zr_w h3 (by decide)) (by rw [e4]; have := z_tadd (y := (-1 : Int32)) h_x4 (zr_c (lo := -1) (hi := -1) (by decide)) (by decide); have e9 : (-1 : Int32).toInt = -1 := rfl; omega) 
theorem s_X8_eightFrom_38 {σ : zSt} {k6 : zSt → Int32 → Int64 → Int32 → Option (zSt × Int64)} {Mk6 : Int} (hk6 : ∀ (x1 : Int32) (x2 : Int64) (x4 : Int32), zr (0) (31) x1 → zr (-1) (7) x4 → x4.toInt - (-1) < Mk6 → zok (k6 σ x1 x2 x4) (zPl σ (fun v : Int64 => True))) (hσ : zPC σ) {x1 : Int32} (h_x1 : zr (0) (31) x1) {x2 : Int64} {x4 : Int32} (h_x4 : zr (0) (7) x4) (hMk6 : x4.toInt - (-1) ≤ Mk6) : zok (fX8_eightFrom_38 k6 σ x1 x2 x4) (zPl σ (fun v : Int64 => True)) := by
  unfold fX8_eightFrom_38
  exact (s_X8_eightFrom_39 hk6 hσ h_x1 h_x4 hMk6)
theorem s_X8_eightFrom_6_body {σ : zSt} {k6 : zSt → Int32 → Int64 → Int32 → Option (zSt × Int64)} {Mk6 : Int} (hk6 : ∀ (x1 : Int32) (x2 : Int64) (x4 : Int32), zr (0) (31) x1 → zr (-1) (7) x4 → x4.toInt - (-1) < Mk6 → zok (k6 σ x1 x2 x4) (zPl σ (fun v : Int64 => True))) (hσ : zPC σ) {x1 : Int32} (h_x1 : zr (0) (31) x1) {x2 : Int64} {x4 : Int32} (h_x4 : zr (-1) (7) x4) (hMk6 : x4.toInt - (-1) ≤ Mk6) : zok (fX8_eightFrom_6_body k6 σ x1 x2 x4) (zPl σ (fun v : Int64 => True)) := by
  unfold fX8_eightFrom_6_body
  refine zok_if (fun q1 => ?_) (fun q1 => ?_)
  · have h2 := zc_ltl (-1) q1 h_x4 (zr_c (lo := 0) (hi := 0) (by decide)) (by decide)
    exact zok_spl trivial
  have h3 := zc_ler (0) (z_nlt q1) (zr_c (lo := 0) (hi := 0) (by decide)) h_x4 (by decide)
  refine zok_if (fun q4 => ?_) (fun q4 => ?_)
  · exact zr_no (zc_ltl (-1) q4 h_x1 (zr_c (lo := 0) (hi := 0) (by decide)) (by decide)) (by decide)
  refine zok_if (fun q5 => ?_) (fun q5 => ?_)
  · have h6 := zc_lel (31) q5 (zr_sub (lo := -7) (hi := 32) (rC_9 hσ.sg _ (by decide)) h3 (by decide)) h_x1 (by decide)
    exact (s_X8_eightFrom_38 hk6 hσ h_x1 h3 hMk6)
  have h7 := zc_ltr (1) (z_nle q5) h_x1 (zr_sub (lo := -7) (hi := 32) (rC_9 hσ.sg _ (by decide)) h3 (by decide)) (by decide)
  refine zok_ck (z_ef hσ.sg h3 q5 q4) ?_
  exact (s_X8_eightFrom_39 hk6 hσ h_x1 h3 hMk6)
theorem s_X8_eightFrom_6 {σ : zSt} (hσ : zPC σ) : ∀ (n : Nat) {x1 : Int32} (h_x1 : zr (0) (31) x1) {x2 : Int64} {x4 : Int32} (h_x4 : zr (-1) (7) x4) (hm : x4.toInt - (-1) < n), zok (fX8_eightFrom_6 n σ x1 x2 x4) (zPl σ (fun v : Int64 => True)) := by
  intro n
  induction n with
  | zero => intro x1 h_x1 x2 x4 h_x4 hm ; have h9 := h_x4.1; have h8 := h_x4.2; exfalso; omega
  | succ n ih => intro x1 h_x1 x2 x4 h_x4 hm ; exact s_X8_eightFrom_6_body (fun x1 x2 x4 h_x1 h_x4 hm1 => ih h_x1 h_x4 (by omega)) hσ h_x1 h_x4 (Int.le_refl _)
theorem s_X8_eightFrom {σ : zSt} (hσ : zPC σ) {x1 : Int32} (h_x1 : zr (0) (31) x1) : zok (fX8_eightFrom σ x1) (zPl σ (fun v : Int64 => True)) := by
  unfold fX8_eightFrom
  exact (s_X8_eightFrom_6 hσ zfuel h_x1 (zr_w (zr_c (lo := 7) (hi := 7) (by decide)) (by decide)) (by decide))
theorem s_J7_fill_53178_k21_5_body {G : Nat → Int} {σ : zSt} {k5 : zSt → Int32 → Int32 → Int32 → Option (zSt)} {Mk5 : Int} (hk5 : ∀ (σ : zSt) (x1 : Int32) (x2 : Int32) (x3 : Int32), zIC G σ → zr (0) (0) x1 → zr (0) (16384) x2 → zr (16384) (16384) x3 → (16384) - x2.toInt < Mk5 → zok (k5 σ x1 x2 x3) (zIC G)) (hσ : zIC G σ) {x1 : Int32} (h_x1 : zr (0) (0) x1) {x2 : Int32} (h_x2 : zr (0) (16384) x2) {x3 : Int32} (h_x3 : zr (16384) (16384) x3) (hMk5 : (16384) - x2.toInt ≤ Mk5) : zok (fJ7_fill_53178_k21_5_body k5 σ x1 x2 x3) (zIC G) := by
  unfold fJ7_fill_53178_k21_5_body
  refine zok_if (fun q1 => ?_) (fun q1 => ?_)
  · have h2 := zc_ler (16384) q1 h_x3 h_x2 (by decide)
    exact zok_some hσ
  have h3 := zc_ltl (16383) (z_nle q1) h_x2 h_x3 (by decide)
  refine zok_ck (zin_ok h3 (by decide)) ?_
  refine zok_bs (hσ.wi 0 16383 (z_ix h3 (by decide)) h_x1 (by decide +kernel)) (fun σ1 e5 i4 => ?_)
  refine zok_br (zr_add (lo := 1) (hi := 16384) h3 (zr_c (lo := 1) (hi := 1) (by decide)) (by decide)) (fun v2 e7 h6 => ?_)
  exact hk5 _ _ _ _ i4 h_x1 (zr_w h6 (by decide)) h_x3 (by rw [e7]; have := z_tadd (y := (1 : Int32)) h3 (zr_c (lo := 1) (hi := 1) (by decide)) (by decide); have e9 : (1 : Int32).toInt = 1 := rfl; omega) 
theorem s_J7_fill_53178_k21_5 {G : Nat → Int} : ∀ (n : Nat) {σ : zSt} (hσ : zIC G σ) {x1 : Int32} (h_x1 : zr (0) (0) x1) {x2 : Int32} (h_x2 : zr (0) (16384) x2) {x3 : Int32} (h_x3 : zr (16384) (16384) x3) (hm : (16384) - x2.toInt < n), zok (fJ7_fill_53178_k21_5 n σ x1 x2 x3) (zIC G) := by
  intro n
  induction n with
  | zero => intro σ hσ x1 h_x1 x2 h_x2 x3 h_x3 hm ; have h9 := h_x2.1; have h8 := h_x2.2; exfalso; omega
  | succ n ih => intro σ hσ x1 h_x1 x2 h_x2 x3 h_x3 hm ; exact s_J7_fill_53178_k21_5_body (fun σ x1 x2 x3 hσ h_x1 h_x2 h_x3 hm1 => ih hσ h_x1 h_x2 h_x3 (by omega)) hσ h_x1 h_x2 h_x3 (Int.le_refl _)
theorem s_J7_fill_53178_k21 {G : Nat → Int} {σ : zSt} (hσ : zIC G σ) {x1 : Int32} (h_x1 : zr (0) (0) x1) : zok (fJ7_fill_53178_k21 σ x1) (zIC G) := by
  unfold fJ7_fill_53178_k21
  exact (s_J7_fill_53178_k21_5 zfuel hσ h_x1 (zr_w (zr_c (lo := 0) (hi := 0) (by decide)) (by decide)) (zr_c (lo := 16384) (hi := 16384) (by decide)) (by decide))
theorem s_J7_fill_53178_k23_5_body {G : Nat → Int} {σ : zSt} {k5 : zSt → Int32 → Int32 → Int32 → Option (zSt)} {Mk5 : Int} (hk5 : ∀ (σ : zSt) (x1 : Int32) (x2 : Int32) (x3 : Int32), zIC G σ → zr (0) (0) x1 → zr (0) (96) x2 → zr (96) (96) x3 → (96) - x2.toInt < Mk5 → zok (k5 σ x1 x2 x3) (zIC G)) (hσ : zIC G σ) {x1 : Int32} (h_x1 : zr (0) (0) x1) {x2 : Int32} (h_x2 : zr (0) (96) x2) {x3 : Int32} (h_x3 : zr (96) (96) x3) (hMk5 : (96) - x2.toInt ≤ Mk5) : zok (fJ7_fill_53178_k23_5_body k5 σ x1 x2 x3) (zIC G) := by
  unfold fJ7_fill_53178_k23_5_body
  refine zok_if (fun q1 => ?_) (fun q1 => ?_)
  · have h2 := zc_ler (96) q1 h_x3 h_x2 (by decide)
    exact zok_some hσ
  have h3 := zc_ltl (95) (z_nle q1) h_x2 h_x3 (by decide)
  refine zok_ck (zin_ok h3 (by decide)) ?_
  refine zok_bs (hσ.wi 0 95 (z_ix h3 (by decide)) h_x1 (by decide +kernel)) (fun σ1 e5 i4 => ?_)
  refine zok_br (zr_add (lo := 1) (hi := 96) h3 (zr_c (lo := 1) (hi := 1) (by decide)) (by decide)) (fun v2 e7 h6 => ?_)
  exact hk5 _ _ _ _ i4 h_x1 (zr_w h6 (by decide)) h_x3 (by rw [e7]; have := z_tadd (y := (1 : Int32)) h3 (zr_c (lo := 1) (hi := 1) (by decide)) (by decide); have e9 : (1 : Int32).toInt = 1 := rfl; omega) 
theorem s_J7_fill_53178_k23_5 {G : Nat → Int} : ∀ (n : Nat) {σ : zSt} (hσ : zIC G σ) {x1 : Int32} (h_x1 : zr (0) (0) x1) {x2 : Int32} (h_x2 : zr (0) (96) x2) {x3 : Int32} (h_x3 : zr (96) (96) x3) (hm : (96) - x2.toInt < n), zok (fJ7_fill_53178_k23_5 n σ x1 x2 x3) (zIC G) := by
  intro n
  induction n with
  | zero => intro σ hσ x1 h_x1 x2 h_x2 x3 h_x3 hm ; have h9 := h_x2.1; have h8 := h_x2.2; exfalso; omega
  | succ n ih => intro σ hσ x1 h_x1 x2 h_x2 x3 h_x3 hm ; exact s_J7_fill_53178_k23_5_body (fun σ x1 x2 x3 hσ h_x1 h_x2 h_x3 hm1 => ih hσ h_x1 h_x2 h_x3 (by omega)) hσ h_x1 h_x2 h_x3 (Int.le_refl _)
theorem s_J7_fill_53178_k23 {G : Nat → Int} {σ : zSt} (hσ : zIC G σ) {x1 : Int32} (h_x1 : zr (0) (0) x1) : zok (fJ7_fill_53178_k23 σ x1) (zIC G) := by
  unfold fJ7_fill_53178_k23
  exact (s_J7_fill_53178_k23_5 zfuel hσ h_x1 (zr_w (zr_c (lo := 0) (hi := 0) (by decide)) (by decide)) (zr_c (lo := 96) (hi := 96) (by decide)) (by decide))
theorem s_X9_clear {G : Nat → Int} {σ : zSt} (hσ : zIC G σ) : zok (fX9_clear σ ) (zIC G) := by
  unfold fX9_clear
  refine zok_bu (s_J7_fill_53178_k21 hσ (zr_c (lo := 0) (hi := 0) (by decide))) (fun σ1 i1 => ?_)
  refine zok_bu (s_J7_fill_53178_k23 i1 (zr_c (lo := 0) (hi := 0) (by decide))) (fun σ2 i2 => ?_)
  exact zok_some i2
theorem s_X9_keep {G : Nat → Int} {σ : zSt} (hσ : zIC G σ) : zok (fX9_keep σ ) (zIC G) := by
  unfold fX9_keep
  refine zok_ck (by decide) ?_
  refine zok_bs (hσ.wc (by decide +kernel) rfl rfl) (fun σ1 e2 i1 => ?_)
  refine zok_ck (by decide) ?_
  refine zok_bs (i1.wc (by decide +kernel) rfl rfl) (fun σ2 e4 i3 => ?_)
  exact zok_some i3
theorem s_X9_bringBack {G : Nat → Int} {σ : zSt} (hσ : zIC G σ) : zok (fX9_bringBack σ ) (zIC G) := by
  unfold fX9_bringBack
  refine zok_ck (by decide) ?_
  refine zok_bs (hσ.wc (by decide +kernel) rfl rfl) (fun σ1 e2 i1 => ?_)
  refine zok_ck (by decide) ?_
  refine zok_bs (i1.wc (by decide +kernel) rfl rfl) (fun σ2 e4 i3 => ?_)
  exact zok_some i3
theorem s_X9_has_27 {σ : zSt} (hσ : zPC σ) {s0 : Int32} (h_s0 : zr (0) (1) s0) : zok (fX9_has_27 σ s0) (zPi σ (fun v : Int32 => zr (0) (1) v)) := by
  unfold fX9_has_27
  refine zok_ck (zbo_ok h_s0 (by decide)) ?_
  exact zok_spi h_s0
theorem s_X9_has_26 {σ : zSt} (hσ : zPC σ) : zok (fX9_has_26 σ ) (zPi σ (fun v : Int32 => zr (0) (1) v)) := by
  unfold fX9_has_26
  exact (s_X9_has_27 hσ (zr_w (zr_c (lo := 0) (hi := 0) (by decide)) (by decide)))
theorem s_X9_has_22 {σ : zSt} (hσ : zPC σ) : zok (fX9_has_22 σ ) (zPi σ (fun v : Int32 => zr (0) (1) v)) := by
  unfold fX9_has_22
  exact (s_X9_has_27 hσ (zr_w (zr_c (lo := 1) (hi := 1) (by decide)) (by decide)))
theorem s_X9_has_10 {σ : zSt} (hσ : zPC σ) {x0 : Int32} : zok (fX9_has_10 σ x0) (zPi σ (fun v : Int32 => zr (0) (1) v)) := by
  unfold fX9_has_10
  refine zok_if (fun q1 => ?_) (fun q1 => ?_)
  · have h2 := zc_ltl (31) q1 zr_any (zr_c (lo := 32) (hi := 32) (by decide)) (by decide)
    exact (s_X9_has_26 hσ)
  have h3 := zc_ler (32) (z_nlt q1) (zr_c (lo := 32) (hi := 32) (by decide)) zr_any (by decide)
  refine zok_if (fun q4 => ?_) (fun q4 => ?_)
  · have h5 := zc_ler (96) q4 (zr_c (lo := 96) (hi := 96) (by decide)) h3 (by decide)
    exact (s_X9_has_26 hσ)
  have h6 := zc_ltl (95) (z_nle q4) h3 (zr_c (lo := 96) (hi := 96) (by decide)) (by decide)
  exact (s_X9_has_22 hσ)
theorem s_X9_has {σ : zSt} (hσ : zPC σ) {x0 : Int32} : zok (fX9_has σ x0) (zPi σ (fun v : Int32 => zr (0) (1) v)) := by
  unfold fX9_has
  refine zok_if (fun q1 => ?_) (fun q1 => ?_)
  · have h2 := zc_ltl (-1) q1 zr_any (zr_c (lo := 0) (hi := 0) (by decide)) (by decide)
    exact (s_X9_has_10 hσ)
  have h3 := zc_ler (0) (z_nlt q1) (zr_c (lo := 0) (hi := 0) (by decide)) zr_any (by decide)
  refine zok_if (fun q4 => ?_) (fun q4 => ?_)
  · have h5 := zc_lel (25) q4 h3 (zr_c (lo := 25) (hi := 25) (by decide)) (by decide)
    exact (s_X9_has_22 hσ)
  have h6 := zc_ltr (26) (z_nle q4) (zr_c (lo := 25) (hi := 25) (by decide)) h3 (by decide)
  exact (s_X9_has_10 hσ)
theorem s_X9_asks_54 {σ : zSt} (hσ : zPC σ) {s0 : Int32} (h_s0 : zr (0) (1) s0) : zok (fX9_asks_54 σ s0) (zPi σ (fun v : Int32 => zr (0) (1) v)) := by
  unfold fX9_asks_54
  refine zok_ck (zbo_ok h_s0 (by decide)) ?_
  exact zok_spi h_s0
theorem s_X9_asks_53 {σ : zSt} (hσ : zPC σ) : zok (fX9_asks_53 σ ) (zPi σ (fun v : Int32 => zr (0) (1) v)) := by
  unfold fX9_asks_53
  exact (s_X9_asks_54 hσ (zr_w (zr_c (lo := 0) (hi := 0) (by decide)) (by decide)))
theorem s_X9_asks_49 {σ : zSt} (hσ : zPC σ) : zok (fX9_asks_49 σ ) (zPi σ (fun v : Int32 => zr (0) (1) v)) := by
  unfold fX9_asks_49
  exact (s_X9_asks_54 hσ (zr_w (zr_c (lo := 1) (hi := 1) (by decide)) (by decide)))
theorem s_X9_asks_26 {σ : zSt} (hσ : zPC σ) : zok (fX9_asks_26 σ ) (zPi σ (fun v : Int32 => zr (0) (1) v)) := by
  unfold fX9_asks_26
  refine zok_ck rfl ?_
  refine zok_if (fun q1 => ?_) (fun q1 => ?_)
  · have h2 := zc_eql (0) (0) q1 (zr_andr (lo := 0) (hi := 16) (zr_c (lo := 16) (hi := 16) (by decide)) (by decide)) (zr_c (lo := 0) (hi := 0) (by decide)) (by decide)
    exact (s_X9_asks_53 hσ)
  have h3 := zc_nel (1) (16) q1 (zr_andr (lo := 0) (hi := 16) (zr_c (lo := 16) (hi := 16) (by decide)) (by decide)) (zr_c (lo := 0) (hi := 0) (by decide)) (by decide)
  refine zok_ck rfl ?_
  refine zok_if (fun q4 => ?_) (fun q4 => ?_)
  · have h5 := zc_eql (1) (1) q4 zr_any (zr_c (lo := 1) (hi := 1) (by decide)) (by decide)
    exact (s_X9_asks_49 hσ)
  exact (s_X9_asks_53 hσ)
theorem s_X9_asks {σ : zSt} (hσ : zPC σ) : zok (fX9_asks σ ) (zPi σ (fun v : Int32 => zr (0) (1) v)) := by
  unfold fX9_asks
  refine zok_ck rfl ?_
  refine zok_if (fun q1 => ?_) (fun q1 => ?_)
  · have h2 := zc_eql (0) (0) q1 (zr_andr (lo := 0) (hi := 32) (zr_c (lo := 32) (hi := 32) (by decide)) (by decide)) (zr_c (lo := 0) (hi := 0) (by decide)) (by decide)
    exact (s_X9_asks_26 hσ)
  have h3 := zc_nel (1) (32) q1 (zr_andr (lo := 0) (hi := 32) (zr_c (lo := 32) (hi := 32) (by decide)) (by decide)) (zr_c (lo := 0) (hi := 0) (by decide)) (by decide)
  refine zok_ck rfl ?_
  refine zok_if (fun q4 => ?_) (fun q4 => ?_)
  · have h5 := zc_eql (0) (0) q4 (zr_andr (lo := 0) (hi := 128) (zr_c (lo := 128) (hi := 128) (by decide)) (by decide)) (zr_c (lo := 0) (hi := 0) (by decide)) (by decide)
    exact (s_X9_asks_26 hσ)
  have h6 := zc_nel (1) (128) q4 (zr_andr (lo := 0) (hi := 128) (zr_c (lo := 128) (hi := 128) (by decide)) (by decide)) (zr_c (lo := 0) (hi := 0) (by decide)) (by decide)
  exact (s_X9_asks_49 hσ)
theorem s_X9_value_85 {σ : zSt} (hσ : zPC σ) {x1 : Int32} : zok (fX9_value_85 σ x1) (zPi σ (fun v : Int32 => True)) := by
  unfold fX9_value_85
  refine zok_pi (s_X9_held hσ) (fun v2 h1 => ?_)
  exact zok_spi trivial
theorem s_X9_value_64 {σ : zSt} (hσ : zPC σ) {s0 : Int32} (h_s0 : zr (0) (1) s0) : zok (fX9_value_64 σ s0) (zPi σ (fun v : Int32 => True)) := by
  unfold fX9_value_64
  exact zok_spi trivial
theorem s_X9_value {σ : zSt} (hσ : zPC σ) {x1 : Int32} : zok (fX9_value σ x1) (zPi σ (fun v : Int32 => True)) := by
  unfold fX9_value
  refine zok_if (fun q1 => ?_) (fun q1 => ?_)
  · have h2 := zc_eql (17) (17) q1 zr_any (zr_c (lo := 17) (hi := 17) (by decide)) (by decide)
    refine zok_pi (s_X9_asks hσ) (fun v4 h3 => ?_)
    refine zok_if (fun q4 => ?_) (fun q4 => ?_)
    · have h5 := zc_eql (0) (0) q4 h3 (zr_c (lo := 0) (hi := 0) (by decide)) (by decide)
      exact (s_X9_value_64 hσ (zr_w (zr_c (lo := 0) (hi := 0) (by decide)) (by decide)))
    have h6 := zc_nel (1) (1) q4 h3 (zr_c (lo := 0) (hi := 0) (by decide)) (by decide)
    exact (s_X9_value_64 hσ (zr_w (zr_c (lo := 1) (hi := 1) (by decide)) (by decide)))
  refine zok_if (fun q7 => ?_) (fun q7 => ?_)
  · have h8 := zc_eql (18) (18) q7 zr_any (zr_c (lo := 18) (hi := 18) (by decide)) (by decide)
    exact (s_X9_value_85 hσ)
  refine zok_if (fun q9 => ?_) (fun q9 => ?_)
  · have h10 := zc_eql (19) (19) q9 zr_any (zr_c (lo := 19) (hi := 19) (by decide)) (by decide)
    exact (s_X9_value_85 hσ)
  refine zok_if (fun q11 => ?_) (fun q11 => ?_)
  · have h12 := zc_eql (20) (20) q11 zr_any (zr_c (lo := 20) (hi := 20) (by decide)) (by decide)
    exact (s_X9_value_85 hσ)
  refine zok_if (fun q13 => ?_) (fun q13 => ?_)
  · have h14 := zc_eql (21) (21) q13 zr_any (zr_c (lo := 21) (hi := 21) (by decide)) (by decide)
    exact (s_X9_value_85 hσ)
  refine zok_if (fun q15 => ?_) (fun q15 => ?_)
  · have h16 := zc_eql (22) (22) q15 zr_any (zr_c (lo := 22) (hi := 22) (by decide)) (by decide)
    refine zok_pi (s_X9_mode hσ) (fun v6 h17 => ?_)
    exact zok_spi trivial
  refine zok_if (fun q18 => ?_) (fun q18 => ?_)
  · have h19 := zc_eql (23) (23) q18 zr_any (zr_c (lo := 23) (hi := 23) (by decide)) (by decide)
    refine zok_pi (s_X9_height hσ) (fun v8 h20 => ?_)
    exact zok_spi trivial
  refine zok_if (fun q21 => ?_) (fun q21 => ?_)
  · have h22 := zc_eql (24) (24) q21 zr_any (zr_c (lo := 24) (hi := 24) (by decide)) (by decide)
    refine zok_pi (s_X9_hCount hσ) (fun v10 h23 => ?_)
    exact zok_spi trivial
  refine zok_if (fun q24 => ?_) (fun q24 => ?_)
  · have h25 := zc_eql (25) (25) q24 zr_any (zr_c (lo := 25) (hi := 25) (by decide)) (by decide)
    refine zok_pi (s_X9_vCount hσ) (fun v12 h26 => ?_)
    exact zok_spi trivial
  exact (s_X9_value_85 hσ)
theorem s_X9_eightFrom_6_body {σ : zSt} {k6 : zSt → Int32 → Int64 → Int32 → Option (zSt × Int64)} {Mk6 : Int} (hk6 : ∀ (x1 : Int32) (x2 : Int64) (x4 : Int32), zr (-1) (7) x4 → x4.toInt - (-1) < Mk6 → zok (k6 σ x1 x2 x4) (zPl σ (fun v : Int64 => True))) (hσ : zPC σ) {x1 : Int32} {x2 : Int64} {x4 : Int32} (h_x4 : zr (-1) (7) x4) (hMk6 : x4.toInt - (-1) ≤ Mk6) : zok (fX9_eightFrom_6_body k6 σ x1 x2 x4) (zPl σ (fun v : Int64 => True)) := by
  unfold fX9_eightFrom_6_body
  refine zok_if (fun q1 => ?_) (fun q1 => ?_)
  · have h2 := zc_ltl (-1) q1 h_x4 (zr_c (lo := 0) (hi := 0) (by decide)) (by decide)
    exact zok_spl trivial
  have h3 := zc_ler (0) (z_nlt q1) (zr_c (lo := 0) (hi := 0) (by decide)) h_x4 (by decide)
  refine zok_ck (zin_ok (zr_andr (lo := 0) (hi := 16383) (zr_c (lo := 16383) (hi := 16383) (by decide)) (by decide)) (by decide)) ?_
  refine zok_bv (fun v1 e5 => ?_)
  refine zok_br (zr_add (lo := -1) (hi := 6) h3 (zr_c (lo := -1) (hi := -1) (by decide)) (by decide)) (fun v2 e7 h6 => ?_)
  exact hk6 _ _ _  (zr_w h6 (by decide)) (by rw [e7]; have := z_tadd (y := (-1 : Int32)) h3 (zr_c (lo := -1) (hi := -1) (by decide)) (by decide); have e9 : (-1 : Int32).toInt = -1 := rfl; omega) 
theorem s_X9_eightFrom_6 {σ : zSt} (hσ : zPC σ) : ∀ (n : Nat) {x1 : Int32} {x2 : Int64} {x4 : Int32} (h_x4 : zr (-1) (7) x4) (hm : x4.toInt - (-1) < n), zok (fX9_eightFrom_6 n σ x1 x2 x4) (zPl σ (fun v : Int64 => True)) := by
  intro n
  induction n with
  | zero => intro x1 x2 x4 h_x4 hm ; have h9 := h_x4.1; have h8 := h_x4.2; exfalso; omega
  | succ n ih => intro x1 x2 x4 h_x4 hm ; exact s_X9_eightFrom_6_body (fun x1 x2 x4 h_x4 hm1 => ih h_x4 (by omega)) hσ h_x4 (Int.le_refl _)
theorem s_X9_eightFrom {σ : zSt} (hσ : zPC σ) {x1 : Int32} : zok (fX9_eightFrom σ x1) (zPl σ (fun v : Int64 => True)) := by
  unfold fX9_eightFrom
  exact (s_X9_eightFrom_6 hσ zfuel (zr_w (zr_c (lo := 7) (hi := 7) (by decide)) (by decide)) (by decide))
theorem zsi_twice {σ : zSt} {k j : Nat} {v w : Int32} : zsi (zsi σ k j v) k j w = zsi σ k j w := by
  refine Prod.ext (funext fun a => funext fun b => ?_) rfl
  rw [zsi_at, zsi_at, zsi_at]
  split <;> rfl
theorem s_X9_passes {G : Nat → Int} {σ : zSt} (hσ : zIC G σ) {x1 : Int32} (h_x1 : zr (1) (31) x1) : zok (fX9_passes σ x1) (zAi (zIC G) (fun v : Int32 => zr (0) (1) v)) := by
  unfold fX9_passes
  refine zok_ck rfl (zok_ck rfl ?_)
  have hb := rC_42 hσ.sg (21 : Int32).toNatClampNeg (by decide)
  have hs := zr_add (lo := 0) (hi := 258) hb h_x1 (by decide)
  refine zok_bv (fun σ1 e1 => ?_)
  refine zok_ck rfl ?_
  have er : zgi σ1 23 (21 : Int32).toNatClampNeg = zgi σ 23 (21 : Int32).toNatClampNeg + x1 := by rw [e1]; unfold zgi; rw [zsi_ej]
  have c228 : (228 : Int32).toInt = 228 := rfl
  refine zok_if (fun q => ?_) (fun q => ?_)
  · have q1 := Int32.le_iff_toInt_le.mp q
    rw [er] at q1
    have h2 : zr 228 258 (zgi σ 23 (21 : Int32).toNatClampNeg + x1) := ⟨by omega, hs.2⟩
    refine zok_ck rfl (zok_ck rfl ?_)
    have i2 : zIC G (zsi σ1 23 ((21 : Int32).toNatClampNeg) ((zgi σ1 23 (21 : Int32).toNatClampNeg) - 228)) := by
      rw [er, e1, zsi_twice]
      exact hσ.wi 21 21 (by decide) (zr_sub (lo := 0) (hi := 30) h2 (zr_c (lo := 228) (hi := 228) (x := 228) (by decide)) (by decide)) (by decide +kernel)
    refine zok_bs i2 (fun σ2 e2 i2 => ?_)
    refine zok_ck rfl ?_
    exact zok_sai i2 (zr_c (by decide))
  · have q1 := Int32.lt_iff_toInt_lt.mp (z_nle q)
    rw [er] at q1
    refine zok_ck rfl ?_
    refine zok_sai ?_ (zr_c (by decide))
    rw [e1]
    exact hσ.wi 21 21 (by decide) (show zr 0 227 _ from ⟨hs.1, by omega⟩) (by decide +kernel)
theorem s_X9_goesToNextLine_159 {σ : zSt} (hσ : zPC σ) {x2 : Int32} (h_x2 : zr (0) (1) x2) : zok (fX9_goesToNextLine_159 σ x2) (zPi σ (fun v : Int32 => zr (0) (1) v)) := by
  unfold fX9_goesToNextLine_159
  refine zok_ck (zbo_ok h_x2 (by decide)) ?_
  exact zok_spi h_x2
theorem s_X9_goesToNextLine_133 {G : Nat → Int} {σ : zSt} (hσ : zIC G σ) {x1 : Int32} (h_x1 : zr (192) (240) x1) {x2 : Int32} (h_x2 : zr (0) (1) x2) : zok (fX9_goesToNextLine_133 σ x1 x2) (zAi (zIC G) (fun v : Int32 => zr (0) (1) v)) := by
  unfold fX9_goesToNextLine_133
  refine zok_ck rfl ?_
  refine zok_if (fun q1 => ?_) (fun q1 => ?_)
  · have h2 := zc_eql (193) (241) q1 zr_any (zr_add (lo := 193) (hi := 241) h_x1 (zr_c (lo := 1) (hi := 1) (by decide)) (by decide)) (by decide)
    refine zok_ck rfl ?_
    refine zok_ck rfl ?_
    refine zok_bs (hσ.wi 15 15 (by decide) (zr_or (lo := 0) (hi := 255) 8 (rC_40 hσ.sg _ (by decide)) (zr_c (lo := 128) (hi := 128) (by decide)) (by decide)) (by decide +kernel)) (fun σ1 e4 i3 => ?_)
    exact zok_pai i3 (s_X9_goesToNextLine_159 i3.P h_x2)
  exact zok_pai hσ (s_X9_goesToNextLine_159 hσ.P h_x2)
theorem s_X9_goesToNextLine_106 {G : Nat → Int} {σ : zSt} (hσ : zIC G σ) {x1 : Int32} (h_x1 : zr (192) (240) x1) {s0 : Int32} (h_s0 : zr (0) (1) s0) : zok (fX9_goesToNextLine_106 σ x1 s0) (zAi (zIC G) (fun v : Int32 => zr (0) (1) v)) := by
  unfold fX9_goesToNextLine_106
  refine zok_if (fun q1 => ?_) (fun q1 => ?_)
  · have h2 := zc_eql (0) (0) q1 h_s0 (zr_c (lo := 0) (hi := 0) (by decide)) (by decide)
    exact (s_X9_goesToNextLine_133 hσ h_x1 (zr_w h2 (by decide)))
  have h3 := zc_nel (1) (1) q1 h_s0 (zr_c (lo := 0) (hi := 0) (by decide)) (by decide)
  refine zok_ck rfl ?_
  refine zok_bs (hσ.wi 20 20 (by decide) (zr_c (lo := 0) (hi := 0) (by decide)) (by decide +kernel)) (fun σ2 e5 i4 => ?_)
  refine zok_ck rfl ?_
  refine zok_ck rfl ?_
  refine zok_bs (i4.wi 19 19 (by decide) (rC_35 i4.sg _ (by decide)) (by decide +kernel)) (fun σ3 e7 i6 => ?_)
  exact (s_X9_goesToNextLine_133 i6 h_x1 (zr_w h3 (by decide)))
theorem s_X9_goesToNextLine_76 {G : Nat → Int} {σ : zSt} (hσ : zIC G σ) {x1 : Int32} (h_x1 : zr (192) (240) x1) : zok (fX9_goesToNextLine_76 σ x1) (zAi (zIC G) (fun v : Int32 => zr (0) (1) v)) := by
  unfold fX9_goesToNextLine_76
  refine zok_ck rfl ?_
  refine zok_ck rfl ?_
  refine zok_bs (hσ.wi 20 20 (by decide) zr_any (by decide +kernel)) (fun σ4 e2 i1 => ?_)
  refine zok_ck rfl ?_
  refine zok_if (fun q3 => ?_) (fun q3 => ?_)
  · have h4 := zc_ltl (2147483646) q3 zr_any zr_any (by decide)
    have h5 := zc_ltr (-2147483647) q3 zr_any zr_any (by decide)
    exact (s_X9_goesToNextLine_106 i1 h_x1 (zr_w (zr_c (lo := 0) (hi := 0) (by decide)) (by decide)))
  exact (s_X9_goesToNextLine_106 i1 h_x1 (zr_w (zr_c (lo := 1) (hi := 1) (by decide)) (by decide)))
theorem s_X9_goesToNextLine {G : Nat → Int} {σ : zSt} (hσ : zIC G σ) : zok (fX9_goesToNextLine σ ) (zAi (zIC G) (fun v : Int32 => zr (0) (1) v)) := by
  unfold fX9_goesToNextLine
  refine zok_pi (s_X9_height hσ.P) (fun v6 h1 => ?_)
  refine zok_ck rfl ?_
  refine zok_if (fun q2 => ?_) (fun q2 => ?_)
  · have h3 := zc_lel (240) q2 zr_any h1 (by decide)
    refine zok_ck rfl ?_
    refine zok_ck rfl ?_
    refine zok_bs (hσ.wi 18 18 (by decide) zr_any (by decide +kernel)) (fun σ7 e5 i4 => ?_)
    refine zok_ck rfl ?_
    refine zok_if (fun q6 => ?_) (fun q6 => ?_)
    · have h7 := zc_ler (0) q6 (zr_c (lo := 0) (hi := 0) (by decide)) zr_any (by decide)
      exact (s_X9_goesToNextLine_76 i4 h1)
    have h8 := zc_ltl (-1) (z_nle q6) zr_any (zr_c (lo := 0) (hi := 0) (by decide)) (by decide)
    refine zok_ck rfl ?_
    refine zok_ck rfl ?_
    refine zok_bs (i4.wi 18 18 (by decide) (rC_35 i4.sg _ (by decide)) (by decide +kernel)) (fun σ8 e10 i9 => ?_)
    refine zok_ck rfl ?_
    refine zok_bs (i9.wi 16 16 (by decide) (zr_c (lo := 1) (hi := 1) (by decide)) (by decide +kernel)) (fun σ9 e12 i11 => ?_)
    exact (s_X9_goesToNextLine_76 i11 h1)
  have h13 := zc_ltr (193) (z_nle q2) h1 zr_any (by decide)
  refine zok_ck rfl ?_
  refine zok_ck rfl ?_
  refine zok_bs (hσ.wi 18 18 (by decide) (rC_35 hσ.sg _ (by decide)) (by decide +kernel)) (fun σ10 e15 i14 => ?_)
  exact (s_X9_goesToNextLine_76 i14 h1)
theorem s_J7_fill_53178_k32_5_body {G : Nat → Int} {σ : zSt} {k5 : zSt → Int32 → Int32 → Int32 → Option (zSt)} {Mk5 : Int} (hk5 : ∀ (σ : zSt) (x1 : Int32) (x2 : Int32) (x3 : Int32), zIC G σ → zr (0) (0) x1 → zr (0) (272) x2 → zr (272) (272) x3 → (272) - x2.toInt < Mk5 → zok (k5 σ x1 x2 x3) (zIC G)) (hσ : zIC G σ) {x1 : Int32} (h_x1 : zr (0) (0) x1) {x2 : Int32} (h_x2 : zr (0) (272) x2) {x3 : Int32} (h_x3 : zr (272) (272) x3) (hMk5 : (272) - x2.toInt ≤ Mk5) : zok (fJ7_fill_53178_k32_5_body k5 σ x1 x2 x3) (zIC G) := by
  unfold fJ7_fill_53178_k32_5_body
  refine zok_if (fun q1 => ?_) (fun q1 => ?_)
  · have h2 := zc_ler (272) q1 h_x3 h_x2 (by decide)
    exact zok_some hσ
  have h3 := zc_ltl (271) (z_nle q1) h_x2 h_x3 (by decide)
  refine zok_ck (zin_ok h3 (by decide)) ?_
  refine zok_bs (hσ.wi 0 271 (z_ix h3 (by decide)) h_x1 (by decide +kernel)) (fun σ1 e5 i4 => ?_)
  refine zok_br (zr_add (lo := 1) (hi := 272) h3 (zr_c (lo := 1) (hi := 1) (by decide)) (by decide)) (fun v2 e7 h6 => ?_)
  exact hk5 _ _ _ _ i4 h_x1 (zr_w h6 (by decide)) h_x3 (by rw [e7]; have := z_tadd (y := (1 : Int32)) h3 (zr_c (lo := 1) (hi := 1) (by decide)) (by decide); have e9 : (1 : Int32).toInt = 1 := rfl; omega) 
theorem s_J7_fill_53178_k32_5 {G : Nat → Int} : ∀ (n : Nat) {σ : zSt} (hσ : zIC G σ) {x1 : Int32} (h_x1 : zr (0) (0) x1) {x2 : Int32} (h_x2 : zr (0) (272) x2) {x3 : Int32} (h_x3 : zr (272) (272) x3) (hm : (272) - x2.toInt < n), zok (fJ7_fill_53178_k32_5 n σ x1 x2 x3) (zIC G) := by
  intro n
  induction n with
  | zero => intro σ hσ x1 h_x1 x2 h_x2 x3 h_x3 hm ; have h9 := h_x2.1; have h8 := h_x2.2; exfalso; omega
  | succ n ih => intro σ hσ x1 h_x1 x2 h_x2 x3 h_x3 hm ; exact s_J7_fill_53178_k32_5_body (fun σ x1 x2 x3 hσ h_x1 h_x2 h_x3 hm1 => ih hσ h_x1 h_x2 h_x3 (by omega)) hσ h_x1 h_x2 h_x3 (Int.le_refl _)
theorem s_J7_fill_53178_k32 {G : Nat → Int} {σ : zSt} (hσ : zIC G σ) {x1 : Int32} (h_x1 : zr (0) (0) x1) : zok (fJ7_fill_53178_k32 σ x1) (zIC G) := by
  unfold fJ7_fill_53178_k32
  exact (s_J7_fill_53178_k32_5 zfuel hσ h_x1 (zr_w (zr_c (lo := 0) (hi := 0) (by decide)) (by decide)) (zr_c (lo := 272) (hi := 272) (by decide)) (by decide))
theorem s_X10_clear_h {G : Nat → Int} : ∀ (n : Nat) {σ : zSt} (hσ : zIC G σ) {x2 : Int32} (h_x2 : zr 128 272 x2) (h8 : x2.toInt % 8 = 0) (hm : 272 - x2.toInt < n), zok (fX10_clear_36 n σ x2) (zIC G) := by
  intro n
  induction n with
  | zero => intro σ hσ x2 h_x2 h8 hm; have := h_x2.2; exfalso; omega
  | succ n ih =>
    intro σ hσ x2 h_x2 h8 hm
    show zok (fX10_clear_36_body (fX10_clear_36 n) σ x2) (zIC G)
    unfold fX10_clear_36_body
    refine zok_if (fun q => zok_some hσ) (fun q => ?_)
    have c272 : (272 : Int32).toInt = 272 := rfl
    have q1 := Int32.lt_iff_toInt_lt.mp (z_nle q)
    have hx : zr 128 264 x2 := ⟨h_x2.1, by omega⟩
    have h0 := zr_add (lo := 128) (hi := 264) hx (zr_c (lo := 0) (hi := 0) (x := 0) (by decide)) (by decide)
    have h1 := zr_add (lo := 129) (hi := 265) hx (zr_c (lo := 1) (hi := 1) (x := 1) (by decide)) (by decide)
    have e8 := z_tadd hx (zr_c (lo := 8) (hi := 8) (x := 8) (by decide)) (by decide)
    have c8 : (8 : Int32).toInt = 8 := rfl
    refine zok_ck (zin_ok h0 (by decide)) ?_
    refine zok_bs (hσ.wi 128 264 (z_ix h0 (by decide)) (zr_any) (by decide +kernel)) (fun σ1 e1 i1 => ?_)
    refine zok_ck (zin_ok h1 (by decide)) ?_
    refine zok_bs (i1.wi 129 265 (z_ix h1 (by decide)) (zr_any) (by decide +kernel)) (fun σ2 e2 i2 => ?_)
    refine zok_bv (fun v3 e3 => ih i2 ?_ ?_ ?_)
    · subst e3; have := hx.1; have := hx.2; exact ⟨by omega, by omega⟩
    · subst e3; omega
    · subst e3; omega
theorem s_X10_clear_36 {G : Nat → Int} (n : Nat) {σ : zSt} (hσ : zIC G σ) {x2 : Int32} (h_x2 : zr (128) (128) x2) (hm : (128) - x2.toInt < n) (hn : zfuel ≤ n := by decide) : zok (fX10_clear_36 n σ x2) (zIC G) :=
  s_X10_clear_h n hσ (zr_w h_x2 (by decide)) (by have := h_x2.1; have := h_x2.2; omega) (by have := h_x2.1; unfold zfuel at hn; omega)
theorem s_X10_clear {G : Nat → Int} {σ : zSt} (hσ : zIC G σ) : zok (fX10_clear σ ) (zIC G) := by
  unfold fX10_clear
  refine zok_ck rfl ?_
  refine zok_bv (fun v4 e2 => ?_)
  refine zok_bu (s_J7_fill_53178_k32 hσ (zr_c (lo := 0) (hi := 0) (by decide))) (fun σ5 i3 => ?_)
  refine zok_ck rfl ?_
  refine zok_bs (i3.wi 66 66 (by decide) zr_any (by decide +kernel)) (fun σ6 e5 i4 => ?_)
  refine zok_ck rfl ?_
  refine zok_bs (i4.wi 65 65 (by decide) (zr_c (lo := 1) (hi := 1) (by decide)) (by decide +kernel)) (fun σ7 e7 i6 => ?_)
  exact (s_X10_clear_36 zfuel i6 (zr_c (lo := 128) (hi := 128) (by decide)) (by decide))
theorem s_X10_keep {G : Nat → Int} {σ : zSt} (hσ : zIC G σ) : zok (fX10_keep σ ) (zIC G) := by
  unfold fX10_keep
  refine zok_ck (by decide) ?_
  refine zok_bs (hσ.wc (by decide +kernel) rfl rfl) (fun σ1 e2 i1 => ?_)
  exact zok_some i1
theorem s_X10_bringBack {G : Nat → Int} {σ : zSt} (hσ : zIC G σ) : zok (fX10_bringBack σ ) (zIC G) := by
  unfold fX10_bringBack
  refine zok_ck (by decide) ?_
  refine zok_bs (hσ.wc (by decide +kernel) rfl rfl) (fun σ1 e2 i1 => ?_)
  exact zok_some i1
theorem s_X10_has_37 {σ : zSt} (hσ : zPC σ) {s0 : Int32} (h_s0 : zr (0) (1) s0) : zok (fX10_has_37 σ s0) (zPi σ (fun v : Int32 => zr (0) (1) v)) := by
  unfold fX10_has_37
  refine zok_ck (zbo_ok h_s0 (by decide)) ?_
  exact zok_spi h_s0
theorem s_X10_has_36 {σ : zSt} (hσ : zPC σ) : zok (fX10_has_36 σ ) (zPi σ (fun v : Int32 => zr (0) (1) v)) := by
  unfold fX10_has_36
  exact (s_X10_has_37 hσ (zr_w (zr_c (lo := 0) (hi := 0) (by decide)) (by decide)))
theorem s_X10_has_32 {σ : zSt} (hσ : zPC σ) : zok (fX10_has_32 σ ) (zPi σ (fun v : Int32 => zr (0) (1) v)) := by
  unfold fX10_has_32
  exact (s_X10_has_37 hσ (zr_w (zr_c (lo := 1) (hi := 1) (by decide)) (by decide)))
theorem s_X10_has_10 {σ : zSt} (hσ : zPC σ) {x0 : Int32} : zok (fX10_has_10 σ x0) (zPi σ (fun v : Int32 => zr (0) (1) v)) := by
  unfold fX10_has_10
  refine zok_if (fun q1 => ?_) (fun q1 => ?_)
  · have h2 := zc_ltl (127) q1 zr_any (zr_c (lo := 128) (hi := 128) (by decide)) (by decide)
    exact (s_X10_has_36 hσ)
  have h3 := zc_ler (128) (z_nlt q1) (zr_c (lo := 128) (hi := 128) (by decide)) zr_any (by decide)
  refine zok_if (fun q4 => ?_) (fun q4 => ?_)
  · have h5 := zc_ler (272) q4 (zr_c (lo := 272) (hi := 272) (by decide)) h3 (by decide)
    exact (s_X10_has_36 hσ)
  have h6 := zc_ltl (271) (z_nle q4) h3 (zr_c (lo := 272) (hi := 272) (by decide)) (by decide)
  refine zok_if (fun q7 => ?_) (fun q7 => ?_)
  · have h8 := zc_ltr (6) q7 (zr_c (lo := 5) (hi := 5) (by decide)) (zr_andr (lo := 0) (hi := 7) (zr_c (lo := 7) (hi := 7) (by decide)) (by decide)) (by decide)
    exact (s_X10_has_36 hσ)
  have h9 := zc_lel (5) (z_nlt q7) (zr_andr (lo := 0) (hi := 7) (zr_c (lo := 7) (hi := 7) (by decide)) (by decide)) (zr_c (lo := 5) (hi := 5) (by decide)) (by decide)
  exact (s_X10_has_32 hσ)
theorem s_X10_has {σ : zSt} (hσ : zPC σ) {x0 : Int32} : zok (fX10_has σ x0) (zPi σ (fun v : Int32 => zr (0) (1) v)) := by
  unfold fX10_has
  refine zok_if (fun q1 => ?_) (fun q1 => ?_)
  · have h2 := zc_ltl (-1) q1 zr_any (zr_c (lo := 0) (hi := 0) (by decide)) (by decide)
    exact (s_X10_has_10 hσ)
  have h3 := zc_ler (0) (z_nlt q1) (zr_c (lo := 0) (hi := 0) (by decide)) zr_any (by decide)
  refine zok_if (fun q4 => ?_) (fun q4 => ?_)
  · have h5 := zc_lel (67) q4 h3 (zr_c (lo := 67) (hi := 67) (by decide)) (by decide)
    exact (s_X10_has_32 hσ)
  have h6 := zc_ltr (68) (z_nle q4) (zr_c (lo := 67) (hi := 67) (by decide)) h3 (by decide)
  exact (s_X10_has_10 hσ)
theorem s_X11_clearAll {G : Nat → Int} {σ : zSt} (hσ : zIC G σ) : zok (fX11_clearAll σ ) (zIC G) := by
  unfold fX11_clearAll
  refine zok_bu (s_X2_clearPages hσ) (fun σ1 i1 => ?_)
  refine zok_bu (s_X9_clear i1) (fun σ2 i2 => ?_)
  refine zok_bu (s_X7_clear i2) (fun σ3 i3 => ?_)
  refine zok_bu (s_X10_clear i3) (fun σ4 i4 => ?_)
  refine zok_bu (s_X4_clear i4) (fun σ5 i5 => ?_)
  refine zok_bu (s_X5_clear i5) (fun σ6 i6 => ?_)
  exact zok_some i6
theorem s_X11_endLine_62 {σ : zSt} (hσ : zPC σ) : zok (fX11_endLine_62 σ ) (zPu σ) := by
  unfold fX11_endLine_62
  exact zok_spu
theorem s_X11_endLine_26 {G : Nat → Int} {σ : zSt} (hσ : zIC G σ) : zok (fX11_endLine_26 σ ) (zIC G) := by
  unfold fX11_endLine_26
  refine zok_ai (s_X9_goesToNextLine hσ) (fun σ1 v2 i1 h2 => ?_)
  refine zok_if (fun q3 => ?_) (fun q3 => ?_)
  · have h4 := zc_eql (0) (0) q3 h2 (zr_c (lo := 0) (hi := 0) (by decide)) (by decide)
    exact zok_pau i1 (s_X11_endLine_62 i1.P)
  have h5 := zc_nel (1) (1) q3 h2 (zr_c (lo := 0) (hi := 0) (by decide)) (by decide)
  refine zok_bu (s_X0_countPicture i1) (fun σ3 i6 => ?_)
  refine zok_pl (s_X0_count i6.P (zr_w (zr_c (lo := 2) (hi := 2) (by decide)) (by decide))) (fun v5 h7 => ?_)
  refine zok_bu (s_X1_carryOutPlans i6) (fun σ6 i8 => ?_)
  exact zok_pau i8 (s_X11_endLine_62 i8.P)
theorem s_X11_endLine {G : Nat → Int} {σ : zSt} (hσ : zIC G σ) : zok (fX11_endLine σ ) (zIC G) := by
  unfold fX11_endLine
  refine zok_pi (s_X9_held hσ.P) (fun v8 h1 => ?_)
  refine zok_pi (s_X9_height hσ.P) (fun v10 h2 => ?_)
  refine zok_if (fun q3 => ?_) (fun q3 => ?_)
  · have h4 := zc_ler (192) q3 h2 zr_any (by decide)
    exact (s_X11_endLine_26 hσ)
  have h5 := zc_ltl (239) (z_nle q3) zr_any h2 (by decide)
  refine zok_bu (s_X3_draw hσ) (fun σ11 i6 => ?_)
  exact (s_X11_endLine_26 i6)
theorem s_X11_run_135 {σ : zSt} (hσ : zPC σ) {x5 : Int32} (h_x5 : zr (0) (1000000) x5) : zok (fX11_run_135 σ x5) (zPi σ (fun v : Int32 => zr (0) (1000000) v)) := by
  unfold fX11_run_135
  exact zok_spi h_x5
theorem s_X11_run_120 {G : Nat → Int} {σ : zSt} {k15 : zSt → Int32 → Int64 → Int32 → Option (zSt × Int32)} {Mk15 : Int} (hk15 : ∀ (σ : zSt) (x1 : Int32) (x3 : Int64) (x5 : Int32), zIC G σ → zr (1) (1000000) x1 → zr (0) (1000000) x5 → (1000000) - x5.toInt < Mk15 → zok (k15 σ x1 x3 x5) (zAi (zIC G) (fun v : Int32 => zr (0) (1000000) v))) (hσ : zIC G σ) {x1 : Int32} (h_x1 : zr (1) (1000000) x1) {x3 : Int64} {x5 : Int32} (h_x5 : zr (0) (999999) x5) {x7 : Int32} (h_x7 : zr (1) (31) x7) (hMk15 : (1000000) - x5.toInt ≤ Mk15) : zok (fX11_run_120 k15 σ x1 x3 x5 x7) (zAi (zIC G) (fun v : Int32 => zr (0) (1000000) v)) := by
  unfold fX11_run_120
  refine zok_bu (s_X0_pass hσ h_x7) (fun σ1 i1 => ?_)
  refine zok_br (zr_add (lo := 1) (hi := 1000000) h_x5 (zr_c (lo := 1) (hi := 1) (by decide)) (by decide)) (fun v2 e3 h2 => ?_)
  exact hk15 _ _ _ _ i1 h_x1 (zr_w h2 (by decide)) (by rw [e3]; have := z_tadd (y := (1 : Int32)) h_x5 (zr_c (lo := 1) (hi := 1) (by decide)) (by decide); have e9 : (1 : Int32).toInt = 1 := rfl; omega) 
theorem s_X11_run_104 {G : Nat → Int} {σ : zSt} {k15 : zSt → Int32 → Int64 → Int32 → Option (zSt × Int32)} {Mk15 : Int} (hk15 : ∀ (σ : zSt) (x1 : Int32) (x3 : Int64) (x5 : Int32), zIC G σ → zr (1) (1000000) x1 → zr (0) (1000000) x5 → (1000000) - x5.toInt < Mk15 → zok (k15 σ x1 x3 x5) (zAi (zIC G) (fun v : Int32 => zr (0) (1000000) v))) (hσ : zIC G σ) {x1 : Int32} (h_x1 : zr (1) (1000000) x1) {x3 : Int64} {x5 : Int32} (h_x5 : zr (0) (999999) x5) {x7 : Int32} (h_x7 : zr (1) (31) x7) (hMk15 : (1000000) - x5.toInt ≤ Mk15) : zok (fX11_run_104 k15 σ x1 x3 x5 x7) (zAi (zIC G) (fun v : Int32 => zr (0) (1000000) v)) := by
  unfold fX11_run_104
  refine zok_ai (s_X9_passes hσ h_x7) (fun σ3 v4 i1 h2 => ?_)
  refine zok_if (fun q3 => ?_) (fun q3 => ?_)
  · have h4 := zc_eql (0) (0) q3 h2 (zr_c (lo := 0) (hi := 0) (by decide)) (by decide)
    exact (s_X11_run_120 hk15 i1 h_x1 h_x5 h_x7 hMk15)
  have h5 := zc_nel (1) (1) q3 h2 (zr_c (lo := 0) (hi := 0) (by decide)) (by decide)
  refine zok_bu (s_X11_endLine i1) (fun σ5 i6 => ?_)
  exact (s_X11_run_120 hk15 i6 h_x1 h_x5 h_x7 hMk15)
theorem s_X11_run_65 {G : Nat → Int} {σ : zSt} {k15 : zSt → Int32 → Int64 → Int32 → Option (zSt × Int32)} {Mk15 : Int} (hk15 : ∀ (σ : zSt) (x1 : Int32) (x3 : Int64) (x5 : Int32), zIC G σ → zr (1) (1000000) x1 → zr (0) (1000000) x5 → (1000000) - x5.toInt < Mk15 → zok (k15 σ x1 x3 x5) (zAi (zIC G) (fun v : Int32 => zr (0) (1000000) v))) (hσ : zIC G σ) {x1 : Int32} (h_x1 : zr (1) (1000000) x1) {x3 : Int64} {x5 : Int32} (h_x5 : zr (0) (999999) x5) {x6 : Int32} (hMk15 : (1000000) - x5.toInt ≤ Mk15) : zok (fX11_run_65 k15 σ x1 x3 x5 x6) (zAi (zIC G) (fun v : Int32 => zr (0) (1000000) v)) := by
  unfold fX11_run_65
  refine zok_bu (s_X1_noteStep hσ) (fun σ6 i1 => ?_)
  refine zok_pi (s_X9_asks i1.P) (fun v8 h2 => ?_)
  refine zok_ai (s_X5_answerCalls i1 h2) (fun σ9 v10 i3 h4 => ?_)
  refine zok_if (fun q5 => ?_) (fun q5 => ?_)
  · have h6 := zc_eql (0) (0) q5 h4 (zr_c (lo := 0) (hi := 0) (by decide)) (by decide)
    refine zok_ai (s_X5_carryOn i3) (fun σ11 v12 i7 h8 => ?_)
    exact (s_X11_run_104 hk15 i7 h_x1 h_x5 (zr_w h8 (by decide)) hMk15)
  have h9 := zc_nel (1) (19) q5 h4 (zr_c (lo := 0) (hi := 0) (by decide)) (by decide)
  exact (s_X11_run_104 hk15 i3 h_x1 h_x5 (zr_w h9 (by decide)) hMk15)
theorem s_X11_run_15_body {G : Nat → Int} {σ : zSt} {k15 : zSt → Int32 → Int64 → Int32 → Option (zSt × Int32)} {Mk15 : Int} (hk15 : ∀ (σ : zSt) (x1 : Int32) (x3 : Int64) (x5 : Int32), zIC G σ → zr (1) (1000000) x1 → zr (0) (1000000) x5 → (1000000) - x5.toInt < Mk15 → zok (k15 σ x1 x3 x5) (zAi (zIC G) (fun v : Int32 => zr (0) (1000000) v))) (hσ : zIC G σ) {x1 : Int32} (h_x1 : zr (1) (1000000) x1) {x3 : Int64} {x5 : Int32} (h_x5 : zr (0) (1000000) x5) (hMk15 : (1000000) - x5.toInt ≤ Mk15) : zok (fX11_run_15_body k15 σ x1 x3 x5) (zAi (zIC G) (fun v : Int32 => zr (0) (1000000) v)) := by
  unfold fX11_run_15_body
  refine zok_if (fun q1 => ?_) (fun q1 => ?_)
  · have h2 := zc_ler (1) q1 h_x1 h_x5 (by decide)
    exact zok_pai hσ (s_X11_run_135 hσ.P (zr_w h2 (by decide)))
  have h3 := zc_ltl (999999) (z_nle q1) h_x5 h_x1 (by decide)
  refine zok_pl (s_X0_count hσ.P (zr_w (zr_c (lo := 2) (hi := 2) (by decide)) (by decide))) (fun v14 h4 => ?_)
  refine zok_if (fun q5 => ?_) (fun q5 => ?_)
  · exact zok_pai hσ (s_X11_run_135 hσ.P (zr_w h3 (by decide)))
  refine zok_pi (s_X5_value hσ.P (zr_w (zr_c (lo := 19) (hi := 19) (by decide)) (by decide))) (fun v16 h6 => ?_)
  refine zok_if (fun q7 => ?_) (fun q7 => ?_)
  · have h8 := zc_lel (0) q7 h3 (zr_c (lo := 0) (hi := 0) (by decide)) (by decide)
    exact (s_X11_run_65 hk15 hσ h_x1 (zr_w h8 (by decide)) hMk15)
  have h9 := zc_ltr (1) (z_nle q7) (zr_c (lo := 0) (hi := 0) (by decide)) h3 (by decide)
  refine zok_pi (s_X1_isStop hσ.P) (fun v18 h10 => ?_)
  refine zok_if (fun q11 => ?_) (fun q11 => ?_)
  · have h12 := zc_eql (0) (0) q11 h10 (zr_c (lo := 0) (hi := 0) (by decide)) (by decide)
    exact (s_X11_run_65 hk15 hσ h_x1 (zr_w h9 (by decide)) hMk15)
  have h13 := zc_nel (1) (1) q11 h10 (zr_c (lo := 0) (hi := 0) (by decide)) (by decide)
  exact zok_pai hσ (s_X11_run_135 hσ.P (zr_w h9 (by decide)))
theorem s_X11_run_15 {G : Nat → Int} : ∀ (n : Nat) {σ : zSt} (hσ : zIC G σ) {x1 : Int32} (h_x1 : zr (1) (1000000) x1) {x3 : Int64} {x5 : Int32} (h_x5 : zr (0) (1000000) x5) (hm : (1000000) - x5.toInt < n), zok (fX11_run_15 n σ x1 x3 x5) (zAi (zIC G) (fun v : Int32 => zr (0) (1000000) v)) := by
  intro n
  induction n with
  | zero => intro σ hσ x1 h_x1 x3 x5 h_x5 hm ; have h9 := h_x5.1; have h8 := h_x5.2; exfalso; omega
  | succ n ih => intro σ hσ x1 h_x1 x3 x5 h_x5 hm ; exact s_X11_run_15_body (fun σ x1 x3 x5 hσ h_x1 h_x5 hm1 => ih hσ h_x1 h_x5 (by omega)) hσ h_x1 h_x5 (Int.le_refl _)
theorem s_X11_run {G : Nat → Int} {σ : zSt} (hσ : zIC G σ) {x1 : Int32} (h_x1 : zr (1) (1000000) x1) {x2 : Int32} (h_x2 : zr (1) (20001) x2) : zok (fX11_run σ x1 x2) (zAi (zIC G) (fun v : Int32 => zr (0) (1000000) v)) := by
  unfold fX11_run
  refine zok_pl (s_X0_count hσ.P (zr_w (zr_c (lo := 2) (hi := 2) (by decide)) (by decide))) (fun v20 h1 => ?_)
  refine zok_bv (fun v21 e3 => ?_)
  exact (s_X11_run_15 zfuel hσ h_x1 (zr_w (zr_c (lo := 0) (hi := 0) (by decide)) (by decide)) (by decide))
theorem s_X11_reset {G : Nat → Int} {σ : zSt} (hσ : zIC G σ) : zok (fX11_reset σ ) (zIC G) := by
  unfold fX11_reset
  refine zok_bu (s_X11_clearAll hσ) (fun σ1 i1 => ?_)
  exact zok_some i1
theorem s_X11_pause_26 {σ : zSt} (hσ : zPC σ) {s0 : Int32} (h_s0 : zr (0) (1) s0) : zok (fX11_pause_26 σ s0) (zPi σ (fun v : Int32 => zr (0) (1) v)) := by
  unfold fX11_pause_26
  refine zok_ck (zbo_ok h_s0 (by decide)) ?_
  exact zok_spi h_s0
theorem s_X11_pause_14 {σ : zSt} (hσ : zPC σ) : zok (fX11_pause_14 σ ) (zPi σ (fun v : Int32 => zr (0) (1) v)) := by
  unfold fX11_pause_14
  refine zok_if (fun q1 => ?_) (fun q1 => ?_)
  · have h2 := zc_eql (0) (0) q1 zr_any (zr_c (lo := 0) (hi := 0) (by decide)) (by decide)
    exact (s_X11_pause_26 hσ (zr_w (zr_c (lo := 1) (hi := 1) (by decide)) (by decide)))
  exact (s_X11_pause_26 hσ (zr_w (zr_c (lo := 0) (hi := 0) (by decide)) (by decide)))
theorem s_X11_pause {G : Nat → Int} {σ : zSt} (hσ : zIC G σ) : zok (fX11_pause σ ) (zAi (zIC G) (fun v : Int32 => zr (0) (1) v)) := by
  unfold fX11_pause
  refine zok_if (fun q1 => ?_) (fun q1 => ?_)
  · have h2 := zc_eql (0) (0) q1 zr_any (zr_c (lo := 0) (hi := 0) (by decide)) (by decide)
    refine zok_bu (s_X5_askForPause hσ) (fun σ1 i3 => ?_)
    exact zok_pai i3 (s_X11_pause_14 i3.P)
  exact zok_pai hσ (s_X11_pause_14 hσ.P)
theorem s_X11_start {G : Nat → Int} {σ : zSt} (hσ : zIC G σ) {x1 : Int32} (h_x1 : zr (0) (1) x1) : zok (fX11_start σ x1) (zIC G) := by
  unfold fX11_start
  refine zok_bu (s_X4_holdStart hσ h_x1) (fun σ1 i1 => ?_)
  exact zok_some i1
theorem s_X11_tell {G : Nat → Int} {σ : zSt} (hσ : zIC G σ) {x1 : Int32} : zok (fX11_tell σ x1) (zAi (zIC G) (fun v : Int32 => True)) := by
  unfold fX11_tell
  refine zok_ai (s_X8_write hσ) (fun σ1 v2 i1 h2 => ?_)
  exact zok_sai i1 trivial
theorem s_X11_save {G : Nat → Int} {σ : zSt} (hσ : zEC [1] G σ) : zok (fX11_save σ ) (zEC [1] G) := by
  unfold fX11_save
  refine zok_bu (hσ.upu (fun G1 hG => s_X2_keep hG)) (fun σ1 i1 => ?_)
  refine zok_bu (i1.upu (fun G1 hG => s_X9_keep hG)) (fun σ2 i2 => ?_)
  refine zok_bu (i2.upu (fun G1 hG => s_X3_keep hG)) (fun σ3 i3 => ?_)
  refine zok_bu (i3.upu (fun G1 hG => s_X7_keep hG)) (fun σ4 i4 => ?_)
  refine zok_bu (i4.upu (fun G1 hG => s_X10_keep hG)) (fun σ5 i5 => ?_)
  refine zok_bu (i5.upu (fun G1 hG => s_X4_keep hG)) (fun σ6 i6 => ?_)
  refine zok_bu (i6.upu (fun G1 hG => s_X5_keep hG)) (fun σ7 i7 => ?_)
  refine zok_bu (i7.upu (fun G1 hG => s_X0_keep hG)) (fun σ8 i8 => ?_)
  refine zok_bu (i8.upu (fun G1 hG => s_X1_keep hG)) (fun σ9 i9 => ?_)
  refine zok_ck rfl ?_
  refine zok_bs (i9.wi 11 11 (by decide) (zr_c (lo := 1) (hi := 1) (by decide)) (by decide +kernel)) (fun σ10 e11 i10 => ?_)
  exact zok_some i10
theorem s_X11_peek {σ : zSt} (hσ : zPC σ) {x1 : Int32} : zok (fX11_peek σ x1) (zPi σ (fun v : Int32 => zr (0) (255) v)) := by
  unfold fX11_peek
  refine zok_pi (s_X2_read hσ) (fun v2 h1 => ?_)
  exact zok_spi h1
theorem s_X11_poke {G : Nat → Int} {σ : zSt} (hσ : zIC G σ) {x1 : Int32} {x2 : Int32} : zok (fX11_poke σ x1 x2) (zIC G) := by
  unfold fX11_poke
  refine zok_bu (s_X2_write hσ (zr_w (zr_andr (lo := 0) (hi := 65535) (zr_c (lo := 65535) (hi := 65535) (by decide)) (by decide)) (by decide)) (zr_andr (lo := 0) (hi := 255) (zr_c (lo := 255) (hi := 255) (by decide)) (by decide))) (fun σ1 i1 => ?_)
  exact zok_some i1
theorem s_X11_in {G : Nat → Int} {σ : zSt} (hσ : zIC G σ) {x1 : Int32} : zok (fX11_in σ x1) (zAi (zIC G) (fun v : Int32 => zr (0) (255) v)) := by
  unfold fX11_in
  refine zok_ai (s_X4_read hσ (zr_andr (lo := 0) (hi := 255) (zr_c (lo := 255) (hi := 255) (by decide)) (by decide))) (fun σ1 v2 i1 h2 => ?_)
  exact zok_sai i1 h2
theorem s_X11_out {G : Nat → Int} {σ : zSt} (hσ : zIC G σ) {x1 : Int32} {x2 : Int32} : zok (fX11_out σ x1 x2) (zIC G) := by
  unfold fX11_out
  refine zok_bu (s_X4_write hσ (zr_andr (lo := 0) (hi := 255) (zr_c (lo := 255) (hi := 255) (by decide)) (by decide)) (zr_andr (lo := 0) (hi := 255) (zr_c (lo := 255) (hi := 255) (by decide)) (by decide))) (fun σ1 i1 => ?_)
  exact zok_some i1
theorem s_X11_wipe {G : Nat → Int} {σ : zSt} (hσ : zIC G σ) : zok (fX11_wipe σ ) (zIC G) := by
  unfold fX11_wipe
  refine zok_bu (s_X2_clearBattery hσ) (fun σ1 i1 => ?_)
  exact zok_some i1
theorem s_X11_video {σ : zSt} (hσ : zPC σ) {x1 : Int32} : zok (fX11_video σ x1) (zPl σ (fun v : Int64 => True)) := by
  unfold fX11_video
  refine zok_pl (s_X9_eightFrom hσ) (fun v2 h1 => ?_)
  exact zok_spl trivial
theorem s_X11_trace {σ : zSt} (hσ : zPC σ) {x1 : Int32} : zok (fX11_trace σ x1) (zPi σ (fun v : Int32 => True)) := by
  unfold fX11_trace
  refine zok_pi (s_X1_stepBack hσ) (fun v2 h1 => ?_)
  exact zok_spi trivial
theorem s_X11_feed_11 {G : Nat → Int} {σ : zSt} (hσ : zIC G σ) : zok (fX11_feed_11 σ ) (zTi (zIC G) ([1, 2] : List Nat)) := by
  unfold fX11_feed_11
  exact zok_ti1 hσ (by decide)
theorem s_X11_feed_79 {G : Nat → Int} {σ : zSt} {k48 : zSt → Int32 → Int64 → Int64 → Int64 → Int32 → Option (zRi)} {Mk48 : Int} (hk48 : ∀ (σ : zSt) (x1 : Int32) (x2 : Int64) (x4 : Int64) (x6 : Int64) (x8 : Int32), zEC [0] G σ → zr (1) (24) x1 → zr (0) (24) x8 → (24) - x8.toInt < Mk48 → zok (k48 σ x1 x2 x4 x6 x8) (zTi (zEC [0] G) ([1, 2] : List Nat))) (hσ : zEC [0] G σ) {x1 : Int32} (h_x1 : zr (1) (24) x1) {x2 : Int64} {x4 : Int64} {x6 : Int64} {x8 : Int32} (h_x8 : zr (0) (23) x8) {s0 : Int64} (hMk48 : (24) - x8.toInt ≤ Mk48) : zok (fX11_feed_79 k48 σ x1 x2 x4 x6 x8 s0) (zTi (zEC [0] G) ([1, 2] : List Nat)) := by
  unfold fX11_feed_79
  refine zok_bu (s_X2_addToTape hσ (zr_andr (lo := 0) (hi := 255) (zr_c (lo := 255) (hi := 255) (by decide)) (by decide))) (fun σ1 i1 => ?_)
  refine zok_br (zr_add (lo := 1) (hi := 24) h_x8 (zr_c (lo := 1) (hi := 1) (by decide)) (by decide)) (fun v2 e3 h2 => ?_)
  exact hk48 _ _ _ _ _ _ i1 h_x1 (zr_w h2 (by decide)) (by rw [e3]; have := z_tadd (y := (1 : Int32)) h_x8 (zr_c (lo := 1) (hi := 1) (by decide)) (by decide); have e9 : (1 : Int32).toInt = 1 := rfl; omega) 
theorem s_X11_feed_48_body {G : Nat → Int} {σ : zSt} {k48 : zSt → Int32 → Int64 → Int64 → Int64 → Int32 → Option (zRi)} {Mk48 : Int} (hk48 : ∀ (σ : zSt) (x1 : Int32) (x2 : Int64) (x4 : Int64) (x6 : Int64) (x8 : Int32), zEC [0] G σ → zr (1) (24) x1 → zr (0) (24) x8 → (24) - x8.toInt < Mk48 → zok (k48 σ x1 x2 x4 x6 x8) (zTi (zEC [0] G) ([1, 2] : List Nat))) (hσ : zEC [0] G σ) {x1 : Int32} (h_x1 : zr (1) (24) x1) {x2 : Int64} {x4 : Int64} {x6 : Int64} {x8 : Int32} (h_x8 : zr (0) (24) x8) (hMk48 : (24) - x8.toInt ≤ Mk48) : zok (fX11_feed_48_body k48 σ x1 x2 x4 x6 x8) (zTi (zEC [0] G) ([1, 2] : List Nat)) := by
  unfold fX11_feed_48_body
  refine zok_if (fun q1 => ?_) (fun q1 => ?_)
  · have h2 := zc_ler (1) q1 h_x1 h_x8 (by decide)
    exact zok_ti0 hσ
  have h3 := zc_ltl (23) (z_nle q1) h_x8 h_x1 (by decide)
  refine zok_if (fun q4 => ?_) (fun q4 => ?_)
  · have h5 := zc_ler (8) q4 (zr_c (lo := 8) (hi := 8) (by decide)) h3 (by decide)
    refine zok_if (fun q6 => ?_) (fun q6 => ?_)
    · have h7 := zc_ler (16) q6 (zr_c (lo := 16) (hi := 16) (by decide)) h5 (by decide)
      exact (s_X11_feed_79 hk48 hσ h_x1 (zr_w h7 (by decide)) hMk48)
    have h8 := zc_ltl (15) (z_nle q6) h5 (zr_c (lo := 16) (hi := 16) (by decide)) (by decide)
    exact (s_X11_feed_79 hk48 hσ h_x1 (zr_w h8 (by decide)) hMk48)
  have h9 := zc_ltl (7) (z_nle q4) h3 (zr_c (lo := 8) (hi := 8) (by decide)) (by decide)
  exact (s_X11_feed_79 hk48 hσ h_x1 (zr_w h9 (by decide)) hMk48)
theorem s_X11_feed_48 {G : Nat → Int} : ∀ (n : Nat) {σ : zSt} (hσ : zEC [0] G σ) {x1 : Int32} (h_x1 : zr (1) (24) x1) {x2 : Int64} {x4 : Int64} {x6 : Int64} {x8 : Int32} (h_x8 : zr (0) (24) x8) (hm : (24) - x8.toInt < n), zok (fX11_feed_48 n σ x1 x2 x4 x6 x8) (zTi (zEC [0] G) ([1, 2] : List Nat)) := by
  intro n
  induction n with
  | zero => intro σ hσ x1 h_x1 x2 x4 x6 x8 h_x8 hm ; have h9 := h_x8.1; have h8 := h_x8.2; exfalso; omega
  | succ n ih => intro σ hσ x1 h_x1 x2 x4 x6 x8 h_x8 hm ; exact s_X11_feed_48_body (fun σ x1 x2 x4 x6 x8 hσ h_x1 h_x8 hm1 => ih hσ h_x1 h_x8 (by omega)) hσ h_x1 h_x8 (Int.le_refl _)
theorem s_X11_feed {G : Nat → Int} {σ : zSt} (hσ : zEC [0] G σ) {x1 : Int32} {x2 : Int64} {x4 : Int64} {x6 : Int64} : zok (fX11_feed σ x1 x2 x4 x6) (zTi (zEC [0] G) ([1, 2] : List Nat)) := by
  unfold fX11_feed
  refine zok_if (fun q1 => ?_) (fun q1 => ?_)
  · have h2 := zc_ltl (0) q1 zr_any (zr_c (lo := 1) (hi := 1) (by decide)) (by decide)
    exact (hσ.upTi (fun G1 hG => s_X11_feed_11 hG))
  have h3 := zc_ler (1) (z_nlt q1) (zr_c (lo := 1) (hi := 1) (by decide)) zr_any (by decide)
  refine zok_if (fun q4 => ?_) (fun q4 => ?_)
  · have h5 := zc_lel (24) q4 h3 (zr_c (lo := 24) (hi := 24) (by decide)) (by decide)
    refine zok_if (fun q6 => ?_) (fun q6 => ?_)
    · have h7 := zc_lel (262656) q6 (zr_add (lo := 1) (hi := 262680) (rC_0 hσ.sg _ (by decide)) h5 (by decide)) (zr_c (lo := 262656) (hi := 262656) (by decide)) (by decide)
      exact (s_X11_feed_48 zfuel hσ h5 (zr_w (zr_c (lo := 0) (hi := 0) (by decide)) (by decide)) (by decide))
    have h8 := zc_ltr (262657) (z_nle q6) (zr_c (lo := 262656) (hi := 262656) (by decide)) (zr_add (lo := 1) (hi := 262680) (rC_0 hσ.sg _ (by decide)) h5 (by decide)) (by decide)
    exact zok_ti1 hσ (by decide)
  have h9 := zc_ltr (25) (z_nle q4) (zr_c (lo := 24) (hi := 24) (by decide)) h3 (by decide)
  exact (hσ.upTi (fun G1 hG => s_X11_feed_11 hG))
theorem s_X11_grow_19 {G : Nat → Int} {σ : zSt} (hσ : zIC G σ) : zok (fX11_grow_19 σ ) (zTi (zIC G) ([1, 2] : List Nat)) := by
  unfold fX11_grow_19
  exact zok_ti1 hσ (by decide)
theorem s_X11_grow {G : Nat → Int} {σ : zSt} (hσ : zEC [0] G σ) {x1 : Int32} : zok (fX11_grow σ x1) (zTi (zEC [0] G) ([1, 2] : List Nat)) := by
  unfold fX11_grow
  refine zok_br (rC_0 hσ.sg _ (by decide)) (fun v1 e2 h1 => ?_)
  refine zok_if (fun q3 => ?_) (fun q3 => ?_)
  · have h4 := zc_ltl (262655) q3 zr_any h1 (by decide)
    exact (hσ.upTi (fun G1 hG => s_X11_grow_19 hG))
  have h5 := zc_ler (0) (z_nlt q3) h1 zr_any (by decide)
  refine zok_if (fun q6 => ?_) (fun q6 => ?_)
  · have h7 := zc_lel (262656) q6 h5 (zr_c (lo := 262656) (hi := 262656) (by decide)) (by decide)
    refine zok_if (fun q8 => ?_) (fun q8 => ?_)
    · have h9 := zc_eql (0) (0) q8 h1 (zr_c (lo := 0) (hi := 0) (by decide)) (by decide)
      exact zok_ti1 hσ (by decide)
    have h10 := zc_nel (1) (262656) q8 h1 (zr_c (lo := 0) (hi := 0) (by decide)) (by decide)
    refine zok_bu (s_X2_repeatTape hσ h7) (fun σ2 i11 => ?_)
    exact zok_ti0 i11
  have h12 := zc_ltr (262657) (z_nle q6) (zr_c (lo := 262656) (hi := 262656) (by decide)) h5 (by decide)
  exact (hσ.upTi (fun G1 hG => s_X11_grow_19 hG))
theorem s_X11_card_10 {G : Nat → Int} {σ : zSt} (hσ : zIC G σ) : zok (fX11_card_10 σ ) (zTi (zIC G) ([1] : List Nat)) := by
  unfold fX11_card_10
  exact zok_ti1 hσ (by decide)
theorem s_X11_card {G : Nat → Int} {σ : zSt} (hσ : zIC G σ) {x1 : Int32} : zok (fX11_card σ x1) (zTi (zIC G) ([1] : List Nat)) := by
  unfold fX11_card
  refine zok_if (fun q1 => ?_) (fun q1 => ?_)
  · have h2 := zc_ltl (-1) q1 zr_any (zr_c (lo := 0) (hi := 0) (by decide)) (by decide)
    exact (s_X11_card_10 hσ)
  have h3 := zc_ler (0) (z_nlt q1) (zr_c (lo := 0) (hi := 0) (by decide)) zr_any (by decide)
  refine zok_if (fun q4 => ?_) (fun q4 => ?_)
  · have h5 := zc_lel (7) q4 h3 (zr_c (lo := 7) (hi := 7) (by decide)) (by decide)
    refine zok_pi (s_X2_aboutCard hσ.P h5) (fun v2 h6 => ?_)
    exact zok_ti0 hσ
  have h7 := zc_ltr (8) (z_nle q4) (zr_c (lo := 7) (hi := 7) (by decide)) h3 (by decide)
  exact (s_X11_card_10 hσ)
theorem s_X11_step_12 {G : Nat → Int} {σ : zSt} (hσ : zIC G σ) : zok (fX11_step_12 σ ) (zTi (zIC G) ([1] : List Nat)) := by
  unfold fX11_step_12
  exact zok_ti1 hσ (by decide)
theorem s_X11_step {G : Nat → Int} {σ : zSt} (hσ : zIC G σ) {x1 : Int32} : zok (fX11_step σ x1) (zTi (zIC G) ([1] : List Nat)) := by
  unfold fX11_step
  refine zok_if (fun q1 => ?_) (fun q1 => ?_)
  · have h2 := zc_ltl (0) q1 zr_any (zr_c (lo := 1) (hi := 1) (by decide)) (by decide)
    exact (s_X11_step_12 hσ)
  have h3 := zc_ler (1) (z_nlt q1) (zr_c (lo := 1) (hi := 1) (by decide)) zr_any (by decide)
  refine zok_if (fun q4 => ?_) (fun q4 => ?_)
  · have h5 := zc_lel (20000) q4 h3 (zr_c (lo := 20000) (hi := 20000) (by decide)) (by decide)
    refine zok_ai (s_X11_run hσ (zr_w h5 (by decide)) (zr_w (zr_add (lo := 2) (hi := 20001) h5 (zr_c (lo := 1) (hi := 1) (by decide)) (by decide)) (by decide))) (fun σ1 v2 i6 h7 => ?_)
    exact zok_ti0 i6
  have h8 := zc_ltr (20001) (z_nle q4) (zr_c (lo := 20000) (hi := 20000) (by decide)) h3 (by decide)
  exact (s_X11_step_12 hσ)
theorem s_X11_picture_10 {G : Nat → Int} {σ : zSt} (hσ : zIC G σ) : zok (fX11_picture_10 σ ) (zTi (zIC G) ([1] : List Nat)) := by
  unfold fX11_picture_10
  exact zok_ti1 hσ (by decide)
theorem s_X11_picture {G : Nat → Int} {σ : zSt} (hσ : zIC G σ) {x1 : Int32} : zok (fX11_picture σ x1) (zTi (zIC G) ([1] : List Nat)) := by
  unfold fX11_picture
  refine zok_if (fun q1 => ?_) (fun q1 => ?_)
  · have h2 := zc_ltl (0) q1 zr_any (zr_c (lo := 1) (hi := 1) (by decide)) (by decide)
    exact (s_X11_picture_10 hσ)
  have h3 := zc_ler (1) (z_nlt q1) (zr_c (lo := 1) (hi := 1) (by decide)) zr_any (by decide)
  refine zok_if (fun q4 => ?_) (fun q4 => ?_)
  · have h5 := zc_lel (3) q4 h3 (zr_c (lo := 3) (hi := 3) (by decide)) (by decide)
    refine zok_ai (s_X11_run hσ (zr_w (zr_c (lo := 1000000) (hi := 1000000) (by decide)) (by decide)) (zr_w h5 (by decide))) (fun σ1 v2 i6 h7 => ?_)
    exact zok_ti0 i6
  have h8 := zc_ltr (4) (z_nle q4) (zr_c (lo := 3) (hi := 3) (by decide)) h3 (by decide)
  exact (s_X11_picture_10 hσ)
theorem s_X11_press {G : Nat → Int} {σ : zSt} (hσ : zIC G σ) {x1 : Int32} {x2 : Int32} : zok (fX11_press σ x1 x2) (zTu (zIC G) ([1] : List Nat)) := by
  unfold fX11_press
  refine zok_pi (s_X4_canPress hσ.P) (fun v2 h1 => ?_)
  refine zok_if (fun q2 => ?_) (fun q2 => ?_)
  · have h3 := zc_eql (0) (0) q2 h1 (zr_c (lo := 0) (hi := 0) (by decide)) (by decide)
    exact zok_tu1 hσ (by decide)
  have h4 := zc_nel (1) (1) q2 h1 (zr_c (lo := 0) (hi := 0) (by decide)) (by decide)
  refine zok_bu (s_X4_holdButtons hσ) (fun σ3 i5 => ?_)
  exact zok_tu0 i5
theorem s_X11_line_9 {G : Nat → Int} {σ : zSt} (hσ : zIC G σ) : zok (fX11_line_9 σ ) (zTu (zIC G) ([1] : List Nat)) := by
  unfold fX11_line_9
  exact zok_tu1 hσ (by decide)
theorem s_X11_line {G : Nat → Int} {σ : zSt} (hσ : zIC G σ) {x1 : Int32} {x2 : Int32} (h_x2 : zr (0) (1) x2) : zok (fX11_line σ x1 x2) (zTu (zIC G) ([1] : List Nat)) := by
  unfold fX11_line
  refine zok_if (fun q1 => ?_) (fun q1 => ?_)
  · have h2 := zc_ltl (-1) q1 zr_any (zr_c (lo := 0) (hi := 0) (by decide)) (by decide)
    exact (s_X11_line_9 hσ)
  have h3 := zc_ler (0) (z_nlt q1) (zr_c (lo := 0) (hi := 0) (by decide)) zr_any (by decide)
  refine zok_if (fun q4 => ?_) (fun q4 => ?_)
  · have h5 := zc_lel (1) q4 h3 (zr_c (lo := 1) (hi := 1) (by decide)) (by decide)
    refine zok_bu (s_X4_moveLine hσ h5 h_x2) (fun σ1 i6 => ?_)
    exact zok_tu0 i6
  have h7 := zc_ltr (2) (z_nle q4) (zr_c (lo := 1) (hi := 1) (by decide)) h3 (by decide)
  exact (s_X11_line_9 hσ)
theorem s_X11_plan_19 {G : Nat → Int} {σ : zSt} (hσ : zIC G σ) : zok (fX11_plan_19 σ ) (zTi (zIC G) ([1, 2] : List Nat)) := by
  unfold fX11_plan_19
  exact zok_ti1 hσ (by decide)
theorem s_X11_plan {G : Nat → Int} {σ : zSt} (hσ : zIC G σ) {x1 : Int32} {x2 : Int32} {x3 : Int32} : zok (fX11_plan σ x1 x2 x3) (zTi (zIC G) ([1, 2] : List Nat)) := by
  unfold fX11_plan
  refine zok_pi (s_X1_leastPlan hσ.P) (fun v2 h1 => ?_)
  refine zok_if (fun q2 => ?_) (fun q2 => ?_)
  · have h3 := zc_ltl (2147483646) q2 zr_any zr_any (by decide)
    have h4 := zc_ltr (-2147483647) q2 zr_any zr_any (by decide)
    exact (s_X11_plan_19 hσ)
  refine zok_pi (s_X4_canPress hσ.P) (fun v4 h5 => ?_)
  refine zok_if (fun q6 => ?_) (fun q6 => ?_)
  · have h7 := zc_eql (0) (0) q6 h5 (zr_c (lo := 0) (hi := 0) (by decide)) (by decide)
    exact (s_X11_plan_19 hσ)
  have h8 := zc_nel (1) (1) q6 h5 (zr_c (lo := 0) (hi := 0) (by decide)) (by decide)
  refine zok_pi (s_X1_plansWaiting hσ.P) (fun v6 h9 => ?_)
  refine zok_if (fun q10 => ?_) (fun q10 => ?_)
  · have h11 := zc_ltl (255) q10 zr_any (zr_c (lo := 256) (hi := 256) (by decide)) (by decide)
    refine zok_ai (s_X1_addPlan hσ) (fun σ7 v8 i12 h13 => ?_)
    exact zok_ti0 i12
  have h14 := zc_ler (256) (z_nlt q10) (zr_c (lo := 256) (hi := 256) (by decide)) zr_any (by decide)
  exact zok_ti1 hσ (by decide)
theorem s_X11_text_15 {G : Nat → Int} {σ : zSt} (hσ : zIC G σ) : zok (fX11_text_15 σ ) (zTl (zIC G) ([3] : List Nat)) := by
  unfold fX11_text_15
  exact zok_tl1 hσ (by decide)
theorem s_X11_text {G : Nat → Int} {σ : zSt} (hσ : zIC G σ) {x1 : Int32} : zok (fX11_text σ x1) (zTl (zIC G) ([3] : List Nat)) := by
  unfold fX11_text
  refine zok_if (fun q1 => ?_) (fun q1 => ?_)
  · have h2 := zc_ltl (-1) q1 zr_any (zr_c (lo := 0) (hi := 0) (by decide)) (by decide)
    exact (s_X11_text_15 hσ)
  have h3 := zc_ler (0) (z_nlt q1) (zr_c (lo := 0) (hi := 0) (by decide)) zr_any (by decide)
  refine zok_if (fun q4 => ?_) (fun q4 => ?_)
  · have h5 := zc_ltl (31) q4 h3 (rC_9 hσ.sg _ (by decide)) (by decide)
    have h6 := zc_ltr (1) q4 h3 (rC_9 hσ.sg _ (by decide)) (by decide)
    refine zok_pl (s_X8_eightFrom hσ.P h5) (fun v2 h7 => ?_)
    exact zok_tl0 hσ
  exact (s_X11_text_15 hσ)
theorem s_X11_stop_10 {G : Nat → Int} {σ : zSt} (hσ : zIC G σ) : zok (fX11_stop_10 σ ) (zTi (zIC G) ([1, 2] : List Nat)) := by
  unfold fX11_stop_10
  exact zok_ti1 hσ (by decide)
theorem s_X11_stop {G : Nat → Int} {σ : zSt} (hσ : zIC G σ) {x1 : Int32} {x2 : Int32} (h_x2 : zr (0) (1) x2) : zok (fX11_stop σ x1 x2) (zTi (zIC G) ([1, 2] : List Nat)) := by
  unfold fX11_stop
  refine zok_if (fun q1 => ?_) (fun q1 => ?_)
  · have h2 := zc_ltl (-1) q1 zr_any (zr_c (lo := 0) (hi := 0) (by decide)) (by decide)
    exact (s_X11_stop_10 hσ)
  have h3 := zc_ler (0) (z_nlt q1) (zr_c (lo := 0) (hi := 0) (by decide)) zr_any (by decide)
  refine zok_if (fun q4 => ?_) (fun q4 => ?_)
  · have h5 := zc_lel (65535) q4 h3 (zr_c (lo := 65535) (hi := 65535) (by decide)) (by decide)
    refine zok_pi (s_X1_stopsBeside hσ.P h5) (fun v2 h6 => ?_)
    refine zok_if (fun q7 => ?_) (fun q7 => ?_)
    · have h8 := zc_ltl (7) q7 h6 (zr_c (lo := 8) (hi := 8) (by decide)) (by decide)
      refine zok_ai (s_X1_changeStop hσ h5 h_x2) (fun σ3 v4 i9 h10 => ?_)
      exact zok_ti0 i9
    have h11 := zc_ler (8) (z_nlt q7) (zr_c (lo := 8) (hi := 8) (by decide)) h6 (by decide)
    exact zok_ti1 hσ (by decide)
  have h12 := zc_ltr (65536) (z_nle q4) (zr_c (lo := 65535) (hi := 65535) (by decide)) h3 (by decide)
  exact (s_X11_stop_10 hσ)
theorem s_X11_restore {G : Nat → Int} {σ : zSt} (hσ : zIC G σ) : zok (fX11_restore σ ) (zTu (zIC G) ([2] : List Nat)) := by
  unfold fX11_restore
  refine zok_if (fun q1 => ?_) (fun q1 => ?_)
  · have h2 := zc_eql (0) (0) q1 zr_any (zr_c (lo := 0) (hi := 0) (by decide)) (by decide)
    exact zok_tu1 hσ (by decide)
  refine zok_bu (s_X2_bringBack hσ) (fun σ1 i3 => ?_)
  refine zok_bu (s_X9_bringBack i3) (fun σ2 i4 => ?_)
  refine zok_bu (s_X3_bringBack i4) (fun σ3 i5 => ?_)
  refine zok_bu (s_X7_bringBack i5) (fun σ4 i6 => ?_)
  refine zok_bu (s_X10_bringBack i6) (fun σ5 i7 => ?_)
  refine zok_bu (s_X4_bringBack i7) (fun σ6 i8 => ?_)
  refine zok_bu (s_X5_bringBack i8) (fun σ7 i9 => ?_)
  refine zok_bu (s_X0_bringBack i9) (fun σ8 i10 => ?_)
  refine zok_bu (s_X1_bringBack i10) (fun σ9 i11 => ?_)
  exact zok_tu0 i11
theorem s_X11_register_10 {G : Nat → Int} {σ : zSt} (hσ : zIC G σ) : zok (fX11_register_10 σ ) (zTi (zIC G) ([1] : List Nat)) := by
  unfold fX11_register_10
  exact zok_ti1 hσ (by decide)
theorem s_X11_register {G : Nat → Int} {σ : zSt} (hσ : zIC G σ) {x1 : Int32} : zok (fX11_register σ x1) (zTi (zIC G) ([1] : List Nat)) := by
  unfold fX11_register
  refine zok_if (fun q1 => ?_) (fun q1 => ?_)
  · have h2 := zc_ltl (-1) q1 zr_any (zr_c (lo := 0) (hi := 0) (by decide)) (by decide)
    exact (s_X11_register_10 hσ)
  have h3 := zc_ler (0) (z_nlt q1) (zr_c (lo := 0) (hi := 0) (by decide)) zr_any (by decide)
  refine zok_if (fun q4 => ?_) (fun q4 => ?_)
  · have h5 := zc_lel (26) q4 h3 (zr_c (lo := 26) (hi := 26) (by decide)) (by decide)
    refine zok_pi (s_X5_value hσ.P (zr_w h5 (by decide))) (fun v2 h6 => ?_)
    exact zok_ti0 hσ
  have h7 := zc_ltr (27) (z_nle q4) (zr_c (lo := 26) (hi := 26) (by decide)) h3 (by decide)
  exact (s_X11_register_10 hσ)
theorem s_X11_set_10 {G : Nat → Int} {σ : zSt} (hσ : zIC G σ) : zok (fX11_set_10 σ ) (zTu (zIC G) ([1] : List Nat)) := by
  unfold fX11_set_10
  exact zok_tu1 hσ (by decide)
theorem s_X11_set {G : Nat → Int} {σ : zSt} (hσ : zIC G σ) {x1 : Int32} {x2 : Int32} : zok (fX11_set σ x1 x2) (zTu (zIC G) ([1] : List Nat)) := by
  unfold fX11_set
  refine zok_if (fun q1 => ?_) (fun q1 => ?_)
  · have h2 := zc_ltl (-1) q1 zr_any (zr_c (lo := 0) (hi := 0) (by decide)) (by decide)
    exact (s_X11_set_10 hσ)
  have h3 := zc_ler (0) (z_nlt q1) (zr_c (lo := 0) (hi := 0) (by decide)) zr_any (by decide)
  refine zok_if (fun q4 => ?_) (fun q4 => ?_)
  · have h5 := zc_lel (25) q4 h3 (zr_c (lo := 25) (hi := 25) (by decide)) (by decide)
    refine zok_bu (s_X5_change hσ h5) (fun σ1 i6 => ?_)
    exact zok_tu0 i6
  have h7 := zc_ltr (26) (z_nle q4) (zr_c (lo := 25) (hi := 25) (by decide)) h3 (by decide)
  exact (s_X11_set_10 hσ)
theorem s_X11_battery_11 {G : Nat → Int} {σ : zSt} (hσ : zIC G σ) : zok (fX11_battery_11 σ ) (zTi (zIC G) ([3] : List Nat)) := by
  unfold fX11_battery_11
  exact zok_ti1 hσ (by decide)
theorem s_X11_battery {G : Nat → Int} {σ : zSt} (hσ : zIC G σ) {x1 : Int32} : zok (fX11_battery σ x1) (zTi (zIC G) ([3] : List Nat)) := by
  unfold fX11_battery
  refine zok_if (fun q1 => ?_) (fun q1 => ?_)
  · have h2 := zc_ltl (-1) q1 zr_any (zr_c (lo := 0) (hi := 0) (by decide)) (by decide)
    exact (s_X11_battery_11 hσ)
  have h3 := zc_ler (0) (z_nlt q1) (zr_c (lo := 0) (hi := 0) (by decide)) zr_any (by decide)
  refine zok_if (fun q4 => ?_) (fun q4 => ?_)
  · have h5 := zc_ltl (32767) q4 h3 (zr_c (lo := 32768) (hi := 32768) (by decide)) (by decide)
    refine zok_pi (s_X2_batteryByte hσ.P h5) (fun v2 h6 => ?_)
    exact zok_ti0 hσ
  have h7 := zc_ler (32768) (z_nlt q4) (zr_c (lo := 32768) (hi := 32768) (by decide)) h3 (by decide)
  exact (s_X11_battery_11 hσ)
theorem s_X11_chip {G : Nat → Int} {σ : zSt} (hσ : zIC G σ) {x1 : Int32} : zok (fX11_chip σ x1) (zTi (zIC G) ([1] : List Nat)) := by
  unfold fX11_chip
  refine zok_pi (s_X9_has hσ.P) (fun v2 h1 => ?_)
  refine zok_if (fun q2 => ?_) (fun q2 => ?_)
  · have h3 := zc_eql (0) (0) q2 h1 (zr_c (lo := 0) (hi := 0) (by decide)) (by decide)
    exact zok_ti1 hσ (by decide)
  have h4 := zc_nel (1) (1) q2 h1 (zr_c (lo := 0) (hi := 0) (by decide)) (by decide)
  refine zok_pi (s_X9_value hσ.P) (fun v4 h5 => ?_)
  exact zok_ti0 hσ
theorem s_X11_dot_30 {G : Nat → Int} {σ : zSt} (hσ : zIC G σ) : zok (fX11_dot_30 σ ) (zTi (zIC G) ([3] : List Nat)) := by
  unfold fX11_dot_30
  exact zok_ti1 hσ (by decide)
theorem s_X11_dot {G : Nat → Int} {σ : zSt} (hσ : zIC G σ) {x1 : Int32} {x2 : Int32} : zok (fX11_dot σ x1 x2) (zTi (zIC G) ([3] : List Nat)) := by
  unfold fX11_dot
  refine zok_if (fun q1 => ?_) (fun q1 => ?_)
  · have h2 := zc_ltl (-1) q1 zr_any (zr_c (lo := 0) (hi := 0) (by decide)) (by decide)
    exact (s_X11_dot_30 hσ)
  have h3 := zc_ler (0) (z_nlt q1) (zr_c (lo := 0) (hi := 0) (by decide)) zr_any (by decide)
  refine zok_pi (s_X3_width hσ.P) (fun v2 h4 => ?_)
  refine zok_if (fun q5 => ?_) (fun q5 => ?_)
  · have h6 := zc_ler (160) q5 h4 h3 (by decide)
    exact (s_X11_dot_30 hσ)
  have h7 := zc_ltl (255) (z_nle q5) h3 h4 (by decide)
  refine zok_if (fun q8 => ?_) (fun q8 => ?_)
  · have h9 := zc_ltl (-1) q8 zr_any (zr_c (lo := 0) (hi := 0) (by decide)) (by decide)
    exact (s_X11_dot_30 hσ)
  have h10 := zc_ler (0) (z_nlt q8) (zr_c (lo := 0) (hi := 0) (by decide)) zr_any (by decide)
  refine zok_pi (s_X3_height hσ.P) (fun v4 h11 => ?_)
  refine zok_if (fun q12 => ?_) (fun q12 => ?_)
  · have h13 := zc_ltl (239) q12 h10 h11 (by decide)
    refine zok_pi (s_X3_dotAt hσ.P h7 h13) (fun v6 h14 => ?_)
    exact zok_ti0 hσ
  have h15 := zc_ler (144) (z_nlt q12) h11 h10 (by decide)
  exact (s_X11_dot_30 hσ)
theorem s_X11_row_15 {G : Nat → Int} {σ : zSt} (hσ : zIC G σ) : zok (fX11_row_15 σ ) (zTi (zIC G) ([3] : List Nat)) := by
  unfold fX11_row_15
  exact zok_ti1 hσ (by decide)
end ZJN9
section ZJN10
theorem s_X11_row {G : Nat → Int} {σ : zSt} (hσ : zIC G σ) {x1 : Int32} : zok (fX11_row σ x1) (zTi (zIC G) ([3] : List Nat)) := by
  unfold fX11_row
  refine zok_if (fun q1 => ?_) (fun q1 => ?_)
  · have h2 := zc_ltl (-1) q1 zr_any (zr_c (lo := 0) (hi := 0) (by decide)) (by decide)
    exact (s_X11_row_15 hσ)
  have h3 := zc_ler (0) (z_nlt q1) (zr_c (lo := 0) (hi := 0) (by decide)) zr_any (by decide)
  refine zok_pi (s_X3_height hσ.P) (fun v2 h4 => ?_)
  refine zok_if (fun q5 => ?_) (fun q5 => ?_)
  · have h6 := zc_ltl (239) q5 h3 h4 (by decide)
    refine zok_pi (s_X3_sumOfLine hσ.P h6) (fun v4 h7 => ?_)
    exact zok_ti0 hσ
  have h8 := zc_ler (144) (z_nlt q5) h4 h3 (by decide)
  exact (s_X11_row_15 hσ)
theorem s_X11_hear {G : Nat → Int} {σ : zSt} (hσ : zIC G σ) : zok (fX11_hear σ ) (zTl (zIC G) ([3] : List Nat)) := by
  unfold fX11_hear
  refine zok_pi (s_X6_size_k11 hσ.P) (fun v2 h1 => ?_)
  refine zok_if (fun q2 => ?_) (fun q2 => ?_)
  · have h3 := zc_eql (0) (0) q2 zr_any (zr_c (lo := 0) (hi := 0) (by decide)) (by decide)
    exact zok_tl1 hσ (by decide)
  refine zok_al (s_X6_takeFirst_k11 hσ) (fun σ3 v4 i4 h5 => ?_)
  exact zok_tl0 i4
theorem s_X11_mix {G : Nat → Int} {σ : zSt} (hσ : zIC G σ) : zok (fX11_mix σ ) (zTl (zIC G) ([3] : List Nat)) := by
  unfold fX11_mix
  refine zok_pi (s_X6_size_k12 hσ.P) (fun v2 h1 => ?_)
  refine zok_if (fun q2 => ?_) (fun q2 => ?_)
  · have h3 := zc_eql (0) (0) q2 zr_any (zr_c (lo := 0) (hi := 0) (by decide)) (by decide)
    exact zok_tl1 hσ (by decide)
  refine zok_al (s_X6_takeFirst_k12 hσ) (fun σ3 v4 i4 h5 => ?_)
  exact zok_tl0 i4
theorem s_X11_wave {G : Nat → Int} {σ : zSt} (hσ : zIC G σ) {x1 : Int32} : zok (fX11_wave σ x1) (zTi (zIC G) ([1] : List Nat)) := by
  unfold fX11_wave
  refine zok_pi (s_X10_has hσ.P) (fun v2 h1 => ?_)
  refine zok_if (fun q2 => ?_) (fun q2 => ?_)
  · have h3 := zc_eql (0) (0) q2 h1 (zr_c (lo := 0) (hi := 0) (by decide)) (by decide)
    exact zok_ti1 hσ (by decide)
  have h4 := zc_nel (1) (1) q2 h1 (zr_c (lo := 0) (hi := 0) (by decide)) (by decide)
  refine zok_pi (s_X10_value hσ.P) (fun v4 h5 => ?_)
  exact zok_ti0 hσ
theorem s_X11_sound_10 {G : Nat → Int} {σ : zSt} (hσ : zIC G σ) : zok (fX11_sound_10 σ ) (zTi (zIC G) ([1] : List Nat)) := by
  unfold fX11_sound_10
  exact zok_ti1 hσ (by decide)
theorem s_X11_sound {G : Nat → Int} {σ : zSt} (hσ : zIC G σ) {x1 : Int32} : zok (fX11_sound σ x1) (zTi (zIC G) ([1] : List Nat)) := by
  unfold fX11_sound
  refine zok_if (fun q1 => ?_) (fun q1 => ?_)
  · have h2 := zc_ltl (-1) q1 zr_any (zr_c (lo := 0) (hi := 0) (by decide)) (by decide)
    exact (s_X11_sound_10 hσ)
  have h3 := zc_ler (0) (z_nlt q1) (zr_c (lo := 0) (hi := 0) (by decide)) zr_any (by decide)
  refine zok_if (fun q4 => ?_) (fun q4 => ?_)
  · have h5 := zc_lel (18) q4 h3 (zr_c (lo := 18) (hi := 18) (by decide)) (by decide)
    refine zok_pi (s_X7_value hσ.P h5) (fun v2 h6 => ?_)
    exact zok_ti0 hσ
  have h7 := zc_ltr (19) (z_nle q4) (zr_c (lo := 18) (hi := 18) (by decide)) h3 (by decide)
  exact (s_X11_sound_10 hσ)
theorem s_X11_look_10 {G : Nat → Int} {σ : zSt} (hσ : zIC G σ) : zok (fX11_look_10 σ ) (zTl (zIC G) ([1] : List Nat)) := by
  unfold fX11_look_10
  exact zok_tl1 hσ (by decide)
theorem s_X11_look_193 {G : Nat → Int} {σ : zSt} (hσ : zIC G σ) {x1 : Int32} (h_x1 : zr (9) (11) x1) : zok (fX11_look_193 σ x1) (zTl (zIC G) ([1] : List Nat)) := by
  unfold fX11_look_193
  refine zok_pi (s_X2_page hσ.P (zr_w (zr_sub (lo := 0) (hi := 2) h_x1 (zr_c (lo := 9) (hi := 9) (by decide)) (by decide)) (by decide))) (fun v2 h1 => ?_)
  exact zok_tl0 hσ
theorem s_X11_look_250 {G : Nat → Int} {σ : zSt} (hσ : zIC G σ) {s0 : Int64} (h_s0 : zrl (0) (1) s0) : zok (fX11_look_250 σ s0) (zTl (zIC G) ([1] : List Nat)) := by
  unfold fX11_look_250
  exact zok_tl0 hσ
theorem s_X11_look {G : Nat → Int} {σ : zSt} (hσ : zIC G σ) {x1 : Int32} : zok (fX11_look σ x1) (zTl (zIC G) ([1] : List Nat)) := by
  unfold fX11_look
  refine zok_if (fun q1 => ?_) (fun q1 => ?_)
  · have h2 := zc_ltl (-1) q1 zr_any (zr_c (lo := 0) (hi := 0) (by decide)) (by decide)
    exact (s_X11_look_10 hσ)
  have h3 := zc_ler (0) (z_nlt q1) (zr_c (lo := 0) (hi := 0) (by decide)) zr_any (by decide)
  refine zok_if (fun q4 => ?_) (fun q4 => ?_)
  · have h5 := zc_lel (18) q4 h3 (zr_c (lo := 18) (hi := 18) (by decide)) (by decide)
    refine zok_if (fun q6 => ?_) (fun q6 => ?_)
    · have h7 := zc_eql (0) (0) q6 h5 (zr_c (lo := 0) (hi := 0) (by decide)) (by decide)
      refine zok_pl (s_X0_count hσ.P (zr_w (zr_c (lo := 0) (hi := 0) (by decide)) (by decide))) (fun v4 h8 => ?_)
      exact zok_tl0 hσ
    have h9 := zc_nel (1) (18) q6 h5 (zr_c (lo := 0) (hi := 0) (by decide)) (by decide)
    refine zok_if (fun q10 => ?_) (fun q10 => ?_)
    · have h11 := zc_eql (1) (1) q10 h9 (zr_c (lo := 1) (hi := 1) (by decide)) (by decide)
      refine zok_pl (s_X0_count hσ.P (zr_w (zr_c (lo := 1) (hi := 1) (by decide)) (by decide))) (fun v6 h12 => ?_)
      exact zok_tl0 hσ
    have h13 := zc_nel (2) (18) q10 h9 (zr_c (lo := 1) (hi := 1) (by decide)) (by decide)
    refine zok_if (fun q14 => ?_) (fun q14 => ?_)
    · have h15 := zc_eql (2) (2) q14 h13 (zr_c (lo := 2) (hi := 2) (by decide)) (by decide)
      refine zok_pl (s_X0_count hσ.P (zr_w (zr_c (lo := 2) (hi := 2) (by decide)) (by decide))) (fun v8 h16 => ?_)
      exact zok_tl0 hσ
    have h17 := zc_nel (3) (18) q14 h13 (zr_c (lo := 2) (hi := 2) (by decide)) (by decide)
    refine zok_if (fun q18 => ?_) (fun q18 => ?_)
    · have h19 := zc_eql (3) (3) q18 h17 (zr_c (lo := 3) (hi := 3) (by decide)) (by decide)
      refine zok_pi (s_X6_size_k11 hσ.P) (fun v10 h20 => ?_)
      exact zok_tl0 hσ
    have h21 := zc_nel (4) (18) q18 h17 (zr_c (lo := 3) (hi := 3) (by decide)) (by decide)
    refine zok_if (fun q22 => ?_) (fun q22 => ?_)
    · have h23 := zc_eql (4) (4) q22 h21 (zr_c (lo := 4) (hi := 4) (by decide)) (by decide)
      refine zok_pl (s_X0_count hσ.P (zr_w (zr_c (lo := 3) (hi := 3) (by decide)) (by decide))) (fun v12 h24 => ?_)
      exact zok_tl0 hσ
    have h25 := zc_nel (5) (18) q22 h21 (zr_c (lo := 4) (hi := 4) (by decide)) (by decide)
    refine zok_if (fun q26 => ?_) (fun q26 => ?_)
    · have h27 := zc_eql (5) (5) q26 h25 (zr_c (lo := 5) (hi := 5) (by decide)) (by decide)
      exact zok_tl0 hσ
    have h28 := zc_nel (6) (18) q26 h25 (zr_c (lo := 5) (hi := 5) (by decide)) (by decide)
    refine zok_if (fun q29 => ?_) (fun q29 => ?_)
    · have h30 := zc_eql (6) (6) q29 h28 (zr_c (lo := 6) (hi := 6) (by decide)) (by decide)
      refine zok_pi (s_X1_stopCount hσ.P) (fun v14 h31 => ?_)
      exact zok_tl0 hσ
    have h32 := zc_nel (7) (18) q29 h28 (zr_c (lo := 6) (hi := 6) (by decide)) (by decide)
    refine zok_if (fun q33 => ?_) (fun q33 => ?_)
    · have h34 := zc_eql (7) (7) q33 h32 (zr_c (lo := 7) (hi := 7) (by decide)) (by decide)
      refine zok_pi (s_X2_cardSize hσ.P) (fun v16 h35 => ?_)
      exact zok_tl0 hσ
    have h36 := zc_nel (8) (18) q33 h32 (zr_c (lo := 7) (hi := 7) (by decide)) (by decide)
    refine zok_if (fun q37 => ?_) (fun q37 => ?_)
    · have h38 := zc_eql (8) (8) q37 h36 (zr_c (lo := 8) (hi := 8) (by decide)) (by decide)
      refine zok_pi (s_X2_page hσ.P (zr_w (zr_c (lo := 3) (hi := 3) (by decide)) (by decide))) (fun v18 h39 => ?_)
      exact zok_tl0 hσ
    have h40 := zc_nel (9) (18) q37 h36 (zr_c (lo := 8) (hi := 8) (by decide)) (by decide)
    refine zok_if (fun q41 => ?_) (fun q41 => ?_)
    · have h42 := zc_eql (9) (9) q41 h40 (zr_c (lo := 9) (hi := 9) (by decide)) (by decide)
      exact (s_X11_look_193 hσ (zr_w h42 (by decide)))
    have h43 := zc_nel (10) (18) q41 h40 (zr_c (lo := 9) (hi := 9) (by decide)) (by decide)
    refine zok_if (fun q44 => ?_) (fun q44 => ?_)
    · have h45 := zc_eql (10) (10) q44 h43 (zr_c (lo := 10) (hi := 10) (by decide)) (by decide)
      exact (s_X11_look_193 hσ (zr_w h45 (by decide)))
    have h46 := zc_nel (11) (18) q44 h43 (zr_c (lo := 10) (hi := 10) (by decide)) (by decide)
    refine zok_if (fun q47 => ?_) (fun q47 => ?_)
    · have h48 := zc_eql (11) (11) q47 h46 (zr_c (lo := 11) (hi := 11) (by decide)) (by decide)
      exact (s_X11_look_193 hσ (zr_w h48 (by decide)))
    have h49 := zc_nel (12) (18) q47 h46 (zr_c (lo := 11) (hi := 11) (by decide)) (by decide)
    refine zok_if (fun q50 => ?_) (fun q50 => ?_)
    · have h51 := zc_eql (12) (12) q50 h49 (zr_c (lo := 12) (hi := 12) (by decide)) (by decide)
      refine zok_pi (s_X5_value hσ.P (zr_w (zr_c (lo := 27) (hi := 27) (by decide)) (by decide))) (fun v20 h52 => ?_)
      exact zok_tl0 hσ
    have h53 := zc_nel (13) (18) q50 h49 (zr_c (lo := 12) (hi := 12) (by decide)) (by decide)
    refine zok_if (fun q54 => ?_) (fun q54 => ?_)
    · have h55 := zc_eql (13) (13) q54 h53 (zr_c (lo := 13) (hi := 13) (by decide)) (by decide)
      refine zok_pi (s_X4_value hσ.P (zr_w (zr_c (lo := 6) (hi := 6) (by decide)) (by decide))) (fun v22 h56 => ?_)
      exact zok_tl0 hσ
    have h57 := zc_nel (14) (18) q54 h53 (zr_c (lo := 13) (hi := 13) (by decide)) (by decide)
    refine zok_if (fun q58 => ?_) (fun q58 => ?_)
    · have h59 := zc_eql (14) (14) q58 h57 (zr_c (lo := 14) (hi := 14) (by decide)) (by decide)
      refine zok_pi (s_X4_value hσ.P (zr_w (zr_c (lo := 0) (hi := 0) (by decide)) (by decide))) (fun v24 h60 => ?_)
      exact zok_tl0 hσ
    have h61 := zc_nel (15) (18) q58 h57 (zr_c (lo := 14) (hi := 14) (by decide)) (by decide)
    refine zok_if (fun q62 => ?_) (fun q62 => ?_)
    · have h63 := zc_eql (15) (15) q62 h61 (zr_c (lo := 15) (hi := 15) (by decide)) (by decide)
      refine zok_if (fun q64 => ?_) (fun q64 => ?_)
      · have h65 := zc_eql (0) (0) q64 zr_any (zr_c (lo := 0) (hi := 0) (by decide)) (by decide)
        exact (s_X11_look_250 hσ (zrl_w (zrl_c (lo := 0) (hi := 0) (by decide)) (by decide)))
      exact (s_X11_look_250 hσ (zrl_w (zrl_c (lo := 1) (hi := 1) (by decide)) (by decide)))
    have h66 := zc_nel (16) (18) q62 h61 (zr_c (lo := 15) (hi := 15) (by decide)) (by decide)
    refine zok_if (fun q67 => ?_) (fun q67 => ?_)
    · have h68 := zc_eql (16) (16) q67 h66 (zr_c (lo := 16) (hi := 16) (by decide)) (by decide)
      refine zok_pi (s_X1_plansWaiting hσ.P) (fun v26 h69 => ?_)
      exact zok_tl0 hσ
    have h70 := zc_nel (17) (18) q67 h66 (zr_c (lo := 16) (hi := 16) (by decide)) (by decide)
    refine zok_if (fun q71 => ?_) (fun q71 => ?_)
    · have h72 := zc_eql (17) (17) q71 h70 (zr_c (lo := 17) (hi := 17) (by decide)) (by decide)
      refine zok_pi (s_X6_size_k12 hσ.P) (fun v28 h73 => ?_)
      exact zok_tl0 hσ
    have h74 := zc_nel (18) (18) q71 h70 (zr_c (lo := 17) (hi := 17) (by decide)) (by decide)
    exact zok_tl0 hσ
  have h75 := zc_ltr (19) (z_nle q4) (zr_c (lo := 18) (hi := 18) (by decide)) h3 (by decide)
  exact (s_X11_look_10 hσ)
end ZJN10
section ZJN11
/-! the reference's own part of the invariant: banks, levels of operators, pads of plans -/
noncomputable def zat (c : Int) (x : Int32) : Prop := ∃ i : Nat, i < 18 ∧ x.toInt = 172 + 6 * (i : Int) + c
noncomputable def zpt (c : Int) (x : Int32) : Prop := ∃ i : Nat, i < 256 ∧ x.toInt = 280 + 3 * (i : Int) + c
theorem zat_add {c c1 : Int} {x : Int32} (h : zat c x) (n : Int32) (hc : c1 = c + n.toInt) (hb : -1000 ≤ n.toInt ∧ n.toInt ≤ 1000 ∧ -1000 ≤ c ∧ c ≤ 1000) : zat c1 (x + n) := by
  obtain ⟨i, hi, e⟩ := h
  have e1 := z_tadd (x := x) (y := n) (a := x.toInt) (b := x.toInt) (c := n.toInt) (d := n.toInt) ⟨Int.le_refl _, Int.le_refl _⟩ ⟨Int.le_refl _, Int.le_refl _⟩ (by omega)
  exact ⟨i, hi, by omega⟩
theorem zpt_add {c c1 : Int} {x : Int32} (h : zpt c x) (n : Int32) (hc : c1 = c + n.toInt) (hb : -1000 ≤ n.toInt ∧ n.toInt ≤ 1000 ∧ -1000 ≤ c ∧ c ≤ 1000) : zpt c1 (x + n) := by
  obtain ⟨i, hi, e⟩ := h
  have e1 := z_tadd (x := x) (y := n) (a := x.toInt) (b := x.toInt) (c := n.toInt) (d := n.toInt) ⟨Int.le_refl _, Int.le_refl _⟩ ⟨Int.le_refl _, Int.le_refl _⟩ (by omega)
  exact ⟨i, hi, by omega⟩
theorem z_at0 {v x1 x2 : Int32} {a b c d : Int} (e : v = 172 + (6 * ((2 * x1) + x2))) (h1 : zr a b x1) (h2 : zr c d x2) (h : 0 ≤ a ∧ b ≤ 8 ∧ 0 ≤ c ∧ d ≤ 1) : zat 0 v := by
  have h1 := zr_w (lo := 0) (hi := 8) h1 ⟨h.1, h.2.1⟩
  have h2 := zr_w (lo := 0) (hi := 1) h2 ⟨h.2.2.1, h.2.2.2⟩
  have k2 : zr 2 2 (2 : Int32) := zr_c (by decide)
  have k6 : zr 6 6 (6 : Int32) := zr_c (by decide)
  have k7 : zr 172 172 (172 : Int32) := zr_c (by decide)
  have e1 := z_tmul k2 h1 (by decide)
  have r1 := zr_mul (lo := 0) (hi := 16) k2 h1 (by decide)
  have e2 := z_tadd r1 h2 (by decide)
  have r2 := zr_add (lo := 0) (hi := 17) r1 h2 (by decide)
  have e3 := z_tmul k6 r2 (by decide)
  have r3 := zr_mul (lo := 0) (hi := 102) k6 r2 (by decide)
  have e4 := z_tadd k7 r3 (by decide)
  have c2 : (2 : Int32).toInt = 2 := rfl
  have c6 : (6 : Int32).toInt = 6 := rfl
  have c7 : (172 : Int32).toInt = 172 := rfl
  have b1 := r2.1
  have b2 := r2.2
  rw [c7, e3, c6] at e4
  refine ⟨((2 * x1) + x2).toInt.toNat, by omega, ?_⟩
  rw [e, e4]; omega
theorem z_pt0 {v x : Int32} {a b : Int} (e : v = 280 + (3 * x)) (h1 : zr a b x) (h : 0 ≤ a ∧ b ≤ 255) : zpt 0 v := by
  have h1 := zr_w (lo := 0) (hi := 255) h1 h
  have k3 : zr 3 3 (3 : Int32) := zr_c (by decide)
  have k7 : zr 280 280 (280 : Int32) := zr_c (by decide)
  have e1 := z_tmul k3 h1 (by decide)
  have r1 := zr_mul (lo := 0) (hi := 765) k3 h1 (by decide)
  have e4 := z_tadd k7 r1 (by decide)
  have c2 : (3 : Int32).toInt = 3 := rfl
  have c7 : (280 : Int32).toInt = 280 := rfl
  have b1 := h1.1
  have b2 := h1.2
  rw [c7, e1, c2] at e4
  refine ⟨x.toInt.toNat, by omega, ?_⟩
  rw [e, e4]; omega
noncomputable def zLv (k : Nat) (σ : zSt) : Prop := ∀ i : Nat, i < 18 → zr 0 127 (σ.1 k (172 + 6 * i))
noncomputable def zPd (k : Nat) (σ : zSt) : Prop := ∀ i : Nat, i < 256 → zr 0 1 (σ.1 k (281 + 3 * i))
noncomputable def zYM (σ : zSt) : Prop := ((σ.1 0 7).toInt = 0 ∨ 1 ≤ (σ.1 0 6).toInt) ∧ (zLv 3 σ ∧ zLv 12 σ) ∧ zPd 3 σ ∧ zPd 12 σ
noncomputable def zOM (k a b : Nat) : Bool := (!Nat.beq k 0 || (Nat.blt b 6 || Nat.blt 7 a)) && ((!Nat.beq k 3 && !Nat.beq k 12) || Nat.blt b 172)
theorem zsi_off {σ : zSt} {k j k1 j1 : Nat} {v : Int32} (h : ¬ (k1 = k ∧ j1 = j)) : (zsi σ k j v).1 k1 j1 = σ.1 k1 j1 := by rw [zsi_at, if_neg h]
theorem z_orb {k a : Nat} {x : Bool} (h : (!Nat.beq k a || x) = true) : ¬ k = a ∨ x = true := by
  rcases (Bool.or_eq_true _ _).mp h with h | h
  · exact Or.inl (z_nb h)
  · exact Or.inr h
theorem zYM.ww {σ : zSt} {k j : Nat} {v : Int32} (h : zYM σ) (c1 : ¬ k = 0 ∨ j < 6 ∨ 7 < j) (c2 : (¬ k = 3 ∧ ¬ k = 12) ∨ j < 172) : zYM (zsi σ k j v) := by
  obtain ⟨h1, ⟨h2, h3⟩, h4, h5⟩ := h
  refine ⟨?_, ⟨fun i hi => ?_, fun i hi => ?_⟩, fun i hi => ?_, fun i hi => ?_⟩
  · rw [zsi_off (by omega), zsi_off (by omega)]; exact h1
  · rw [zsi_off (by omega)]; exact h2 i hi
  · rw [zsi_off (by omega)]; exact h3 i hi
  · rw [zsi_off (by omega)]; exact h4 i hi
  · rw [zsi_off (by omega)]; exact h5 i hi
theorem zYM.w {σ : zSt} {k j a b : Nat} {v : Int32} (h : zYM σ) (hj : a ≤ j ∧ j ≤ b) (c : zOM k a b = true) : zYM (zsi σ k j v) := by
  rw [zOM, Bool.and_eq_true] at c
  obtain ⟨c1, c2⟩ := c
  refine h.ww ?_ ?_
  · rcases z_orb c1 with c | c
    · exact Or.inl c
    · simp only [Bool.or_eq_true, Nat.blt_eq] at c; omega
  · rcases (Bool.or_eq_true _ _).mp c2 with c | c
    · rw [Bool.and_eq_true] at c; exact Or.inl ⟨z_nb c.1, z_nb c.2⟩
    · have := Nat.blt_eq.mp c; omega
/-! frozen cells set to a value -/
noncomputable def zset (G : Nat → Int) (i : Nat) (v : Int) : Nat → Int := fun j => if j = i then v else G j
theorem zset_eq {G : Nat → Int} {i : Nat} {v : Int} : zset G i v i = v := if_pos rfl
theorem zset_ne {G : Nat → Int} {i j : Nat} {v : Int} (h : ¬ j = i) : zset G i v j = G j := if_neg h
theorem zIV_g {S : List zSeg} {Z ZL : List (Nat × Nat)} {q : Nat × Nat × Int} {G : Nat → Int} {σ : zSt} {k j : Nat} {v : Int32} {lo hi : Int} (i : Nat) (h : zIV S Z ZL q G σ) (hi100 : i < 100) (hz : ∀ n, n < Z.length → (Z[n]? = some (k, j) ↔ n = i)) (hv : zr lo hi v) (c : zWi S [] q k j j lo hi = true) : zIV S Z ZL q (zset G i v.toInt) (zsi σ k j v) := by
  obtain ⟨h1, h2, h3, h4⟩ := h
  have base : zIV S [] ZL q G (zsi σ k j v) := zIV_i j j ⟨h1, fun i z hz => by simp at hz, h3, h4⟩ ⟨Nat.le_refl _, Nat.le_refl _⟩ hv c
  refine ⟨base.1, fun n z hn => ?_, fun n z hn => ?_, base.2.2.2⟩
  · have hl : n < Z.length := (List.getElem?_eq_some_iff.mp hn).1
    by_cases e : n = i
    · subst e
      have ez := (hz n hl).mpr rfl
      rw [hn] at ez
      cases Option.some.inj ez
      rw [zsi_ej, zset_eq]
    · rw [zset_ne e]
      have ne : ¬ (z.1 = k ∧ z.2 = j) := fun r => e ((hz n hl).mp (by rw [hn]; exact congrArg some (Prod.ext r.1 r.2)))
      rw [zsi_at, if_neg ne]; exact h2 n z hn
  · rw [zset_ne (by omega)]; exact h3 n z hn
theorem zIV_gl {S : List zSeg} {Z ZL : List (Nat × Nat)} {q : Nat × Nat × Int} {G : Nat → Int} {σ : zSt} {k j : Nat} {v : Int64} (i : Nat) (h : zIV S Z ZL q G σ) (hl : Z.length ≤ 100) (hz : ∀ n, n < ZL.length → (ZL[n]? = some (k, j) ↔ n = i)) : zIV S Z ZL q (zset G (100 + i) v.toInt) (zsl σ k j v) := by
  obtain ⟨h1, h2, h3, h4⟩ := h
  refine ⟨h1, fun n z hn => ?_, fun n z hn => ?_, h4⟩
  · have hl1 : n < Z.length := (List.getElem?_eq_some_iff.mp hn).1
    rw [zset_ne (by omega)]; exact h2 n z hn
  · have hl1 : n < ZL.length := (List.getElem?_eq_some_iff.mp hn).1
    by_cases e : n = i
    · subst e
      have ez := (hz n hl1).mpr rfl
      rw [hn] at ez
      cases Option.some.inj ez
      rw [zset_eq, zsl_at, if_pos ⟨rfl, rfl⟩]
    · rw [zset_ne (by omega)]
      have ne : ¬ (z.1 = k ∧ z.2 = j) := fun r => e ((hz n hl1).mp (by rw [hn]; exact congrArg some (Prod.ext r.1 r.2)))
      rw [zsl_at, if_neg ne]; exact h3 n z hn
noncomputable def zWzl (ZL : List (Nat × Nat)) (l : List Nat) (k a b : Nat) : Bool := (List.range ZL.length).all (fun i => match ZL[i]? with | none => true | some z => (!Nat.beq z.1 k || (Nat.blt b z.2 || Nat.blt z.2 a)) || l.contains (100 + i))
theorem zIV_el {S : List zSeg} {Z ZL : List (Nat × Nat)} {q : Nat × Nat × Int} {G : Nat → Int} {σ : zSt} {l : List Nat} {k j : Nat} {v : Int64} (a b : Nat) (h : zIV S Z ZL q G σ) (hj : a ≤ j ∧ j ≤ b) (c : (zWzl ZL l k a b && Nat.ble Z.length 100) = true) : ∃ G', zIV S Z ZL q G' (zsl σ k j v) ∧ ∀ i, ¬ i ∈ l → G' i = G i := by
  obtain ⟨h1, h2, h3, h4⟩ := h
  rw [Bool.and_eq_true] at c
  obtain ⟨c2, c3⟩ := c
  have c3 := Nat.le_of_ble_eq_true c3
  refine ⟨fun i => if i < 100 then G i else (match ZL[i - 100]? with | none => G i | some z => ((zsl σ k j v).2 z.1 z.2).toInt), ⟨h1, fun i z hz => ?_, fun i z hz => ?_, h4⟩, fun i hi => ?_⟩
  · have hl : i < Z.length := (List.getElem?_eq_some_iff.mp hz).1
    show _ = if i < 100 then G i else _
    rw [if_pos (by omega)]
    exact h2 i z hz
  · show _ = if 100 + i < 100 then G (100 + i) else (match ZL[100 + i - 100]? with | none => G (100 + i) | some z => ((zsl σ k j v).2 z.1 z.2).toInt)
    rw [if_neg (by omega), show 100 + i - 100 = i by omega, hz]
  · show (if i < 100 then G i else (match ZL[i - 100]? with | none => G i | some z => ((zsl σ k j v).2 z.1 z.2).toInt)) = G i
    by_cases g : i < 100
    · rw [if_pos g]
    · rw [if_neg g]
      cases hz : ZL[i - 100]? with
      | none => rfl
      | some z =>
        have hl : i - 100 < ZL.length := (List.getElem?_eq_some_iff.mp hz).1
        rw [zWzl, List.all_eq_true] at c2
        have c4 := c2 (i - 100) (List.mem_range.mpr hl)
        rw [hz] at c4
        have c5 : (!Nat.beq z.1 k || (Nat.blt b z.2 || Nat.blt z.2 a)) = true := by
          have c6 := (Bool.or_eq_true _ _).mp c4
          rcases c6 with c6 | c6
          · exact c6
          · rw [show 100 + (i - 100) = i by omega] at c6
            exact absurd (List.contains_iff_mem.mp c6) hi
        show ((zsl σ k j v).2 z.1 z.2).toInt = G i
        rw [zsl_at, if_neg (z_out (x := true) hj c5)]
        have h9 := h3 (i - 100) z hz
        rw [show 100 + (i - 100) = i by omega] at h9
        exact h9
/-- one place of a row is copied into the same place of its twin -/
theorem zIV_c1 {S : List zSeg} {Z ZL : List (Nat × Nat)} {q : Nat × Nat × Int} {G : Nat → Int} {σ : zSt} {k0 k1 j : Nat} (h : zIV S Z ZL q G σ) (c : zWc S [] q k0 k1 = true) : zIV S [] ZL q G (zsi σ k1 j (σ.1 k0 j)) := by
  obtain ⟨h1, h2, h3, h4⟩ := h
  rw [zWc, Bool.and_eq_true, Bool.and_eq_true, List.all_eq_true] at c
  obtain ⟨⟨c1, _⟩, c3⟩ := c
  refine ⟨fun s hs j1 l1 l2 => ?_, fun i z hz => by simp at hz, h3, ?_⟩
  · rw [zsi_at]
    by_cases r : s.1 = k1 ∧ j1 = j
    · rw [if_pos r]
      obtain ⟨r1, r2⟩ := r
      subst r2
      have c4 := c1 s hs
      rw [r1, show Nat.beq k1 k1 = true from Nat.beq_refl k1] at c4
      simp only [Bool.not_true, Bool.false_or, List.any_eq_true, Bool.and_eq_true, decide_eq_true_eq] at c4
      obtain ⟨t, ht, t1, t2, t3, t4, t5⟩ := c4
      have t1 := Nat.eq_of_beq_eq_true t1
      have t2 := Nat.eq_of_beq_eq_true t2
      have t3 := Nat.eq_of_beq_eq_true t3
      have d2 := h1 t ht j1 (by omega) (by omega)
      rw [t1, t4, t5] at d2
      exact d2
    · rw [if_neg r]; exact h1 s hs j1 l1 l2
  · unfold zSp; rw [zsi_ne (z_nb c3)]; exact h4
theorem zIV_c1e {S : List zSeg} {Z ZL : List (Nat × Nat)} {q : Nat × Nat × Int} {G : Nat → Int} {σ : zSt} {l : List Nat} {k0 k1 j : Nat} (a b : Nat) (hj : a ≤ j ∧ j ≤ b) (h : zIV S Z ZL q G σ) (c : ((zWc S [] q k0 k1 && zWz Z l k1 a b) && Nat.ble Z.length 100) = true) : ∃ G', zIV S Z ZL q G' (zsi σ k1 j (σ.1 k0 j)) ∧ ∀ i, ¬ i ∈ l → G' i = G i := by
  rw [Bool.and_eq_true, Bool.and_eq_true] at c
  obtain ⟨⟨c1, c2⟩, c3⟩ := c
  have c3 := Nat.le_of_ble_eq_true c3
  have base : zIV S [] ZL q G (zsi σ k1 j (σ.1 k0 j)) := zIV_c1 h c1
  obtain ⟨h1, h2, h3, h4⟩ := h
  refine ⟨fun i => if i < 100 then (match Z[i]? with | none => G i | some z => ((zsi σ k1 j (σ.1 k0 j)).1 z.1 z.2).toInt) else G i, ⟨base.1, fun i z hz => ?_, fun i z hz => ?_, base.2.2.2⟩, fun i hi => ?_⟩
  · have hl : i < Z.length := (List.getElem?_eq_some_iff.mp hz).1
    show _ = if i < 100 then (match Z[i]? with | none => G i | some z => ((zsi σ k1 j (σ.1 k0 j)).1 z.1 z.2).toInt) else G i
    rw [if_pos (by omega), hz]
  · show _ = if 100 + i < 100 then _ else _
    rw [if_neg (by omega)]
    exact base.2.2.1 i z hz
  · show (if i < 100 then (match Z[i]? with | none => G i | some z => ((zsi σ k1 j (σ.1 k0 j)).1 z.1 z.2).toInt) else G i) = G i
    by_cases g : i < 100
    · rw [if_pos g]
      cases hz : Z[i]? with
      | none => rfl
      | some z =>
        have hl : i < Z.length := (List.getElem?_eq_some_iff.mp hz).1
        rw [zWz, List.all_eq_true] at c2
        have c4 := c2 i (List.mem_range.mpr hl)
        rw [hz] at c4
        have c5 : (!Nat.beq z.1 k1 || (Nat.blt b z.2 || Nat.blt z.2 a)) = true := by
          have c6 := (Bool.or_eq_true _ _).mp c4
          rcases c6 with c6 | c6
          · exact c6
          · exact absurd (List.contains_iff_mem.mp c6) hi
        show ((zsi σ k1 j (σ.1 k0 j)).1 z.1 z.2).toInt = G i
        rw [zsi_at, if_neg (z_out (x := true) hj c5)]
        exact h2 i z hz
    · rw [if_neg g]
end ZJN11
section ZJN12
noncomputable def sM : List zSeg := [(0, 2, 2, 0, 262656), (0, 3, 3, 0, 2), (0, 5, 5, 0, 262144), (0, 6, 6, 0, 16), (0, 7, 7, 0, 3), (0, 8, 8, -1, 32767), (0, 31, 31, 0, 17), (0, 32, 32, 0, 1), (0, 39, 39, 0, 40), (22, 0, 255, 0, 31), (24, 0, 255, 0, 31), (3, 0, 15, 0, 255), (3, 16, 20, 0, 65535), (3, 0, 20, 0, 65535), (3, 21, 22, 0, 255), (3, 23, 24, 0, 1), (3, 25, 25, 0, 2), (3, 26, 28, 0, 1), (3, 29, 35, 0, 255), (3, 36, 41, 0, 255), (3, 44, 46, 0, 1), (3, 47, 57, 0, 255), (3, 58, 58, 0, 16383), (3, 59, 59, 0, 3), (3, 60, 60, 0, 255), (3, 61, 61, 0, 1), (3, 62, 62, 0, 255), (3, 63, 63, 0, 1), (3, 65, 65, 0, 255), (3, 66, 66, 0, 313), (3, 67, 67, 0, 227), (3, 68, 68, 0, 255), (3, 69, 71, 0, 1023), (3, 78, 81, 0, 15), (3, 82, 82, 0, 7), (3, 85, 85, 0, 65535), (3, 86, 86, 0, 7), (3, 87, 87, 0, 4096), (3, 88, 88, 0, 4095), (3, 89, 89, 0, 8), (3, 98, 161, 0, 255), (3, 162, 162, 0, 63), (3, 163, 163, 0, 3), (3, 169, 169, 0, 4096), (3, 170, 170, 0, 4095), (3, 171, 171, 0, 256), (12, 0, 15, 0, 255), (12, 16, 20, 0, 65535), (12, 0, 20, 0, 65535), (12, 21, 22, 0, 255), (12, 23, 24, 0, 1), (12, 25, 25, 0, 2), (12, 26, 28, 0, 1), (12, 29, 35, 0, 255), (12, 36, 41, 0, 255), (12, 44, 46, 0, 1), (12, 47, 57, 0, 255), (12, 58, 58, 0, 16383), (12, 59, 59, 0, 3), (12, 60, 60, 0, 255), (12, 61, 61, 0, 1), (12, 62, 62, 0, 255), (12, 63, 63, 0, 1), (12, 65, 65, 0, 255), (12, 66, 66, 0, 313), (12, 67, 67, 0, 227), (12, 68, 68, 0, 255), (12, 69, 71, 0, 1023), (12, 78, 81, 0, 15), (12, 82, 82, 0, 7), (12, 85, 85, 0, 65535), (12, 86, 86, 0, 7), (12, 87, 87, 0, 4096), (12, 88, 88, 0, 4095), (12, 89, 89, 0, 8), (12, 98, 161, 0, 255), (12, 162, 162, 0, 63), (12, 163, 163, 0, 3), (12, 169, 169, 0, 4096), (12, 170, 170, 0, 4095), (12, 171, 171, 0, 256)]
noncomputable def zZM : List (Nat × Nat) := [(0, 2), (0, 3), (0, 19), (3, 66), (3, 67), (3, 168), (12, 66), (12, 67), (12, 168), (0, 39)]
noncomputable def zLM : List (Nat × Nat) := [(4, 0), (4, 2), (13, 0), (0, 30), (4, 4), (13, 4), (13, 2)]
noncomputable def zQM : Nat × Nat × Int := (0, 31, 0)
noncomputable def zIM (G : Nat → Int) (σ : zSt) : Prop := zIV sM zZM zLM zQM G σ ∧ zYM σ
noncomputable def zPM (σ : zSt) : Prop := zSg sM σ ∧ zSp zQM σ ∧ zYM σ
noncomputable def zEM (l : List Nat) (G : Nat → Int) (σ : zSt) : Prop := ∃ G1, zIM G1 σ ∧ ∀ i, ¬ i ∈ l → G1 i = G i
section ZSM
variable {G : Nat → Int} {σ : zSt} {l : List Nat}
theorem zIM.sg (h : zIM G σ) : zSg sM σ := h.1.1
theorem zIM.sp (h : zIM G σ) : zSp zQM σ := h.1.2.2.2
theorem zIM.fz (h : zIM G σ) : zFz zZM G σ := h.1.2.1
theorem zIM.fl (h : zIM G σ) : zFl zLM G σ := h.1.2.2.1
theorem zIM.Y (h : zIM G σ) : zYM σ := h.2
theorem zIM.P (h : zIM G σ) : zPM σ := ⟨h.sg, h.sp, h.2⟩
theorem zPM.sg (h : zPM σ) : zSg sM σ := h.1
theorem zPM.sp (h : zPM σ) : zSp zQM σ := h.2.1
theorem zPM.Y (h : zPM σ) : zYM σ := h.2.2
theorem zIM.E (h : zIM G σ) : zEM l G σ := ⟨G, h, fun _ _ => rfl⟩
theorem zEM.sg (h : zEM l G σ) : zSg sM σ := by obtain ⟨G1, h1, _⟩ := h; exact h1.sg
theorem zEM.sp (h : zEM l G σ) : zSp zQM σ := by obtain ⟨G1, h1, _⟩ := h; exact h1.sp
theorem zEM.Y (h : zEM l G σ) : zYM σ := by obtain ⟨G1, h1, _⟩ := h; exact h1.2
theorem zEM.P (h : zEM l G σ) : zPM σ := by obtain ⟨G1, h1, _⟩ := h; exact h1.P
theorem zIM.wi {k j : Nat} {v : Int32} {lo hi : Int} (h : zIM G σ) (a b : Nat) (hj : a ≤ j ∧ j ≤ b) (hv : zr lo hi v) (c : (zWi sM zZM zQM k a b lo hi && zOM k a b) = true) : zIM G (zsi σ k j v) := by
  rw [Bool.and_eq_true] at c
  exact ⟨zIV_i a b h.1 hj hv c.1, h.2.w hj c.2⟩
theorem zIM.wk {k j : Nat} {v : Int32} (h : zIM G σ) (c : (zWk sM zZM zQM k && (!Nat.beq k 0 && (!Nat.beq k 3 && !Nat.beq k 12))) = true) : zIM G (zsi σ k j v) := by
  rw [Bool.and_eq_true, Bool.and_eq_true, Bool.and_eq_true] at c
  exact ⟨zIV_k h.1 c.1, h.2.ww (Or.inl (z_nb c.2.1)) (Or.inl ⟨z_nb c.2.2.1, z_nb c.2.2.2⟩)⟩
theorem zIM.wl {k j : Nat} {v : Int64} (h : zIM G σ) (a b : Nat) (hj : a ≤ j ∧ j ≤ b) (c : zLM.all (fun z => !Nat.beq z.1 k || (Nat.blt b z.2 || Nat.blt z.2 a)) = true) : zIM G (zsl σ k j v) := ⟨zIV_l a b h.1 hj c, h.2⟩
theorem zIM.sp0 {v : Int32} {lo hi : Int} (h : zIM G σ) (hv : zr lo hi v) (c : (decide (lo = 0 ∧ hi = 0) && zWs sM zZM zQM lo hi) = true) : zIM G (zsi σ 0 31 v) := by
  rw [Bool.and_eq_true] at c
  have e := of_decide_eq_true c.1
  have h1 := hv.1
  have h2 := hv.2
  exact ⟨zIV_s h.1 hv c.2 (Or.inl (by show v.toInt = 0; omega)), h.2.ww (by omega) (by omega)⟩
theorem zIM.sp1 {v : Int32} {lo hi : Int} (h : zIM G σ) (hv : zr lo hi v) (c : (decide (16 ≤ lo) && zWs sM zZM zQM lo hi) = true) : zIM G (zsi σ 0 31 v) := by
  rw [Bool.and_eq_true] at c
  have e := of_decide_eq_true c.1
  have h1 := hv.1
  exact ⟨zIV_s h.1 hv c.2 (Or.inr (by omega)), h.2.ww (by omega) (by omega)⟩
theorem zIM.we {k j : Nat} {v : Int32} {lo hi : Int} (h : zIM G σ) (a b : Nat) (hj : a ≤ j ∧ j ≤ b) (hv : zr lo hi v) (c : (zWe sM zZM zQM l k a b lo hi && zOM k a b) = true) : zEM l G (zsi σ k j v) := by
  rw [Bool.and_eq_true] at c
  obtain ⟨G1, h1, g1⟩ := zIV_e a b h.1 hj hv c.1
  exact ⟨G1, ⟨h1, h.2.w hj c.2⟩, g1⟩
theorem zIM.lv {x v : Int32} {lo hi : Int} (h : zIM G σ) (t : zat 0 x) (hv : zr lo hi v) (c : 0 ≤ lo ∧ hi ≤ 127) : zIM G (zsi σ 3 x.toNatClampNeg v) := by
  obtain ⟨n, hn, e⟩ := t
  have ex : x.toNatClampNeg = 172 + 6 * n := by have : x.toNatClampNeg = x.toInt.toNat := rfl; omega
  obtain ⟨h1, ⟨h2, h3⟩, h4, h5⟩ := h.2
  refine ⟨zIV_i 172 279 h.1 (by omega) (zr_any (x := v)) (by decide +kernel), ?_, ⟨fun i hi => ?_, fun i hi => ?_⟩, fun i hi => ?_, fun i hi => ?_⟩
  · rw [zsi_off (by omega), zsi_off (by omega)]; exact h1
  · by_cases q : i = n
    · subst q; rw [ex, zsi_ej]; exact zr_w hv c
    · rw [zsi_off (by omega)]; exact h2 i hi
  · rw [zsi_off (by omega)]; exact h3 i hi
  · rw [zsi_off (by omega)]; exact h4 i hi
  · rw [zsi_off (by omega)]; exact h5 i hi
theorem zIM.op {c : Int} {x v : Int32} (h : zIM G σ) (t : zat c x) (q : 0 < c ∧ c < 6) : zIM G (zsi σ 3 x.toNatClampNeg v) := by
  obtain ⟨n, hn, e⟩ := t
  have ex : (x.toNatClampNeg : Int) = 172 + 6 * n + c := by have : x.toNatClampNeg = x.toInt.toNat := rfl; omega
  obtain ⟨h1, ⟨h2, h3⟩, h4, h5⟩ := h.2
  refine ⟨zIV_i 172 279 h.1 (by omega) (zr_any (x := v)) (by decide +kernel), ?_, ⟨fun i hi => ?_, fun i hi => ?_⟩, fun i hi => ?_, fun i hi => ?_⟩
  · rw [zsi_off (by omega), zsi_off (by omega)]; exact h1
  · rw [zsi_off (by omega)]; exact h2 i hi
  · rw [zsi_off (by omega)]; exact h3 i hi
  · rw [zsi_off (by omega)]; exact h4 i hi
  · rw [zsi_off (by omega)]; exact h5 i hi
theorem zIM.pl1 {x v : Int32} {lo hi : Int} (h : zIM G σ) (t : zpt 1 x) (hv : zr lo hi v) (c : 0 ≤ lo ∧ hi ≤ 1) : zIM G (zsi σ 3 x.toNatClampNeg v) := by
  obtain ⟨n, hn, e⟩ := t
  have ex : x.toNatClampNeg = 281 + 3 * n := by have : x.toNatClampNeg = x.toInt.toNat := rfl; omega
  obtain ⟨h1, ⟨h2, h3⟩, h4, h5⟩ := h.2
  refine ⟨zIV_i 280 1047 h.1 (by omega) (zr_any (x := v)) (by decide +kernel), ?_, ⟨fun i hi => ?_, fun i hi => ?_⟩, fun i hi => ?_, fun i hi => ?_⟩
  · rw [zsi_off (by omega), zsi_off (by omega)]; exact h1
  · rw [zsi_off (by omega)]; exact h2 i hi
  · rw [zsi_off (by omega)]; exact h3 i hi
  · by_cases q : i = n
    · subst q; rw [ex, zsi_ej]; exact zr_w hv c
    · rw [zsi_off (by omega)]; exact h4 i hi
  · rw [zsi_off (by omega)]; exact h5 i hi
theorem zIM.pl {c : Int} {x v : Int32} (h : zIM G σ) (t : zpt c x) (q : c = 0 ∨ c = 2) : zIM G (zsi σ 3 x.toNatClampNeg v) := by
  obtain ⟨n, hn, e⟩ := t
  have ex : (x.toNatClampNeg : Int) = 280 + 3 * n + c := by have : x.toNatClampNeg = x.toInt.toNat := rfl; omega
  obtain ⟨h1, ⟨h2, h3⟩, h4, h5⟩ := h.2
  refine ⟨zIV_i 280 1047 h.1 (by omega) (zr_any (x := v)) (by decide +kernel), ?_, ⟨fun i hi => ?_, fun i hi => ?_⟩, fun i hi => ?_, fun i hi => ?_⟩
  · rw [zsi_off (by omega), zsi_off (by omega)]; exact h1
  · rw [zsi_off (by omega)]; exact h2 i hi
  · rw [zsi_off (by omega)]; exact h3 i hi
  · rw [zsi_off (by omega)]; exact h4 i hi
  · rw [zsi_off (by omega)]; exact h5 i hi
theorem zIM.wb {v : Int32} {lo hi : Int} (h : zIM G σ) (hv : zr lo hi v) (c : 1 ≤ lo ∧ hi ≤ 16) : zIM G (zsi σ 0 6 v) := by
  obtain ⟨h1, ⟨h2, h3⟩, h4, h5⟩ := h.2
  have v1 := hv.1
  refine ⟨zIV_i 6 6 h.1 (by omega) (zr_w (lo := 0) (hi := 16) hv (by omega)) (by decide +kernel), Or.inr ?_, ⟨fun i hi => ?_, fun i hi => ?_⟩, fun i hi => ?_, fun i hi => ?_⟩
  · rw [zsi_ej]; omega
  · rw [zsi_off (by omega)]; exact h2 i hi
  · rw [zsi_off (by omega)]; exact h3 i hi
  · rw [zsi_off (by omega)]; exact h4 i hi
  · rw [zsi_off (by omega)]; exact h5 i hi
theorem zIM.wp {v : Int32} {lo hi a b : Int} (h : zIM G σ) (hv : zr lo hi v) (hb : zr a b (zgi σ 0 6)) (c : 0 ≤ lo ∧ hi ≤ 3 ∧ 1 ≤ a) : zIM G (zsi σ 0 7 v) := by
  obtain ⟨h1, ⟨h2, h3⟩, h4, h5⟩ := h.2
  have b1 : a ≤ (σ.1 0 6).toInt := hb.1
  refine ⟨zIV_i 7 7 h.1 (by omega) (zr_w (lo := 0) (hi := 3) hv (by omega)) (by decide +kernel), Or.inr ?_, ⟨fun i hi => ?_, fun i hi => ?_⟩, fun i hi => ?_, fun i hi => ?_⟩
  · rw [zsi_off (by omega)]; omega
  · rw [zsi_off (by omega)]; exact h2 i hi
  · rw [zsi_off (by omega)]; exact h3 i hi
  · rw [zsi_off (by omega)]; exact h4 i hi
  · rw [zsi_off (by omega)]; exact h5 i hi
theorem zEM.lift {σ1 : zSt} (h : zEM l G σ) (k : ∀ G1, zIM G1 σ → zIM G1 σ1) : zEM l G σ1 := by obtain ⟨G1, h1, g1⟩ := h; exact ⟨G1, k G1 h1, g1⟩
theorem zEM.wi {k j : Nat} {v : Int32} {lo hi : Int} (h : zEM l G σ) (a b : Nat) (hj : a ≤ j ∧ j ≤ b) (hv : zr lo hi v) (c : (zWe sM zZM zQM l k a b lo hi && zOM k a b) = true) : zEM l G (zsi σ k j v) := by
  obtain ⟨G1, h1, g1⟩ := h
  obtain ⟨G2, h2, g2⟩ := h1.we a b hj hv c
  exact ⟨G2, h2, fun i hi => (g2 i hi).trans (g1 i hi)⟩
theorem zEM.wk {k j : Nat} {v : Int32} (h : zEM l G σ) (c : (zWk sM zZM zQM k && (!Nat.beq k 0 && (!Nat.beq k 3 && !Nat.beq k 12))) = true) : zEM l G (zsi σ k j v) := h.lift (fun _ h1 => h1.wk c)
theorem zEM.wl {k j : Nat} {v : Int64} (h : zEM l G σ) (a b : Nat) (hj : a ≤ j ∧ j ≤ b) (c : zLM.all (fun z => !Nat.beq z.1 k || (Nat.blt b z.2 || Nat.blt z.2 a)) = true) : zEM l G (zsl σ k j v) := h.lift (fun _ h1 => h1.wl a b hj c)
theorem zEM.sub {l1 : List Nat} (h : zEM l1 G σ) (c : l1.all (fun i => l.contains i) = true) : zEM l G σ := by
  obtain ⟨G1, h1, g1⟩ := h
  rw [List.all_eq_true] at c
  exact ⟨G1, h1, fun i hi => g1 i (fun r => hi (List.contains_iff_mem.mp (c i r)))⟩
theorem zEM.uEi {o : Option (zSt × Int32)} {Q : Int32 → Prop} {l1 : List Nat} (h : zEM l G σ) (c : l1.all (fun i => l.contains i) = true) (k : ∀ G1, zEM l1 G1 σ → zok o (zAi (zEM l1 G1) Q)) : zok o (zAi (zEM l G) Q) := by
  obtain ⟨G1, h1, g1⟩ := h
  rw [List.all_eq_true] at c
  have k1 : ∀ x, zEM l1 G1 x → zEM l G x := fun x hx => by
    obtain ⟨G2, h2, g2⟩ := hx
    exact ⟨G2, h2, fun i hi => (g2 i (fun r => hi (List.contains_iff_mem.mp (c i r)))).trans (g1 i hi)⟩
  exact zok_mono (k G1 h1.E) (fun r q => ⟨k1 _ q.1, q.2⟩)
theorem zEM.upu {o : Option zSt} (h : zEM l G σ) (k : ∀ G1, zIM G1 σ → zok o (zIM G1)) : zok o (zEM l G) := by
  obtain ⟨G1, h1, g1⟩ := h
  exact zok_mono (k G1 h1) (fun r q => ⟨G1, q, g1⟩)
theorem zEM.upTi {o : Option zRi} {ks : List Nat} (h : zEM l G σ) (k : ∀ G1, zIM G1 σ → zok o (zTi (zIM G1) ks)) : zok o (zTi (zEM l G) ks) := by
  obtain ⟨G1, h1, g1⟩ := h
  exact zok_mono (k G1 h1) (fun r q => ⟨⟨G1, q.1, g1⟩, q.2⟩)
theorem rM_0 (h : zSg sM σ) (j : Nat) (hj : 2 ≤ j ∧ j ≤ 2) : zr (0) (262656) (zgi σ 0 j) := h _ (List.mem_of_getElem? (i := 0) rfl) j hj.1 hj.2
theorem rM_1 (h : zSg sM σ) (j : Nat) (hj : 3 ≤ j ∧ j ≤ 3) : zr (0) (2) (zgi σ 0 j) := h _ (List.mem_of_getElem? (i := 1) rfl) j hj.1 hj.2
theorem rM_2 (h : zSg sM σ) (j : Nat) (hj : 5 ≤ j ∧ j ≤ 5) : zr (0) (262144) (zgi σ 0 j) := h _ (List.mem_of_getElem? (i := 2) rfl) j hj.1 hj.2
theorem rM_3 (h : zSg sM σ) (j : Nat) (hj : 6 ≤ j ∧ j ≤ 6) : zr (0) (16) (zgi σ 0 j) := h _ (List.mem_of_getElem? (i := 3) rfl) j hj.1 hj.2
theorem rM_4 (h : zSg sM σ) (j : Nat) (hj : 7 ≤ j ∧ j ≤ 7) : zr (0) (3) (zgi σ 0 j) := h _ (List.mem_of_getElem? (i := 4) rfl) j hj.1 hj.2
theorem rM_5 (h : zSg sM σ) (j : Nat) (hj : 8 ≤ j ∧ j ≤ 8) : zr (-1) (32767) (zgi σ 0 j) := h _ (List.mem_of_getElem? (i := 5) rfl) j hj.1 hj.2
theorem rM_6 (h : zSg sM σ) (j : Nat) (hj : 31 ≤ j ∧ j ≤ 31) : zr (0) (17) (zgi σ 0 j) := h _ (List.mem_of_getElem? (i := 6) rfl) j hj.1 hj.2
theorem rM_7 (h : zSg sM σ) (j : Nat) (hj : 32 ≤ j ∧ j ≤ 32) : zr (0) (1) (zgi σ 0 j) := h _ (List.mem_of_getElem? (i := 7) rfl) j hj.1 hj.2
theorem rM_8 (h : zSg sM σ) (j : Nat) (hj : 39 ≤ j ∧ j ≤ 39) : zr (0) (40) (zgi σ 0 j) := h _ (List.mem_of_getElem? (i := 8) rfl) j hj.1 hj.2
theorem rM_9 (h : zSg sM σ) (j : Nat) (hj : 0 ≤ j ∧ j ≤ 255) : zr (0) (31) (zgi σ 22 j) := h _ (List.mem_of_getElem? (i := 9) rfl) j hj.1 hj.2
theorem rM_10 (h : zSg sM σ) (j : Nat) (hj : 0 ≤ j ∧ j ≤ 255) : zr (0) (31) (zgi σ 24 j) := h _ (List.mem_of_getElem? (i := 10) rfl) j hj.1 hj.2
theorem rM_11 (h : zSg sM σ) (j : Nat) (hj : 0 ≤ j ∧ j ≤ 15) : zr (0) (255) (zgi σ 3 j) := h _ (List.mem_of_getElem? (i := 11) rfl) j hj.1 hj.2
theorem rM_12 (h : zSg sM σ) (j : Nat) (hj : 16 ≤ j ∧ j ≤ 20) : zr (0) (65535) (zgi σ 3 j) := h _ (List.mem_of_getElem? (i := 12) rfl) j hj.1 hj.2
theorem rM_14 (h : zSg sM σ) (j : Nat) (hj : 21 ≤ j ∧ j ≤ 22) : zr (0) (255) (zgi σ 3 j) := h _ (List.mem_of_getElem? (i := 14) rfl) j hj.1 hj.2
theorem rM_15 (h : zSg sM σ) (j : Nat) (hj : 23 ≤ j ∧ j ≤ 24) : zr (0) (1) (zgi σ 3 j) := h _ (List.mem_of_getElem? (i := 15) rfl) j hj.1 hj.2
theorem rM_16 (h : zSg sM σ) (j : Nat) (hj : 25 ≤ j ∧ j ≤ 25) : zr (0) (2) (zgi σ 3 j) := h _ (List.mem_of_getElem? (i := 16) rfl) j hj.1 hj.2
theorem rM_17 (h : zSg sM σ) (j : Nat) (hj : 26 ≤ j ∧ j ≤ 28) : zr (0) (1) (zgi σ 3 j) := h _ (List.mem_of_getElem? (i := 17) rfl) j hj.1 hj.2
theorem rM_18 (h : zSg sM σ) (j : Nat) (hj : 29 ≤ j ∧ j ≤ 35) : zr (0) (255) (zgi σ 3 j) := h _ (List.mem_of_getElem? (i := 18) rfl) j hj.1 hj.2
theorem rM_19 (h : zSg sM σ) (j : Nat) (hj : 36 ≤ j ∧ j ≤ 41) : zr (0) (255) (zgi σ 3 j) := h _ (List.mem_of_getElem? (i := 19) rfl) j hj.1 hj.2
theorem rM_20 (h : zSg sM σ) (j : Nat) (hj : 44 ≤ j ∧ j ≤ 46) : zr (0) (1) (zgi σ 3 j) := h _ (List.mem_of_getElem? (i := 20) rfl) j hj.1 hj.2
theorem rM_21 (h : zSg sM σ) (j : Nat) (hj : 47 ≤ j ∧ j ≤ 57) : zr (0) (255) (zgi σ 3 j) := h _ (List.mem_of_getElem? (i := 21) rfl) j hj.1 hj.2
theorem rM_22 (h : zSg sM σ) (j : Nat) (hj : 58 ≤ j ∧ j ≤ 58) : zr (0) (16383) (zgi σ 3 j) := h _ (List.mem_of_getElem? (i := 22) rfl) j hj.1 hj.2
theorem rM_23 (h : zSg sM σ) (j : Nat) (hj : 59 ≤ j ∧ j ≤ 59) : zr (0) (3) (zgi σ 3 j) := h _ (List.mem_of_getElem? (i := 23) rfl) j hj.1 hj.2
theorem rM_24 (h : zSg sM σ) (j : Nat) (hj : 60 ≤ j ∧ j ≤ 60) : zr (0) (255) (zgi σ 3 j) := h _ (List.mem_of_getElem? (i := 24) rfl) j hj.1 hj.2
theorem rM_25 (h : zSg sM σ) (j : Nat) (hj : 61 ≤ j ∧ j ≤ 61) : zr (0) (1) (zgi σ 3 j) := h _ (List.mem_of_getElem? (i := 25) rfl) j hj.1 hj.2
theorem rM_26 (h : zSg sM σ) (j : Nat) (hj : 62 ≤ j ∧ j ≤ 62) : zr (0) (255) (zgi σ 3 j) := h _ (List.mem_of_getElem? (i := 26) rfl) j hj.1 hj.2
theorem rM_27 (h : zSg sM σ) (j : Nat) (hj : 63 ≤ j ∧ j ≤ 63) : zr (0) (1) (zgi σ 3 j) := h _ (List.mem_of_getElem? (i := 27) rfl) j hj.1 hj.2
theorem rM_28 (h : zSg sM σ) (j : Nat) (hj : 65 ≤ j ∧ j ≤ 65) : zr (0) (255) (zgi σ 3 j) := h _ (List.mem_of_getElem? (i := 28) rfl) j hj.1 hj.2
theorem rM_29 (h : zSg sM σ) (j : Nat) (hj : 66 ≤ j ∧ j ≤ 66) : zr (0) (313) (zgi σ 3 j) := h _ (List.mem_of_getElem? (i := 29) rfl) j hj.1 hj.2
theorem rM_30 (h : zSg sM σ) (j : Nat) (hj : 67 ≤ j ∧ j ≤ 67) : zr (0) (227) (zgi σ 3 j) := h _ (List.mem_of_getElem? (i := 30) rfl) j hj.1 hj.2
theorem rM_32 (h : zSg sM σ) (j : Nat) (hj : 69 ≤ j ∧ j ≤ 71) : zr (0) (1023) (zgi σ 3 j) := h _ (List.mem_of_getElem? (i := 32) rfl) j hj.1 hj.2
theorem rM_33 (h : zSg sM σ) (j : Nat) (hj : 78 ≤ j ∧ j ≤ 81) : zr (0) (15) (zgi σ 3 j) := h _ (List.mem_of_getElem? (i := 33) rfl) j hj.1 hj.2
theorem rM_34 (h : zSg sM σ) (j : Nat) (hj : 82 ≤ j ∧ j ≤ 82) : zr (0) (7) (zgi σ 3 j) := h _ (List.mem_of_getElem? (i := 34) rfl) j hj.1 hj.2
theorem rM_35 (h : zSg sM σ) (j : Nat) (hj : 85 ≤ j ∧ j ≤ 85) : zr (0) (65535) (zgi σ 3 j) := h _ (List.mem_of_getElem? (i := 35) rfl) j hj.1 hj.2
theorem rM_36 (h : zSg sM σ) (j : Nat) (hj : 86 ≤ j ∧ j ≤ 86) : zr (0) (7) (zgi σ 3 j) := h _ (List.mem_of_getElem? (i := 36) rfl) j hj.1 hj.2
theorem rM_37 (h : zSg sM σ) (j : Nat) (hj : 87 ≤ j ∧ j ≤ 87) : zr (0) (4096) (zgi σ 3 j) := h _ (List.mem_of_getElem? (i := 37) rfl) j hj.1 hj.2
theorem rM_38 (h : zSg sM σ) (j : Nat) (hj : 88 ≤ j ∧ j ≤ 88) : zr (0) (4095) (zgi σ 3 j) := h _ (List.mem_of_getElem? (i := 38) rfl) j hj.1 hj.2
theorem rM_39 (h : zSg sM σ) (j : Nat) (hj : 89 ≤ j ∧ j ≤ 89) : zr (0) (8) (zgi σ 3 j) := h _ (List.mem_of_getElem? (i := 39) rfl) j hj.1 hj.2
theorem rM_40 (h : zSg sM σ) (j : Nat) (hj : 98 ≤ j ∧ j ≤ 161) : zr (0) (255) (zgi σ 3 j) := h _ (List.mem_of_getElem? (i := 40) rfl) j hj.1 hj.2
theorem rM_41 (h : zSg sM σ) (j : Nat) (hj : 162 ≤ j ∧ j ≤ 162) : zr (0) (63) (zgi σ 3 j) := h _ (List.mem_of_getElem? (i := 41) rfl) j hj.1 hj.2
theorem rM_42 (h : zSg sM σ) (j : Nat) (hj : 163 ≤ j ∧ j ≤ 163) : zr (0) (3) (zgi σ 3 j) := h _ (List.mem_of_getElem? (i := 42) rfl) j hj.1 hj.2
theorem rM_43 (h : zSg sM σ) (j : Nat) (hj : 169 ≤ j ∧ j ≤ 169) : zr (0) (4096) (zgi σ 3 j) := h _ (List.mem_of_getElem? (i := 43) rfl) j hj.1 hj.2
theorem rM_44 (h : zSg sM σ) (j : Nat) (hj : 170 ≤ j ∧ j ≤ 170) : zr (0) (4095) (zgi σ 3 j) := h _ (List.mem_of_getElem? (i := 44) rfl) j hj.1 hj.2
theorem rM_45 (h : zSg sM σ) (j : Nat) (hj : 171 ≤ j ∧ j ≤ 171) : zr (0) (256) (zgi σ 3 j) := h _ (List.mem_of_getElem? (i := 45) rfl) j hj.1 hj.2
theorem xM_sp {lo hi : Int} (h : zSp zQM σ) (hr : zr lo hi (zgi σ 0 31)) (c : 0 < lo ∧ hi ≤ 17) : zr 16 17 (zgi σ 0 31) := by
  obtain ⟨r1, r2⟩ := hr
  unfold zgi at r1 r2 ⊢
  rcases h with h | h
  · have h : (σ.1 0 31).toInt = 0 := h
    exfalso; omega
  · have h : 16 ≤ (σ.1 0 31).toInt := h
    exact ⟨h, by omega⟩
theorem zEM.lv {x v : Int32} {lo hi : Int} (h : zEM l G σ) (t : zat 0 x) (hv : zr lo hi v) (c : 0 ≤ lo ∧ hi ≤ 127) : zEM l G (zsi σ 3 x.toNatClampNeg v) := h.lift (fun _ h1 => h1.lv t hv c)
theorem zEM.op {c : Int} {x v : Int32} (h : zEM l G σ) (t : zat c x) (q : 0 < c ∧ c < 6) : zEM l G (zsi σ 3 x.toNatClampNeg v) := h.lift (fun _ h1 => h1.op t q)
theorem zEM.wb {v : Int32} {lo hi : Int} (h : zEM l G σ) (hv : zr lo hi v) (c : 1 ≤ lo ∧ hi ≤ 16) : zEM l G (zsi σ 0 6 v) := h.lift (fun _ h1 => h1.wb hv c)
theorem zEM.wp {v : Int32} {lo hi a b : Int} (h : zEM l G σ) (hv : zr lo hi v) (hb : zr a b (zgi σ 0 6)) (c : 0 ≤ lo ∧ hi ≤ 3 ∧ 1 ≤ a) : zEM l G (zsi σ 0 7 v) := h.lift (fun _ h1 => h1.wp hv hb c)
theorem zEM.sp0 {v : Int32} {lo hi : Int} (h : zEM l G σ) (hv : zr lo hi v) (c : (decide (lo = 0 ∧ hi = 0) && zWs sM zZM zQM lo hi) = true) : zEM l G (zsi σ 0 31 v) := h.lift (fun _ h1 => h1.sp0 hv c)
theorem zEM.wle {k j : Nat} {v : Int64} (h : zEM l G σ) (a b : Nat) (hj : a ≤ j ∧ j ≤ b) (c : (zWzl zLM l k a b && Nat.ble zZM.length 100) = true) : zEM l G (zsl σ k j v) := by
  obtain ⟨G1, h1, g1⟩ := h
  obtain ⟨G2, h2, g2⟩ := zIV_el a b h1.1 hj c
  exact ⟨G2, ⟨h2, h1.2⟩, fun i hi => (g2 i hi).trans (g1 i hi)⟩
theorem zEM.c12 {j : Nat} (h : zEM l G σ) (hj : 0 ≤ j ∧ j ≤ 1047) (c : ((zWc sM [] zQM 3 12 && zWz zZM l 12 0 1047) && Nat.ble zZM.length 100) = true) : zEM l G (zsi σ 12 j (zgi σ 3 j)) := by
  obtain ⟨G1, h1, g1⟩ := h
  obtain ⟨G2, h2, g2⟩ := zIV_c1e 0 1047 hj h1.1 c
  obtain ⟨y1, ⟨y2, y3⟩, y4, y5⟩ := h1.2
  refine ⟨G2, ⟨h2, ?_, ⟨fun i hi => ?_, fun i hi => ?_⟩, fun i hi => ?_, fun i hi => ?_⟩, fun i hi => (g2 i hi).trans (g1 i hi)⟩
  · rw [zsi_off (by omega), zsi_off (by omega)]; exact y1
  · rw [zsi_off (by omega)]; exact y2 i hi
  · by_cases q : 172 + 6 * i = j
    · subst q; rw [zsi_ej]; exact y2 i hi
    · rw [zsi_off (by omega)]; exact y3 i hi
  · rw [zsi_off (by omega)]; exact y4 i hi
  · by_cases q : 281 + 3 * i = j
    · subst q; rw [zsi_ej]; exact y4 i hi
    · rw [zsi_off (by omega)]; exact y5 i hi
theorem zEM.c3 {j : Nat} (h : zEM l G σ) (hj : 0 ≤ j ∧ j ≤ 1047) (c : ((zWc sM [] zQM 12 3 && zWz zZM l 3 0 1047) && Nat.ble zZM.length 100) = true) : zEM l G (zsi σ 3 j (zgi σ 12 j)) := by
  obtain ⟨G1, h1, g1⟩ := h
  obtain ⟨G2, h2, g2⟩ := zIV_c1e 0 1047 hj h1.1 c
  obtain ⟨y1, ⟨y2, y3⟩, y4, y5⟩ := h1.2
  refine ⟨G2, ⟨h2, ?_, ⟨fun i hi => ?_, fun i hi => ?_⟩, fun i hi => ?_, fun i hi => ?_⟩, fun i hi => (g2 i hi).trans (g1 i hi)⟩
  · rw [zsi_off (by omega), zsi_off (by omega)]; exact y1
  · by_cases q : 172 + 6 * i = j
    · subst q; rw [zsi_ej]; exact y3 i hi
    · rw [zsi_off (by omega)]; exact y2 i hi
  · rw [zsi_off (by omega)]; exact y3 i hi
  · by_cases q : 281 + 3 * i = j
    · subst q; rw [zsi_ej]; exact y5 i hi
    · rw [zsi_off (by omega)]; exact y4 i hi
  · rw [zsi_off (by omega)]; exact y5 i hi
theorem zIM.lva {j : Nat} {v : Int32} {lo hi : Int} (h : zIM G σ) (hj : 172 ≤ j ∧ j ≤ 279) (hv : zr lo hi v) (c : 0 ≤ lo ∧ hi ≤ 127) : zIM G (zsi σ 3 j v) := by
  obtain ⟨y1, ⟨y2, y3⟩, y4, y5⟩ := h.2
  refine ⟨zIV_i 172 279 h.1 hj (zr_any (x := v)) (by decide +kernel), ?_, ⟨fun i hi => ?_, fun i hi => ?_⟩, fun i hi => ?_, fun i hi => ?_⟩
  · rw [zsi_off (by omega), zsi_off (by omega)]; exact y1
  · by_cases q : 172 + 6 * i = j
    · rw [q, zsi_ej]; exact zr_w hv c
    · rw [zsi_off (by omega)]; exact y2 i hi
  · rw [zsi_off (by omega)]; exact y3 i hi
  · rw [zsi_off (by omega)]; exact y4 i hi
  · rw [zsi_off (by omega)]; exact y5 i hi
theorem zEM.lva {j : Nat} {v : Int32} {lo hi : Int} (h : zEM l G σ) (hj : 172 ≤ j ∧ j ≤ 279) (hv : zr lo hi v) (c : 0 ≤ lo ∧ hi ≤ 127) : zEM l G (zsi σ 3 j v) := h.lift (fun _ h1 => h1.lva hj hv c)
theorem zIM.sh {j j3 : Nat} (h : zIM G σ) (hj : 280 ≤ j ∧ j3 = j + 3 ∧ j3 ≤ 1047) : zIM G (zsi σ 3 j (zgi σ 3 j3)) := by
  obtain ⟨y1, ⟨y2, y3⟩, y4, y5⟩ := h.2
  refine ⟨zIV_i 280 1047 h.1 (by omega) zr_any (by decide +kernel), ?_, ⟨fun i hi => ?_, fun i hi => ?_⟩, fun i hi => ?_, fun i hi => ?_⟩
  · rw [zsi_off (by omega), zsi_off (by omega)]; exact y1
  · rw [zsi_off (by omega)]; exact y2 i hi
  · rw [zsi_off (by omega)]; exact y3 i hi
  · by_cases q : 281 + 3 * i = j
    · have e := y4 (i + 1) (by omega)
      rw [show 281 + 3 * (i + 1) = j3 by omega] at e
      rw [q, zsi_ej]; exact e
    · rw [zsi_off (by omega)]; exact y4 i hi
  · rw [zsi_off (by omega)]; exact y5 i hi
end ZSM
theorem rM_lv {σ : zSt} {x : Int32} (h : zYM σ) (t : zat 0 x) : zr 0 127 (zgi σ 3 x.toNatClampNeg) := by
  obtain ⟨n, hn, e⟩ := t
  have ex : x.toNatClampNeg = 172 + 6 * n := by have : x.toNatClampNeg = x.toInt.toNat := rfl; omega
  rw [ex]; exact h.2.1.1 n hn
theorem rM_bk {σ : zSt} {lo hi : Int} (h : zYM σ) (hs : zSg sM σ) (hp : zr lo hi (zgi σ 0 7)) (c : 1 ≤ lo) : zr 1 16 (zgi σ 0 6) := by
  have hb := rM_3 hs 6 (by decide)
  obtain ⟨p1, p2⟩ := hp
  rcases h.1 with q | q
  · exfalso
    have : (zgi σ 0 7).toInt = 0 := q
    omega
  · exact ⟨q, hb.2⟩
theorem rM_g4 {G : Nat → Int} {σ : zSt} (h : zIM G σ) (g : 0 ≤ G 104 ∧ G 104 ≤ 1152921504606846976) : zrl 0 1152921504606846976 (zgl σ 4 4) := by
  have e : (σ.2 4 4).toInt = G 104 := h.fl 4 (4, 4) rfl
  exact ⟨by show 0 ≤ (σ.2 4 4).toInt; omega, by show (σ.2 4 4).toInt ≤ _; omega⟩
theorem z_odd64 {x : Int32} {a b : Int} (h : zr a b x) (q : zr 1 1 (zrem x 2)) (c : 0 ≤ a) : zr 1 63 (zrem x 64) := by
  have e2 := z_trem (y := 2) 2 (by decide) h ⟨c, by decide⟩
  have e6 := z_trem (y := 64) 64 (by decide) h ⟨c, by decide⟩
  have q1 := q.1
  rw [e2] at q1
  unfold zr; rw [e6]; omega
theorem zt11_r (j : Nat) : zr (0) (2137) (zt11 j) := by
  unfold zt11
  exact z_getD (P := fun x : Int32 => 0 ≤ x.toInt ∧ x.toInt ≤ 2137) (by decide +kernel) (by decide) j
theorem z_nat {x : Int32} {b : Int} (h : zr 0 b x) : x = Int32.ofNat x.toInt.toNat := by
  have h1 := h.1
  have h2 := (zr_any (x := x)).2
  apply Int32.toInt_inj.mp
  rw [Int32.toInt_ofNat_of_lt (by omega)]; omega
theorem z_m3 {x1 x2 v4 : Int32} (h1 : zr 0 7 x1) (h2 : zr 4 7 x2) (e : v4 = x1 >>> ((1 : Int32) &&& 31)) (q4 : ¬ x2 = 4) (q6 : ¬ x2 = 6) (q7 : ¬ x2 = 7) (q0 : ¬ zrem x1 2 = 0) (qa : ¬ v4 = 0) (qb : ¬ v4 = 2) : x2 = 5 ∧ (x1 = 3 ∨ x1 = 7) := by
  have k : ∀ i j : Fin 8, 4 ≤ j.val → ¬ Int32.ofNat j.val = 4 → ¬ Int32.ofNat j.val = 6 → ¬ Int32.ofNat j.val = 7 → ¬ zrem (Int32.ofNat i.val) 2 = 0 → ¬ (Int32.ofNat i.val) >>> ((1 : Int32) &&& 31) = 0 → ¬ (Int32.ofNat i.val) >>> ((1 : Int32) &&& 31) = 2 → Int32.ofNat j.val = 5 ∧ (Int32.ofNat i.val = 3 ∨ Int32.ofNat i.val = 7) := by decide +kernel
  have a1 := h1.2
  have a2 := h2.1
  have a3 := h2.2
  have a0 := h1.1
  have e1 := z_nat h1
  have e2 := z_nat (zr_w (lo := 0) (hi := 7) h2 (by decide))
  rw [e] at qa qb
  rw [e1] at q0 qa qb ⊢
  rw [e2] at q4 q6 q7 ⊢
  exact k ⟨x1.toInt.toNat, by omega⟩ ⟨x2.toInt.toNat, by omega⟩ (by show 4 ≤ x2.toInt.toNat; omega) q4 q6 q7 q0 qa qb
theorem z_m3b {x1 v1 v2 : Int32} (h : zr 0 255 x1) (e1 : v1 = (x1 >>> ((3 : Int32) &&& 31)) &&& 7) (e2 : v2 = x1 &&& 7) (q0 : ¬ x1 >>> ((6 : Int32) &&& 31) = 0) (q1 : ¬ x1 >>> ((6 : Int32) &&& 31) = 1) (q2 : ¬ x1 >>> ((6 : Int32) &&& 31) = 2) (n : ¬ x1 = 221 ∧ ¬ x1 = 253) : ¬ (v2 = 5 ∧ (v1 = 3 ∨ v1 = 7)) := by
  have k : ∀ i : Fin 256, ¬ (Int32.ofNat i.val) >>> ((6 : Int32) &&& 31) = 0 → ¬ (Int32.ofNat i.val) >>> ((6 : Int32) &&& 31) = 1 → ¬ (Int32.ofNat i.val) >>> ((6 : Int32) &&& 31) = 2 → (¬ Int32.ofNat i.val = 221 ∧ ¬ Int32.ofNat i.val = 253) → ¬ ((Int32.ofNat i.val) &&& 7 = 5 ∧ (((Int32.ofNat i.val) >>> ((3 : Int32) &&& 31)) &&& 7 = 3 ∨ ((Int32.ofNat i.val) >>> ((3 : Int32) &&& 31)) &&& 7 = 7)) := by decide +kernel
  have a1 := h.2
  have a0 := h.1
  have e := z_nat h
  rw [e1, e2]
  rw [e] at q0 q1 q2 n ⊢
  exact k ⟨x1.toInt.toNat, by omega⟩ q0 q1 q2 n
theorem z_l142 {v x : Int32} {M a b : Int} (e : v = 2 * x + 16) (h : zr a b x) (c : 8176 ≤ a ∧ b ≤ 32767) (hM : 65550 - x.toInt ≤ M) : 65550 - v.toInt < M := by
  have h := zr_w (lo := 8176) (hi := 32767) h c
  have k2 : zr 2 2 (2 : Int32) := zr_c (by decide)
  have k16 : zr 16 16 (16 : Int32) := zr_c (by decide)
  have e1 := z_tmul k2 h (by decide)
  have r1 := zr_mul (lo := 16352) (hi := 65534) k2 h (by decide)
  have e2 := z_tadd r1 k16 (by decide)
  rw [e1, show (2 : Int32).toInt = 2 from rfl, show (16 : Int32).toInt = 16 from rfl] at e2
  have b1 := h.1
  rw [e, e2]; omega
theorem zkC70_r (j : Nat) (h : j < 288) : zr (48) (102) (zkC 70 j) := by
  have k : ∀ i : Fin 288, 48 ≤ (zkC 70 i.val).toInt ∧ (zkC 70 i.val).toInt ≤ 102 := by decide +kernel
  exact k ⟨j, h⟩
theorem zok_within {α : Type} {σ : zSt} {a l h : Int64} {f : zSt → Int32 → Option α} {P : α → Prop} (k1 : l.toInt ≤ a.toInt → a.toInt ≤ h.toInt → zok (f σ 1) P) (k0 : (a.toInt < l.toInt ∨ h.toInt < a.toInt) → zok (f σ 0) P) : zok (zbi (fX12_within σ a l h) f) P := by
  unfold fX12_within
  by_cases q1 : lg_cmp a l < 0
  · rw [if_pos q1]; exact k0 (Or.inl (z_cmp_lt.mp q1))
  · rw [if_neg q1]
    by_cases q2 : 0 < lg_cmp a h
    · rw [if_pos q2]; exact k0 (Or.inr (z_cmp_gt.mp q2))
    · rw [if_neg q2]
      exact k1 (Int.not_lt.mp (fun r => q1 (z_cmp_lt.mpr r))) (Int.not_lt.mp (fun r => q2 (z_cmp_gt.mpr r)))
theorem z_wir {x : Int32} {l h : Int64} {a b c d : Int} (w1 : l.toInt ≤ x.toInt64.toInt) (w2 : x.toInt64.toInt ≤ h.toInt) (pl : zrl a b l) (ph : zrl c d h) : zr a d x := by
  rw [Int32.toInt_toInt64] at w1 w2
  exact ⟨Int.le_trans pl.1 w1, Int.le_trans w2 ph.2⟩
theorem zok_fails0 {α : Type} {σ : zSt} {c : Int32} {f : zSt → Int32 → Option α} {P : α → Prop} {I : zSt → Prop} (hi : I (zsi σ 0 0 0)) (k : ∀ σ1, σ1 = zsi σ 0 0 0 → I σ1 → zok (f σ1 0) P) : zok (zbi (fX12_fails σ 0 c) f) P := by
  unfold fX12_fails
  rw [if_pos rfl]
  exact k _ rfl hi
theorem zok_fails1 {α : Type} {σ : zSt} {c : Int32} {f : zSt → Int32 → Option α} {P : α → Prop} {I : zSt → Prop} (hi : I (zsi σ 0 0 c)) (k : ∀ σ1, σ1 = zsi σ 0 0 c → I σ1 → zok (f σ1 1) P) : zok (zbi (fX12_fails σ 1 c) f) P := by
  unfold fX12_fails
  rw [if_neg (by decide)]
  exact k _ rfl hi
theorem zok_isBat {α : Type} {σ : zSt} {x : Int32} {f : zSt → Int32 → Option α} {P : α → Prop} (k1 : zr 32768 49151 x → zok (f σ 1) P) (k0 : zok (f σ 0) P) : zok (zbi (fX12_isBattery σ x) f) P := by
  unfold fX12_isBattery
  have c1 : (32768 : Int32).toInt = 32768 := rfl
  have c2 : (49152 : Int32).toInt = 49152 := rfl
  by_cases q1 : zgi σ 0 7 = 1
  · rw [if_pos q1]
    show zok (zbi (if ((zgi σ 3 (32 : Int32).toNatClampNeg) &&& 8) = 0 then fX12_isBattery_37 σ else if x < 32768 then fX12_isBattery_37 σ else if 49152 ≤ x then fX12_isBattery_37 σ else fX12_isBattery_38 σ 1) f) P
    by_cases q2 : ((zgi σ 3 (32 : Int32).toNatClampNeg) &&& 8) = 0
    · rw [if_pos q2]; exact k0
    · rw [if_neg q2]
      by_cases q3 : x < 32768
      · rw [if_pos q3]; exact k0
      · rw [if_neg q3]
        by_cases q4 : 49152 ≤ x
        · rw [if_pos q4]; exact k0
        · rw [if_neg q4]
          have a1 := Int32.le_iff_toInt_le.mp (z_nlt q3)
          have a2 := Int32.lt_iff_toInt_lt.mp (z_nle q4)
          exact k1 ⟨by omega, by omega⟩
  · rw [if_neg q1]; exact k0
noncomputable def zMtu (I : zSt → Prop) (b : Int) (r : zSt) : Prop := I r ∧ (zgi r 0 39).toInt ≤ b
noncomputable def zMti (I : zSt → Prop) (b : Int) (Q : Int32 → Prop) (r : zSt × Int32) : Prop := I r.1 ∧ (zgi r.1 0 39).toInt ≤ b ∧ Q r.2
theorem zok_mu {α : Type} {o : Option zSt} {f : zSt → Option α} {I : zSt → Prop} {b : Int} {P : α → Prop} (h : zok o (zMtu I b)) (k : ∀ σ, I σ → (zgi σ 0 39).toInt ≤ b → zok (f σ) P) : zok (zbu o f) P := zok_bu h (fun σ q => k σ q.1 q.2)
theorem zok_mi {α : Type} {o : Option (zSt × Int32)} {f : zSt → Int32 → Option α} {I : zSt → Prop} {b : Int} {Q : Int32 → Prop} {P : α → Prop} (h : zok o (zMti I b Q)) (k : ∀ σ v, I σ → (zgi σ 0 39).toInt ≤ b → Q v → zok (f σ v) P) : zok (zbi o f) P := zok_bi h (fun σ v q => k σ v q.1 q.2.1 q.2.2)
theorem zok_smu {I : zSt → Prop} {b : Int} {σ : zSt} (hi : I σ) (h : (zgi σ 0 39).toInt ≤ b) : zok (some σ) (zMtu I b) := ⟨_, rfl, hi, h⟩
theorem zok_smi {I : zSt → Prop} {b : Int} {Q : Int32 → Prop} {σ : zSt} {v : Int32} (hi : I σ) (h : (zgi σ 0 39).toInt ≤ b) (hq : Q v) : zok (some (σ, v)) (zMti I b Q) := ⟨_, rfl, hi, h, hq⟩
theorem zok_wmu {o : Option zSt} {I : zSt → Prop} {b b1 : Int} (h : zok o (zMtu I b)) (c : b ≤ b1) : zok o (zMtu I b1) := zok_mono h (fun r q => ⟨q.1, Int.le_trans q.2 c⟩)
theorem zok_pmu {o : Option zSt} {I : zSt → Prop} {b : Int} {σ : zSt} (hi : I σ) (c : (zgi σ 0 39).toInt ≤ b) (h : zok o (zPu σ)) : zok o (zMtu I b) := zok_mono h (fun r q => by cases q; exact ⟨hi, c⟩)
theorem z_k39 {σ σ1 : zSt} {k j : Nat} {v : Int32} (e : σ1 = zsi σ k j v) (c : ¬ (0 = k ∧ 39 = j)) : (zgi σ1 0 39).toInt = (zgi σ 0 39).toInt := by
  subst e
  unfold zgi
  rw [zsi_off c]
theorem z_kd {n : Nat} {l : List Nat} {d : Nat} (h : n ∈ l) (c : l.all (fun i => Nat.ble (zkL i) d) = true) : ((zkL n : Nat) : Int) ≤ (d : Int) := by
  rw [List.all_eq_true] at c
  exact Int.ofNat_le.mpr (Nat.le_of_ble_eq_true (c n h))
theorem zIM.wg {G : Nat → Int} {σ : zSt} {k j : Nat} {v : Int32} {lo hi : Int} (i : Nat) (h : zIM G σ) (hi100 : i < 100) (hz : ∀ n, n < zZM.length → (zZM[n]? = some (k, j) ↔ n = i)) (hv : zr lo hi v) (c : (zWi sM [] zQM k j j lo hi && zOM k j j) = true) : zIM (zset G i v.toInt) (zsi σ k j v) := by
  rw [Bool.and_eq_true] at c
  exact ⟨zIV_g i h.1 hi100 hz hv c.1, h.2.w ⟨Nat.le_refl _, Nat.le_refl _⟩ c.2⟩
theorem zIM.wgl {G : Nat → Int} {σ : zSt} {k j : Nat} {v : Int64} (i : Nat) (h : zIM G σ) (hz : ∀ n, n < zLM.length → (zLM[n]? = some (k, j) ↔ n = i)) : zIM (zset G (100 + i) v.toInt) (zsl σ k j v) := ⟨zIV_gl i h.1 (by decide) hz, h.2⟩
theorem zIM.g {G G1 : Nat → Int} {σ : zSt} (h : zIM G σ) (e : ∀ i, G1 i = G i) : zIM G1 σ := by
  have : G1 = G := funext e
  rw [this]; exact h
/-- the cell of a number of Z, of ZL -/
theorem zIM.at {G : Nat → Int} {σ : zSt} (h : zIM G σ) (i : Nat) {k j : Nat} (hz : zZM[i]? = some (k, j)) : (zgi σ k j).toInt = G i := h.fz i (k, j) hz
theorem zIM.atl {G : Nat → Int} {σ : zSt} (h : zIM G σ) (i : Nat) {k j : Nat} (hz : zLM[i]? = some (k, j)) : (zgl σ k j).toInt = G (100 + i) := h.fl i (k, j) hz
theorem rM_g5 {G : Nat → Int} {σ : zSt} (h : zIM G σ) (g : 1 ≤ G 5 ∧ G 5 ≤ 536870912) : zr 1 536870912 (zgi σ 3 (168 : Int32).toNatClampNeg) := by
  have e : (zgi σ 3 168).toInt = G 5 := h.at 5 rfl
  exact ⟨by show 1 ≤ (zgi σ 3 168).toInt; omega, by show (zgi σ 3 168).toInt ≤ _; omega⟩
noncomputable def zln (G : Nat → Int) : Int := if G 1 = 1 then 313 else 262
theorem zln_b (G : Nat → Int) : 262 ≤ zln G ∧ zln G ≤ 313 := by unfold zln; split <;> omega
theorem zln_c {G G1 : Nat → Int} (h : G1 1 = G 1) : zln G1 = zln G := by unfold zln; rw [h]
theorem zset_id {G : Nat → Int} {i : Nat} : zset G i (G i) = G := by
  funext j
  unfold zset
  by_cases h : j = i
  · rw [if_pos h, h]
  · rw [if_neg h]
theorem zset_set {G : Nat → Int} {i : Nat} {a b : Int} : zset (zset G i a) i b = zset G i b := by
  funext j
  unfold zset
  by_cases h : j = i
  · rw [if_pos h, if_pos h]
  · rw [if_neg h, if_neg h, if_neg h]
theorem zset_com {G : Nat → Int} {i k : Nat} {a b : Int} (n : ¬ i = k) : zset (zset G i a) k b = zset (zset G k b) i a := by
  funext j
  unfold zset
  by_cases h : j = k
  · rw [if_pos h, if_neg (fun r => n (r.symm.trans h)), if_pos h]
  · rw [if_neg h]
    by_cases h1 : j = i
    · rw [if_pos h1, if_pos h1]
    · rw [if_neg h1, if_neg h1, if_neg h]
noncomputable def zJ (b c : Int) : Prop := 16 * (b / 16) - 81 * (b / 81) ≤ 16 * c + 34
theorem zsi_two {σ σ1 : zSt} {k j : Nat} {a b : Int32} (e : σ1 = zsi σ k j a) : zsi σ1 k j b = zsi σ k j b := by
  subst e
  refine Prod.ext (funext fun k1 => funext fun j1 => ?_) rfl
  rw [zsi_at, zsi_at, zsi_at]
  by_cases h : k1 = k ∧ j1 = j
  · rw [if_pos h, if_pos h]
  · rw [if_neg h, if_neg h, if_neg h]
noncomputable def zEnd (G : Nat → Int) : Nat → Int := if G 3 + 1 = zln G then zset (zset (zset G 3 (G 3 + 1)) 3 0) 101 (G 101 + 1) else zset G 3 (G 3 + 1)
noncomputable def zEh (G : Nat → Int) : Prop := (0 ≤ G 3 ∧ G 3 < zln G) ∧ (0 ≤ G 101 ∧ G 101 ≤ 1125899906842624)
noncomputable def zGJ (G : Nat → Int) : Prop := (0 ≤ G 100 ∧ G 100 ≤ 1125899906842624) ∧ (0 ≤ G 103 ∧ G 103 ≤ 1125899906842624) ∧ (0 ≤ G 104 ∧ G 104 ≤ 1125899906842624) ∧ (0 ≤ G 101 ∧ G 101 ≤ 1125899906842624) ∧ (0 ≤ G 3 ∧ G 3 < zln G) ∧ (0 ≤ G 4 ∧ G 4 ≤ 227) ∧ (0 ≤ G 5 ∧ G 5 ≤ 268435456) ∧ zJ (G 100) (G 5)
noncomputable def zph (G : Nat → Int) : Int := 228 * ((if G 1 = 1 then 313 * G 101 else 262 * G 101) + G 3) + G 4
noncomputable def zRel (G G1 : Nat → Int) (b : Int) : Prop := (4 ≤ b ∧ b ≤ 35) ∧ G1 100 = G 100 + b ∧ (G 104 ≤ G1 104 ∧ G1 104 ≤ G 104 + 1) ∧ (0 ≤ G1 5 ∧ G1 5 ≤ G 5 + 3) ∧ zJ (G1 100) (G1 5) ∧ (0 ≤ G1 3 ∧ G1 3 < zln G1) ∧ (0 ≤ G1 4 ∧ G1 4 ≤ 227) ∧ zph G1 = zph G + b ∧ (G 101 ≤ G1 101 ∧ G1 101 ≤ G 101 + 1) ∧ (∀ i, i ∈ [0, 1, 2, 6, 7, 8, 9, 102, 103, 105, 106] → G1 i = G i)
noncomputable def zOnce (G : Nat → Int) (r : zSt) : Prop := ∃ G1 b, zIM G1 r ∧ zRel G G1 b
theorem z_s168 {G : Nat → Int} {σ : zSt} (h : zIM G σ) (g : 0 ≤ G 5 ∧ G 5 ≤ 536870912) : zIM (zset G 5 (G 5 + 1)) (zsi σ 3 (168 : Int32).toNatClampNeg ((zgi σ 3 (168 : Int32).toNatClampNeg) + 1)) := by
  have e : (zgi σ 3 (168 : Int32).toNatClampNeg).toInt = G 5 := h.at 5 (by decide)
  have c1 : (1 : Int32).toInt = 1 := rfl
  have t : (zgi σ 3 (168 : Int32).toNatClampNeg + 1).toInt = G 5 + 1 := by
    rw [z_tadd (a := 0) (b := 536870912) (x := zgi σ 3 (168 : Int32).toNatClampNeg) (y := 1) ⟨by omega, by omega⟩ (zr_c (lo := 1) (hi := 1) (x := 1) (by decide)) (by decide), e, c1]
  rw [← t]
  exact h.wg 5 (by decide) (by decide) zr_any (by decide +kernel)
theorem z_w44 {G : Nat → Int} {σ : zSt} (h : zIM G σ) (g : 0 ≤ G 104 ∧ G 104 ≤ 1125899906842624) : zIM (zset G 104 (G 104 + 1)) (zsl σ 4 (4 : Int32).toNatClampNeg ((zgl σ 4 (4 : Int32).toNatClampNeg) + 1)) := by
  have e : (zgl σ 4 (4 : Int32).toNatClampNeg).toInt = G 104 := h.atl 4 (by decide)
  have c1 : (1 : Int64).toInt = 1 := rfl
  have t : (zgl σ 4 (4 : Int32).toNatClampNeg + 1).toInt = G 104 + 1 := by
    rw [z_tladd (a := 0) (b := 1125899906842624) (x := zgl σ 4 (4 : Int32).toNatClampNeg) (y := 1) ⟨by omega, by omega⟩ (zrl_c (lo := 1) (hi := 1) (x := 1) (by decide)) (by decide), e, c1]
  rw [← t]
  exact h.wgl 4 (by decide)
theorem z_beat {G : Nat → Int} {σ : zSt} (h : zIM G σ) (g : 0 ≤ G 100 ∧ G 100 ≤ 2251799813685248) (c : Int64) (d : Int) (hc : c.toInt = d) (hd : 0 < d) : ((zgl σ 4 (0 : Int32).toNatClampNeg) / c).toInt = G 100 / d := by
  have e : (zgl σ 4 (0 : Int32).toNatClampNeg).toInt = G 100 := h.atl 0 (by decide)
  rw [z_tldiv (a := 0) (b := 2251799813685248) d hc (x := zgl σ 4 (0 : Int32).toNatClampNeg) ⟨by omega, by omega⟩ ⟨by decide, hd⟩, e]
noncomputable def zMix (G : Nat → Int) (x5 : Int64) (r : zSt) : Prop := (x5.toInt = G 100 / 81 ∧ zIM G r) ∨ (x5.toInt + 1 = G 100 / 81 ∧ zIM (zset G 5 0) r)
noncomputable def zWvs (G : Nat → Int) (x3 : Int64) (r : zSt) : Prop := ∃ w, (w = G 104 ∨ w = G 104 + 1) ∧ ((x3.toInt / 81 = G 100 / 81 ∧ zIM (zset G 104 w) r) ∨ (x3.toInt / 81 + 1 = G 100 / 81 ∧ zIM (zset (zset G 104 w) 5 0) r))
noncomputable def zEnT (G : Nat → Int) (r : zSt) : Prop := ∃ w c, (w = G 104 ∨ w = G 104 + 1) ∧ (0 ≤ c ∧ c ≤ G 5 + 3) ∧ zJ (G 100) c ∧ zIM (zset (zset G 104 w) 5 c) r
end ZJN12
section ZJN13
theorem s_feed_h {G : Nat → Int} {x1 : Int32} {x2 x4 x6 : Int64} (h1 : zr 1 24 x1) : ∀ (n : Nat) {σ : zSt} (hσ : zEM [0] G σ) {x8 : Int32} (h8 : zr 0 24 x8) (ht : (zgi σ 0 2).toInt + (x1.toInt - x8.toInt) ≤ 262656) (hm : 24 - x8.toInt < n), zok (fX12_feed_54 n σ x1 x2 x4 x6 x8) (zAi (zEM [0] G) (fun v : Int32 => zr (0) (262656) v)) := by
  intro n
  induction n with
  | zero => intro σ hσ x8 h8 ht hm; have := h8.2; exfalso; omega
  | succ n ih =>
    intro σ hσ x8 h8 ht hm
    show zok (fX12_feed_54_body (fX12_feed_54 n) σ x1 x2 x4 x6 x8) _
    unfold fX12_feed_54_body
    have hT : zr 0 262656 (zgi σ 0 2) := rM_0 hσ.sg 2 (by decide)
    refine zok_if (fun q => zok_sai hσ hT) (fun q => ?_)
    have q1 := Int32.lt_iff_toInt_lt.mp (z_nle q)
    have a1 : zr 1 1 (1 : Int32) := zr_c (by decide)
    have c1 : (1 : Int32).toInt = 1 := rfl
    have k : ∀ s0 : Int64, zok (fX12_feed_93 (fX12_feed_54 n) σ x1 x2 x4 x6 x8 s0 (zgi σ 0 2)) (zAi (zEM [0] G) (fun v : Int32 => zr (0) (262656) v)) := fun s0 => by
      unfold fX12_feed_93
      have t1 : zr 0 262655 (zgi σ 0 2) := ⟨hT.1, by omega⟩
      refine zok_ck rfl (zok_ck (zin_ok t1 (by decide)) ?_)
      refine zok_bs (I := zEM [0] G) (hσ.wk (by decide +kernel)) (fun σ1 e1 i1 => ?_)
      have k1 : zgi σ1 0 2 = zgi σ 0 2 := by subst e1; unfold zgi; rw [zsi_off (fun h => absurd h.1 (by decide))]
      have t2 : zr 0 262655 (zgi σ1 0 2) := by rw [k1]; exact t1
      have t4 : (zgi σ1 0 2 + 1).toInt = (zgi σ1 0 2).toInt + (1 : Int32).toInt := z_tadd t2 a1 (by decide)
      refine zok_bs (I := zEM [0] G) (i1.wi 2 2 (by decide) (zr_add (lo := 1) (hi := 262656) t2 a1 (by decide)) (by decide +kernel)) (fun σ2 e2 i2 => ?_)
      have k2 : (zgi σ2 0 2).toInt = (zgi σ 0 2).toInt + 1 := by
        rw [← k1, ← c1, ← t4, e2]; unfold zgi; rw [zsi_ej]
      have t3 : (x8 + 1).toInt = x8.toInt + (1 : Int32).toInt := z_tadd h8 a1 (by decide)
      have b8 := h8.1
      have b9 := h1.2
      refine zok_bv (fun v3 e3 => ?_)
      subst e3
      exact ih i2 ⟨by omega, by omega⟩ (by omega) (by omega)
    exact zok_if (fun _ => zok_if (fun _ => k _) (fun _ => k _)) (fun _ => k _)
theorem s_X12_feed {G : Nat → Int} {σ : zSt} (hσ : zEM [0] G σ) {x1 : Int32} {x2 : Int64} {x4 : Int64} {x6 : Int64} : zok (fX12_feed σ x1 x2 x4 x6) (zAi (zEM [0] G) (fun v : Int32 => zr (0) (262656) v)) := by
  have z9 : ∀ σ1, zEM [0] G σ1 → zok (fX12_feed_49 σ1) (zAi (zEM [0] G) (fun v : Int32 => zr (0) (262656) v)) := fun σ1 i1 => zok_sai i1 (zr_c (by decide))
  unfold fX12_feed
  refine zok_within (fun w1 w2 => ?_) (fun w3 => ?_)
  · have h1 := z_wir w1 w2 (zrl_c (lo := 1) (hi := 1) (by decide)) (zrl_c (lo := 24) (hi := 24) (by decide))
    refine zok_if (fun q => absurd q (by decide)) (fun _ => ?_)
    unfold fX12_feed_18
    refine zok_fails0 (I := zEM [0] G) (hσ.wi 0 0 (by decide) zr_any (by decide +kernel)) (fun σ1 e1 i1 => ?_)
    refine zok_if (fun _ => ?_) (fun q => absurd rfl q)
    have hT : zr 0 262656 (zgi σ1 0 2) := rM_0 i1.sg 2 (by decide)
    refine zok_if (fun q => ?_) (fun q => ?_)
    · unfold fX12_feed_42
      refine zok_fails0 (I := zEM [0] G) (i1.wi 0 0 (by decide) zr_any (by decide +kernel)) (fun σ2 e2 i2 => ?_)
      refine zok_if (fun _ => ?_) (fun q => absurd rfl q)
      have q1 := Int32.le_iff_toInt_le.mp q
      have t : (zgi σ1 0 2 + x1).toInt = (zgi σ1 0 2).toInt + x1.toInt := z_tadd hT h1 (by decide)
      have k2 : zgi σ2 0 2 = zgi σ1 0 2 := by subst e2; unfold zgi; rw [zsi_off (by decide)]
      have c2 : (262656 : Int32).toInt = 262656 := rfl
      have c0 : (0 : Int32).toInt = 0 := rfl
      exact s_feed_h h1 zfuel i2 (zr_c (by decide)) (by rw [k2, c0]; omega) (by decide)
    · unfold fX12_feed_42
      refine zok_fails1 (I := zEM [0] G) (i1.wi 0 0 (by decide) zr_any (by decide +kernel)) (fun σ2 e2 i2 => ?_)
      exact zok_if (fun q => absurd q (by decide)) (fun _ => z9 _ i2)
  · refine zok_if (fun _ => ?_) (fun q => absurd rfl q)
    unfold fX12_feed_18
    refine zok_fails1 (I := zEM [0] G) (hσ.wi 0 0 (by decide) zr_any (by decide +kernel)) (fun σ1 e1 i1 => ?_)
    exact zok_if (fun q => absurd q (by decide)) (fun _ => z9 _ i1)
theorem s_grow_h {G : Nat → Int} {x1 x2 : Int32} (h1 : zr 0 262656 x1) (h2 : zr 1 262656 x2) : ∀ (n : Nat) {σ : zSt} (hσ : zEM [0] G σ) (hm : 262656 - (zgi σ 0 2).toInt < n), zok (fX12_grow_54 n σ x1 x2) (zAi (zEM [0] G) (fun v : Int32 => zr (0) (262656) v)) := by
  intro n
  induction n with
  | zero =>
    intro σ hσ hm
    have hT : zr 0 262656 (zgi σ 0 2) := rM_0 hσ.sg 2 (by decide)
    have := hT.2
    exfalso; omega
  | succ n ih =>
    intro σ hσ hm
    show zok (fX12_grow_54_body (fX12_grow_54 n) σ x1 x2) _
    unfold fX12_grow_54_body
    have hT : zr 0 262656 (zgi σ 0 2) := rM_0 hσ.sg 2 (by decide)
    refine zok_if (fun q => zok_sai hσ (zr_w h2 (by decide))) (fun q => ?_)
    · have q1 := Int32.lt_iff_toInt_lt.mp (z_nle q)
      have a1 : zr 1 1 (1 : Int32) := zr_c (by decide)
      have c1 : (1 : Int32).toInt = 1 := rfl
      have b1 := h1.2
      have t1 : zr 0 262655 (zgi σ 0 2) := ⟨hT.1, by omega⟩
      refine zok_ck (zdv_ok h2 (by decide)) (zok_ck (zin_ok (zr_remv (lo := 0) (hi := 262655) t1 h2 (by decide)) (by decide)) (zok_ck (zin_ok t1 (by decide)) ?_))
      refine zok_bs (I := zEM [0] G) (hσ.wk (by decide +kernel)) (fun σ1 e1 i1 => ?_)
      have k1 : zgi σ1 0 2 = zgi σ 0 2 := by subst e1; unfold zgi; rw [zsi_off (fun h => absurd h.1 (by decide))]
      have t2 : zr 0 262655 (zgi σ1 0 2) := by rw [k1]; exact t1
      have t4 : (zgi σ1 0 2 + 1).toInt = (zgi σ1 0 2).toInt + (1 : Int32).toInt := z_tadd t2 a1 (by decide)
      refine zok_bs (I := zEM [0] G) (i1.wi 2 2 (by decide) (zr_add (lo := 1) (hi := 262656) t2 a1 (by decide)) (by decide +kernel)) (fun σ2 e2 i2 => ?_)
      have k2 : (zgi σ2 0 2).toInt = (zgi σ 0 2).toInt + 1 := by
        rw [← k1, ← c1, ← t4, e2]; unfold zgi; rw [zsi_ej]
      exact ih i2 (by omega)
theorem s_X12_grow {G : Nat → Int} {σ : zSt} (hσ : zEM [0] G σ) {x1 : Int32} : zok (fX12_grow σ x1) (zAi (zEM [0] G) (fun v : Int32 => zr (0) (262656) v)) := by
  have z9 : ∀ σ1, zEM [0] G σ1 → zok (fX12_grow_47 σ1) (zAi (zEM [0] G) (fun v : Int32 => zr (0) (262656) v)) := fun σ1 i1 => zok_sai i1 (zr_c (by decide))
  have z15 : zok (fX12_grow_15 σ x1) (zAi (zEM [0] G) (fun v : Int32 => zr (0) (262656) v)) := by
    unfold fX12_grow_15 fX12_grow_20
    refine zok_fails1 (I := zEM [0] G) (hσ.wi 0 0 (by decide) zr_any (by decide +kernel)) (fun σ1 e1 i1 => ?_)
    exact zok_if (fun q => absurd q (by decide)) (fun _ => z9 _ i1)
  unfold fX12_grow
  refine zok_if (fun _ => z15) (fun q => ?_)
  refine zok_if (fun q2 => ?_) (fun _ => z15)
  have hT0 : zr 0 262656 (zgi σ 0 2) := rM_0 hσ.sg 2 (by decide)
  have q1 := Int32.le_iff_toInt_le.mp (z_nlt q)
  have q3 := Int32.le_iff_toInt_le.mp q2
  have c2 : (262656 : Int32).toInt = 262656 := rfl
  have b0 := hT0.1
  have h1 : zr 0 262656 x1 := ⟨by omega, by omega⟩
  unfold fX12_grow_20
  refine zok_fails0 (I := zEM [0] G) (hσ.wi 0 0 (by decide) zr_any (by decide +kernel)) (fun σ1 e1 i1 => ?_)
  refine zok_if (fun _ => ?_) (fun q => absurd rfl q)
  refine zok_if (fun q4 => ?_) (fun q4 => ?_)
  · unfold fX12_grow_40
    refine zok_fails1 (I := zEM [0] G) (i1.wi 0 0 (by decide) zr_any (by decide +kernel)) (fun σ2 e2 i2 => ?_)
    exact zok_if (fun q => absurd q (by decide)) (fun _ => z9 _ i2)
  · unfold fX12_grow_40
    refine zok_fails0 (I := zEM [0] G) (i1.wi 0 0 (by decide) zr_any (by decide +kernel)) (fun σ2 e2 i2 => ?_)
    refine zok_if (fun _ => ?_) (fun q => absurd rfl q)
    have k2 : zgi σ2 0 2 = zgi σ1 0 2 := by subst e2; unfold zgi; rw [zsi_off (by decide)]
    have hT : zr 0 262656 (zgi σ1 0 2) := rM_0 i1.sg 2 (by decide)
    have h2 := zc_nel (1) (262656) q4 hT (zr_c (lo := 0) (hi := 0) (by decide)) (by decide)
    have b2 := h2.1
    refine zok_bv (fun v5 e5 => ?_)
    subst e5
    exact s_grow_h h1 (by rw [k2]; exact h2) zfuel i2 (by rw [k2]; unfold zfuel; omega)
theorem s_X12_patch_32_body {G : Nat → Int} {σ : zSt} {k32 : zSt → Int32 → Int64 → Int32 → Option (zSt)} {Mk32 : Int} (hk32 : ∀ (σ : zSt) (x1 : Int32) (x2 : Int64) (x4 : Int32), zIM G σ → zr (0) (262648) x1 → zr (0) (8) x4 → (8) - x4.toInt < Mk32 → zok (k32 σ x1 x2 x4) (zIM G)) (hσ : zIM G σ) {x1 : Int32} (h_x1 : zr (0) (262648) x1) {x2 : Int64} {x4 : Int32} (h_x4 : zr (0) (8) x4) (hMk32 : (8) - x4.toInt ≤ Mk32) : zok (fX12_patch_32_body k32 σ x1 x2 x4) (zIM G) := by
  unfold fX12_patch_32_body
  refine zok_if (fun q1 => ?_) (fun q1 => ?_)
  · have h2 := zc_ler (8) q1 (zr_c (lo := 8) (hi := 8) (by decide)) h_x4 (by decide)
    exact zok_some hσ
  have h3 := zc_ltl (7) (z_nle q1) h_x4 (zr_c (lo := 8) (hi := 8) (by decide)) (by decide)
  refine zok_ck (zin_ok (zr_add (lo := 0) (hi := 262655) h_x1 h3 (by decide)) (by decide)) ?_
  refine zok_bs (hσ.wk (by decide)) (fun σ1 e5 i4 => ?_)
  refine zok_br (zr_add (lo := 1) (hi := 8) h3 (zr_c (lo := 1) (hi := 1) (by decide)) (by decide)) (fun v2 e7 h6 => ?_)
  exact hk32 _ _ _ _ i4 h_x1 (zr_w h6 (by decide)) (by rw [e7]; have := z_tadd (y := (1 : Int32)) h3 (zr_c (lo := 1) (hi := 1) (by decide)) (by decide); have e9 : (1 : Int32).toInt = 1 := rfl; omega) 
theorem s_X12_patch_32 {G : Nat → Int} : ∀ (n : Nat) {σ : zSt} (hσ : zIM G σ) {x1 : Int32} (h_x1 : zr (0) (262648) x1) {x2 : Int64} {x4 : Int32} (h_x4 : zr (0) (8) x4) (hm : (8) - x4.toInt < n), zok (fX12_patch_32 n σ x1 x2 x4) (zIM G) := by
  intro n
  induction n with
  | zero => intro σ hσ x1 h_x1 x2 x4 h_x4 hm ; have h9 := h_x4.1; have h8 := h_x4.2; exfalso; omega
  | succ n ih => intro σ hσ x1 h_x1 x2 x4 h_x4 hm ; exact s_X12_patch_32_body (fun σ x1 x2 x4 hσ h_x1 h_x4 hm1 => ih hσ h_x1 h_x4 (by omega)) hσ h_x1 h_x4 (Int.le_refl _)
theorem s_X12_patch {G : Nat → Int} {σ : zSt} (hσ : zIM G σ) {x1 : Int32} {x2 : Int64} : zok (fX12_patch σ x1 x2) (zIM G) := by
  unfold fX12_patch
  refine zok_if (fun q1 => ?_) (fun q1 => ?_)
  · have h2 := zc_ltl (-1) q1 zr_any (zr_c (lo := 0) (hi := 0) (by decide)) (by decide)
    unfold fX12_patch_16
    unfold fX12_patch_21
    refine zok_fails1 (hσ.wi 0 0 (by decide) zr_any (by decide +kernel)) (fun σ3 e3 i4 => ?_)
    refine zok_if (fun q5 => ?_) (fun q5 => ?_)
    · exact zr_no (zc_eql (1) (0) q5 (zr_c (lo := 1) (hi := 1) (by decide)) (zr_c (lo := 0) (hi := 0) (by decide)) (by decide)) (by decide)
    exact zok_some i4
  have h6 := zc_ler (0) (z_nlt q1) (zr_c (lo := 0) (hi := 0) (by decide)) zr_any (by decide)
  refine zok_if (fun q7 => ?_) (fun q7 => ?_)
  · have h8 := zc_lel (262648) q7 h6 (zr_sub (lo := -8) (hi := 262648) (rM_0 hσ.sg _ (by decide)) (zr_c (lo := 8) (hi := 8) (by decide)) (by decide)) (by decide)
    have h9 := zc_ler (0) q7 h6 (zr_sub (lo := -8) (hi := 262648) (rM_0 hσ.sg _ (by decide)) (zr_c (lo := 8) (hi := 8) (by decide)) (by decide)) (by decide)
    unfold fX12_patch_21
    refine zok_fails0 (hσ.wi 0 0 (by decide) zr_any (by decide +kernel)) (fun σ3 e10 i11 => ?_)
    refine zok_if (fun q12 => ?_) (fun q12 => ?_)
    · exact (s_X12_patch_32 zfuel i11 h8 (zr_w (zr_c (lo := 0) (hi := 0) (by decide)) (by decide)) (by decide))
    exact zr_no (zc_nel (1) (0) q12 (zr_c (lo := 0) (hi := 0) (by decide)) (zr_c (lo := 0) (hi := 0) (by decide)) (by decide)) (by decide)
  unfold fX12_patch_16
  unfold fX12_patch_21
  refine zok_fails1 (hσ.wi 0 0 (by decide) zr_any (by decide +kernel)) (fun σ3 e13 i14 => ?_)
  refine zok_if (fun q15 => ?_) (fun q15 => ?_)
  · exact zr_no (zc_eql (1) (0) q15 (zr_c (lo := 1) (hi := 1) (by decide)) (zr_c (lo := 0) (hi := 0) (by decide)) (by decide)) (by decide)
  exact zok_some i14
theorem s_X12_bytesAt_7_body {σ : zSt} {k7 : zSt → Int32 → Int32 → Int32 → Option (zSt × Int32)} {Mk7 : Int} (hk7 : ∀ (x1 : Int32) (x3 : Int32) (x4 : Int32), zr (10) (32777) x1 → zr (-1) (1) x4 → x4.toInt - (-1) < Mk7 → zok (k7 σ x1 x3 x4) (zPi σ (fun v : Int32 => True))) (hσ : zPM σ) {x1 : Int32} (h_x1 : zr (10) (32777) x1) {x3 : Int32} {x4 : Int32} (h_x4 : zr (-1) (1) x4) (hMk7 : x4.toInt - (-1) ≤ Mk7) : zok (fX12_bytesAt_7_body k7 σ x1 x3 x4) (zPi σ (fun v : Int32 => True)) := by
  unfold fX12_bytesAt_7_body
  refine zok_if (fun q1 => ?_) (fun q1 => ?_)
  · have h2 := zc_ltl (-1) q1 h_x4 (zr_c (lo := 0) (hi := 0) (by decide)) (by decide)
    exact zok_spi trivial
  have h3 := zc_ler (0) (z_nlt q1) (zr_c (lo := 0) (hi := 0) (by decide)) h_x4 (by decide)
  refine zok_ck (zin_ok (zr_add (lo := 10) (hi := 32778) h_x1 h3 (by decide)) (by decide)) ?_
  refine zok_bv (fun v1 e5 => ?_)
  refine zok_br (zr_add (lo := -1) (hi := 0) h3 (zr_c (lo := -1) (hi := -1) (by decide)) (by decide)) (fun v2 e7 h6 => ?_)
  exact hk7 _ _ _  h_x1 (zr_w h6 (by decide)) (by rw [e7]; have := z_tadd (y := (-1 : Int32)) h3 (zr_c (lo := -1) (hi := -1) (by decide)) (by decide); have e9 : (-1 : Int32).toInt = -1 := rfl; omega) 
theorem s_X12_bytesAt_7 {σ : zSt} (hσ : zPM σ) : ∀ (n : Nat) {x1 : Int32} (h_x1 : zr (10) (32777) x1) {x3 : Int32} {x4 : Int32} (h_x4 : zr (-1) (1) x4) (hm : x4.toInt - (-1) < n), zok (fX12_bytesAt_7 n σ x1 x3 x4) (zPi σ (fun v : Int32 => True)) := by
  intro n
  induction n with
  | zero => intro x1 h_x1 x3 x4 h_x4 hm ; have h9 := h_x4.1; have h8 := h_x4.2; exfalso; omega
  | succ n ih => intro x1 h_x1 x3 x4 h_x4 hm ; exact s_X12_bytesAt_7_body (fun x1 x3 x4 h_x1 h_x4 hm1 => ih h_x1 h_x4 (by omega)) hσ h_x1 h_x4 (Int.le_refl _)
theorem s_X12_bytesAt {σ : zSt} (hσ : zPM σ) {x1 : Int32} (h_x1 : zr (10) (32777) x1) {x2 : Int32} (h_x2 : zr (2) (2) x2) : zok (fX12_bytesAt σ x1 x2) (zPi σ (fun v : Int32 => True)) := by
  unfold fX12_bytesAt
  refine zok_br (zr_sub (lo := 1) (hi := 1) h_x2 (zr_c (lo := 1) (hi := 1) (by decide)) (by decide)) (fun v3 e2 h1 => ?_)
  exact (s_X12_bytesAt_7 hσ zfuel h_x1 (zr_w h1 (by decide)) (z_sd h1 (by decide)))
theorem s_X12_isHeader_125 {σ : zSt} (hσ : zPM σ) {s0 : Int32} (h_s0 : zr (0) (1) s0) : zok (fX12_isHeader_125 σ s0) (zPi σ (fun v : Int32 => zr (0) (1) v)) := by
  unfold fX12_isHeader_125
  refine zok_ck (zbo_ok h_s0 (by decide)) ?_
  exact zok_spi h_s0
theorem s_X12_isHeader_114 {σ : zSt} (hσ : zPM σ) {x2 : Int32} (h_x2 : zr (0) (8) x2) : zok (fX12_isHeader_114 σ x2) (zPi σ (fun v : Int32 => zr (0) (1) v)) := by
  unfold fX12_isHeader_114
  refine zok_if (fun q1 => ?_) (fun q1 => ?_)
  · have h2 := zc_eql (8) (8) q1 h_x2 (zr_c (lo := 8) (hi := 8) (by decide)) (by decide)
    exact (s_X12_isHeader_125 hσ (zr_w (zr_c (lo := 1) (hi := 1) (by decide)) (by decide)))
  have h3 := zc_nel (0) (7) q1 h_x2 (zr_c (lo := 8) (hi := 8) (by decide)) (by decide)
  exact (s_X12_isHeader_125 hσ (zr_w (zr_c (lo := 0) (hi := 0) (by decide)) (by decide)))
theorem s_X12_isHeader_105 {σ : zSt} {k15 : zSt → Int32 → Int32 → Option (zSt × Int32)} {Mk15 : Int} (hk15 : ∀ (x1 : Int32) (x2 : Int32), zr (8176) (32767) x1 → zr (0) (8) x2 → (8) - x2.toInt < Mk15 → zok (k15 σ x1 x2) (zPi σ (fun v : Int32 => zr (0) (1) v))) (hσ : zPM σ) {x1 : Int32} (h_x1 : zr (8176) (32767) x1) {x2 : Int32} (h_x2 : zr (0) (7) x2) {s0 : Int32} (h_s0 : zr (32) (84) s0) {s1 : Int32} (h_s1 : zr (0) (255) s1) (hMk15 : (8) - x2.toInt ≤ Mk15) : zok (fX12_isHeader_105 k15 σ x1 x2 s0 s1) (zPi σ (fun v : Int32 => zr (0) (1) v)) := by
  unfold fX12_isHeader_105
  refine zok_if (fun q1 => ?_) (fun q1 => ?_)
  · have h2 := zc_eql (32) (84) q1 h_s1 h_s0 (by decide)
    refine zok_br (zr_add (lo := 1) (hi := 8) h_x2 (zr_c (lo := 1) (hi := 1) (by decide)) (by decide)) (fun v1 e4 h3 => ?_)
    exact hk15 _ _  h_x1 (zr_w h3 (by decide)) (by rw [e4]; have := z_tadd (y := (1 : Int32)) h_x2 (zr_c (lo := 1) (hi := 1) (by decide)) (by decide); have e9 : (1 : Int32).toInt = 1 := rfl; omega) 
  exact (s_X12_isHeader_114 hσ (zr_w h_x2 (by decide)))
theorem s_X12_isHeader_15_body {σ : zSt} {k15 : zSt → Int32 → Int32 → Option (zSt × Int32)} {Mk15 : Int} (hk15 : ∀ (x1 : Int32) (x2 : Int32), zr (8176) (32767) x1 → zr (0) (8) x2 → (8) - x2.toInt < Mk15 → zok (k15 σ x1 x2) (zPi σ (fun v : Int32 => zr (0) (1) v))) (hσ : zPM σ) {x1 : Int32} (h_x1 : zr (8176) (32767) x1) {x2 : Int32} (h_x2 : zr (0) (8) x2) (hMk15 : (8) - x2.toInt ≤ Mk15) : zok (fX12_isHeader_15_body k15 σ x1 x2) (zPi σ (fun v : Int32 => zr (0) (1) v)) := by
  unfold fX12_isHeader_15_body
  refine zok_if (fun q1 => ?_) (fun q1 => ?_)
  · have h2 := zc_ler (8) q1 (zr_c (lo := 8) (hi := 8) (by decide)) h_x2 (by decide)
    exact (s_X12_isHeader_114 hσ (zr_w h2 (by decide)))
  have h3 := zc_ltl (7) (z_nle q1) h_x2 (zr_c (lo := 8) (hi := 8) (by decide)) (by decide)
  refine zok_ck (zin_ok (zr_add (lo := 8176) (hi := 32774) h_x1 h3 (by decide)) (by decide)) ?_
  refine zok_if (fun q4 => ?_) (fun q4 => ?_)
  · have h5 := zc_eql (0) (0) q4 h3 (zr_c (lo := 0) (hi := 0) (by decide)) (by decide)
    exact (s_X12_isHeader_105 hk15 hσ h_x1 (zr_w h5 (by decide)) (zr_w (zr_c (lo := 84) (hi := 84) (by decide)) (by decide)) (zr_andr (lo := 0) (hi := 255) (zr_c (lo := 255) (hi := 255) (by decide)) (by decide)) hMk15)
  have h6 := zc_nel (1) (7) q4 h3 (zr_c (lo := 0) (hi := 0) (by decide)) (by decide)
  refine zok_if (fun q7 => ?_) (fun q7 => ?_)
  · have h8 := zc_eql (1) (1) q7 h6 (zr_c (lo := 1) (hi := 1) (by decide)) (by decide)
    exact (s_X12_isHeader_105 hk15 hσ h_x1 (zr_w h8 (by decide)) (zr_w (zr_c (lo := 77) (hi := 77) (by decide)) (by decide)) (zr_andr (lo := 0) (hi := 255) (zr_c (lo := 255) (hi := 255) (by decide)) (by decide)) hMk15)
  have h9 := zc_nel (2) (7) q7 h6 (zr_c (lo := 1) (hi := 1) (by decide)) (by decide)
  refine zok_if (fun q10 => ?_) (fun q10 => ?_)
  · have h11 := zc_eql (2) (2) q10 h9 (zr_c (lo := 2) (hi := 2) (by decide)) (by decide)
    exact (s_X12_isHeader_105 hk15 hσ h_x1 (zr_w h11 (by decide)) (zr_w (zr_c (lo := 82) (hi := 82) (by decide)) (by decide)) (zr_andr (lo := 0) (hi := 255) (zr_c (lo := 255) (hi := 255) (by decide)) (by decide)) hMk15)
  have h12 := zc_nel (3) (7) q10 h9 (zr_c (lo := 2) (hi := 2) (by decide)) (by decide)
  refine zok_if (fun q13 => ?_) (fun q13 => ?_)
  · have h14 := zc_eql (3) (3) q13 h12 (zr_c (lo := 3) (hi := 3) (by decide)) (by decide)
    exact (s_X12_isHeader_105 hk15 hσ h_x1 (zr_w h14 (by decide)) (zr_w (zr_c (lo := 32) (hi := 32) (by decide)) (by decide)) (zr_andr (lo := 0) (hi := 255) (zr_c (lo := 255) (hi := 255) (by decide)) (by decide)) hMk15)
  have h15 := zc_nel (4) (7) q13 h12 (zr_c (lo := 3) (hi := 3) (by decide)) (by decide)
  refine zok_if (fun q16 => ?_) (fun q16 => ?_)
  · have h17 := zc_eql (4) (4) q16 h15 (zr_c (lo := 4) (hi := 4) (by decide)) (by decide)
    exact (s_X12_isHeader_105 hk15 hσ h_x1 (zr_w h17 (by decide)) (zr_w (zr_c (lo := 83) (hi := 83) (by decide)) (by decide)) (zr_andr (lo := 0) (hi := 255) (zr_c (lo := 255) (hi := 255) (by decide)) (by decide)) hMk15)
  have h18 := zc_nel (5) (7) q16 h15 (zr_c (lo := 4) (hi := 4) (by decide)) (by decide)
  refine zok_if (fun q19 => ?_) (fun q19 => ?_)
  · have h20 := zc_eql (5) (5) q19 h18 (zr_c (lo := 5) (hi := 5) (by decide)) (by decide)
    exact (s_X12_isHeader_105 hk15 hσ h_x1 (zr_w h20 (by decide)) (zr_w (zr_c (lo := 69) (hi := 69) (by decide)) (by decide)) (zr_andr (lo := 0) (hi := 255) (zr_c (lo := 255) (hi := 255) (by decide)) (by decide)) hMk15)
  have h21 := zc_nel (6) (7) q19 h18 (zr_c (lo := 5) (hi := 5) (by decide)) (by decide)
  refine zok_if (fun q22 => ?_) (fun q22 => ?_)
  · have h23 := zc_eql (6) (6) q22 h21 (zr_c (lo := 6) (hi := 6) (by decide)) (by decide)
    exact (s_X12_isHeader_105 hk15 hσ h_x1 (zr_w h23 (by decide)) (zr_w (zr_c (lo := 71) (hi := 71) (by decide)) (by decide)) (zr_andr (lo := 0) (hi := 255) (zr_c (lo := 255) (hi := 255) (by decide)) (by decide)) hMk15)
  have h24 := zc_nel (7) (7) q22 h21 (zr_c (lo := 6) (hi := 6) (by decide)) (by decide)
  exact (s_X12_isHeader_105 hk15 hσ h_x1 (zr_w h24 (by decide)) (zr_w (zr_c (lo := 65) (hi := 65) (by decide)) (by decide)) (zr_andr (lo := 0) (hi := 255) (zr_c (lo := 255) (hi := 255) (by decide)) (by decide)) hMk15)
theorem s_X12_isHeader_15 {σ : zSt} (hσ : zPM σ) : ∀ (n : Nat) {x1 : Int32} (h_x1 : zr (8176) (32767) x1) {x2 : Int32} (h_x2 : zr (0) (8) x2) (hm : (8) - x2.toInt < n), zok (fX12_isHeader_15 n σ x1 x2) (zPi σ (fun v : Int32 => zr (0) (1) v)) := by
  intro n
  induction n with
  | zero => intro x1 h_x1 x2 h_x2 hm ; have h9 := h_x2.1; have h8 := h_x2.2; exfalso; omega
  | succ n ih => intro x1 h_x1 x2 h_x2 hm ; exact s_X12_isHeader_15_body (fun x1 x2 h_x1 h_x2 hm1 => ih h_x1 h_x2 (by omega)) hσ h_x1 h_x2 (Int.le_refl _)
theorem s_X12_isHeader {σ : zSt} (hσ : zPM σ) {x1 : Int32} (h_x1 : zr (8176) (32767) x1) : zok (fX12_isHeader σ x1) (zPi σ (fun v : Int32 => zr (0) (1) v)) := by
  unfold fX12_isHeader
  refine zok_if (fun q1 => ?_) (fun q1 => ?_)
  · have h2 := zc_ler (8192) q1 (zr_add (lo := 8192) (hi := 32783) h_x1 (zr_c (lo := 16) (hi := 16) (by decide)) (by decide)) (rM_2 hσ.sg _ (by decide)) (by decide)
    exact (s_X12_isHeader_15 hσ zfuel h_x1 (zr_w (zr_c (lo := 0) (hi := 0) (by decide)) (by decide)) (by decide))
  have h3 := zc_ltl (32782) (z_nle q1) (rM_2 hσ.sg _ (by decide)) (zr_add (lo := 8192) (hi := 32783) h_x1 (zr_c (lo := 16) (hi := 16) (by decide)) (by decide)) (by decide)
  refine zok_ck rfl ?_
  exact zok_spi (zr_w (zr_c (lo := 0) (hi := 0) (by decide)) (by decide))
theorem s_X12_anew_236 {G : Nat → Int} {σ : zSt} {k196 : zSt → Int32 → Option (zSt)} {Mk196 : Int} (hk196 : ∀ (σ : zSt) (x1 : Int32), zIM G σ → zr (0) (108) x1 → (108) - x1.toInt < Mk196 → zok (k196 σ x1) (zIM G)) (hσ : zIM G σ) {x1 : Int32} (h_x1 : zr (0) (107) x1) {s0 : Int32} (h_s0 : zr (0) (127) s0) {s1 : Int32} (h_s1 : zr (172) (279) s1) (hMk196 : (108) - x1.toInt ≤ Mk196) : zok (fX12_anew_236 k196 σ x1 s0 s1) (zIM G) := by
  unfold fX12_anew_236
  refine zok_ck (zin_ok h_s1 (by decide)) ?_
  refine zok_bs (hσ.lva (z_ix h_s1 (by decide)) h_s0 (by decide)) (fun σ1 e2 i1 => ?_)
  refine zok_br (zr_add (lo := 1) (hi := 108) h_x1 (zr_c (lo := 1) (hi := 1) (by decide)) (by decide)) (fun v2 e4 h3 => ?_)
  exact hk196 _ _ i1 (zr_w h3 (by decide)) (by rw [e4]; have := z_tadd (y := (1 : Int32)) h_x1 (zr_c (lo := 1) (hi := 1) (by decide)) (by decide); have e9 : (1 : Int32).toInt = 1 := rfl; omega) 
theorem s_X12_anew_267_body {G : Nat → Int} {σ : zSt} {k267 : zSt → Int32 → Option (zSt)} {Mk267 : Int} (hk267 : ∀ (σ : zSt) (x1 : Int32), zIM G σ → zr (0) (64) x1 → (64) - x1.toInt < Mk267 → zok (k267 σ x1) (zIM G)) (hσ : zIM G σ) {x1 : Int32} (h_x1 : zr (0) (64) x1) (hMk267 : (64) - x1.toInt ≤ Mk267) : zok (fX12_anew_267_body k267 σ x1) (zIM G) := by
  unfold fX12_anew_267_body
  refine zok_if (fun q1 => ?_) (fun q1 => ?_)
  · have h2 := zc_ler (64) q1 (zr_c (lo := 64) (hi := 64) (by decide)) h_x1 (by decide)
    exact zok_some hσ
  have h3 := zc_ltl (63) (z_nle q1) h_x1 (zr_c (lo := 64) (hi := 64) (by decide)) (by decide)
  refine zok_ck (zin_ok h3 (by decide)) ?_
  refine zok_bs (hσ.wk (by decide)) (fun σ3 e5 i4 => ?_)
  refine zok_br (zr_add (lo := 1) (hi := 64) h3 (zr_c (lo := 1) (hi := 1) (by decide)) (by decide)) (fun v4 e7 h6 => ?_)
  exact hk267 _ _ i4 (zr_w h6 (by decide)) (by rw [e7]; have := z_tadd (y := (1 : Int32)) h3 (zr_c (lo := 1) (hi := 1) (by decide)) (by decide); have e9 : (1 : Int32).toInt = 1 := rfl; omega) 
theorem s_X12_anew_267 {G : Nat → Int} : ∀ (n : Nat) {σ : zSt} (hσ : zIM G σ) {x1 : Int32} (h_x1 : zr (0) (64) x1) (hm : (64) - x1.toInt < n), zok (fX12_anew_267 n σ x1) (zIM G) := by
  intro n
  induction n with
  | zero => intro σ hσ x1 h_x1 hm ; have h9 := h_x1.1; have h8 := h_x1.2; exfalso; omega
  | succ n ih => intro σ hσ x1 h_x1 hm ; exact s_X12_anew_267_body (fun σ x1 hσ h_x1 hm1 => ih hσ h_x1 (by omega)) hσ h_x1 (Int.le_refl _)
theorem s_X12_anew_245_body {G : Nat → Int} {σ : zSt} {k245 : zSt → Int32 → Option (zSt)} {Mk245 : Int} (hk245 : ∀ (σ : zSt) (x1 : Int32), zIM G σ → zr (0) (16384) x1 → (16384) - x1.toInt < Mk245 → zok (k245 σ x1) (zIM G)) (hσ : zIM G σ) {x1 : Int32} (h_x1 : zr (0) (16384) x1) (hMk245 : (16384) - x1.toInt ≤ Mk245) : zok (fX12_anew_245_body k245 σ x1) (zIM G) := by
  unfold fX12_anew_245_body
  refine zok_if (fun q1 => ?_) (fun q1 => ?_)
  · have h2 := zc_ler (16384) q1 (zr_c (lo := 16384) (hi := 16384) (by decide)) h_x1 (by decide)
    exact (s_X12_anew_267 zfuel hσ (zr_w (zr_c (lo := 0) (hi := 0) (by decide)) (by decide)) (by decide))
  have h3 := zc_ltl (16383) (z_nle q1) h_x1 (zr_c (lo := 16384) (hi := 16384) (by decide)) (by decide)
  refine zok_ck (zin_ok h3 (by decide)) ?_
  refine zok_bs (hσ.wk (by decide)) (fun σ5 e5 i4 => ?_)
  refine zok_br (zr_add (lo := 1) (hi := 16384) h3 (zr_c (lo := 1) (hi := 1) (by decide)) (by decide)) (fun v6 e7 h6 => ?_)
  exact hk245 _ _ i4 (zr_w h6 (by decide)) (by rw [e7]; have := z_tadd (y := (1 : Int32)) h3 (zr_c (lo := 1) (hi := 1) (by decide)) (by decide); have e9 : (1 : Int32).toInt = 1 := rfl; omega) 
theorem s_X12_anew_245 {G : Nat → Int} : ∀ (n : Nat) {σ : zSt} (hσ : zIM G σ) {x1 : Int32} (h_x1 : zr (0) (16384) x1) (hm : (16384) - x1.toInt < n), zok (fX12_anew_245 n σ x1) (zIM G) := by
  intro n
  induction n with
  | zero => intro σ hσ x1 h_x1 hm ; have h9 := h_x1.1; have h8 := h_x1.2; exfalso; omega
  | succ n ih => intro σ hσ x1 h_x1 hm ; exact s_X12_anew_245_body (fun σ x1 hσ h_x1 hm1 => ih hσ h_x1 (by omega)) hσ h_x1 (Int.le_refl _)
theorem s_X12_anew_196_body {G : Nat → Int} {σ : zSt} {k196 : zSt → Int32 → Option (zSt)} {Mk196 : Int} (hk196 : ∀ (σ : zSt) (x1 : Int32), zIM G σ → zr (0) (108) x1 → (108) - x1.toInt < Mk196 → zok (k196 σ x1) (zIM G)) (hσ : zIM G σ) {x1 : Int32} (h_x1 : zr (0) (108) x1) (hMk196 : (108) - x1.toInt ≤ Mk196) : zok (fX12_anew_196_body k196 σ x1) (zIM G) := by
  unfold fX12_anew_196_body
  refine zok_if (fun q1 => ?_) (fun q1 => ?_)
  · have h2 := zc_ler (108) q1 (zr_c (lo := 108) (hi := 108) (by decide)) h_x1 (by decide)
    exact (s_X12_anew_245 zfuel hσ (zr_w (zr_c (lo := 0) (hi := 0) (by decide)) (by decide)) (by decide))
  have h3 := zc_ltl (107) (z_nle q1) h_x1 (zr_c (lo := 108) (hi := 108) (by decide)) (by decide)
  refine zok_ck (by decide) ?_
  refine zok_if (fun q4 => ?_) (fun q4 => ?_)
  · have h5 := zc_eql (0) (0) q4 (zr_rem (lo := 0) (hi := 5) 6 (by decide) h3 (by decide)) (zr_c (lo := 0) (hi := 0) (by decide)) (by decide)
    exact (s_X12_anew_236 hk196 hσ h3 (zr_w (zr_c (lo := 127) (hi := 127) (by decide)) (by decide)) (zr_add (lo := 172) (hi := 279) (zr_c (lo := 172) (hi := 172) (by decide)) h3 (by decide)) hMk196)
  have h6 := zc_nel (1) (5) q4 (zr_rem (lo := 0) (hi := 5) 6 (by decide) h3 (by decide)) (zr_c (lo := 0) (hi := 0) (by decide)) (by decide)
  refine zok_ck (by decide) ?_
  refine zok_if (fun q7 => ?_) (fun q7 => ?_)
  · have h8 := zc_eql (1) (1) q7 h6 (zr_c (lo := 1) (hi := 1) (by decide)) (by decide)
    exact (s_X12_anew_236 hk196 hσ h3 (zr_w (zr_c (lo := 4) (hi := 4) (by decide)) (by decide)) (zr_add (lo := 172) (hi := 279) (zr_c (lo := 172) (hi := 172) (by decide)) h3 (by decide)) hMk196)
  have h9 := zc_nel (2) (5) q7 h6 (zr_c (lo := 1) (hi := 1) (by decide)) (by decide)
  exact (s_X12_anew_236 hk196 hσ h3 (zr_w (zr_c (lo := 0) (hi := 0) (by decide)) (by decide)) (zr_add (lo := 172) (hi := 279) (zr_c (lo := 172) (hi := 172) (by decide)) h3 (by decide)) hMk196)
theorem s_X12_anew_196 {G : Nat → Int} : ∀ (n : Nat) {σ : zSt} (hσ : zIM G σ) {x1 : Int32} (h_x1 : zr (0) (108) x1) (hm : (108) - x1.toInt < n), zok (fX12_anew_196 n σ x1) (zIM G) := by
  intro n
  induction n with
  | zero => intro σ hσ x1 h_x1 hm ; have h9 := h_x1.1; have h8 := h_x1.2; exfalso; omega
  | succ n ih => intro σ hσ x1 h_x1 hm ; exact s_X12_anew_196_body (fun σ x1 hσ h_x1 hm1 => ih hσ h_x1 (by omega)) hσ h_x1 (Int.le_refl _)
theorem s_X12_anew_165_body {G : Nat → Int} {σ : zSt} {k165 : zSt → Int32 → Option (zSt)} {Mk165 : Int} (hk165 : ∀ (σ : zSt) (x1 : Int32), zIM G σ → zr (98) (166) x1 → (166) - x1.toInt < Mk165 → zok (k165 σ x1) (zIM G)) (hσ : zIM G σ) {x1 : Int32} (h_x1 : zr (98) (166) x1) (hMk165 : (166) - x1.toInt ≤ Mk165) : zok (fX12_anew_165_body k165 σ x1) (zIM G) := by
  unfold fX12_anew_165_body
  refine zok_if (fun q1 => ?_) (fun q1 => ?_)
  · have h2 := zc_ler (166) q1 (zr_c (lo := 166) (hi := 166) (by decide)) h_x1 (by decide)
    refine zok_ck rfl ?_
    refine zok_bs (hσ.wi 164 164 (by decide) (zr_c (lo := 1) (hi := 1) (by decide)) (by decide +kernel)) (fun σ7 e4 i3 => ?_)
    exact (s_X12_anew_196 zfuel i3 (zr_w (zr_c (lo := 0) (hi := 0) (by decide)) (by decide)) (by decide))
  have h5 := zc_ltl (165) (z_nle q1) h_x1 (zr_c (lo := 166) (hi := 166) (by decide)) (by decide)
  refine zok_ck (zin_ok h5 (by decide)) ?_
  refine zok_bs (hσ.wi 98 165 (z_ix h5 (by decide)) (zr_c (lo := 0) (hi := 0) (by decide)) (by decide +kernel)) (fun σ8 e7 i6 => ?_)
  refine zok_br (zr_add (lo := 99) (hi := 166) h5 (zr_c (lo := 1) (hi := 1) (by decide)) (by decide)) (fun v9 e9 h8 => ?_)
  exact hk165 _ _ i6 (zr_w h8 (by decide)) (by rw [e9]; have := z_tadd (y := (1 : Int32)) h5 (zr_c (lo := 1) (hi := 1) (by decide)) (by decide); have e9 : (1 : Int32).toInt = 1 := rfl; omega) 
theorem s_X12_anew_165 {G : Nat → Int} : ∀ (n : Nat) {σ : zSt} (hσ : zIM G σ) {x1 : Int32} (h_x1 : zr (98) (166) x1) (hm : (166) - x1.toInt < n), zok (fX12_anew_165 n σ x1) (zIM G) := by
  intro n
  induction n with
  | zero => intro σ hσ x1 h_x1 hm ; have h9 := h_x1.1; have h8 := h_x1.2; exfalso; omega
  | succ n ih => intro σ hσ x1 h_x1 hm ; exact s_X12_anew_165_body (fun σ x1 hσ h_x1 hm1 => ih hσ h_x1 (by omega)) hσ h_x1 (Int.le_refl _)
theorem s_X12_anew_131_body {G : Nat → Int} {σ : zSt} {k131 : zSt → Int32 → Option (zSt)} {Mk131 : Int} (hk131 : ∀ (σ : zSt) (x1 : Int32), zIM G σ → zr (0) (4) x1 → (4) - x1.toInt < Mk131 → zok (k131 σ x1) (zIM G)) (hσ : zIM G σ) {x1 : Int32} (h_x1 : zr (0) (4) x1) (hMk131 : (4) - x1.toInt ≤ Mk131) : zok (fX12_anew_131_body k131 σ x1) (zIM G) := by
  unfold fX12_anew_131_body
  refine zok_if (fun q1 => ?_) (fun q1 => ?_)
  · have h2 := zc_ler (4) q1 (zr_c (lo := 4) (hi := 4) (by decide)) h_x1 (by decide)
    refine zok_ck rfl ?_
    refine zok_bs (hσ.wi 85 85 (by decide) (zr_c (lo := 32768) (hi := 32768) (by decide)) (by decide +kernel)) (fun σ10 e4 i3 => ?_)
    exact (s_X12_anew_165 zfuel i3 (zr_w (zr_c (lo := 98) (hi := 98) (by decide)) (by decide)) (by decide))
  have h5 := zc_ltl (3) (z_nle q1) h_x1 (zr_c (lo := 4) (hi := 4) (by decide)) (by decide)
  refine zok_ck (zin_ok (zr_add (lo := 78) (hi := 81) (zr_c (lo := 78) (hi := 78) (by decide)) h5 (by decide)) (by decide)) ?_
  refine zok_bs (hσ.wi 78 81 (z_ix (zr_add (lo := 78) (hi := 81) (zr_c (lo := 78) (hi := 78) (by decide)) h5 (by decide)) (by decide)) (zr_c (lo := 15) (hi := 15) (by decide)) (by decide +kernel)) (fun σ11 e7 i6 => ?_)
  refine zok_br (zr_add (lo := 1) (hi := 4) h5 (zr_c (lo := 1) (hi := 1) (by decide)) (by decide)) (fun v12 e9 h8 => ?_)
  exact hk131 _ _ i6 (zr_w h8 (by decide)) (by rw [e9]; have := z_tadd (y := (1 : Int32)) h5 (zr_c (lo := 1) (hi := 1) (by decide)) (by decide); have e9 : (1 : Int32).toInt = 1 := rfl; omega) 
theorem s_X12_anew_131 {G : Nat → Int} : ∀ (n : Nat) {σ : zSt} (hσ : zIM G σ) {x1 : Int32} (h_x1 : zr (0) (4) x1) (hm : (4) - x1.toInt < n), zok (fX12_anew_131 n σ x1) (zIM G) := by
  intro n
  induction n with
  | zero => intro σ hσ x1 h_x1 hm ; have h9 := h_x1.1; have h8 := h_x1.2; exfalso; omega
  | succ n ih => intro σ hσ x1 h_x1 hm ; exact s_X12_anew_131_body (fun σ x1 hσ h_x1 hm1 => ih hσ h_x1 (by omega)) hσ h_x1 (Int.le_refl _)
theorem s_X12_anew_79 {G : Nat → Int} {σ : zSt} (hσ : zIM G σ) {s0 : Int32} (h_s0 : zr (0) (2) s0) {s1 : Int32} (h_s1 : zr (31) (31) s1) : zok (fX12_anew_79 σ s0 s1) (zIM G) := by
  unfold fX12_anew_79
  refine zok_ck (zin_ok h_s1 (by decide)) ?_
  refine zok_bs (hσ.wi 31 31 (z_ix h_s1 (by decide)) h_s0 (by decide +kernel)) (fun σ13 e2 i1 => ?_)
  refine zok_ck rfl ?_
  refine zok_bs (i1.wi 33 33 (by decide) (zr_c (lo := 255) (hi := 255) (by decide)) (by decide +kernel)) (fun σ14 e4 i3 => ?_)
  refine zok_ck rfl ?_
  refine zok_bs (i3.wi 34 34 (by decide) (zr_c (lo := 255) (hi := 255) (by decide)) (by decide +kernel)) (fun σ15 e6 i5 => ?_)
  refine zok_ck rfl ?_
  refine zok_bs (i5.wi 37 37 (by decide) (zr_c (lo := 127) (hi := 127) (by decide)) (by decide +kernel)) (fun σ16 e8 i7 => ?_)
  refine zok_ck rfl ?_
  refine zok_bs (i7.wi 38 38 (by decide) (zr_c (lo := 255) (hi := 255) (by decide)) (by decide +kernel)) (fun σ17 e10 i9 => ?_)
  refine zok_ck rfl ?_
  refine zok_bs (i9.wi 40 40 (by decide) (zr_c (lo := 255) (hi := 255) (by decide)) (by decide +kernel)) (fun σ18 e12 i11 => ?_)
  exact (s_X12_anew_131 zfuel i11 (zr_w (zr_c (lo := 0) (hi := 0) (by decide)) (by decide)) (by decide))
theorem s_X12_tens {σ : zSt} (hσ : zPM σ) {x1 : Int32} (h_x1 : zr (12) (32780) x1) : zok (fX12_tens σ x1) (zPi σ (fun v : Int32 => zr (0) (165) v)) := by
  unfold fX12_tens
  refine zok_ck (zin_ok h_x1 (by decide)) ?_
  refine zok_ck (zin_ok h_x1 (by decide)) ?_
  exact zok_spi (zr_add (lo := 0) (hi := 165) (zr_mul (lo := 0) (hi := 150) (zr_c (lo := 10) (hi := 10) (by decide)) (zr_andr (lo := 0) (hi := 15) (zr_c (lo := 15) (hi := 15) (by decide)) (by decide)) (by decide)) (zr_andr (lo := 0) (hi := 15) (zr_c (lo := 15) (hi := 15) (by decide)) (by decide)) (by decide))
theorem s_X12_card {G : Nat → Int} {σ : zSt} (hσ : zIM G σ) {x1 : Int32} : zok (fX12_card σ x1) (zAi (zIM G) (fun v : Int32 => True)) := by
  unfold fX12_card
  refine zok_within (fun w1 w2 => ?_) (fun w3 => ?_)
  · have h4 := z_wir w1 w2 (zrl_c (lo := 0) (hi := 0) (by decide)) (zrl_c (lo := 7) (hi := 7) (by decide))
    refine zok_if (fun q5 => ?_) (fun q5 => ?_)
    · exact zr_no (zc_eql (1) (0) q5 (zr_c (lo := 1) (hi := 1) (by decide)) (zr_c (lo := 0) (hi := 0) (by decide)) (by decide)) (by decide)
    unfold fX12_card_18
    refine zok_fails0 (hσ.wi 0 0 (by decide) zr_any (by decide +kernel)) (fun σ1 e6 i7 => ?_)
    refine zok_if (fun q8 => ?_) (fun q8 => ?_)
    · refine zok_if (fun q9 => ?_) (fun q9 => ?_)
      · have h10 := zc_ler (3) q9 (zr_c (lo := 3) (hi := 3) (by decide)) h4 (by decide)
        refine zok_if (fun q11 => ?_) (fun q11 => ?_)
        · have h12 := zc_ler (0) q11 (zr_c (lo := 0) (hi := 0) (by decide)) (rM_5 i7.sg _ (by decide)) (by decide)
          refine zok_if (fun q13 => ?_) (fun q13 => ?_)
          · have h14 := zc_eql (3) (3) q13 h10 (zr_c (lo := 3) (hi := 3) (by decide)) (by decide)
            refine zok_pi (s_X12_tens i7.P (zr_w (zr_add (lo := 12) (hi := 32779) h12 (zr_c (lo := 12) (hi := 12) (by decide)) (by decide)) (by decide))) (fun v4 h15 => ?_)
            refine zok_pi (s_X12_tens i7.P (zr_w (zr_add (lo := 13) (hi := 32780) h12 (zr_c (lo := 13) (hi := 13) (by decide)) (by decide)) (by decide))) (fun v6 h16 => ?_)
            refine zok_ck (zin_ok (zr_add (lo := 14) (hi := 32781) h12 (zr_c (lo := 14) (hi := 14) (by decide)) (by decide)) (by decide)) ?_
            exact zok_sai i7 trivial
          have h17 := zc_nel (4) (7) q13 h10 (zr_c (lo := 3) (hi := 3) (by decide)) (by decide)
          refine zok_if (fun q18 => ?_) (fun q18 => ?_)
          · have h19 := zc_eql (4) (4) q18 h17 (zr_c (lo := 4) (hi := 4) (by decide)) (by decide)
            refine zok_ck (zin_ok (zr_add (lo := 15) (hi := 32782) h12 (zr_c (lo := 15) (hi := 15) (by decide)) (by decide)) (by decide)) ?_
            exact zok_sai i7 trivial
          have h20 := zc_nel (5) (7) q18 h17 (zr_c (lo := 4) (hi := 4) (by decide)) (by decide)
          refine zok_if (fun q21 => ?_) (fun q21 => ?_)
          · have h22 := zc_eql (5) (5) q21 h20 (zr_c (lo := 5) (hi := 5) (by decide)) (by decide)
            refine zok_ck (zin_ok (zr_add (lo := 15) (hi := 32782) h12 (zr_c (lo := 15) (hi := 15) (by decide)) (by decide)) (by decide)) ?_
            exact zok_sai i7 trivial
          have h23 := zc_nel (6) (7) q21 h20 (zr_c (lo := 5) (hi := 5) (by decide)) (by decide)
          refine zok_if (fun q24 => ?_) (fun q24 => ?_)
          · have h25 := zc_eql (6) (6) q24 h23 (zr_c (lo := 6) (hi := 6) (by decide)) (by decide)
            refine zok_pi (s_X12_bytesAt i7.P (zr_add (lo := 10) (hi := 32777) h12 (zr_c (lo := 10) (hi := 10) (by decide)) (by decide)) (zr_c (lo := 2) (hi := 2) (by decide))) (fun v8 h26 => ?_)
            exact zok_sai i7 trivial
          have h27 := zc_nel (7) (7) q24 h23 (zr_c (lo := 6) (hi := 6) (by decide)) (by decide)
          exact zok_sai i7 trivial
        have h28 := zc_ltl (-1) (z_nle q11) (rM_5 i7.sg _ (by decide)) (zr_c (lo := 0) (hi := 0) (by decide)) (by decide)
        exact zok_sai i7 trivial
      have h29 := zc_ltl (2) (z_nle q9) h4 (zr_c (lo := 3) (hi := 3) (by decide)) (by decide)
      refine zok_if (fun q30 => ?_) (fun q30 => ?_)
      · have h31 := zc_eql (0) (0) q30 h29 (zr_c (lo := 0) (hi := 0) (by decide)) (by decide)
        unfold fX12_card_59
        exact zok_sai i7 trivial
      have h32 := zc_nel (1) (2) q30 h29 (zr_c (lo := 0) (hi := 0) (by decide)) (by decide)
      refine zok_if (fun q33 => ?_) (fun q33 => ?_)
      · have h34 := zc_eql (1) (1) q33 h32 (zr_c (lo := 1) (hi := 1) (by decide)) (by decide)
        unfold fX12_card_59
        exact zok_sai i7 trivial
      have h35 := zc_nel (2) (2) q33 h32 (zr_c (lo := 1) (hi := 1) (by decide)) (by decide)
      unfold fX12_card_59
      exact zok_sai i7 trivial
    exact zr_no (zc_nel (1) (0) q8 (zr_c (lo := 0) (hi := 0) (by decide)) (zr_c (lo := 0) (hi := 0) (by decide)) (by decide)) (by decide)
  refine zok_if (fun q36 => ?_) (fun q36 => ?_)
  · unfold fX12_card_18
    refine zok_fails1 (hσ.wi 0 0 (by decide) zr_any (by decide +kernel)) (fun σ1 e37 i38 => ?_)
    refine zok_if (fun q39 => ?_) (fun q39 => ?_)
    · exact zr_no (zc_eql (1) (0) q39 (zr_c (lo := 1) (hi := 1) (by decide)) (zr_c (lo := 0) (hi := 0) (by decide)) (by decide)) (by decide)
    exact zok_sai i38 trivial
  exact zr_no (zc_nel (1) (0) q36 (zr_c (lo := 0) (hi := 0) (by decide)) (zr_c (lo := 0) (hi := 0) (by decide)) (by decide)) (by decide)
theorem s_X12_ofBank {σ : zSt} (hσ : zPM σ) {x1 : Int32} (h_x1 : zr (0) (255) x1) {x2 : Int32} (h_x2 : zr (0) (49151) x2) (c_0_6 : zr (1) (16) (zgi σ 0 6)) : zok (fX12_ofBank σ x1 x2) (zPi σ (fun v : Int32 => zr (0) (255) v)) := by
  unfold fX12_ofBank
  refine zok_ck (zdv_ok c_0_6 (by decide)) ?_
  refine zok_ck (by decide) ?_
  refine zok_ck (zin_ok (zr_add (lo := 0) (hi := 262143) (zr_mul (lo := 0) (hi := 245760) (zr_c (lo := 16384) (hi := 16384) (by decide)) (zr_remv (lo := 0) (hi := 15) h_x1 c_0_6 (by decide)) (by decide)) (zr_rem (lo := 0) (hi := 16383) 16384 (by decide) h_x2 (by decide)) (by decide)) (by decide)) ?_
  exact zok_spi (zr_andr (lo := 0) (hi := 255) (zr_c (lo := 255) (hi := 255) (by decide)) (by decide))
theorem s_X12_batteryAt_23 {σ : zSt} (hσ : zPM σ) {s0 : Int32} (h_s0 : zr (0) (16384) s0) {s1 : Int32} (h_s1 : zr (0) (16383) s1) : zok (fX12_batteryAt_23 σ s0 s1) (zPi σ (fun v : Int32 => zr (0) (32767) v)) := by
  unfold fX12_batteryAt_23
  exact zok_spi (zr_add (lo := 0) (hi := 32767) h_s1 h_s0 (by decide))
theorem s_X12_batteryAt {σ : zSt} (hσ : zPM σ) {x1 : Int32} (h_x1 : zr (32768) (49151) x1) : zok (fX12_batteryAt σ x1) (zPi σ (fun v : Int32 => zr (0) (32767) v)) := by
  unfold fX12_batteryAt
  refine zok_ck rfl ?_
  refine zok_if (fun q1 => ?_) (fun q1 => ?_)
  · have h2 := zc_eql (0) (0) q1 (zr_andr (lo := 0) (hi := 4) (zr_c (lo := 4) (hi := 4) (by decide)) (by decide)) (zr_c (lo := 0) (hi := 0) (by decide)) (by decide)
    exact (s_X12_batteryAt_23 hσ (zr_w (zr_c (lo := 0) (hi := 0) (by decide)) (by decide)) (zr_sub (lo := 0) (hi := 16383) h_x1 (zr_c (lo := 32768) (hi := 32768) (by decide)) (by decide)))
  have h3 := zc_nel (1) (4) q1 (zr_andr (lo := 0) (hi := 4) (zr_c (lo := 4) (hi := 4) (by decide)) (by decide)) (zr_c (lo := 0) (hi := 0) (by decide)) (by decide)
  exact (s_X12_batteryAt_23 hσ (zr_w (zr_c (lo := 16384) (hi := 16384) (by decide)) (by decide)) (zr_sub (lo := 0) (hi := 16383) h_x1 (zr_c (lo := 32768) (hi := 32768) (by decide)) (by decide)))
theorem s_X12_read_80 {σ : zSt} (hσ : zPM σ) {s0 : Int32} (h_s0 : zr (0) (255) s0) : zok (fX12_read_80 σ s0) (zPi σ (fun v : Int32 => zr (0) (255) v)) := by
  unfold fX12_read_80
  exact zok_spi h_s0
theorem s_X12_read_111 {σ : zSt} (hσ : zPM σ) {x2 : Int32} (h_x2 : zr (0) (49151) x2) {s0 : Int32} (h_s0 : zr (0) (255) s0) (c_0_6 : zr (1) (16) (zgi σ 0 6)) : zok (fX12_read_111 σ x2 s0) (zPi σ (fun v : Int32 => zr (0) (255) v)) := by
  unfold fX12_read_111
  refine zok_pi (s_X12_ofBank hσ h_s0 h_x2 c_0_6) (fun v2 h1 => ?_)
  exact zok_spi h1
theorem s_X12_read_138 {σ : zSt} (hσ : zPM σ) {x2 : Int32} (h_x2 : zr (0) (49151) x2) (c_0_6 : zr (1) (16) (zgi σ 0 6)) : zok (fX12_read_138 σ x2) (zPi σ (fun v : Int32 => zr (0) (255) v)) := by
  unfold fX12_read_138
  refine zok_ck (by decide) ?_
  refine zok_ck (zin_ok (zr_add (lo := 29) (hi := 31) (zr_c (lo := 29) (hi := 29) (by decide)) (zr_div (lo := 0) (hi := 2) 16384 (by decide) h_x2 (by decide)) (by decide)) (by decide)) ?_
  refine zok_pi (s_X12_ofBank hσ (rM_18 hσ.sg _ (z_ix (zr_add (lo := 29) (hi := 31) (zr_c (lo := 29) (hi := 29) (by decide)) (zr_div (lo := 0) (hi := 2) 16384 (by decide) h_x2 (by decide)) (by decide)) (by decide))) h_x2 c_0_6) (fun v4 h1 => ?_)
  exact zok_spi h1
theorem s_X12_read {σ : zSt} (hσ : zPM σ) {x1 : Int32} : zok (fX12_read σ x1) (zPi σ (fun v : Int32 => zr (0) (255) v)) := by
  unfold fX12_read
  refine zok_br (zr_andr (lo := 0) (hi := 65535) (zr_c (lo := 65535) (hi := 65535) (by decide)) (by decide)) (fun v5 e2 h1 => ?_)
  refine zok_if (fun q3 => ?_) (fun q3 => ?_)
  · have h4 := zc_ltl (49151) q3 h1 (zr_c (lo := 49152) (hi := 49152) (by decide)) (by decide)
    refine zok_isBat (fun h5 => ?_) ?_
    · have h6 := h5
      refine zok_if (fun q7 => ?_) (fun q7 => ?_)
      · exact zr_no (zc_eql (1) (0) q7 (zr_c (lo := 1) (hi := 1) (by decide)) (zr_c (lo := 0) (hi := 0) (by decide)) (by decide)) (by decide)
      refine zok_pi (s_X12_batteryAt hσ h6) (fun v11 h8 => ?_)
      refine zok_ck (zin_ok h8 (by decide)) ?_
      exact zok_spi (zr_andr (lo := 0) (hi := 255) (zr_c (lo := 255) (hi := 255) (by decide)) (by decide))
    refine zok_if (fun q9 => ?_) (fun q9 => ?_)
    · refine zok_if (fun q10 => ?_) (fun q10 => ?_)
      · have h11 := zc_eql (0) (0) q10 (rM_4 hσ.sg _ (by decide)) (zr_c (lo := 0) (hi := 0) (by decide)) (by decide)
        refine zok_if (fun q12 => ?_) (fun q12 => ?_)
        · have h13 := zc_lel (49151) q12 (rM_2 hσ.sg _ (by decide)) h4 (by decide)
          exact (s_X12_read_80 hσ (zr_w (zr_c (lo := 255) (hi := 255) (by decide)) (by decide)))
        have h14 := zc_ltr (1) (z_nle q12) h4 (rM_2 hσ.sg _ (by decide)) (by decide)
        refine zok_ck (zin_ok h4 (by decide)) ?_
        exact (s_X12_read_80 hσ (zr_andr (lo := 0) (hi := 255) (zr_c (lo := 255) (hi := 255) (by decide)) (by decide)))
      have h15 := zc_nel (1) (3) q10 (rM_4 hσ.sg _ (by decide)) (zr_c (lo := 0) (hi := 0) (by decide)) (by decide)
      have h16 := rM_bk hσ.Y hσ.sg h15 (by decide)
      refine zok_if (fun q17 => ?_) (fun q17 => ?_)
      · have h18 := zc_eql (3) (3) q17 h15 (zr_c (lo := 3) (hi := 3) (by decide)) (by decide)
        have h19 := rM_bk hσ.Y hσ.sg h18 (by decide)
        refine zok_if (fun q20 => ?_) (fun q20 => ?_)
        · have h21 := zc_ler (32768) q20 (zr_c (lo := 32768) (hi := 32768) (by decide)) h4 (by decide)
          refine zok_ck rfl ?_
          exact (s_X12_read_111 hσ (zr_w h21 (by decide)) (rM_18 hσ.sg _ (by decide)) h19)
        have h22 := zc_ltl (32767) (z_nle q20) h4 (zr_c (lo := 32768) (hi := 32768) (by decide)) (by decide)
        refine zok_ck (by decide) ?_
        exact (s_X12_read_111 hσ (zr_w h22 (by decide)) (zr_w (zr_div (lo := 0) (hi := 1) 16384 (by decide) h22 (by decide)) (by decide)) h19)
      have h23 := zc_nel (1) (2) q17 h15 (zr_c (lo := 3) (hi := 3) (by decide)) (by decide)
      have h24 := rM_bk hσ.Y hσ.sg h23 (by decide)
      refine zok_if (fun q25 => ?_) (fun q25 => ?_)
      · have h26 := zc_eql (1) (1) q25 h23 (zr_c (lo := 1) (hi := 1) (by decide)) (by decide)
        have h27 := rM_bk hσ.Y hσ.sg h26 (by decide)
        refine zok_if (fun q28 => ?_) (fun q28 => ?_)
        · have h29 := zc_ler (1024) q28 (zr_c (lo := 1024) (hi := 1024) (by decide)) h4 (by decide)
          exact (s_X12_read_138 hσ (zr_w h29 (by decide)) h27)
        have h30 := zc_ltl (1023) (z_nle q28) h4 (zr_c (lo := 1024) (hi := 1024) (by decide)) (by decide)
        refine zok_pi (s_X12_ofBank hσ (zr_w (zr_c (lo := 0) (hi := 0) (by decide)) (by decide)) (zr_w h30 (by decide)) h27) (fun v9 h31 => ?_)
        exact zok_spi h31
      have h32 := zc_nel (2) (2) q25 h23 (zr_c (lo := 1) (hi := 1) (by decide)) (by decide)
      have h33 := rM_bk hσ.Y hσ.sg h32 (by decide)
      exact (s_X12_read_138 hσ h4 h33)
    exact zr_no (zc_nel (1) (0) q9 (zr_c (lo := 0) (hi := 0) (by decide)) (zr_c (lo := 0) (hi := 0) (by decide)) (by decide)) (by decide)
  have h34 := zc_ler (49152) (z_nlt q3) (zr_c (lo := 49152) (hi := 49152) (by decide)) h1 (by decide)
  refine zok_ck (by decide) ?_
  refine zok_ck (zin_ok (zr_rem (lo := 0) (hi := 8191) 8192 (by decide) h34 (by decide)) (by decide)) ?_
  exact zok_spi (zr_andr (lo := 0) (hi := 255) (zr_c (lo := 255) (hi := 255) (by decide)) (by decide))
theorem s_X12_write_163 {σ : zSt} (hσ : zPM σ) : zok (fX12_write_163 σ ) (zPu σ) := by
  unfold fX12_write_163
  exact zok_spu
theorem s_X12_write_140 {G : Nat → Int} {σ : zSt} (hσ : zIM G σ) {x3 : Int32} (h_x3 : zr (0) (65535) x3) {x4 : Int32} (h_x4 : zr (0) (255) x4) : zok (fX12_write_140 σ x3 x4) (zIM G) := by
  unfold fX12_write_140
  refine zok_if (fun q1 => ?_) (fun q1 => ?_)
  · have h2 := zc_eql (3) (3) q1 (rM_4 hσ.sg _ (by decide)) (zr_c (lo := 3) (hi := 3) (by decide)) (by decide)
    have h3 := rM_bk hσ.Y hσ.sg h2 (by decide)
    refine zok_if (fun q4 => ?_) (fun q4 => ?_)
    · have h5 := zc_eql (40960) (40960) q4 h_x3 (zr_c (lo := 40960) (hi := 40960) (by decide)) (by decide)
      refine zok_ck rfl ?_
      refine zok_bs (hσ.wi 31 31 (by decide) h_x4 (by decide +kernel)) (fun σ1 e7 i6 => ?_)
      exact zok_pau i6 (s_X12_write_163 i6.P)
    exact zok_pau hσ (s_X12_write_163 hσ.P)
  have h8 := zc_nel (0) (2) q1 (rM_4 hσ.sg _ (by decide)) (zr_c (lo := 3) (hi := 3) (by decide)) (by decide)
  exact zok_pau hσ (s_X12_write_163 hσ.P)
theorem s_X12_write_103 {G : Nat → Int} {σ : zSt} (hσ : zIM G σ) {x3 : Int32} (h_x3 : zr (0) (65535) x3) {x4 : Int32} (h_x4 : zr (0) (255) x4) : zok (fX12_write_103 σ x3 x4) (zIM G) := by
  unfold fX12_write_103
  refine zok_if (fun q1 => ?_) (fun q1 => ?_)
  · have h2 := zc_eql (2) (2) q1 (rM_4 hσ.sg _ (by decide)) (zr_c (lo := 2) (hi := 2) (by decide)) (by decide)
    have h3 := rM_bk hσ.Y hσ.sg h2 (by decide)
    refine zok_if (fun q4 => ?_) (fun q4 => ?_)
    · have h5 := zc_ler (49152) q4 (zr_c (lo := 49152) (hi := 49152) (by decide)) h_x3 (by decide)
      exact (s_X12_write_140 hσ (zr_w h5 (by decide)) h_x4)
    have h6 := zc_ltl (49151) (z_nle q4) h_x3 (zr_c (lo := 49152) (hi := 49152) (by decide)) (by decide)
    refine zok_ck (by decide) ?_
    refine zok_if (fun q7 => ?_) (fun q7 => ?_)
    · have h8 := zc_eql (0) (0) q7 (zr_rem (lo := 0) (hi := 16383) 16384 (by decide) h6 (by decide)) (zr_c (lo := 0) (hi := 0) (by decide)) (by decide)
      refine zok_ck (by decide) ?_
      refine zok_ck (zin_ok (zr_add (lo := 29) (hi := 31) (zr_c (lo := 29) (hi := 29) (by decide)) (zr_div (lo := 0) (hi := 2) 16384 (by decide) h6 (by decide)) (by decide)) (by decide)) ?_
      refine zok_bs (hσ.wi 29 31 (z_ix (zr_add (lo := 29) (hi := 31) (zr_c (lo := 29) (hi := 29) (by decide)) (zr_div (lo := 0) (hi := 2) 16384 (by decide) h6 (by decide)) (by decide)) (by decide)) h_x4 (by decide +kernel)) (fun σ2 e10 i9 => ?_)
      exact (s_X12_write_140 i9 (zr_w h6 (by decide)) h_x4)
    have h11 := zc_nel (1) (16383) q7 (zr_rem (lo := 0) (hi := 16383) 16384 (by decide) h6 (by decide)) (zr_c (lo := 0) (hi := 0) (by decide)) (by decide)
    exact (s_X12_write_140 hσ (zr_w h6 (by decide)) h_x4)
  exact (s_X12_write_140 hσ h_x3 h_x4)
theorem s_X12_write_75 {G : Nat → Int} {σ : zSt} (hσ : zIM G σ) {x3 : Int32} (h_x3 : zr (0) (65535) x3) {x4 : Int32} (h_x4 : zr (0) (255) x4) : zok (fX12_write_75 σ x3 x4) (zIM G) := by
  unfold fX12_write_75
  refine zok_if (fun q1 => ?_) (fun q1 => ?_)
  · have h2 := zc_eql (1) (1) q1 (rM_4 hσ.sg _ (by decide)) (zr_c (lo := 1) (hi := 1) (by decide)) (by decide)
    have h3 := rM_bk hσ.Y hσ.sg h2 (by decide)
    refine zok_if (fun q4 => ?_) (fun q4 => ?_)
    · have h5 := zc_lel (65532) q4 h_x3 (zr_c (lo := 65532) (hi := 65532) (by decide)) (by decide)
      exact (s_X12_write_103 hσ (zr_w h5 (by decide)) h_x4)
    have h6 := zc_ltr (65533) (z_nle q4) (zr_c (lo := 65532) (hi := 65532) (by decide)) h_x3 (by decide)
    refine zok_ck (zin_ok (zr_sub (lo := 29) (hi := 31) (zr_add (lo := 65562) (hi := 65564) (zr_c (lo := 29) (hi := 29) (by decide)) h6 (by decide)) (zr_c (lo := 65533) (hi := 65533) (by decide)) (by decide)) (by decide)) ?_
    refine zok_bs (hσ.wi 29 31 (z_ix (zr_sub (lo := 29) (hi := 31) (zr_add (lo := 65562) (hi := 65564) (zr_c (lo := 29) (hi := 29) (by decide)) h6 (by decide)) (zr_c (lo := 65533) (hi := 65533) (by decide)) (by decide)) (by decide)) h_x4 (by decide +kernel)) (fun σ3 e8 i7 => ?_)
    exact (s_X12_write_103 i7 (zr_w h6 (by decide)) h_x4)
  exact (s_X12_write_103 hσ h_x3 h_x4)
theorem s_X12_write_52 {G : Nat → Int} {σ : zSt} (hσ : zIM G σ) {x3 : Int32} (h_x3 : zr (0) (65535) x3) {x4 : Int32} (h_x4 : zr (0) (255) x4) : zok (fX12_write_52 σ x3 x4) (zIM G) := by
  unfold fX12_write_52
  refine zok_if (fun q1 => ?_) (fun q1 => ?_)
  · have h2 := zc_eql (1) (1) q1 (rM_4 hσ.sg _ (by decide)) (zr_c (lo := 1) (hi := 1) (by decide)) (by decide)
    have h3 := rM_bk hσ.Y hσ.sg h2 (by decide)
    refine zok_if (fun q4 => ?_) (fun q4 => ?_)
    · have h5 := zc_eql (65532) (65532) q4 h_x3 (zr_c (lo := 65532) (hi := 65532) (by decide)) (by decide)
      refine zok_ck rfl ?_
      refine zok_bs (hσ.wi 32 32 (by decide) h_x4 (by decide +kernel)) (fun σ4 e7 i6 => ?_)
      exact (s_X12_write_75 i6 (zr_w h5 (by decide)) h_x4)
    exact (s_X12_write_75 hσ h_x3 h_x4)
  exact (s_X12_write_75 hσ h_x3 h_x4)
theorem s_X12_write_31 {G : Nat → Int} {σ : zSt} (hσ : zIM G σ) {x3 : Int32} (h_x3 : zr (0) (65535) x3) {x4 : Int32} (h_x4 : zr (0) (255) x4) : zok (fX12_write_31 σ x3 x4) (zIM G) := by
  unfold fX12_write_31
  refine zok_isBat (fun h1 => ?_) ?_
  · have h2 := h1
    refine zok_if (fun q3 => ?_) (fun q3 => ?_)
    · exact zr_no (zc_eql (1) (0) q3 (zr_c (lo := 1) (hi := 1) (by decide)) (zr_c (lo := 0) (hi := 0) (by decide)) (by decide)) (by decide)
    refine zok_pi (s_X12_batteryAt hσ.P h2) (fun v8 h4 => ?_)
    refine zok_ck (zin_ok h4 (by decide)) ?_
    refine zok_bs (hσ.wk (by decide)) (fun σ9 e6 i5 => ?_)
    exact (s_X12_write_52 i5 (zr_w h2 (by decide)) h_x4)
  refine zok_if (fun q7 => ?_) (fun q7 => ?_)
  · exact (s_X12_write_52 hσ h_x3 h_x4)
  exact zr_no (zc_nel (1) (0) q7 (zr_c (lo := 0) (hi := 0) (by decide)) (zr_c (lo := 0) (hi := 0) (by decide)) (by decide)) (by decide)
theorem s_X12_write {G : Nat → Int} {σ : zSt} (hσ : zIM G σ) {x1 : Int32} {x2 : Int32} : zok (fX12_write σ x1 x2) (zIM G) := by
  unfold fX12_write
  refine zok_br (zr_andr (lo := 0) (hi := 65535) (zr_c (lo := 65535) (hi := 65535) (by decide)) (by decide)) (fun v10 e2 h1 => ?_)
  refine zok_br (zr_andr (lo := 0) (hi := 255) (zr_c (lo := 255) (hi := 255) (by decide)) (by decide)) (fun v11 e4 h3 => ?_)
  refine zok_if (fun q5 => ?_) (fun q5 => ?_)
  · have h6 := zc_ltl (49151) q5 h1 (zr_c (lo := 49152) (hi := 49152) (by decide)) (by decide)
    exact (s_X12_write_31 hσ (zr_w h6 (by decide)) h3)
  have h7 := zc_ler (49152) (z_nlt q5) (zr_c (lo := 49152) (hi := 49152) (by decide)) h1 (by decide)
  refine zok_ck (by decide) ?_
  refine zok_ck (zin_ok (zr_rem (lo := 0) (hi := 8191) 8192 (by decide) h7 (by decide)) (by decide)) ?_
  refine zok_bs (hσ.wk (by decide)) (fun σ12 e9 i8 => ?_)
  exact (s_X12_write_31 i8 (zr_w h7 (by decide)) h3)
theorem s_X12_word {σ : zSt} (hσ : zPM σ) {x1 : Int32} (h_x1 : zr (0) (65535) x1) : zok (fX12_word σ x1) (zPi σ (fun v : Int32 => zr (0) (65535) v)) := by
  unfold fX12_word
  refine zok_pi (s_X12_read hσ) (fun v2 h1 => ?_)
  refine zok_pi (s_X12_read hσ) (fun v4 h2 => ?_)
  exact zok_spi (zr_or (lo := 0) (hi := 65535) 16 h1 (zr_shl (lo := 0) (hi := 65280) 8 (by decide) h2 (by decide)) (by decide))
theorem s_X12_wordTo {G : Nat → Int} {σ : zSt} (hσ : zIM G σ) {x1 : Int32} (h_x1 : zr (0) (65535) x1) {x2 : Int32} (h_x2 : zr (0) (65535) x2) : zok (fX12_wordTo σ x1 x2) (zIM G) := by
  unfold fX12_wordTo
  refine zok_bu (s_X12_write hσ) (fun σ1 i1 => ?_)
  refine zok_bu (s_X12_write i1) (fun σ2 i2 => ?_)
  exact zok_some i2
theorem s_X12_pair {σ : zSt} (hσ : zPM σ) {x1 : Int32} (h_x1 : zr (0) (6) x1) : zok (fX12_pair σ x1) (zPi σ (fun v : Int32 => zr (0) (65535) v)) := by
  unfold fX12_pair
  refine zok_ck (zin_ok h_x1 (by decide)) ?_
  refine zok_ck (zin_ok (zr_add (lo := 1) (hi := 7) h_x1 (zr_c (lo := 1) (hi := 1) (by decide)) (by decide)) (by decide)) ?_
  exact zok_spi (zr_or (lo := 0) (hi := 65535) 16 (zr_shl (lo := 0) (hi := 65280) 8 (by decide) (rM_11 hσ.sg _ (z_ix h_x1 (by decide))) (by decide)) (rM_11 hσ.sg _ (z_ix (zr_add (lo := 1) (hi := 7) h_x1 (zr_c (lo := 1) (hi := 1) (by decide)) (by decide)) (by decide))) (by decide))
theorem s_X12_pairTo {G : Nat → Int} {σ : zSt} (hσ : zIM G σ) {x1 : Int32} (h_x1 : zr (0) (6) x1) {x2 : Int32} (h_x2 : zr (-65536) (131071) x2) : zok (fX12_pairTo σ x1 x2) (zIM G) := by
  unfold fX12_pairTo
  refine zok_ck (zin_ok h_x1 (by decide)) ?_
  refine zok_bs (hσ.wi 0 6 (z_ix h_x1 (by decide)) (zr_andr (lo := 0) (hi := 255) (zr_c (lo := 255) (hi := 255) (by decide)) (by decide)) (by decide +kernel)) (fun σ1 e2 i1 => ?_)
  refine zok_ck (zin_ok (zr_add (lo := 1) (hi := 7) h_x1 (zr_c (lo := 1) (hi := 1) (by decide)) (by decide)) (by decide)) ?_
  refine zok_bs (i1.wi 1 7 (z_ix (zr_add (lo := 1) (hi := 7) h_x1 (zr_c (lo := 1) (hi := 1) (by decide)) (by decide)) (by decide)) (zr_andr (lo := 0) (hi := 255) (zr_c (lo := 255) (hi := 255) (by decide)) (by decide)) (by decide +kernel)) (fun σ2 e4 i3 => ?_)
  exact zok_some i3
theorem s_X12_hl_25 {σ : zSt} (hσ : zPM σ) {s0 : Int32} (h_s0 : zr (0) (65535) s0) : zok (fX12_hl_25 σ s0) (zPi σ (fun v : Int32 => zr (0) (65535) v)) := by
  unfold fX12_hl_25
  exact zok_spi h_s0
theorem s_X12_hl {σ : zSt} (hσ : zPM σ) : zok (fX12_hl σ ) (zPi σ (fun v : Int32 => zr (0) (65535) v)) := by
  unfold fX12_hl
  refine zok_if (fun q1 => ?_) (fun q1 => ?_)
  · have h2 := zc_eql (0) (0) q1 (rM_6 hσ.sg _ (by decide)) (zr_c (lo := 0) (hi := 0) (by decide)) (by decide)
    refine zok_pi (s_X12_pair hσ (zr_w (zr_c (lo := 6) (hi := 6) (by decide)) (by decide))) (fun v2 h3 => ?_)
    exact (s_X12_hl_25 hσ h3)
  have h4 := zc_nel (1) (17) q1 (rM_6 hσ.sg _ (by decide)) (zr_c (lo := 0) (hi := 0) (by decide)) (by decide)
  have h5 := xM_sp hσ.sp h4 (by decide)
  refine zok_ck (zin_ok h5 (by decide)) ?_
  exact (s_X12_hl_25 hσ (rM_12 hσ.sg _ (z_ix h5 (by decide))))
theorem s_X12_hlTo_30 {σ : zSt} (hσ : zPM σ) : zok (fX12_hlTo_30 σ ) (zPu σ) := by
  unfold fX12_hlTo_30
  exact zok_spu
theorem s_X12_hlTo {G : Nat → Int} {σ : zSt} (hσ : zIM G σ) {x1 : Int32} (h_x1 : zr (-65536) (131071) x1) : zok (fX12_hlTo σ x1) (zIM G) := by
  unfold fX12_hlTo
  refine zok_if (fun q1 => ?_) (fun q1 => ?_)
  · have h2 := zc_eql (0) (0) q1 (rM_6 hσ.sg _ (by decide)) (zr_c (lo := 0) (hi := 0) (by decide)) (by decide)
    refine zok_bu (s_X12_pairTo hσ (zr_w (zr_c (lo := 6) (hi := 6) (by decide)) (by decide)) h_x1) (fun σ2 i3 => ?_)
    exact zok_pau i3 (s_X12_hlTo_30 i3.P)
  have h4 := zc_nel (1) (17) q1 (rM_6 hσ.sg _ (by decide)) (zr_c (lo := 0) (hi := 0) (by decide)) (by decide)
  have h5 := xM_sp hσ.sp h4 (by decide)
  refine zok_ck (zin_ok h5 (by decide)) ?_
  refine zok_bs (hσ.wi 16 17 (z_ix h5 (by decide)) (zr_andr (lo := 0) (hi := 65535) (zr_c (lo := 65535) (hi := 65535) (by decide)) (by decide)) (by decide +kernel)) (fun σ1 e7 i6 => ?_)
  exact zok_pau i6 (s_X12_hlTo_30 i6.P)
theorem s_X12_rp_44 {σ : zSt} (hσ : zPM σ) {s0 : Int32} (h_s0 : zr (0) (65535) s0) : zok (fX12_rp_44 σ s0) (zPi σ (fun v : Int32 => zr (0) (65535) v)) := by
  unfold fX12_rp_44
  exact zok_spi h_s0
theorem s_X12_rp {σ : zSt} (hσ : zPM σ) {x1 : Int32} (h_x1 : zr (0) (3) x1) : zok (fX12_rp σ x1) (zPi σ (fun v : Int32 => zr (0) (65535) v)) := by
  unfold fX12_rp
  refine zok_if (fun q1 => ?_) (fun q1 => ?_)
  · have h2 := zc_eql (0) (0) q1 h_x1 (zr_c (lo := 0) (hi := 0) (by decide)) (by decide)
    refine zok_pi (s_X12_pair hσ (zr_w (zr_c (lo := 2) (hi := 2) (by decide)) (by decide))) (fun v6 h3 => ?_)
    exact (s_X12_rp_44 hσ h3)
  have h4 := zc_nel (1) (3) q1 h_x1 (zr_c (lo := 0) (hi := 0) (by decide)) (by decide)
  refine zok_if (fun q5 => ?_) (fun q5 => ?_)
  · have h6 := zc_eql (1) (1) q5 h4 (zr_c (lo := 1) (hi := 1) (by decide)) (by decide)
    refine zok_pi (s_X12_pair hσ (zr_w (zr_c (lo := 4) (hi := 4) (by decide)) (by decide))) (fun v4 h7 => ?_)
    exact (s_X12_rp_44 hσ h7)
  have h8 := zc_nel (2) (3) q5 h4 (zr_c (lo := 1) (hi := 1) (by decide)) (by decide)
  refine zok_if (fun q9 => ?_) (fun q9 => ?_)
  · have h10 := zc_eql (2) (2) q9 h8 (zr_c (lo := 2) (hi := 2) (by decide)) (by decide)
    refine zok_pi (s_X12_hl hσ) (fun v2 h11 => ?_)
    exact (s_X12_rp_44 hσ h11)
  have h12 := zc_nel (3) (3) q9 h8 (zr_c (lo := 2) (hi := 2) (by decide)) (by decide)
  refine zok_ck rfl ?_
  exact (s_X12_rp_44 hσ (rM_12 hσ.sg _ (by decide)))
theorem s_X12_rpTo_51 {σ : zSt} (hσ : zPM σ) : zok (fX12_rpTo_51 σ ) (zPu σ) := by
  unfold fX12_rpTo_51
  exact zok_spu
theorem s_X12_rpTo {G : Nat → Int} {σ : zSt} (hσ : zIM G σ) {x1 : Int32} (h_x1 : zr (0) (3) x1) {x2 : Int32} (h_x2 : zr (-1) (65536) x2) : zok (fX12_rpTo σ x1 x2) (zIM G) := by
  unfold fX12_rpTo
  refine zok_if (fun q1 => ?_) (fun q1 => ?_)
  · have h2 := zc_eql (0) (0) q1 h_x1 (zr_c (lo := 0) (hi := 0) (by decide)) (by decide)
    refine zok_bu (s_X12_pairTo hσ (zr_w (zr_c (lo := 2) (hi := 2) (by decide)) (by decide)) (zr_w h_x2 (by decide))) (fun σ4 i3 => ?_)
    exact zok_pau i3 (s_X12_rpTo_51 i3.P)
  have h4 := zc_nel (1) (3) q1 h_x1 (zr_c (lo := 0) (hi := 0) (by decide)) (by decide)
  refine zok_if (fun q5 => ?_) (fun q5 => ?_)
  · have h6 := zc_eql (1) (1) q5 h4 (zr_c (lo := 1) (hi := 1) (by decide)) (by decide)
    refine zok_bu (s_X12_pairTo hσ (zr_w (zr_c (lo := 4) (hi := 4) (by decide)) (by decide)) (zr_w h_x2 (by decide))) (fun σ3 i7 => ?_)
    exact zok_pau i7 (s_X12_rpTo_51 i7.P)
  have h8 := zc_nel (2) (3) q5 h4 (zr_c (lo := 1) (hi := 1) (by decide)) (by decide)
  refine zok_if (fun q9 => ?_) (fun q9 => ?_)
  · have h10 := zc_eql (2) (2) q9 h8 (zr_c (lo := 2) (hi := 2) (by decide)) (by decide)
    refine zok_bu (s_X12_hlTo hσ (zr_w h_x2 (by decide))) (fun σ2 i11 => ?_)
    exact zok_pau i11 (s_X12_rpTo_51 i11.P)
  have h12 := zc_nel (3) (3) q9 h8 (zr_c (lo := 2) (hi := 2) (by decide)) (by decide)
  refine zok_ck rfl ?_
  refine zok_bs (hσ.wi 18 18 (by decide) (zr_andr (lo := 0) (hi := 65535) (zr_c (lo := 65535) (hi := 65535) (by decide)) (by decide)) (by decide +kernel)) (fun σ1 e14 i13 => ?_)
  exact zok_pau i13 (s_X12_rpTo_51 i13.P)
theorem s_X12_m_23 {σ : zSt} (hσ : zPM σ) {s0 : Int32} (h_s0 : zr (0) (65535) s0) : zok (fX12_m_23 σ s0) (zPi σ (fun v : Int32 => zr (0) (65535) v)) := by
  unfold fX12_m_23
  exact zok_spi h_s0
theorem s_X12_m {σ : zSt} (hσ : zPM σ) : zok (fX12_m σ ) (zPi σ (fun v : Int32 => zr (0) (65535) v)) := by
  unfold fX12_m
  refine zok_if (fun q1 => ?_) (fun q1 => ?_)
  · have h2 := zc_eql (0) (0) q1 (rM_7 hσ.sg _ (by decide)) (zr_c (lo := 0) (hi := 0) (by decide)) (by decide)
    refine zok_pi (s_X12_pair hσ (zr_w (zr_c (lo := 6) (hi := 6) (by decide)) (by decide))) (fun v2 h3 => ?_)
    exact (s_X12_m_23 hσ h3)
  have h4 := zc_nel (1) (1) q1 (rM_7 hσ.sg _ (by decide)) (zr_c (lo := 0) (hi := 0) (by decide)) (by decide)
  refine zok_ck rfl ?_
  exact (s_X12_m_23 hσ (rM_12 hσ.sg _ (by decide)))
theorem s_X12_r_74 {σ : zSt} (hσ : zPM σ) {x1 : Int32} (h_x1 : zr (0) (6) x1) : zok (fX12_r_74 σ x1) (zPi σ (fun v : Int32 => zr (0) (255) v)) := by
  unfold fX12_r_74
  refine zok_ck (zin_ok (zr_add (lo := 2) (hi := 8) (zr_c (lo := 2) (hi := 2) (by decide)) h_x1 (by decide)) (by decide)) ?_
  exact zok_spi (rM_11 hσ.sg _ (z_ix (zr_add (lo := 2) (hi := 8) (zr_c (lo := 2) (hi := 2) (by decide)) h_x1 (by decide)) (by decide)))
theorem s_X12_r_73 {σ : zSt} (hσ : zPM σ) {s0 : Int32} (h_s0 : zr (0) (255) s0) : zok (fX12_r_73 σ s0) (zPi σ (fun v : Int32 => zr (0) (255) v)) := by
  unfold fX12_r_73
  exact zok_spi h_s0
theorem s_X12_r {σ : zSt} (hσ : zPM σ) {x1 : Int32} (h_x1 : zr (0) (7) x1) : zok (fX12_r σ x1) (zPi σ (fun v : Int32 => zr (0) (255) v)) := by
  unfold fX12_r
  refine zok_if (fun q1 => ?_) (fun q1 => ?_)
  · have h2 := zc_eql (6) (6) q1 h_x1 (zr_c (lo := 6) (hi := 6) (by decide)) (by decide)
    refine zok_pi (s_X12_m hσ) (fun v2 h3 => ?_)
    refine zok_pi (s_X12_read hσ) (fun v4 h4 => ?_)
    exact zok_spi h4
  refine zok_if (fun q5 => ?_) (fun q5 => ?_)
  · have h6 := zc_eql (7) (7) q5 h_x1 (zr_c (lo := 7) (hi := 7) (by decide)) (by decide)
    refine zok_ck rfl ?_
    exact zok_spi (rM_11 hσ.sg _ (by decide))
  have h7 := zc_nel (0) (6) q5 h_x1 (zr_c (lo := 7) (hi := 7) (by decide)) (by decide)
  refine zok_if (fun q8 => ?_) (fun q8 => ?_)
  · have h9 := zc_lel (0) q8 (rM_6 hσ.sg _ (by decide)) (zr_c (lo := 0) (hi := 0) (by decide)) (by decide)
    exact (s_X12_r_74 hσ h7)
  have h10 := zc_ltr (1) (z_nle q8) (zr_c (lo := 0) (hi := 0) (by decide)) (rM_6 hσ.sg _ (by decide)) (by decide)
  have h11 := xM_sp hσ.sp h10 (by decide)
  refine zok_if (fun q12 => ?_) (fun q12 => ?_)
  · have h13 := zc_lel (3) q12 h7 (zr_c (lo := 3) (hi := 3) (by decide)) (by decide)
    exact (s_X12_r_74 hσ (zr_w h13 (by decide)))
  have h14 := zc_ltr (4) (z_nle q12) (zr_c (lo := 3) (hi := 3) (by decide)) h7 (by decide)
  refine zok_if (fun q15 => ?_) (fun q15 => ?_)
  · have h16 := zc_eql (4) (4) q15 h14 (zr_c (lo := 4) (hi := 4) (by decide)) (by decide)
    refine zok_ck (zin_ok h11 (by decide)) ?_
    exact (s_X12_r_73 hσ (zr_shr (lo := 0) (hi := 255) 8 (by decide) (rM_12 hσ.sg _ (z_ix h11 (by decide))) (by decide)))
  have h17 := zc_nel (5) (6) q15 h14 (zr_c (lo := 4) (hi := 4) (by decide)) (by decide)
  refine zok_ck (zin_ok h11 (by decide)) ?_
  exact (s_X12_r_73 hσ (zr_andr (lo := 0) (hi := 255) (zr_c (lo := 255) (hi := 255) (by decide)) (by decide)))
theorem s_X12_rTo_113 {σ : zSt} (hσ : zPM σ) : zok (fX12_rTo_113 σ ) (zPu σ) := by
  unfold fX12_rTo_113
  exact zok_spu
end ZJN13
section ZJN14
theorem s_X12_rTo_104 {G : Nat → Int} {σ : zSt} (hσ : zIM G σ) {x1 : Int32} (h_x1 : zr (0) (6) x1) {x3 : Int32} (h_x3 : zr (0) (255) x3) : zok (fX12_rTo_104 σ x1 x3) (zIM G) := by
  unfold fX12_rTo_104
  refine zok_ck (zin_ok (zr_add (lo := 2) (hi := 8) (zr_c (lo := 2) (hi := 2) (by decide)) h_x1 (by decide)) (by decide)) ?_
  refine zok_bs (hσ.wi 2 8 (z_ix (zr_add (lo := 2) (hi := 8) (zr_c (lo := 2) (hi := 2) (by decide)) h_x1 (by decide)) (by decide)) h_x3 (by decide +kernel)) (fun σ1 e2 i1 => ?_)
  exact zok_pau i1 (s_X12_rTo_113 i1.P)
theorem s_X12_rTo_100 {G : Nat → Int} {σ : zSt} (hσ : zIM G σ) {s0 : Int32} (h_s0 : zr (0) (65535) s0) {s1 : Int32} (h_s1 : zr (16) (17) s1) : zok (fX12_rTo_100 σ s0 s1) (zIM G) := by
  unfold fX12_rTo_100
  refine zok_ck (zin_ok h_s1 (by decide)) ?_
  refine zok_bs (hσ.wi 16 17 (z_ix h_s1 (by decide)) h_s0 (by decide +kernel)) (fun σ2 e2 i1 => ?_)
  exact zok_pau i1 (s_X12_rTo_113 i1.P)
theorem s_X12_rTo {G : Nat → Int} {σ : zSt} (hσ : zIM G σ) {x1 : Int32} (h_x1 : zr (0) (7) x1) {x2 : Int32} : zok (fX12_rTo σ x1 x2) (zIM G) := by
  unfold fX12_rTo
  refine zok_br (zr_andr (lo := 0) (hi := 255) (zr_c (lo := 255) (hi := 255) (by decide)) (by decide)) (fun v3 e2 h1 => ?_)
  refine zok_if (fun q3 => ?_) (fun q3 => ?_)
  · have h4 := zc_eql (6) (6) q3 h_x1 (zr_c (lo := 6) (hi := 6) (by decide)) (by decide)
    refine zok_pi (s_X12_m hσ.P) (fun v6 h5 => ?_)
    refine zok_bu (s_X12_write hσ) (fun σ7 i6 => ?_)
    exact zok_pau i6 (s_X12_rTo_113 i6.P)
  refine zok_if (fun q7 => ?_) (fun q7 => ?_)
  · have h8 := zc_eql (7) (7) q7 h_x1 (zr_c (lo := 7) (hi := 7) (by decide)) (by decide)
    refine zok_ck rfl ?_
    refine zok_bs (hσ.wi 0 0 (by decide) h1 (by decide +kernel)) (fun σ4 e10 i9 => ?_)
    exact zok_pau i9 (s_X12_rTo_113 i9.P)
  have h11 := zc_nel (0) (6) q7 h_x1 (zr_c (lo := 7) (hi := 7) (by decide)) (by decide)
  refine zok_if (fun q12 => ?_) (fun q12 => ?_)
  · have h13 := zc_lel (0) q12 (rM_6 hσ.sg _ (by decide)) (zr_c (lo := 0) (hi := 0) (by decide)) (by decide)
    exact (s_X12_rTo_104 hσ h11 h1)
  have h14 := zc_ltr (1) (z_nle q12) (zr_c (lo := 0) (hi := 0) (by decide)) (rM_6 hσ.sg _ (by decide)) (by decide)
  have h15 := xM_sp hσ.sp h14 (by decide)
  refine zok_if (fun q16 => ?_) (fun q16 => ?_)
  · have h17 := zc_lel (3) q16 h11 (zr_c (lo := 3) (hi := 3) (by decide)) (by decide)
    exact (s_X12_rTo_104 hσ (zr_w h17 (by decide)) h1)
  have h18 := zc_ltr (4) (z_nle q16) (zr_c (lo := 3) (hi := 3) (by decide)) h11 (by decide)
  refine zok_if (fun q19 => ?_) (fun q19 => ?_)
  · have h20 := zc_eql (4) (4) q19 h18 (zr_c (lo := 4) (hi := 4) (by decide)) (by decide)
    refine zok_ck (zin_ok h15 (by decide)) ?_
    exact (s_X12_rTo_100 hσ (zr_or (lo := 0) (hi := 65535) 16 (zr_shl (lo := 0) (hi := 65280) 8 (by decide) h1 (by decide)) (zr_andr (lo := 0) (hi := 255) (zr_c (lo := 255) (hi := 255) (by decide)) (by decide)) (by decide)) h15)
  have h21 := zc_nel (5) (6) q19 h18 (zr_c (lo := 4) (hi := 4) (by decide)) (by decide)
  refine zok_ck (zin_ok h15 (by decide)) ?_
  exact (s_X12_rTo_100 hσ (zr_or (lo := 0) (hi := 65535) 16 (zr_andr (lo := 0) (hi := 65280) (zr_c (lo := 65280) (hi := 65280) (by decide)) (by decide)) h1 (by decide)) h15)
theorem s_X12_put_34 {G : Nat → Int} {σ : zSt} (hσ : zIM G σ) {s0 : Int32} (h_s0 : zr (0) (255) s0) {s1 : Int32} (h_s1 : zr (1) (1) s1) : zok (fX12_put_34 σ s0 s1) (zIM G) := by
  unfold fX12_put_34
  refine zok_ck (zin_ok h_s1 (by decide)) ?_
  refine zok_bs (hσ.wi 1 1 (z_ix h_s1 (by decide)) h_s0 (by decide +kernel)) (fun σ1 e2 i1 => ?_)
  exact zok_some i1
theorem s_X12_put {G : Nat → Int} {σ : zSt} (hσ : zIM G σ) {x1 : Int32} (h_x1 : zr (0) (7) x1) {x2 : Int32} (h_x2 : zr (0) (1) x2) : zok (fX12_put σ x1 x2) (zIM G) := by
  unfold fX12_put
  refine zok_if (fun q1 => ?_) (fun q1 => ?_)
  · have h2 := zc_eql (0) (0) q1 h_x2 (zr_c (lo := 0) (hi := 0) (by decide)) (by decide)
    refine zok_ck rfl ?_
    exact (s_X12_put_34 hσ (zr_andl (lo := 0) (hi := 255) (rM_11 hσ.sg _ (by decide)) (by decide)) (zr_c (lo := 1) (hi := 1) (by decide)))
  have h3 := zc_nel (1) (1) q1 h_x2 (zr_c (lo := 0) (hi := 0) (by decide)) (by decide)
  refine zok_ck rfl ?_
  exact (s_X12_put_34 hσ (zr_or (lo := 0) (hi := 255) 8 (rM_11 hσ.sg _ (by decide)) (zr_shld (lo := 0) (hi := 128) (zr_c (lo := 1) (hi := 1) (by decide)) h_x1 (by decide)) (by decide)) (zr_c (lo := 1) (hi := 1) (by decide)))
theorem s_X12_flag {σ : zSt} (hσ : zPM σ) {x1 : Int32} (h_x1 : zr (0) (7) x1) : zok (fX12_flag σ x1) (zPi σ (fun v : Int32 => zr (0) (1) v)) := by
  unfold fX12_flag
  refine zok_ck rfl ?_
  exact zok_spi (zr_andr (lo := 0) (hi := 1) (zr_c (lo := 1) (hi := 1) (by decide)) (by decide))
theorem s_X12_xy_31 {G : Nat → Int} {σ : zSt} (hσ : zIM G σ) {s0 : Int32} (h_s0 : zr (0) (1) s0) {s1 : Int32} (h_s1 : zr (3) (3) s1) : zok (fX12_xy_31 σ s0 s1) (zIM G) := by
  unfold fX12_xy_31
  refine zok_bu (s_X12_put hσ (zr_w h_s1 (by decide)) h_s0) (fun σ1 i1 => ?_)
  exact zok_some i1
theorem s_X12_xy_14 {G : Nat → Int} {σ : zSt} (hσ : zIM G σ) {x1 : Int32} (h_x1 : zr (-256) (511) x1) {s0 : Int32} (h_s0 : zr (0) (1) s0) {s1 : Int32} (h_s1 : zr (5) (5) s1) : zok (fX12_xy_14 σ x1 s0 s1) (zIM G) := by
  unfold fX12_xy_14
  refine zok_bu (s_X12_put hσ (zr_w h_s1 (by decide)) h_s0) (fun σ2 i1 => ?_)
  refine zok_if (fun q2 => ?_) (fun q2 => ?_)
  · have h3 := zc_eql (0) (0) q2 (zr_andr (lo := 0) (hi := 8) (zr_c (lo := 8) (hi := 8) (by decide)) (by decide)) (zr_c (lo := 0) (hi := 0) (by decide)) (by decide)
    exact (s_X12_xy_31 i1 (zr_w (zr_c (lo := 0) (hi := 0) (by decide)) (by decide)) (zr_c (lo := 3) (hi := 3) (by decide)))
  have h4 := zc_nel (1) (8) q2 (zr_andr (lo := 0) (hi := 8) (zr_c (lo := 8) (hi := 8) (by decide)) (by decide)) (zr_c (lo := 0) (hi := 0) (by decide)) (by decide)
  exact (s_X12_xy_31 i1 (zr_w (zr_c (lo := 1) (hi := 1) (by decide)) (by decide)) (zr_c (lo := 3) (hi := 3) (by decide)))
theorem s_X12_xy {G : Nat → Int} {σ : zSt} (hσ : zIM G σ) {x1 : Int32} (h_x1 : zr (-256) (511) x1) : zok (fX12_xy σ x1) (zIM G) := by
  unfold fX12_xy
  refine zok_if (fun q1 => ?_) (fun q1 => ?_)
  · have h2 := zc_eql (0) (0) q1 (zr_andr (lo := 0) (hi := 32) (zr_c (lo := 32) (hi := 32) (by decide)) (by decide)) (zr_c (lo := 0) (hi := 0) (by decide)) (by decide)
    exact (s_X12_xy_14 hσ h_x1 (zr_w (zr_c (lo := 0) (hi := 0) (by decide)) (by decide)) (zr_c (lo := 5) (hi := 5) (by decide)))
  have h3 := zc_nel (1) (32) q1 (zr_andr (lo := 0) (hi := 32) (zr_c (lo := 32) (hi := 32) (by decide)) (by decide)) (zr_c (lo := 0) (hi := 0) (by decide)) (by decide)
  exact (s_X12_xy_14 hσ h_x1 (zr_w (zr_c (lo := 1) (hi := 1) (by decide)) (by decide)) (zr_c (lo := 5) (hi := 5) (by decide)))
theorem s_X12_by_31 {G : Nat → Int} {σ : zSt} (hσ : zIM G σ) {x1 : Int32} (h_x1 : zr (0) (255) x1) {s0 : Int32} (h_s0 : zr (0) (1) s0) {s1 : Int32} (h_s1 : zr (6) (6) s1) : zok (fX12_by_31 σ x1 s0 s1) (zIM G) := by
  unfold fX12_by_31
  refine zok_bu (s_X12_put hσ (zr_w h_s1 (by decide)) h_s0) (fun σ1 i1 => ?_)
  refine zok_bu (s_X12_xy i1 (zr_w h_x1 (by decide))) (fun σ2 i2 => ?_)
  exact zok_some i2
theorem s_X12_by_16 {G : Nat → Int} {σ : zSt} (hσ : zIM G σ) {x1 : Int32} (h_x1 : zr (0) (255) x1) {s0 : Int32} (h_s0 : zr (0) (1) s0) {s1 : Int32} (h_s1 : zr (7) (7) s1) : zok (fX12_by_16 σ x1 s0 s1) (zIM G) := by
  unfold fX12_by_16
  refine zok_bu (s_X12_put hσ (zr_w h_s1 (by decide)) h_s0) (fun σ3 i1 => ?_)
  refine zok_if (fun q2 => ?_) (fun q2 => ?_)
  · have h3 := zc_eql (0) (0) q2 h_x1 (zr_c (lo := 0) (hi := 0) (by decide)) (by decide)
    exact (s_X12_by_31 i1 (zr_w h3 (by decide)) (zr_w (zr_c (lo := 1) (hi := 1) (by decide)) (by decide)) (zr_c (lo := 6) (hi := 6) (by decide)))
  have h4 := zc_nel (1) (255) q2 h_x1 (zr_c (lo := 0) (hi := 0) (by decide)) (by decide)
  exact (s_X12_by_31 i1 (zr_w h4 (by decide)) (zr_w (zr_c (lo := 0) (hi := 0) (by decide)) (by decide)) (zr_c (lo := 6) (hi := 6) (by decide)))
theorem s_X12_by {G : Nat → Int} {σ : zSt} (hσ : zIM G σ) {x1 : Int32} (h_x1 : zr (0) (255) x1) : zok (fX12_by σ x1) (zIM G) := by
  unfold fX12_by
  refine zok_if (fun q1 => ?_) (fun q1 => ?_)
  · have h2 := zc_eql (0) (0) q1 (zr_andr (lo := 0) (hi := 128) (zr_c (lo := 128) (hi := 128) (by decide)) (by decide)) (zr_c (lo := 0) (hi := 0) (by decide)) (by decide)
    exact (s_X12_by_16 hσ h_x1 (zr_w (zr_c (lo := 0) (hi := 0) (by decide)) (by decide)) (zr_c (lo := 7) (hi := 7) (by decide)))
  have h3 := zc_nel (1) (128) q1 (zr_andr (lo := 0) (hi := 128) (zr_c (lo := 128) (hi := 128) (by decide)) (by decide)) (zr_c (lo := 0) (hi := 0) (by decide)) (by decide)
  exact (s_X12_by_16 hσ h_x1 (zr_w (zr_c (lo := 1) (hi := 1) (by decide)) (by decide)) (zr_c (lo := 7) (hi := 7) (by decide)))
theorem s_X12_isEven_35 {σ : zSt} (hσ : zPM σ) {s0 : Int32} (h_s0 : zr (0) (1) s0) : zok (fX12_isEven_35 σ s0) (zPi σ (fun v : Int32 => zr (0) (1) v)) := by
  unfold fX12_isEven_35
  refine zok_ck (zbo_ok h_s0 (by decide)) ?_
  exact zok_spi h_s0
theorem s_X12_isEven_4_body {σ : zSt} {k4 : zSt → Int32 → Int32 → Int32 → Option (zSt × Int32)} {Mk4 : Int} (hk4 : ∀ (x0 : Int32) (x1 : Int32) (x2 : Int32), zr (0) (255) x0 → zr (0) (8) x2 → (8) - x2.toInt < Mk4 → zok (k4 σ x0 x1 x2) (zPi σ (fun v : Int32 => zr (0) (1) v))) (hσ : zPM σ) {x0 : Int32} (h_x0 : zr (0) (255) x0) {x1 : Int32} {x2 : Int32} (h_x2 : zr (0) (8) x2) (hMk4 : (8) - x2.toInt ≤ Mk4) : zok (fX12_isEven_4_body k4 σ x0 x1 x2) (zPi σ (fun v : Int32 => zr (0) (1) v)) := by
  unfold fX12_isEven_4_body
  refine zok_if (fun q1 => ?_) (fun q1 => ?_)
  · have h2 := zc_ler (8) q1 (zr_c (lo := 8) (hi := 8) (by decide)) h_x2 (by decide)
    refine zok_ck (by decide) ?_
    refine zok_if (fun q3 => ?_) (fun q3 => ?_)
    · have h4 := zc_eql (0) (0) q3 zr_any (zr_c (lo := 0) (hi := 0) (by decide)) (by decide)
      exact (s_X12_isEven_35 hσ (zr_w (zr_c (lo := 1) (hi := 1) (by decide)) (by decide)))
    exact (s_X12_isEven_35 hσ (zr_w (zr_c (lo := 0) (hi := 0) (by decide)) (by decide)))
  have h5 := zc_ltl (7) (z_nle q1) h_x2 (zr_c (lo := 8) (hi := 8) (by decide)) (by decide)
  refine zok_bv (fun v1 e7 => ?_)
  refine zok_br (zr_add (lo := 1) (hi := 8) h5 (zr_c (lo := 1) (hi := 1) (by decide)) (by decide)) (fun v2 e9 h8 => ?_)
  exact hk4 _ _ _  h_x0 (zr_w h8 (by decide)) (by rw [e9]; have := z_tadd (y := (1 : Int32)) h5 (zr_c (lo := 1) (hi := 1) (by decide)) (by decide); have e9 : (1 : Int32).toInt = 1 := rfl; omega) 
theorem s_X12_isEven_4 {σ : zSt} (hσ : zPM σ) : ∀ (n : Nat) {x0 : Int32} (h_x0 : zr (0) (255) x0) {x1 : Int32} {x2 : Int32} (h_x2 : zr (0) (8) x2) (hm : (8) - x2.toInt < n), zok (fX12_isEven_4 n σ x0 x1 x2) (zPi σ (fun v : Int32 => zr (0) (1) v)) := by
  intro n
  induction n with
  | zero => intro x0 h_x0 x1 x2 h_x2 hm ; have h9 := h_x2.1; have h8 := h_x2.2; exfalso; omega
  | succ n ih => intro x0 h_x0 x1 x2 h_x2 hm ; exact s_X12_isEven_4_body (fun x0 x1 x2 h_x0 h_x2 hm1 => ih h_x0 h_x2 (by omega)) hσ h_x0 h_x2 (Int.le_refl _)
theorem s_X12_isEven {σ : zSt} (hσ : zPM σ) {x0 : Int32} (h_x0 : zr (0) (255) x0) : zok (fX12_isEven σ x0) (zPi σ (fun v : Int32 => zr (0) (1) v)) := by
  unfold fX12_isEven
  exact (s_X12_isEven_4 hσ zfuel h_x0 (zr_w (zr_c (lo := 0) (hi := 0) (by decide)) (by decide)) (by decide))
theorem s_X12_cc_64 {σ : zSt} (hσ : zPM σ) {s0 : Int32} (h_s0 : zr (0) (1) s0) : zok (fX12_cc_64 σ s0) (zPi σ (fun v : Int32 => zr (0) (1) v)) := by
  unfold fX12_cc_64
  refine zok_ck (zbo_ok h_s0 (by decide)) ?_
  exact zok_spi h_s0
theorem s_X12_cc_56 {σ : zSt} (hσ : zPM σ) {s0 : Int32} (h_s0 : zr (0) (1) s0) {s1 : Int32} (h_s1 : zr (0) (1) s1) : zok (fX12_cc_56 σ s0 s1) (zPi σ (fun v : Int32 => zr (0) (1) v)) := by
  unfold fX12_cc_56
  refine zok_if (fun q1 => ?_) (fun q1 => ?_)
  · exact (s_X12_cc_64 hσ (zr_w (zr_c (lo := 1) (hi := 1) (by decide)) (by decide)))
  exact (s_X12_cc_64 hσ (zr_w (zr_c (lo := 0) (hi := 0) (by decide)) (by decide)))
theorem s_X12_cc_44 {σ : zSt} (hσ : zPM σ) {x1 : Int32} (h_x1 : zr (0) (7) x1) {s0 : Int32} (h_s0 : zr (0) (1) s0) : zok (fX12_cc_44 σ x1 s0) (zPi σ (fun v : Int32 => zr (0) (1) v)) := by
  unfold fX12_cc_44
  refine zok_ck (by decide) ?_
  refine zok_if (fun q1 => ?_) (fun q1 => ?_)
  · have h2 := zc_eql (1) (1) q1 (zr_rem (lo := 0) (hi := 1) 2 (by decide) h_x1 (by decide)) (zr_c (lo := 1) (hi := 1) (by decide)) (by decide)
    have h3 := z_odd64 h_x1 h2 (by decide)
    exact (s_X12_cc_56 hσ (zr_w (zr_c (lo := 1) (hi := 1) (by decide)) (by decide)) h_s0)
  have h4 := zc_nel (0) (0) q1 (zr_rem (lo := 0) (hi := 1) 2 (by decide) h_x1 (by decide)) (zr_c (lo := 1) (hi := 1) (by decide)) (by decide)
  exact (s_X12_cc_56 hσ (zr_w (zr_c (lo := 0) (hi := 0) (by decide)) (by decide)) h_s0)
theorem s_X12_cc_32 {σ : zSt} (hσ : zPM σ) {x1 : Int32} (h_x1 : zr (0) (7) x1) {s0 : Int32} (h_s0 : zr (0) (7) s0) : zok (fX12_cc_32 σ x1 s0) (zPi σ (fun v : Int32 => zr (0) (1) v)) := by
  unfold fX12_cc_32
  refine zok_pi (s_X12_flag hσ h_s0) (fun v2 h1 => ?_)
  refine zok_if (fun q2 => ?_) (fun q2 => ?_)
  · have h3 := zc_eql (1) (1) q2 h1 (zr_c (lo := 1) (hi := 1) (by decide)) (by decide)
    exact (s_X12_cc_44 hσ h_x1 (zr_w (zr_c (lo := 1) (hi := 1) (by decide)) (by decide)))
  have h4 := zc_nel (0) (0) q2 h1 (zr_c (lo := 1) (hi := 1) (by decide)) (by decide)
  exact (s_X12_cc_44 hσ h_x1 (zr_w (zr_c (lo := 0) (hi := 0) (by decide)) (by decide)))
theorem s_X12_cc {σ : zSt} (hσ : zPM σ) {x1 : Int32} (h_x1 : zr (0) (7) x1) : zok (fX12_cc σ x1) (zPi σ (fun v : Int32 => zr (0) (1) v)) := by
  unfold fX12_cc
  refine zok_if (fun q1 => ?_) (fun q1 => ?_)
  · have h2 := zc_ler (2) q1 (zr_c (lo := 2) (hi := 2) (by decide)) h_x1 (by decide)
    refine zok_if (fun q3 => ?_) (fun q3 => ?_)
    · have h4 := zc_ler (4) q3 (zr_c (lo := 4) (hi := 4) (by decide)) h2 (by decide)
      refine zok_if (fun q5 => ?_) (fun q5 => ?_)
      · have h6 := zc_ler (6) q5 (zr_c (lo := 6) (hi := 6) (by decide)) h4 (by decide)
        exact (s_X12_cc_32 hσ (zr_w h6 (by decide)) (zr_w (zr_c (lo := 7) (hi := 7) (by decide)) (by decide)))
      have h7 := zc_ltl (5) (z_nle q5) h4 (zr_c (lo := 6) (hi := 6) (by decide)) (by decide)
      exact (s_X12_cc_32 hσ (zr_w h7 (by decide)) (zr_w (zr_c (lo := 2) (hi := 2) (by decide)) (by decide)))
    have h8 := zc_ltl (3) (z_nle q3) h2 (zr_c (lo := 4) (hi := 4) (by decide)) (by decide)
    exact (s_X12_cc_32 hσ (zr_w h8 (by decide)) (zr_w (zr_c (lo := 0) (hi := 0) (by decide)) (by decide)))
  have h9 := zc_ltl (1) (z_nle q1) h_x1 (zr_c (lo := 2) (hi := 2) (by decide)) (by decide)
  exact (s_X12_cc_32 hσ (zr_w h9 (by decide)) (zr_w (zr_c (lo := 6) (hi := 6) (by decide)) (by decide)))
theorem s_X12_push {G : Nat → Int} {σ : zSt} (hσ : zIM G σ) {x1 : Int32} (h_x1 : zr (0) (65535) x1) : zok (fX12_push σ x1) (zIM G) := by
  unfold fX12_push
  refine zok_ck rfl ?_
  refine zok_ck rfl ?_
  refine zok_bs (hσ.wi 18 18 (by decide) (zr_andr (lo := 0) (hi := 65535) (zr_c (lo := 65535) (hi := 65535) (by decide)) (by decide)) (by decide +kernel)) (fun σ1 e2 i1 => ?_)
  refine zok_ck rfl ?_
  refine zok_bu (s_X12_write i1) (fun σ2 i3 => ?_)
  refine zok_ck rfl ?_
  refine zok_ck rfl ?_
  refine zok_bs (i3.wi 18 18 (by decide) (zr_andr (lo := 0) (hi := 65535) (zr_c (lo := 65535) (hi := 65535) (by decide)) (by decide)) (by decide +kernel)) (fun σ3 e5 i4 => ?_)
  refine zok_ck rfl ?_
  refine zok_bu (s_X12_write i4) (fun σ4 i6 => ?_)
  exact zok_some i6
theorem s_X12_pop {G : Nat → Int} {σ : zSt} (hσ : zIM G σ) : zok (fX12_pop σ ) (zAi (zIM G) (fun v : Int32 => zr (0) (65535) v)) := by
  unfold fX12_pop
  refine zok_ck rfl ?_
  refine zok_pi (s_X12_read hσ.P) (fun v2 h1 => ?_)
  refine zok_ck rfl ?_
  refine zok_ck rfl ?_
  refine zok_bs (hσ.wi 18 18 (by decide) (zr_andr (lo := 0) (hi := 65535) (zr_c (lo := 65535) (hi := 65535) (by decide)) (by decide)) (by decide +kernel)) (fun σ3 e3 i2 => ?_)
  refine zok_ck rfl ?_
  refine zok_pi (s_X12_read i2.P) (fun v5 h4 => ?_)
  refine zok_br (zr_or (lo := 0) (hi := 65535) 16 h1 (zr_shl (lo := 0) (hi := 65280) 8 (by decide) h4 (by decide)) (by decide)) (fun v6 e6 h5 => ?_)
  refine zok_ck rfl ?_
  refine zok_ck rfl ?_
  refine zok_bs (i2.wi 18 18 (by decide) (zr_andr (lo := 0) (hi := 65535) (zr_c (lo := 65535) (hi := 65535) (by decide)) (by decide)) (by decide +kernel)) (fun σ7 e8 i7 => ?_)
  exact zok_sai i7 h5
theorem s_X12_grows {G : Nat → Int} {σ : zSt} (hσ : zIM G σ) : zok (fX12_grows σ ) (zIM G) := by
  unfold fX12_grows
  refine zok_ck rfl ?_
  refine zok_ck rfl ?_
  refine zok_ck rfl ?_
  refine zok_bs (hσ.wi 22 22 (by decide) (zr_or (lo := 0) (hi := 255) 8 (zr_andr (lo := 0) (hi := 128) (zr_c (lo := 128) (hi := 128) (by decide)) (by decide)) (zr_andr (lo := 0) (hi := 127) (zr_c (lo := 127) (hi := 127) (by decide)) (by decide)) (by decide)) (by decide +kernel)) (fun σ1 e2 i1 => ?_)
  exact zok_some i1
theorem s_X12_next {G : Nat → Int} {σ : zSt} (hσ : zIM G σ) : zok (fX12_next σ ) (zAi (zIM G) (fun v : Int32 => zr (0) (255) v)) := by
  unfold fX12_next
  refine zok_ck rfl ?_
  refine zok_pi (s_X12_read hσ.P) (fun v2 h1 => ?_)
  refine zok_ck rfl ?_
  refine zok_ck rfl ?_
  refine zok_bs (hσ.wi 19 19 (by decide) (zr_andr (lo := 0) (hi := 65535) (zr_c (lo := 65535) (hi := 65535) (by decide)) (by decide)) (by decide +kernel)) (fun σ3 e3 i2 => ?_)
  exact zok_sai i2 h1
theorem s_X12_fetch {G : Nat → Int} {σ : zSt} (hσ : zIM G σ) : zok (fX12_fetch σ ) (zAi (zIM G) (fun v : Int32 => zr (0) (255) v)) := by
  unfold fX12_fetch
  refine zok_ai (s_X12_next hσ) (fun σ1 v2 i1 h2 => ?_)
  refine zok_bu (s_X12_grows i1) (fun σ3 i3 => ?_)
  exact zok_sai i3 h2
theorem s_X12_nextWord {G : Nat → Int} {σ : zSt} (hσ : zIM G σ) : zok (fX12_nextWord σ ) (zAi (zIM G) (fun v : Int32 => zr (0) (65535) v)) := by
  unfold fX12_nextWord
  refine zok_ai (s_X12_next hσ) (fun σ1 v2 i1 h2 => ?_)
  refine zok_ai (s_X12_next i1) (fun σ3 v4 i3 h4 => ?_)
  exact zok_sai i3 (zr_or (lo := 0) (hi := 65535) 16 h2 (zr_shl (lo := 0) (hi := 65280) 8 (by decide) h4 (by decide)) (by decide))
theorem s_X12_signed_16 {σ : zSt} (hσ : zPM σ) {s0 : Int32} (h_s0 : zr (-128) (127) s0) : zok (fX12_signed_16 σ s0) (zPi σ (fun v : Int32 => zr (-128) (127) v)) := by
  unfold fX12_signed_16
  exact zok_spi h_s0
theorem s_X12_signed {σ : zSt} (hσ : zPM σ) {x0 : Int32} (h_x0 : zr (0) (255) x0) : zok (fX12_signed σ x0) (zPi σ (fun v : Int32 => zr (-128) (127) v)) := by
  unfold fX12_signed
  refine zok_if (fun q1 => ?_) (fun q1 => ?_)
  · have h2 := zc_ler (128) q1 (zr_c (lo := 128) (hi := 128) (by decide)) h_x0 (by decide)
    exact (s_X12_signed_16 hσ (zr_w (zr_sub (lo := -128) (hi := -1) h2 (zr_c (lo := 256) (hi := 256) (by decide)) (by decide)) (by decide)))
  have h3 := zc_ltl (127) (z_nle q1) h_x0 (zr_c (lo := 128) (hi := 128) (by decide)) (by decide)
  exact (s_X12_signed_16 hσ (zr_w h3 (by decide)))
theorem s_X12_call {G : Nat → Int} {σ : zSt} (hσ : zIM G σ) {x1 : Int32} (h_x1 : zr (0) (65535) x1) : zok (fX12_call σ x1) (zIM G) := by
  unfold fX12_call
  refine zok_ck rfl ?_
  refine zok_bu (s_X12_push hσ (rM_12 hσ.sg _ (by decide))) (fun σ1 i1 => ?_)
  refine zok_ck rfl ?_
  refine zok_bs (i1.wi 19 19 (by decide) h_x1 (by decide +kernel)) (fun σ2 e3 i2 => ?_)
  refine zok_ck rfl ?_
  refine zok_bs (i2.wi 20 20 (by decide) h_x1 (by decide +kernel)) (fun σ3 e5 i4 => ?_)
  exact zok_some i4
theorem s_X12_change {G : Nat → Int} {σ : zSt} (hσ : zIM G σ) {x1 : Int32} (h_x1 : zr (0) (7) x1) {x2 : Int32} (h_x2 : zr (6) (15) x2) : zok (fX12_change σ x1 x2) (zIM G) := by
  unfold fX12_change
  refine zok_ck (zin_ok h_x1 (by decide)) ?_
  refine zok_br (rM_11 hσ.sg _ (z_ix h_x1 (by decide))) (fun v1 e2 h1 => ?_)
  refine zok_ck (zin_ok h_x2 (by decide)) ?_
  refine zok_ck (zin_ok h_x1 (by decide)) ?_
  refine zok_bs (hσ.wi 0 7 (z_ix h_x1 (by decide)) (rM_11 hσ.sg _ (z_ix h_x2 (by decide))) (by decide +kernel)) (fun σ2 e4 i3 => ?_)
  refine zok_ck (zin_ok h_x2 (by decide)) ?_
  refine zok_bs (i3.wi 6 15 (z_ix h_x2 (by decide)) h1 (by decide +kernel)) (fun σ3 e6 i5 => ?_)
  exact zok_some i5
theorem s_X12_bit {σ : zSt} (hσ : zPM σ) {x1 : Int32} (h_x1 : zr (0) (6) x1) {x2 : Int32} (h_x2 : zr (0) (7) x2) : zok (fX12_bit σ x1 x2) (zPi σ (fun v : Int32 => zr (0) (1) v)) := by
  unfold fX12_bit
  refine zok_ck (zin_ok (zr_add (lo := 47) (hi := 53) (zr_c (lo := 47) (hi := 47) (by decide)) h_x1 (by decide)) (by decide)) ?_
  exact zok_spi (zr_andr (lo := 0) (hi := 1) (zr_c (lo := 1) (hi := 1) (by decide)) (by decide))
theorem s_X12_mode_57 {σ : zSt} (hσ : zPM σ) {s0 : Int32} (h_s0 : zr (0) (4) s0) : zok (fX12_mode_57 σ s0) (zPi σ (fun v : Int32 => zr (0) (4) v)) := by
  unfold fX12_mode_57
  exact zok_spi h_s0
theorem s_X12_mode {σ : zSt} (hσ : zPM σ) : zok (fX12_mode σ ) (zPi σ (fun v : Int32 => zr (0) (4) v)) := by
  unfold fX12_mode
  refine zok_pi (s_X12_bit hσ (zr_w (zr_c (lo := 0) (hi := 0) (by decide)) (by decide)) (zr_w (zr_c (lo := 2) (hi := 2) (by decide)) (by decide))) (fun v2 h1 => ?_)
  refine zok_if (fun q2 => ?_) (fun q2 => ?_)
  · have h3 := zc_eql (1) (1) q2 h1 (zr_c (lo := 1) (hi := 1) (by decide)) (by decide)
    exact (s_X12_mode_57 hσ (zr_w (zr_c (lo := 4) (hi := 4) (by decide)) (by decide)))
  have h4 := zc_nel (0) (0) q2 h1 (zr_c (lo := 1) (hi := 1) (by decide)) (by decide)
  refine zok_pi (s_X12_bit hσ (zr_w (zr_c (lo := 1) (hi := 1) (by decide)) (by decide)) (zr_w (zr_c (lo := 4) (hi := 4) (by decide)) (by decide))) (fun v4 h5 => ?_)
  refine zok_if (fun q6 => ?_) (fun q6 => ?_)
  · have h7 := zc_eql (1) (1) q6 h5 (zr_c (lo := 1) (hi := 1) (by decide)) (by decide)
    exact (s_X12_mode_57 hσ (zr_w (zr_c (lo := 1) (hi := 1) (by decide)) (by decide)))
  have h8 := zc_nel (0) (0) q6 h5 (zr_c (lo := 1) (hi := 1) (by decide)) (by decide)
  refine zok_pi (s_X12_bit hσ (zr_w (zr_c (lo := 1) (hi := 1) (by decide)) (by decide)) (zr_w (zr_c (lo := 3) (hi := 3) (by decide)) (by decide))) (fun v6 h9 => ?_)
  refine zok_if (fun q10 => ?_) (fun q10 => ?_)
  · have h11 := zc_eql (1) (1) q10 h9 (zr_c (lo := 1) (hi := 1) (by decide)) (by decide)
    exact (s_X12_mode_57 hσ (zr_w (zr_c (lo := 3) (hi := 3) (by decide)) (by decide)))
  have h12 := zc_nel (0) (0) q10 h9 (zr_c (lo := 1) (hi := 1) (by decide)) (by decide)
  refine zok_pi (s_X12_bit hσ (zr_w (zr_c (lo := 0) (hi := 0) (by decide)) (by decide)) (zr_w (zr_c (lo := 1) (hi := 1) (by decide)) (by decide))) (fun v8 h13 => ?_)
  refine zok_if (fun q14 => ?_) (fun q14 => ?_)
  · have h15 := zc_eql (1) (1) q14 h13 (zr_c (lo := 1) (hi := 1) (by decide)) (by decide)
    exact (s_X12_mode_57 hσ (zr_w (zr_c (lo := 2) (hi := 2) (by decide)) (by decide)))
  have h16 := zc_nel (0) (0) q14 h13 (zr_c (lo := 1) (hi := 1) (by decide)) (by decide)
  exact (s_X12_mode_57 hσ (zr_w (zr_c (lo := 0) (hi := 0) (by decide)) (by decide)))
theorem s_X12_height_32 {σ : zSt} (hσ : zPM σ) : zok (fX12_height_32 σ ) (zPi σ (fun v : Int32 => zr (192) (240) v)) := by
  unfold fX12_height_32
  exact zok_spi (zr_w (zr_c (lo := 192) (hi := 192) (by decide)) (by decide))
theorem s_X12_height_55 {σ : zSt} (hσ : zPM σ) {s0 : Int32} (h_s0 : zr (224) (240) s0) : zok (fX12_height_55 σ s0) (zPi σ (fun v : Int32 => zr (192) (240) v)) := by
  unfold fX12_height_55
  exact zok_spi (zr_w h_s0 (by decide))
theorem s_X12_height {σ : zSt} (hσ : zPM σ) : zok (fX12_height σ ) (zPi σ (fun v : Int32 => zr (192) (240) v)) := by
  unfold fX12_height
  refine zok_pi (s_X12_mode hσ) (fun v2 h1 => ?_)
  refine zok_if (fun q2 => ?_) (fun q2 => ?_)
  · have h3 := zc_eql (4) (4) q2 h1 (zr_c (lo := 4) (hi := 4) (by decide)) (by decide)
    refine zok_pi (s_X12_bit hσ (zr_w (zr_c (lo := 0) (hi := 0) (by decide)) (by decide)) (zr_w (zr_c (lo := 1) (hi := 1) (by decide)) (by decide))) (fun v4 h4 => ?_)
    refine zok_if (fun q5 => ?_) (fun q5 => ?_)
    · have h6 := zc_eql (0) (0) q5 h4 (zr_c (lo := 0) (hi := 0) (by decide)) (by decide)
      exact (s_X12_height_32 hσ)
    have h7 := zc_nel (1) (1) q5 h4 (zr_c (lo := 0) (hi := 0) (by decide)) (by decide)
    refine zok_pi (s_X12_bit hσ (zr_w (zr_c (lo := 1) (hi := 1) (by decide)) (by decide)) (zr_w (zr_c (lo := 4) (hi := 4) (by decide)) (by decide))) (fun v6 h8 => ?_)
    refine zok_pi (s_X12_bit hσ (zr_w (zr_c (lo := 1) (hi := 1) (by decide)) (by decide)) (zr_w (zr_c (lo := 3) (hi := 3) (by decide)) (by decide))) (fun v8 h9 => ?_)
    refine zok_if (fun q10 => ?_) (fun q10 => ?_)
    · exact (s_X12_height_32 hσ)
    refine zok_pi (s_X12_bit hσ (zr_w (zr_c (lo := 1) (hi := 1) (by decide)) (by decide)) (zr_w (zr_c (lo := 4) (hi := 4) (by decide)) (by decide))) (fun v10 h11 => ?_)
    refine zok_if (fun q12 => ?_) (fun q12 => ?_)
    · have h13 := zc_eql (1) (1) q12 h11 (zr_c (lo := 1) (hi := 1) (by decide)) (by decide)
      exact (s_X12_height_55 hσ (zr_w (zr_c (lo := 224) (hi := 224) (by decide)) (by decide)))
    have h14 := zc_nel (0) (0) q12 h11 (zr_c (lo := 1) (hi := 1) (by decide)) (by decide)
    exact (s_X12_height_55 hσ (zr_w (zr_c (lo := 240) (hi := 240) (by decide)) (by decide)))
  have h15 := zc_nel (0) (3) q2 h1 (zr_c (lo := 4) (hi := 4) (by decide)) (by decide)
  exact (s_X12_height_32 hσ)
theorem s_X12_vCount_109 {σ : zSt} (hσ : zPM σ) {s0 : Int32} (h_s0 : zr (0) (313) s0) : zok (fX12_vCount_109 σ s0) (zPi σ (fun v : Int32 => zr (0) (255) v)) := by
  unfold fX12_vCount_109
  exact zok_spi (zr_andr (lo := 0) (hi := 255) (zr_c (lo := 255) (hi := 255) (by decide)) (by decide))
theorem s_X12_vCount_108 {σ : zSt} (hσ : zPM σ) {s0 : Int32} (h_s0 : zr (6) (57) s0) {s1 : Int32} (h_s1 : zr (219) (313) s1) : zok (fX12_vCount_108 σ s0 s1) (zPi σ (fun v : Int32 => zr (0) (255) v)) := by
  unfold fX12_vCount_108
  exact (s_X12_vCount_109 hσ (zr_w (zr_sub (lo := 162) (hi := 307) h_s1 h_s0 (by decide)) (by decide)))
theorem s_X12_vCount_82 {σ : zSt} (hσ : zPM σ) {x1 : Int32} (h_x1 : zr (0) (313) x1) {s0 : Int32} (h_s0 : zr (219) (1000) s0) : zok (fX12_vCount_82 σ x1 s0) (zPi σ (fun v : Int32 => zr (0) (255) v)) := by
  unfold fX12_vCount_82
  refine zok_if (fun q1 => ?_) (fun q1 => ?_)
  · have h2 := zc_lel (313) q1 h_s0 h_x1 (by decide)
    have h3 := zc_ler (219) q1 h_s0 h_x1 (by decide)
    refine zok_if (fun q4 => ?_) (fun q4 => ?_)
    · have h5 := zc_eql (1) (1) q4 (rM_1 hσ.sg _ (by decide)) (zr_c (lo := 1) (hi := 1) (by decide)) (by decide)
      exact (s_X12_vCount_108 hσ (zr_w (zr_c (lo := 57) (hi := 57) (by decide)) (by decide)) h3)
    exact (s_X12_vCount_108 hσ (zr_w (zr_c (lo := 6) (hi := 6) (by decide)) (by decide)) h3)
  exact (s_X12_vCount_109 hσ h_x1)
theorem s_X12_vCount {σ : zSt} (hσ : zPM σ) : zok (fX12_vCount σ ) (zPi σ (fun v : Int32 => zr (0) (255) v)) := by
  unfold fX12_vCount
  refine zok_ck rfl ?_
  refine zok_br (rM_29 hσ.sg _ (by decide)) (fun v1 e2 h1 => ?_)
  refine zok_pi (s_X12_height hσ) (fun v3 h3 => ?_)
  refine zok_if (fun q4 => ?_) (fun q4 => ?_)
  · have h5 := zc_eql (1) (1) q4 (rM_1 hσ.sg _ (by decide)) (zr_c (lo := 1) (hi := 1) (by decide)) (by decide)
    refine zok_if (fun q6 => ?_) (fun q6 => ?_)
    · have h7 := zc_eql (192) (192) q6 h3 (zr_c (lo := 192) (hi := 192) (by decide)) (by decide)
      exact (s_X12_vCount_82 hσ h1 (zr_w (zr_c (lo := 243) (hi := 243) (by decide)) (by decide)))
    have h8 := zc_nel (193) (240) q6 h3 (zr_c (lo := 192) (hi := 192) (by decide)) (by decide)
    refine zok_if (fun q9 => ?_) (fun q9 => ?_)
    · have h10 := zc_eql (224) (224) q9 h8 (zr_c (lo := 224) (hi := 224) (by decide)) (by decide)
      exact (s_X12_vCount_82 hσ h1 (zr_w (zr_c (lo := 259) (hi := 259) (by decide)) (by decide)))
    exact (s_X12_vCount_82 hσ h1 (zr_w (zr_c (lo := 267) (hi := 267) (by decide)) (by decide)))
  refine zok_if (fun q11 => ?_) (fun q11 => ?_)
  · have h12 := zc_eql (192) (192) q11 h3 (zr_c (lo := 192) (hi := 192) (by decide)) (by decide)
    exact (s_X12_vCount_82 hσ h1 (zr_w (zr_c (lo := 219) (hi := 219) (by decide)) (by decide)))
  have h13 := zc_nel (193) (240) q11 h3 (zr_c (lo := 192) (hi := 192) (by decide)) (by decide)
  refine zok_if (fun q14 => ?_) (fun q14 => ?_)
  · have h15 := zc_eql (224) (224) q14 h13 (zr_c (lo := 224) (hi := 224) (by decide)) (by decide)
    exact (s_X12_vCount_82 hσ h1 (zr_w (zr_c (lo := 235) (hi := 235) (by decide)) (by decide)))
  exact (s_X12_vCount_82 hσ h1 (zr_w (zr_c (lo := 1000) (hi := 1000) (by decide)) (by decide)))
theorem s_X12_status {G : Nat → Int} {σ : zSt} (hσ : zIM G σ) : zok (fX12_status σ ) (zAi (zIM G) (fun v : Int32 => zr (0) (255) v)) := by
  unfold fX12_status
  refine zok_ck rfl ?_
  refine zok_br (rM_26 hσ.sg _ (by decide)) (fun v1 e2 h1 => ?_)
  refine zok_ck rfl ?_
  refine zok_bs (hσ.wi 61 61 (by decide) (zr_c (lo := 0) (hi := 0) (by decide)) (by decide +kernel)) (fun σ2 e4 i3 => ?_)
  refine zok_ck rfl ?_
  refine zok_bs (i3.wi 62 62 (by decide) (zr_c (lo := 0) (hi := 0) (by decide)) (by decide +kernel)) (fun σ3 e6 i5 => ?_)
  refine zok_ck rfl ?_
  refine zok_bs (i5.wi 63 63 (by decide) (zr_c (lo := 0) (hi := 0) (by decide)) (by decide +kernel)) (fun σ4 e8 i7 => ?_)
  exact zok_sai i7 h1
theorem s_X12_video8 {σ : zSt} (hσ : zPM σ) {x1 : Int32} : zok (fX12_video8 σ x1) (zPi σ (fun v : Int32 => zr (0) (255) v)) := by
  unfold fX12_video8
  refine zok_ck (zin_ok (zr_andr (lo := 0) (hi := 16383) (zr_c (lo := 16383) (hi := 16383) (by decide)) (by decide)) (by decide)) ?_
  exact zok_spi (zr_andr (lo := 0) (hi := 255) (zr_c (lo := 255) (hi := 255) (by decide)) (by decide))
theorem s_X12_further {G : Nat → Int} {σ : zSt} (hσ : zIM G σ) : zok (fX12_further σ ) (zIM G) := by
  unfold fX12_further
  refine zok_ck rfl ?_
  refine zok_ck rfl ?_
  refine zok_bs (hσ.wi 58 58 (by decide) (zr_andr (lo := 0) (hi := 16383) (zr_c (lo := 16383) (hi := 16383) (by decide)) (by decide)) (by decide +kernel)) (fun σ1 e2 i1 => ?_)
  exact zok_some i1
theorem s_X12_data {G : Nat → Int} {σ : zSt} (hσ : zIM G σ) : zok (fX12_data σ ) (zAi (zIM G) (fun v : Int32 => zr (0) (255) v)) := by
  unfold fX12_data
  refine zok_ck rfl ?_
  refine zok_br (rM_24 hσ.sg _ (by decide)) (fun v1 e2 h1 => ?_)
  refine zok_ck rfl ?_
  refine zok_bs (hσ.wi 61 61 (by decide) (zr_c (lo := 0) (hi := 0) (by decide)) (by decide +kernel)) (fun σ2 e4 i3 => ?_)
  refine zok_ck rfl ?_
  refine zok_pi (s_X12_video8 i3.P) (fun v4 h5 => ?_)
  refine zok_ck rfl ?_
  refine zok_bs (i3.wi 60 60 (by decide) h5 (by decide +kernel)) (fun σ5 e7 i6 => ?_)
  refine zok_bu (s_X12_further i6) (fun σ6 i8 => ?_)
  exact zok_sai i8 h1
theorem s_X12_lineAt_45 {σ : zSt} (hσ : zPM σ) {s0 : Int32} (h_s0 : zr (0) (1) s0) : zok (fX12_lineAt_45 σ s0) (zPi σ (fun v : Int32 => zr (0) (1) v)) := by
  unfold fX12_lineAt_45
  exact zok_spi h_s0
theorem s_X12_lineAt {σ : zSt} (hσ : zPM σ) {x1 : Int32} (h_x1 : zr (0) (1) x1) : zok (fX12_lineAt σ x1) (zPi σ (fun v : Int32 => zr (0) (1) v)) := by
  unfold fX12_lineAt
  refine zok_ck rfl ?_
  refine zok_if (fun q1 => ?_) (fun q1 => ?_)
  · have h2 := zc_eql (0) (0) q1 (zr_andr (lo := 0) (hi := 1) (zr_c (lo := 1) (hi := 1) (by decide)) (by decide)) (zr_c (lo := 0) (hi := 0) (by decide)) (by decide)
    refine zok_ck rfl ?_
    exact (s_X12_lineAt_45 hσ (zr_andr (lo := 0) (hi := 1) (zr_c (lo := 1) (hi := 1) (by decide)) (by decide)))
  have h3 := zc_nel (1) (1) q1 (zr_andr (lo := 0) (hi := 1) (zr_c (lo := 1) (hi := 1) (by decide)) (by decide)) (zr_c (lo := 0) (hi := 0) (by decide)) (by decide)
  refine zok_ck (zin_ok (zr_add (lo := 45) (hi := 46) (zr_c (lo := 45) (hi := 45) (by decide)) h_x1 (by decide)) (by decide)) ?_
  exact (s_X12_lineAt_45 hσ (rM_20 hσ.sg _ (z_ix (zr_add (lo := 45) (hi := 46) (zr_c (lo := 45) (hi := 45) (by decide)) h_x1 (by decide)) (by decide))))
theorem s_X12_without_20 {σ : zSt} (hσ : zPM σ) {s0 : Int32} (h_s0 : zr (0) (255) s0) : zok (fX12_without_20 σ s0) (zPi σ (fun v : Int32 => zr (0) (255) v)) := by
  unfold fX12_without_20
  exact zok_spi h_s0
theorem s_X12_without {σ : zSt} (hσ : zPM σ) {x1 : Int32} (h_x1 : zr (0) (255) x1) {x2 : Int32} (h_x2 : zr (3) (7) x2) {x3 : Int32} (h_x3 : zr (0) (1) x3) : zok (fX12_without σ x1 x2 x3) (zPi σ (fun v : Int32 => zr (0) (255) v)) := by
  unfold fX12_without
  refine zok_if (fun q1 => ?_) (fun q1 => ?_)
  · have h2 := zc_eql (1) (1) q1 h_x3 (zr_c (lo := 1) (hi := 1) (by decide)) (by decide)
    exact (s_X12_without_20 hσ (zr_or (lo := 0) (hi := 255) 8 h_x1 (zr_shld (lo := 0) (hi := 128) (zr_c (lo := 1) (hi := 1) (by decide)) h_x2 (by decide)) (by decide)))
  have h3 := zc_nel (0) (0) q1 h_x3 (zr_c (lo := 1) (hi := 1) (by decide)) (by decide)
  exact (s_X12_without_20 hσ (zr_andl (lo := 0) (hi := 255) h_x1 (by decide)))
theorem s_X12_port_32 {σ : zSt} (hσ : zPM σ) : zok (fX12_port_32 σ ) (zPi σ (fun v : Int32 => zr (0) (255) v)) := by
  unfold fX12_port_32
  exact zok_spi (zr_w (zr_c (lo := 255) (hi := 255) (by decide)) (by decide))
theorem s_X12_port_73 {σ : zSt} (hσ : zPM σ) {s0 : Int32} (h_s0 : zr (0) (255) s0) : zok (fX12_port_73 σ s0) (zPi σ (fun v : Int32 => zr (0) (255) v)) := by
  unfold fX12_port_73
  exact zok_spi h_s0
theorem s_X12_port_60 {σ : zSt} (hσ : zPM σ) {s0 : Int32} (h_s0 : zr (0) (128) s0) {s1 : Int32} (h_s1 : zr (64) (64) s1) : zok (fX12_port_60 σ s0 s1) (zPi σ (fun v : Int32 => zr (0) (255) v)) := by
  unfold fX12_port_60
  exact (s_X12_port_73 hσ (zr_or (lo := 0) (hi := 255) 8 h_s1 h_s0 (by decide)))
theorem s_X12_port_99 {σ : zSt} (hσ : zPM σ) {s0 : Int32} (h_s0 : zr (0) (255) s0) : zok (fX12_port_99 σ s0) (zPi σ (fun v : Int32 => zr (0) (255) v)) := by
  unfold fX12_port_99
  exact zok_spi h_s0
theorem s_X12_port_122 {σ : zSt} (hσ : zPM σ) {s0 : Int32} (h_s0 : zr (0) (255) s0) : zok (fX12_port_122 σ s0) (zPi σ (fun v : Int32 => zr (0) (255) v)) := by
  unfold fX12_port_122
  exact zok_spi h_s0
theorem s_X12_port_230 {σ : zSt} (hσ : zPM σ) {s0 : Int32} (h_s0 : zr (0) (255) s0) : zok (fX12_port_230 σ s0) (zPi σ (fun v : Int32 => zr (0) (255) v)) := by
  unfold fX12_port_230
  exact zok_spi h_s0
theorem s_X12_port_289 {σ : zSt} (hσ : zPM σ) {s0 : Int32} (h_s0 : zr (0) (255) s0) : zok (fX12_port_289 σ s0) (zPi σ (fun v : Int32 => zr (0) (255) v)) := by
  unfold fX12_port_289
  exact zok_spi h_s0
theorem s_X12_port_147 {σ : zSt} (hσ : zPM σ) {x2 : Int32} (h_x2 : zr (0) (1) x2) : zok (fX12_port_147 σ x2) (zPi σ (fun v : Int32 => zr (0) (255) v)) := by
  unfold fX12_port_147
  refine zok_if (fun q1 => ?_) (fun q1 => ?_)
  · have h2 := zc_eql (0) (0) q1 h_x2 (zr_c (lo := 0) (hi := 0) (by decide)) (by decide)
    refine zok_ck rfl ?_
    refine zok_ck rfl ?_
    refine zok_br (zr_andl (lo := 0) (hi := 255) (zr_c (lo := 255) (hi := 255) (by decide)) (by decide)) (fun v1 e4 h3 => ?_)
    refine zok_ck rfl ?_
    refine zok_if (fun q5 => ?_) (fun q5 => ?_)
    · have h6 := zc_eql (0) (0) q5 (zr_andr (lo := 0) (hi := 1) (zr_c (lo := 1) (hi := 1) (by decide)) (by decide)) (zr_c (lo := 0) (hi := 0) (by decide)) (by decide)
      refine zok_ck rfl ?_
      refine zok_pi (s_X12_without hσ h3 (zr_w (zr_c (lo := 5) (hi := 5) (by decide)) (by decide)) (zr_andr (lo := 0) (hi := 1) (zr_c (lo := 1) (hi := 1) (by decide)) (by decide))) (fun v3 h7 => ?_)
      exact (s_X12_port_289 hσ h7)
    have h8 := zc_nel (1) (1) q5 (zr_andr (lo := 0) (hi := 1) (zr_c (lo := 1) (hi := 1) (by decide)) (by decide)) (zr_c (lo := 0) (hi := 0) (by decide)) (by decide)
    exact (s_X12_port_289 hσ h3)
  have h9 := zc_nel (1) (1) q1 h_x2 (zr_c (lo := 0) (hi := 0) (by decide)) (by decide)
  refine zok_ck rfl ?_
  refine zok_br (zr_or (lo := 0) (hi := 255) 8 (zr_andl (lo := 0) (hi := 255) (zr_c (lo := 255) (hi := 255) (by decide)) (by decide)) (zr_c (lo := 48) (hi := 48) (by decide)) (by decide)) (fun v4 e11 h10 => ?_)
  refine zok_pi (s_X12_lineAt hσ (zr_w (zr_c (lo := 0) (hi := 0) (by decide)) (by decide))) (fun v6 h12 => ?_)
  refine zok_pi (s_X12_without hσ h10 (zr_w (zr_c (lo := 6) (hi := 6) (by decide)) (by decide)) h12) (fun v8 h13 => ?_)
  refine zok_pi (s_X12_lineAt hσ (zr_w (zr_c (lo := 1) (hi := 1) (by decide)) (by decide))) (fun v10 h14 => ?_)
  refine zok_pi (s_X12_without hσ h13 (zr_w (zr_c (lo := 7) (hi := 7) (by decide)) (by decide)) h14) (fun v12 h15 => ?_)
  refine zok_ck rfl ?_
  refine zok_if (fun q16 => ?_) (fun q16 => ?_)
  · have h17 := zc_eql (0) (0) q16 (zr_andr (lo := 0) (hi := 4) (zr_c (lo := 4) (hi := 4) (by decide)) (by decide)) (zr_c (lo := 0) (hi := 0) (by decide)) (by decide)
    refine zok_ck rfl ?_
    refine zok_pi (s_X12_without hσ h15 (zr_w (zr_c (lo := 3) (hi := 3) (by decide)) (by decide)) (zr_andr (lo := 0) (hi := 1) (zr_c (lo := 1) (hi := 1) (by decide)) (by decide))) (fun v14 h18 => ?_)
    exact (s_X12_port_230 hσ h18)
  have h19 := zc_nel (1) (4) q16 (zr_andr (lo := 0) (hi := 4) (zr_c (lo := 4) (hi := 4) (by decide)) (by decide)) (zr_c (lo := 0) (hi := 0) (by decide)) (by decide)
  exact (s_X12_port_230 hσ h15)
theorem s_X12_port_12 {G : Nat → Int} {σ : zSt} (hσ : zIM G σ) {x1 : Int32} (h_x1 : zr (0) (255) x1) {s0 : Int32} (h_s0 : zr (0) (1) s0) : zok (fX12_port_12 σ x1 s0) (zAi (zIM G) (fun v : Int32 => zr (0) (255) v)) := by
  unfold fX12_port_12
  refine zok_if (fun q1 => ?_) (fun q1 => ?_)
  · have h2 := zc_ler (64) q1 (zr_c (lo := 64) (hi := 64) (by decide)) h_x1 (by decide)
    refine zok_if (fun q3 => ?_) (fun q3 => ?_)
    · have h4 := zc_ler (128) q3 (zr_c (lo := 128) (hi := 128) (by decide)) h2 (by decide)
      refine zok_if (fun q5 => ?_) (fun q5 => ?_)
      · have h6 := zc_ler (192) q5 (zr_c (lo := 192) (hi := 192) (by decide)) h4 (by decide)
        refine zok_if (fun q7 => ?_) (fun q7 => ?_)
        · have h8 := zc_eql (242) (242) q7 h6 (zr_c (lo := 242) (hi := 242) (by decide)) (by decide)
          refine zok_if (fun q9 => ?_) (fun q9 => ?_)
          · have h10 := zc_eql (2) (2) q9 (rM_1 hσ.sg _ (by decide)) (zr_c (lo := 2) (hi := 2) (by decide)) (by decide)
            exact zok_pai hσ (s_X12_port_147 hσ.P h_s0)
          have h11 := zc_nel (0) (1) q9 (rM_1 hσ.sg _ (by decide)) (zr_c (lo := 2) (hi := 2) (by decide)) (by decide)
          refine zok_ck rfl ?_
          exact zok_sai hσ (zr_w (rM_42 hσ.sg _ (by decide)) (by decide))
        exact zok_pai hσ (s_X12_port_147 hσ.P h_s0)
      have h12 := zc_ltl (191) (z_nle q5) h4 (zr_c (lo := 192) (hi := 192) (by decide)) (by decide)
      refine zok_if (fun q13 => ?_) (fun q13 => ?_)
      · have h14 := zc_eql (0) (0) q13 h_s0 (zr_c (lo := 0) (hi := 0) (by decide)) (by decide)
        refine zok_ai (s_X12_data hσ) (fun σ15 v16 i15 h16 => ?_)
        exact zok_pai i15 (s_X12_port_122 i15.P h16)
      have h17 := zc_nel (1) (1) q13 h_s0 (zr_c (lo := 0) (hi := 0) (by decide)) (by decide)
      refine zok_ai (s_X12_status hσ) (fun σ17 v18 i18 h19 => ?_)
      exact zok_pai i18 (s_X12_port_122 i18.P h19)
    have h20 := zc_ltl (127) (z_nle q3) h2 (zr_c (lo := 128) (hi := 128) (by decide)) (by decide)
    refine zok_if (fun q21 => ?_) (fun q21 => ?_)
    · have h22 := zc_eql (0) (0) q21 h_s0 (zr_c (lo := 0) (hi := 0) (by decide)) (by decide)
      refine zok_pi (s_X12_vCount hσ.P) (fun v20 h23 => ?_)
      exact zok_pai hσ (s_X12_port_99 hσ.P h23)
    have h24 := zc_nel (1) (1) q21 h_s0 (zr_c (lo := 0) (hi := 0) (by decide)) (by decide)
    refine zok_ck rfl ?_
    exact zok_pai hσ (s_X12_port_99 hσ.P (rM_18 hσ.sg _ (by decide)))
  have h25 := zc_ltl (63) (z_nle q1) h_x1 (zr_c (lo := 64) (hi := 64) (by decide)) (by decide)
  refine zok_if (fun q26 => ?_) (fun q26 => ?_)
  · have h27 := zc_eql (2) (2) q26 (rM_1 hσ.sg _ (by decide)) (zr_c (lo := 2) (hi := 2) (by decide)) (by decide)
    refine zok_if (fun q28 => ?_) (fun q28 => ?_)
    · have h29 := zc_lel (5) q28 h25 (zr_c (lo := 5) (hi := 5) (by decide)) (by decide)
      refine zok_if (fun q30 => ?_) (fun q30 => ?_)
      · have h31 := zc_eql (0) (0) q30 h29 (zr_c (lo := 0) (hi := 0) (by decide)) (by decide)
        refine zok_ck rfl ?_
        refine zok_if (fun q32 => ?_) (fun q32 => ?_)
        · have h33 := zc_eql (1) (1) q32 (rM_20 hσ.sg _ (by decide)) (zr_c (lo := 1) (hi := 1) (by decide)) (by decide)
          exact zok_pai hσ (s_X12_port_60 hσ.P (zr_w (zr_c (lo := 0) (hi := 0) (by decide)) (by decide)) (zr_c (lo := 64) (hi := 64) (by decide)))
        have h34 := zc_nel (0) (0) q32 (rM_20 hσ.sg _ (by decide)) (zr_c (lo := 1) (hi := 1) (by decide)) (by decide)
        exact zok_pai hσ (s_X12_port_60 hσ.P (zr_w (zr_c (lo := 128) (hi := 128) (by decide)) (by decide)) (zr_c (lo := 64) (hi := 64) (by decide)))
      have h35 := zc_nel (1) (5) q30 h29 (zr_c (lo := 0) (hi := 0) (by decide)) (by decide)
      refine zok_ck (zin_ok (zr_add (lo := 37) (hi := 41) (zr_c (lo := 36) (hi := 36) (by decide)) h35 (by decide)) (by decide)) ?_
      exact zok_pai hσ (s_X12_port_73 hσ.P (rM_19 hσ.sg _ (z_ix (zr_add (lo := 37) (hi := 41) (zr_c (lo := 36) (hi := 36) (by decide)) h35 (by decide)) (by decide))))
    have h36 := zc_ltr (6) (z_nle q28) (zr_c (lo := 5) (hi := 5) (by decide)) h25 (by decide)
    exact zok_pai hσ (s_X12_port_32 hσ.P)
  have h37 := zc_nel (0) (1) q26 (rM_1 hσ.sg _ (by decide)) (zr_c (lo := 2) (hi := 2) (by decide)) (by decide)
  exact zok_pai hσ (s_X12_port_32 hσ.P)
theorem s_X12_port {G : Nat → Int} {σ : zSt} (hσ : zIM G σ) {x1 : Int32} (h_x1 : zr (0) (255) x1) : zok (fX12_port σ x1) (zAi (zIM G) (fun v : Int32 => zr (0) (255) v)) := by
  unfold fX12_port
  refine zok_ck (by decide) ?_
  refine zok_if (fun q1 => ?_) (fun q1 => ?_)
  · have h2 := zc_eql (1) (1) q1 (zr_rem (lo := 0) (hi := 1) 2 (by decide) h_x1 (by decide)) (zr_c (lo := 1) (hi := 1) (by decide)) (by decide)
    have h3 := z_odd64 h_x1 h2 (by decide)
    exact (s_X12_port_12 hσ h_x1 (zr_w (zr_c (lo := 1) (hi := 1) (by decide)) (by decide)))
  have h4 := zc_nel (0) (0) q1 (zr_rem (lo := 0) (hi := 1) 2 (by decide) h_x1 (by decide)) (zr_c (lo := 1) (hi := 1) (by decide)) (by decide)
  exact (s_X12_port_12 hσ h_x1 (zr_w (zr_c (lo := 0) (hi := 0) (by decide)) (by decide)))
theorem s_X12_hCount_27 {σ : zSt} (hσ : zPM σ) {s0 : Int32} (h_s0 : zr (0) (255) s0) : zok (fX12_hCount_27 σ s0) (zPi σ (fun v : Int32 => zr (0) (255) v)) := by
  unfold fX12_hCount_27
  exact zok_spi h_s0
theorem s_X12_hCount {σ : zSt} (hσ : zPM σ) : zok (fX12_hCount σ ) (zPi σ (fun v : Int32 => zr (0) (255) v)) := by
  unfold fX12_hCount
  refine zok_ck rfl ?_
  refine zok_ck (by decide) ?_
  refine zok_br (zr_div (lo := 0) (hi := 170) 4 (by decide) (zr_mul (lo := 0) (hi := 681) (rM_30 hσ.sg _ (by decide)) (zr_c (lo := 3) (hi := 3) (by decide)) (by decide)) (by decide)) (fun v1 e2 h1 => ?_)
  refine zok_if (fun q3 => ?_) (fun q3 => ?_)
  · have h4 := zc_ler (148) q3 (zr_c (lo := 148) (hi := 148) (by decide)) h1 (by decide)
    exact (s_X12_hCount_27 hσ (zr_w (zr_add (lo := 233) (hi := 255) h4 (zr_c (lo := 85) (hi := 85) (by decide)) (by decide)) (by decide)))
  have h5 := zc_ltl (147) (z_nle q3) h1 (zr_c (lo := 148) (hi := 148) (by decide)) (by decide)
  exact (s_X12_hCount_27 hσ (zr_w h5 (by decide)))
theorem s_X12_noise_141 {σ : zSt} (hσ : zPM σ) : zok (fX12_noise_141 σ ) (zPu σ) := by
  unfold fX12_noise_141
  exact zok_spu
theorem s_X12_noise_140 {G : Nat → Int} {σ : zSt} (hσ : zIM G σ) {s0 : Int32} (h_s0 : zr (0) (1023) s0) {s1 : Int32} (h_s1 : zr (69) (71) s1) : zok (fX12_noise_140 σ s0 s1) (zIM G) := by
  unfold fX12_noise_140
  refine zok_ck (zin_ok h_s1 (by decide)) ?_
  refine zok_bs (hσ.wi 69 71 (z_ix h_s1 (by decide)) h_s0 (by decide +kernel)) (fun σ1 e2 i1 => ?_)
  exact zok_pau i1 (s_X12_noise_141 i1.P)
theorem s_X12_noise_19 {G : Nat → Int} {σ : zSt} (hσ : zIM G σ) {x1 : Int32} (h_x1 : zr (0) (255) x1) : zok (fX12_noise_19 σ x1) (zIM G) := by
  unfold fX12_noise_19
  refine zok_ck rfl ?_
  refine zok_ck (by decide) ?_
  refine zok_br (zr_div (lo := 0) (hi := 3) 2 (by decide) (rM_36 hσ.sg _ (by decide)) (by decide)) (fun v2 e2 h1 => ?_)
  refine zok_ck rfl ?_
  refine zok_ck (by decide) ?_
  refine zok_if (fun q3 => ?_) (fun q3 => ?_)
  · have h4 := zc_eql (1) (1) q3 (zr_rem (lo := 0) (hi := 1) 2 (by decide) (rM_36 hσ.sg _ (by decide)) (by decide)) (zr_c (lo := 1) (hi := 1) (by decide)) (by decide)
    have h5 := z_odd64 (rM_36 hσ.sg _ (by decide)) h4 (by decide)
    refine zok_ck (zin_ok (zr_add (lo := 78) (hi := 81) (zr_c (lo := 78) (hi := 78) (by decide)) h1 (by decide)) (by decide)) ?_
    refine zok_bs (hσ.wi 78 81 (z_ix (zr_add (lo := 78) (hi := 81) (zr_c (lo := 78) (hi := 78) (by decide)) h1 (by decide)) (by decide)) (zr_andr (lo := 0) (hi := 15) (zr_c (lo := 15) (hi := 15) (by decide)) (by decide)) (by decide +kernel)) (fun σ5 e7 i6 => ?_)
    exact zok_pau i6 (s_X12_noise_141 i6.P)
  have h8 := zc_nel (0) (0) q3 (zr_rem (lo := 0) (hi := 1) 2 (by decide) (rM_36 hσ.sg _ (by decide)) (by decide)) (zr_c (lo := 1) (hi := 1) (by decide)) (by decide)
  refine zok_if (fun q9 => ?_) (fun q9 => ?_)
  · have h10 := zc_eql (3) (3) q9 h1 (zr_c (lo := 3) (hi := 3) (by decide)) (by decide)
    refine zok_ck rfl ?_
    refine zok_bs (hσ.wi 82 82 (by decide) (zr_andr (lo := 0) (hi := 7) (zr_c (lo := 7) (hi := 7) (by decide)) (by decide)) (by decide +kernel)) (fun σ3 e12 i11 => ?_)
    refine zok_ck rfl ?_
    refine zok_bs (i11.wi 85 85 (by decide) (zr_c (lo := 32768) (hi := 32768) (by decide)) (by decide +kernel)) (fun σ4 e14 i13 => ?_)
    exact zok_pau i13 (s_X12_noise_141 i13.P)
  have h15 := zc_nel (0) (2) q9 h1 (zr_c (lo := 3) (hi := 3) (by decide)) (by decide)
  refine zok_if (fun q16 => ?_) (fun q16 => ?_)
  · have h17 := zc_lel (127) q16 h_x1 (zr_c (lo := 127) (hi := 127) (by decide)) (by decide)
    refine zok_ck (zin_ok (zr_add (lo := 69) (hi := 71) (zr_c (lo := 69) (hi := 69) (by decide)) h15 (by decide)) (by decide)) ?_
    exact (s_X12_noise_140 hσ (zr_or (lo := 0) (hi := 1023) 10 (zr_andr (lo := 0) (hi := 15) (zr_c (lo := 15) (hi := 15) (by decide)) (by decide)) (zr_shl (lo := 0) (hi := 1008) 4 (by decide) (zr_andr (lo := 0) (hi := 63) (zr_c (lo := 63) (hi := 63) (by decide)) (by decide)) (by decide)) (by decide)) (zr_add (lo := 69) (hi := 71) (zr_c (lo := 69) (hi := 69) (by decide)) h15 (by decide)))
  have h18 := zc_ltr (128) (z_nle q16) (zr_c (lo := 127) (hi := 127) (by decide)) h_x1 (by decide)
  refine zok_ck (zin_ok (zr_add (lo := 69) (hi := 71) (zr_c (lo := 69) (hi := 69) (by decide)) h15 (by decide)) (by decide)) ?_
  exact (s_X12_noise_140 hσ (zr_or (lo := 0) (hi := 1023) 10 (zr_andr (lo := 0) (hi := 1008) (zr_c (lo := 1008) (hi := 1008) (by decide)) (by decide)) (zr_andr (lo := 0) (hi := 15) (zr_c (lo := 15) (hi := 15) (by decide)) (by decide)) (by decide)) (zr_add (lo := 69) (hi := 71) (zr_c (lo := 69) (hi := 69) (by decide)) h15 (by decide)))
theorem s_X12_noise {G : Nat → Int} {σ : zSt} (hσ : zIM G σ) {x1 : Int32} (h_x1 : zr (0) (255) x1) : zok (fX12_noise σ x1) (zIM G) := by
  unfold fX12_noise
  refine zok_if (fun q1 => ?_) (fun q1 => ?_)
  · have h2 := zc_lel (127) q1 h_x1 (zr_c (lo := 127) (hi := 127) (by decide)) (by decide)
    exact (s_X12_noise_19 hσ (zr_w h2 (by decide)))
  have h3 := zc_ltr (128) (z_nle q1) (zr_c (lo := 127) (hi := 127) (by decide)) h_x1 (by decide)
  refine zok_ck rfl ?_
  refine zok_bs (hσ.wi 86 86 (by decide) (zr_andr (lo := 0) (hi := 7) (zr_c (lo := 7) (hi := 7) (by decide)) (by decide)) (by decide +kernel)) (fun σ6 e5 i4 => ?_)
  exact (s_X12_noise_19 i4 (zr_w h3 (by decide)))
theorem s_X12_control_162 {σ : zSt} (hσ : zPM σ) : zok (fX12_control_162 σ ) (zPu σ) := by
  unfold fX12_control_162
  exact zok_spu
theorem s_X12_control {G : Nat → Int} {σ : zSt} (hσ : zIM G σ) {x1 : Int32} (h_x1 : zr (0) (255) x1) : zok (fX12_control σ x1) (zIM G) := by
  unfold fX12_control
  refine zok_ck rfl ?_
  refine zok_if (fun q1 => ?_) (fun q1 => ?_)
  · have h2 := zc_eql (0) (0) q1 (rM_25 hσ.sg _ (by decide)) (zr_c (lo := 0) (hi := 0) (by decide)) (by decide)
    refine zok_ck rfl ?_
    refine zok_ck rfl ?_
    refine zok_bs (hσ.wi 58 58 (by decide) (zr_or (lo := 0) (hi := 16383) 14 (zr_andr (lo := 0) (hi := 16128) (zr_c (lo := 16128) (hi := 16128) (by decide)) (by decide)) h_x1 (by decide)) (by decide +kernel)) (fun σ9 e4 i3 => ?_)
    refine zok_ck rfl ?_
    refine zok_bs (i3.wi 61 61 (by decide) (zr_c (lo := 1) (hi := 1) (by decide)) (by decide +kernel)) (fun σ10 e6 i5 => ?_)
    exact zok_some i5
  have h7 := zc_nel (1) (1) q1 (rM_25 hσ.sg _ (by decide)) (zr_c (lo := 0) (hi := 0) (by decide)) (by decide)
  refine zok_ck rfl ?_
  refine zok_bs (hσ.wi 61 61 (by decide) (zr_c (lo := 0) (hi := 0) (by decide)) (by decide +kernel)) (fun σ1 e9 i8 => ?_)
  refine zok_ck rfl ?_
  refine zok_ck rfl ?_
  refine zok_bs (i8.wi 58 58 (by decide) (zr_or (lo := 0) (hi := 16383) 14 (zr_shl (lo := 0) (hi := 16128) 8 (by decide) (zr_andr (lo := 0) (hi := 63) (zr_c (lo := 63) (hi := 63) (by decide)) (by decide)) (by decide)) (zr_andr (lo := 0) (hi := 255) (zr_c (lo := 255) (hi := 255) (by decide)) (by decide)) (by decide)) (by decide +kernel)) (fun σ2 e11 i10 => ?_)
  refine zok_ck rfl ?_
  refine zok_bs (i10.wi 59 59 (by decide) (zr_shr (lo := 0) (hi := 3) 6 (by decide) h_x1 (by decide)) (by decide +kernel)) (fun σ3 e13 i12 => ?_)
  refine zok_ck rfl ?_
  refine zok_if (fun q14 => ?_) (fun q14 => ?_)
  · have h15 := zc_eql (0) (0) q14 (rM_23 i12.sg _ (by decide)) (zr_c (lo := 0) (hi := 0) (by decide)) (by decide)
    refine zok_ck rfl ?_
    refine zok_pi (s_X12_video8 i12.P) (fun v6 h16 => ?_)
    refine zok_ck rfl ?_
    refine zok_bs (i12.wi 60 60 (by decide) h16 (by decide +kernel)) (fun σ7 e18 i17 => ?_)
    refine zok_bu (s_X12_further i17) (fun σ8 i19 => ?_)
    exact zok_pau i19 (s_X12_control_162 i19.P)
  have h20 := zc_nel (1) (3) q14 (rM_23 i12.sg _ (by decide)) (zr_c (lo := 0) (hi := 0) (by decide)) (by decide)
  refine zok_ck rfl ?_
  refine zok_if (fun q21 => ?_) (fun q21 => ?_)
  · have h22 := zc_eql (2) (2) q21 h20 (zr_c (lo := 2) (hi := 2) (by decide)) (by decide)
    refine zok_ck (by decide) ?_
    refine zok_if (fun q23 => ?_) (fun q23 => ?_)
    · have h24 := zc_ler (11) q23 (zr_c (lo := 11) (hi := 11) (by decide)) (zr_rem (lo := 0) (hi := 15) 16 (by decide) h_x1 (by decide)) (by decide)
      exact zok_pau i12 (s_X12_control_162 i12.P)
    have h25 := zc_ltl (10) (z_nle q23) (zr_rem (lo := 0) (hi := 15) 16 (by decide) h_x1 (by decide)) (zr_c (lo := 11) (hi := 11) (by decide)) (by decide)
    refine zok_ck (by decide) ?_
    refine zok_ck rfl ?_
    refine zok_ck (zin_ok (zr_add (lo := 47) (hi := 57) (zr_c (lo := 47) (hi := 47) (by decide)) h25 (by decide)) (by decide)) ?_
    refine zok_bs (i12.wi 47 57 (z_ix (zr_add (lo := 47) (hi := 57) (zr_c (lo := 47) (hi := 47) (by decide)) h25 (by decide)) (by decide)) (zr_andr (lo := 0) (hi := 255) (zr_c (lo := 255) (hi := 255) (by decide)) (by decide)) (by decide +kernel)) (fun σ4 e27 i26 => ?_)
    exact zok_pau i26 (s_X12_control_162 i26.P)
  exact zok_pau i12 (s_X12_control_162 i12.P)
theorem s_X12_dataTo_115 {G : Nat → Int} {σ : zSt} (hσ : zIM G σ) : zok (fX12_dataTo_115 σ ) (zIM G) := by
  unfold fX12_dataTo_115
  refine zok_bu (s_X12_further hσ) (fun σ1 i1 => ?_)
  exact zok_some i1
theorem s_X12_dataTo {G : Nat → Int} {σ : zSt} (hσ : zIM G σ) {x1 : Int32} (h_x1 : zr (0) (255) x1) : zok (fX12_dataTo σ x1) (zIM G) := by
  unfold fX12_dataTo
  refine zok_ck rfl ?_
  refine zok_bs (hσ.wi 61 61 (by decide) (zr_c (lo := 0) (hi := 0) (by decide)) (by decide +kernel)) (fun σ2 e2 i1 => ?_)
  refine zok_ck rfl ?_
  refine zok_bs (i1.wi 60 60 (by decide) h_x1 (by decide +kernel)) (fun σ3 e4 i3 => ?_)
  refine zok_ck rfl ?_
  refine zok_br (rM_22 i3.sg _ (by decide)) (fun v4 e6 h5 => ?_)
  refine zok_ck rfl ?_
  refine zok_if (fun q7 => ?_) (fun q7 => ?_)
  · have h8 := zc_eql (3) (3) q7 (rM_23 i3.sg _ (by decide)) (zr_c (lo := 3) (hi := 3) (by decide)) (by decide)
    refine zok_if (fun q9 => ?_) (fun q9 => ?_)
    · have h10 := zc_eql (2) (2) q9 (rM_1 i3.sg _ (by decide)) (zr_c (lo := 2) (hi := 2) (by decide)) (by decide)
      refine zok_ck (by decide) ?_
      refine zok_if (fun q11 => ?_) (fun q11 => ?_)
      · have h12 := zc_eql (0) (0) q11 (zr_rem (lo := 0) (hi := 1) 2 (by decide) h5 (by decide)) (zr_c (lo := 0) (hi := 0) (by decide)) (by decide)
        refine zok_ck rfl ?_
        refine zok_bs (i3.wi 68 68 (by decide) h_x1 (by decide +kernel)) (fun σ7 e14 i13 => ?_)
        exact (s_X12_dataTo_115 i13)
      have h15 := zc_nel (1) (1) q11 (zr_rem (lo := 0) (hi := 1) 2 (by decide) h5 (by decide)) (zr_c (lo := 0) (hi := 0) (by decide)) (by decide)
      have h16 := z_odd64 h5 h15 (by decide)
      refine zok_ck (by decide) ?_
      refine zok_ck rfl ?_
      refine zok_ck (zin_ok (zr_sub (lo := 0) (hi := 62) h16 (zr_c (lo := 1) (hi := 1) (by decide)) (by decide)) (by decide)) ?_
      refine zok_bs (i3.wk (by decide)) (fun σ5 e18 i17 => ?_)
      refine zok_ck (by decide) ?_
      refine zok_ck (zin_ok h16 (by decide)) ?_
      refine zok_bs (i17.wk (by decide)) (fun σ6 e20 i19 => ?_)
      exact (s_X12_dataTo_115 i19)
    have h21 := zc_nel (0) (1) q9 (rM_1 i3.sg _ (by decide)) (zr_c (lo := 2) (hi := 2) (by decide)) (by decide)
    refine zok_ck (by decide) ?_
    refine zok_ck (zin_ok (zr_rem (lo := 0) (hi := 31) 32 (by decide) h5 (by decide)) (by decide)) ?_
    refine zok_bs (i3.wk (by decide)) (fun σ8 e23 i22 => ?_)
    exact (s_X12_dataTo_115 i22)
  have h24 := zc_nel (0) (2) q7 (rM_23 i3.sg _ (by decide)) (zr_c (lo := 3) (hi := 3) (by decide)) (by decide)
  refine zok_ck (zin_ok h5 (by decide)) ?_
  refine zok_bs (i3.wk (by decide)) (fun σ9 e26 i25 => ?_)
  exact (s_X12_dataTo_115 i25)
theorem s_X12_portTo_267 {σ : zSt} (hσ : zPM σ) : zok (fX12_portTo_267 σ ) (zPu σ) := by
  unfold fX12_portTo_267
  exact zok_spu
theorem s_X12_portTo_140 {σ : zSt} (hσ : zPM σ) : zok (fX12_portTo_140 σ ) (zPu σ) := by
  unfold fX12_portTo_140
  exact (s_X12_portTo_267 hσ)
theorem s_X12_portTo_129 {G : Nat → Int} {σ : zSt} (hσ : zIM G σ) : zok (fX12_portTo_129 σ ) (zIM G) := by
  unfold fX12_portTo_129
  refine zok_pi (s_X12_hCount hσ.P) (fun v2 h1 => ?_)
  refine zok_ck rfl ?_
  refine zok_bs (hσ.wi 35 35 (by decide) h1 (by decide +kernel)) (fun σ3 e3 i2 => ?_)
  exact zok_pau i2 (s_X12_portTo_140 i2.P)
theorem s_X12_portTo_115 {G : Nat → Int} {σ : zSt} (hσ : zIM G σ) {x5 : Int32} (h_x5 : zr (0) (1) x5) : zok (fX12_portTo_115 σ x5) (zIM G) := by
  unfold fX12_portTo_115
  refine zok_if (fun q1 => ?_) (fun q1 => ?_)
  · have h2 := zc_eql (0) (0) q1 h_x5 (zr_c (lo := 0) (hi := 0) (by decide)) (by decide)
    refine zok_pi (s_X12_lineAt hσ.P (zr_w (zr_c (lo := 1) (hi := 1) (by decide)) (by decide))) (fun v5 h3 => ?_)
    refine zok_if (fun q4 => ?_) (fun q4 => ?_)
    · have h5 := zc_eql (1) (1) q4 h3 (zr_c (lo := 1) (hi := 1) (by decide)) (by decide)
      exact (s_X12_portTo_129 hσ)
    have h6 := zc_nel (0) (0) q4 h3 (zr_c (lo := 1) (hi := 1) (by decide)) (by decide)
    exact zok_pau hσ (s_X12_portTo_140 hσ.P)
  have h7 := zc_nel (1) (1) q1 h_x5 (zr_c (lo := 0) (hi := 0) (by decide)) (by decide)
  exact zok_pau hσ (s_X12_portTo_140 hσ.P)
theorem s_X12_portTo_75 {G : Nat → Int} {σ : zSt} (hσ : zIM G σ) {x2 : Int32} (h_x2 : zr (0) (255) x2) {x3 : Int32} (h_x3 : zr (0) (1) x3) : zok (fX12_portTo_75 σ x2 x3) (zIM G) := by
  unfold fX12_portTo_75
  refine zok_if (fun q1 => ?_) (fun q1 => ?_)
  · have h2 := zc_eql (0) (0) q1 h_x3 (zr_c (lo := 0) (hi := 0) (by decide)) (by decide)
    exact zok_pau hσ (s_X12_portTo_267 hσ.P)
  have h3 := zc_nel (1) (1) q1 h_x3 (zr_c (lo := 0) (hi := 0) (by decide)) (by decide)
  refine zok_pi (s_X12_lineAt hσ.P (zr_w (zr_c (lo := 0) (hi := 0) (by decide)) (by decide))) (fun v7 h4 => ?_)
  refine zok_pi (s_X12_lineAt hσ.P (zr_w (zr_c (lo := 1) (hi := 1) (by decide)) (by decide))) (fun v9 h5 => ?_)
  refine zok_ck rfl ?_
  refine zok_bs (hσ.wi 33 33 (by decide) h_x2 (by decide +kernel)) (fun σ10 e7 i6 => ?_)
  refine zok_if (fun q8 => ?_) (fun q8 => ?_)
  · have h9 := zc_eql (0) (0) q8 h4 (zr_c (lo := 0) (hi := 0) (by decide)) (by decide)
    refine zok_pi (s_X12_lineAt i6.P (zr_w (zr_c (lo := 0) (hi := 0) (by decide)) (by decide))) (fun v12 h10 => ?_)
    refine zok_if (fun q11 => ?_) (fun q11 => ?_)
    · have h12 := zc_eql (1) (1) q11 h10 (zr_c (lo := 1) (hi := 1) (by decide)) (by decide)
      exact (s_X12_portTo_129 i6)
    have h13 := zc_nel (0) (0) q11 h10 (zr_c (lo := 1) (hi := 1) (by decide)) (by decide)
    exact (s_X12_portTo_115 i6 h5)
  have h14 := zc_nel (1) (1) q8 h4 (zr_c (lo := 0) (hi := 0) (by decide)) (by decide)
  exact (s_X12_portTo_115 i6 h5)
theorem s_X12_portTo_50 {G : Nat → Int} {σ : zSt} (hσ : zIM G σ) {x1 : Int32} (h_x1 : zr (0) (63) x1) {x2 : Int32} (h_x2 : zr (0) (255) x2) {x3 : Int32} (h_x3 : zr (0) (1) x3) : zok (fX12_portTo_50 σ x1 x2 x3) (zIM G) := by
  unfold fX12_portTo_50
  refine zok_if (fun q1 => ?_) (fun q1 => ?_)
  · have h2 := zc_eql (2) (2) q1 (rM_1 hσ.sg _ (by decide)) (zr_c (lo := 2) (hi := 2) (by decide)) (by decide)
    refine zok_if (fun q3 => ?_) (fun q3 => ?_)
    · have h4 := zc_eql (6) (6) q3 h_x1 (zr_c (lo := 6) (hi := 6) (by decide)) (by decide)
      refine zok_ck rfl ?_
      refine zok_bs (hσ.wi 34 34 (by decide) h_x2 (by decide +kernel)) (fun σ13 e6 i5 => ?_)
      exact zok_pau i5 (s_X12_portTo_267 i5.P)
    exact (s_X12_portTo_75 hσ h_x2 h_x3)
  have h7 := zc_nel (0) (1) q1 (rM_1 hσ.sg _ (by decide)) (zr_c (lo := 2) (hi := 2) (by decide)) (by decide)
  exact (s_X12_portTo_75 hσ h_x2 h_x3)
theorem s_X12_portTo_12 {G : Nat → Int} {σ : zSt} (hσ : zIM G σ) {x1 : Int32} (h_x1 : zr (0) (255) x1) {x2 : Int32} (h_x2 : zr (0) (255) x2) {s0 : Int32} (h_s0 : zr (0) (1) s0) : zok (fX12_portTo_12 σ x1 x2 s0) (zIM G) := by
  unfold fX12_portTo_12
  refine zok_if (fun q1 => ?_) (fun q1 => ?_)
  · have h2 := zc_ler (64) q1 (zr_c (lo := 64) (hi := 64) (by decide)) h_x1 (by decide)
    refine zok_if (fun q3 => ?_) (fun q3 => ?_)
    · have h4 := zc_ler (128) q3 (zr_c (lo := 128) (hi := 128) (by decide)) h2 (by decide)
      refine zok_if (fun q5 => ?_) (fun q5 => ?_)
      · have h6 := zc_ler (192) q5 (zr_c (lo := 192) (hi := 192) (by decide)) h4 (by decide)
        refine zok_if (fun q7 => ?_) (fun q7 => ?_)
        · have h8 := zc_eql (2) (2) q7 (rM_1 hσ.sg _ (by decide)) (zr_c (lo := 2) (hi := 2) (by decide)) (by decide)
          exact zok_pau hσ (s_X12_portTo_267 hσ.P)
        have h9 := zc_nel (0) (1) q7 (rM_1 hσ.sg _ (by decide)) (zr_c (lo := 2) (hi := 2) (by decide)) (by decide)
        refine zok_if (fun q10 => ?_) (fun q10 => ?_)
        · have h11 := zc_ltl (239) q10 h6 (zr_c (lo := 240) (hi := 240) (by decide)) (by decide)
          exact zok_pau hσ (s_X12_portTo_267 hσ.P)
        have h12 := zc_ler (240) (z_nlt q10) (zr_c (lo := 240) (hi := 240) (by decide)) h6 (by decide)
        refine zok_if (fun q13 => ?_) (fun q13 => ?_)
        · have h14 := zc_ltr (243) q13 (zr_c (lo := 242) (hi := 242) (by decide)) h12 (by decide)
          exact zok_pau hσ (s_X12_portTo_267 hσ.P)
        have h15 := zc_lel (242) (z_nlt q13) h12 (zr_c (lo := 242) (hi := 242) (by decide)) (by decide)
        refine zok_if (fun q16 => ?_) (fun q16 => ?_)
        · have h17 := zc_eql (240) (240) q16 h15 (zr_c (lo := 240) (hi := 240) (by decide)) (by decide)
          refine zok_ck (by decide) ?_
          refine zok_ck rfl ?_
          refine zok_bs (hσ.wi 162 162 (by decide) (zr_rem (lo := 0) (hi := 63) 64 (by decide) h_x2 (by decide)) (by decide +kernel)) (fun σ16 e19 i18 => ?_)
          exact zok_pau i18 (s_X12_portTo_267 i18.P)
        have h20 := zc_nel (241) (242) q16 h15 (zr_c (lo := 240) (hi := 240) (by decide)) (by decide)
        refine zok_if (fun q21 => ?_) (fun q21 => ?_)
        · have h22 := zc_eql (241) (241) q21 h20 (zr_c (lo := 241) (hi := 241) (by decide)) (by decide)
          refine zok_ck rfl ?_
          refine zok_ck (zin_ok (zr_add (lo := 98) (hi := 161) (zr_c (lo := 98) (hi := 98) (by decide)) (rM_41 hσ.sg _ (by decide)) (by decide)) (by decide)) ?_
          refine zok_bs (hσ.wi 98 161 (z_ix (zr_add (lo := 98) (hi := 161) (zr_c (lo := 98) (hi := 98) (by decide)) (rM_41 hσ.sg _ (by decide)) (by decide)) (by decide)) h_x2 (by decide +kernel)) (fun σ15 e24 i23 => ?_)
          exact zok_pau i23 (s_X12_portTo_267 i23.P)
        have h25 := zc_nel (242) (242) q21 h20 (zr_c (lo := 241) (hi := 241) (by decide)) (by decide)
        refine zok_ck (by decide) ?_
        refine zok_ck rfl ?_
        refine zok_bs (hσ.wi 163 163 (by decide) (zr_rem (lo := 0) (hi := 3) 4 (by decide) h_x2 (by decide)) (by decide +kernel)) (fun σ14 e27 i26 => ?_)
        exact zok_pau i26 (s_X12_portTo_267 i26.P)
      have h28 := zc_ltl (191) (z_nle q5) h4 (zr_c (lo := 192) (hi := 192) (by decide)) (by decide)
      refine zok_if (fun q29 => ?_) (fun q29 => ?_)
      · have h30 := zc_eql (0) (0) q29 h_s0 (zr_c (lo := 0) (hi := 0) (by decide)) (by decide)
        refine zok_bu (s_X12_dataTo hσ h_x2) (fun σ17 i31 => ?_)
        exact zok_pau i31 (s_X12_portTo_267 i31.P)
      have h32 := zc_nel (1) (1) q29 h_s0 (zr_c (lo := 0) (hi := 0) (by decide)) (by decide)
      refine zok_bu (s_X12_control hσ h_x2) (fun σ18 i33 => ?_)
      exact zok_pau i33 (s_X12_portTo_267 i33.P)
    have h34 := zc_ltl (127) (z_nle q3) h2 (zr_c (lo := 128) (hi := 128) (by decide)) (by decide)
    refine zok_bu (s_X12_noise hσ h_x2) (fun σ19 i35 => ?_)
    exact zok_pau i35 (s_X12_portTo_267 i35.P)
  have h36 := zc_ltl (63) (z_nle q1) h_x1 (zr_c (lo := 64) (hi := 64) (by decide)) (by decide)
  refine zok_if (fun q37 => ?_) (fun q37 => ?_)
  · have h38 := zc_eql (2) (2) q37 (rM_1 hσ.sg _ (by decide)) (zr_c (lo := 2) (hi := 2) (by decide)) (by decide)
    refine zok_if (fun q39 => ?_) (fun q39 => ?_)
    · have h40 := zc_lel (0) q39 h36 (zr_c (lo := 0) (hi := 0) (by decide)) (by decide)
      exact (s_X12_portTo_50 hσ (zr_w h40 (by decide)) h_x2 h_s0)
    have h41 := zc_ltr (1) (z_nle q39) (zr_c (lo := 0) (hi := 0) (by decide)) h36 (by decide)
    refine zok_if (fun q42 => ?_) (fun q42 => ?_)
    · have h43 := zc_ler (6) q42 (zr_c (lo := 6) (hi := 6) (by decide)) h41 (by decide)
      exact (s_X12_portTo_50 hσ (zr_w h43 (by decide)) h_x2 h_s0)
    have h44 := zc_ltl (5) (z_nle q42) h41 (zr_c (lo := 6) (hi := 6) (by decide)) (by decide)
    refine zok_ck (zin_ok (zr_add (lo := 37) (hi := 41) (zr_c (lo := 36) (hi := 36) (by decide)) h44 (by decide)) (by decide)) ?_
    refine zok_bs (hσ.wi 37 41 (z_ix (zr_add (lo := 37) (hi := 41) (zr_c (lo := 36) (hi := 36) (by decide)) h44 (by decide)) (by decide)) h_x2 (by decide +kernel)) (fun σ20 e46 i45 => ?_)
    exact zok_pau i45 (s_X12_portTo_267 i45.P)
  have h47 := zc_nel (0) (1) q37 (rM_1 hσ.sg _ (by decide)) (zr_c (lo := 2) (hi := 2) (by decide)) (by decide)
  exact (s_X12_portTo_50 hσ h36 h_x2 h_s0)
theorem s_X12_portTo {G : Nat → Int} {σ : zSt} (hσ : zIM G σ) {x1 : Int32} (h_x1 : zr (0) (255) x1) {x2 : Int32} (h_x2 : zr (0) (255) x2) : zok (fX12_portTo σ x1 x2) (zIM G) := by
  unfold fX12_portTo
  refine zok_ck (by decide) ?_
  refine zok_if (fun q1 => ?_) (fun q1 => ?_)
  · have h2 := zc_eql (1) (1) q1 (zr_rem (lo := 0) (hi := 1) 2 (by decide) h_x1 (by decide)) (zr_c (lo := 1) (hi := 1) (by decide)) (by decide)
    have h3 := z_odd64 h_x1 h2 (by decide)
    exact (s_X12_portTo_12 hσ h_x1 h_x2 (zr_w (zr_c (lo := 1) (hi := 1) (by decide)) (by decide)))
  have h4 := zc_nel (0) (0) q1 (zr_rem (lo := 0) (hi := 1) 2 (by decide) h_x1 (by decide)) (zr_c (lo := 1) (hi := 1) (by decide)) (by decide)
  exact (s_X12_portTo_12 hσ h_x1 h_x2 (zr_w (zr_c (lo := 0) (hi := 0) (by decide)) (by decide)))
theorem s_X12_turned_118 {σ : zSt} (hσ : zPM σ) {s0 : Int32} (h_s0 : zr (0) (255) s0) : zok (fX12_turned_118 σ s0) (zPi σ (fun v : Int32 => zr (0) (255) v)) := by
  unfold fX12_turned_118
  exact zok_spi h_s0
theorem s_X12_turned_89 {G : Nat → Int} {σ : zSt} (hσ : zIM G σ) {x2 : Int32} (h_x2 : zr (0) (255) x2) {x3 : Int32} (h_x3 : zr (0) (1) x3) {x5 : Int32} (h_x5 : zr (0) (1) x5) {s0 : Int32} (h_s0 : zr (0) (1) s0) {s1 : Int32} (h_s1 : zr (0) (0) s1) : zok (fX12_turned_89 σ x2 x3 x5 s0 s1) (zAi (zIM G) (fun v : Int32 => zr (0) (255) v)) := by
  unfold fX12_turned_89
  refine zok_bu (s_X12_put hσ (zr_w h_s1 (by decide)) h_s0) (fun σ1 i1 => ?_)
  refine zok_if (fun q2 => ?_) (fun q2 => ?_)
  · have h3 := zc_eql (0) (0) q2 h_x3 (zr_c (lo := 0) (hi := 0) (by decide)) (by decide)
    exact zok_pai i1 (s_X12_turned_118 i1.P (zr_or (lo := 0) (hi := 255) 8 (zr_shr (lo := 0) (hi := 127) 1 (by decide) h_x2 (by decide)) (zr_shl (lo := 0) (hi := 128) 7 (by decide) h_x5 (by decide)) (by decide)))
  have h4 := zc_nel (1) (1) q2 h_x3 (zr_c (lo := 0) (hi := 0) (by decide)) (by decide)
  exact zok_pai i1 (s_X12_turned_118 i1.P (zr_or (lo := 0) (hi := 255) 8 (zr_andr (lo := 0) (hi := 255) (zr_c (lo := 255) (hi := 255) (by decide)) (by decide)) h_x5 (by decide)))
theorem s_X12_turned_74 {G : Nat → Int} {σ : zSt} (hσ : zIM G σ) {x2 : Int32} (h_x2 : zr (0) (255) x2) {x3 : Int32} (h_x3 : zr (0) (1) x3) {x4 : Int32} (h_x4 : zr (0) (1) x4) {s0 : Int32} (h_s0 : zr (0) (1) s0) : zok (fX12_turned_74 σ x2 x3 x4 s0) (zAi (zIM G) (fun v : Int32 => zr (0) (255) v)) := by
  unfold fX12_turned_74
  refine zok_if (fun q1 => ?_) (fun q1 => ?_)
  · have h2 := zc_eql (1) (1) q1 h_x4 (zr_c (lo := 1) (hi := 1) (by decide)) (by decide)
    exact (s_X12_turned_89 hσ h_x2 h_x3 h_s0 (zr_w (zr_c (lo := 1) (hi := 1) (by decide)) (by decide)) (zr_c (lo := 0) (hi := 0) (by decide)))
  have h3 := zc_nel (0) (0) q1 h_x4 (zr_c (lo := 1) (hi := 1) (by decide)) (by decide)
  exact (s_X12_turned_89 hσ h_x2 h_x3 h_s0 (zr_w (zr_c (lo := 0) (hi := 0) (by decide)) (by decide)) (zr_c (lo := 0) (hi := 0) (by decide)))
theorem s_X12_turned_26 {G : Nat → Int} {σ : zSt} (hσ : zIM G σ) {x1 : Int32} (h_x1 : zr (0) (7) x1) {x2 : Int32} (h_x2 : zr (0) (255) x2) {x3 : Int32} (h_x3 : zr (0) (1) x3) {s0 : Int32} (h_s0 : zr (0) (1) s0) : zok (fX12_turned_26 σ x1 x2 x3 s0) (zAi (zIM G) (fun v : Int32 => zr (0) (255) v)) := by
  unfold fX12_turned_26
  refine zok_if (fun q1 => ?_) (fun q1 => ?_)
  · have h2 := zc_ler (2) q1 (zr_c (lo := 2) (hi := 2) (by decide)) h_x1 (by decide)
    refine zok_if (fun q3 => ?_) (fun q3 => ?_)
    · have h4 := zc_ler (4) q3 (zr_c (lo := 4) (hi := 4) (by decide)) h2 (by decide)
      refine zok_if (fun q5 => ?_) (fun q5 => ?_)
      · have h6 := zc_eql (5) (5) q5 h4 (zr_c (lo := 5) (hi := 5) (by decide)) (by decide)
        exact (s_X12_turned_74 hσ h_x2 h_x3 h_s0 (zr_shr (lo := 0) (hi := 1) 7 (by decide) h_x2 (by decide)))
      refine zok_if (fun q7 => ?_) (fun q7 => ?_)
      · have h8 := zc_eql (6) (6) q7 h4 (zr_c (lo := 6) (hi := 6) (by decide)) (by decide)
        exact (s_X12_turned_74 hσ h_x2 h_x3 h_s0 (zr_w (zr_c (lo := 1) (hi := 1) (by decide)) (by decide)))
      exact (s_X12_turned_74 hσ h_x2 h_x3 h_s0 (zr_w (zr_c (lo := 0) (hi := 0) (by decide)) (by decide)))
    have h9 := zc_ltl (3) (z_nle q3) h2 (zr_c (lo := 4) (hi := 4) (by decide)) (by decide)
    refine zok_pi (s_X12_flag hσ.P (zr_w (zr_c (lo := 0) (hi := 0) (by decide)) (by decide))) (fun v3 h10 => ?_)
    exact (s_X12_turned_74 hσ h_x2 h_x3 h_s0 h10)
  have h11 := zc_ltl (1) (z_nle q1) h_x1 (zr_c (lo := 2) (hi := 2) (by decide)) (by decide)
  exact (s_X12_turned_74 hσ h_x2 h_x3 h_s0 h_s0)
theorem s_X12_turned_11 {G : Nat → Int} {σ : zSt} (hσ : zIM G σ) {x1 : Int32} (h_x1 : zr (0) (7) x1) {x2 : Int32} (h_x2 : zr (0) (255) x2) {s0 : Int32} (h_s0 : zr (0) (1) s0) : zok (fX12_turned_11 σ x1 x2 s0) (zAi (zIM G) (fun v : Int32 => zr (0) (255) v)) := by
  unfold fX12_turned_11
  refine zok_if (fun q1 => ?_) (fun q1 => ?_)
  · have h2 := zc_eql (0) (0) q1 h_s0 (zr_c (lo := 0) (hi := 0) (by decide)) (by decide)
    exact (s_X12_turned_26 hσ h_x1 h_x2 (zr_w h2 (by decide)) (zr_andr (lo := 0) (hi := 1) (zr_c (lo := 1) (hi := 1) (by decide)) (by decide)))
  have h3 := zc_nel (1) (1) q1 h_s0 (zr_c (lo := 0) (hi := 0) (by decide)) (by decide)
  exact (s_X12_turned_26 hσ h_x1 h_x2 (zr_w h3 (by decide)) (zr_shr (lo := 0) (hi := 1) 7 (by decide) h_x2 (by decide)))
theorem s_X12_turned {G : Nat → Int} {σ : zSt} (hσ : zIM G σ) {x1 : Int32} (h_x1 : zr (0) (7) x1) {x2 : Int32} (h_x2 : zr (0) (255) x2) : zok (fX12_turned σ x1 x2) (zAi (zIM G) (fun v : Int32 => zr (0) (255) v)) := by
  unfold fX12_turned
  refine zok_ck (by decide) ?_
  refine zok_if (fun q1 => ?_) (fun q1 => ?_)
  · have h2 := zc_eql (0) (0) q1 (zr_rem (lo := 0) (hi := 1) 2 (by decide) h_x1 (by decide)) (zr_c (lo := 0) (hi := 0) (by decide)) (by decide)
    exact (s_X12_turned_11 hσ h_x1 h_x2 (zr_w (zr_c (lo := 1) (hi := 1) (by decide)) (by decide)))
  have h3 := zc_nel (1) (1) q1 (zr_rem (lo := 0) (hi := 1) 2 (by decide) h_x1 (by decide)) (zr_c (lo := 0) (hi := 0) (by decide)) (by decide)
  have h4 := z_odd64 h_x1 h3 (by decide)
  exact (s_X12_turned_11 hσ h_x1 h_x2 (zr_w (zr_c (lo := 0) (hi := 0) (by decide)) (by decide)))
theorem s_X12_turn_122 {σ : zSt} (hσ : zPM σ) {s0 : Int32} (h_s0 : zr (8) (12) s0) : zok (fX12_turn_122 σ s0) (zPi σ (fun v : Int32 => zr (8) (15) v)) := by
  unfold fX12_turn_122
  exact zok_spi (zr_w h_s0 (by decide))
theorem s_X12_turn_106 {G : Nat → Int} {σ : zSt} (hσ : zIM G σ) {x3 : Int32} (h_x3 : zr (0) (7) x3) {s0 : Int32} (h_s0 : zr (0) (255) s0) : zok (fX12_turn_106 σ x3 s0) (zAi (zIM G) (fun v : Int32 => zr (8) (15) v)) := by
  unfold fX12_turn_106
  refine zok_bu (s_X12_xy hσ (zr_w h_s0 (by decide))) (fun σ1 i1 => ?_)
  refine zok_if (fun q2 => ?_) (fun q2 => ?_)
  · have h3 := zc_eql (6) (6) q2 h_x3 (zr_c (lo := 6) (hi := 6) (by decide)) (by decide)
    exact zok_pai i1 (s_X12_turn_122 i1.P (zr_w (zr_c (lo := 12) (hi := 12) (by decide)) (by decide)))
  exact zok_pai i1 (s_X12_turn_122 i1.P (zr_w (zr_c (lo := 8) (hi := 8) (by decide)) (by decide)))
theorem s_X12_turn_69 {G : Nat → Int} {σ : zSt} (hσ : zIM G σ) {x3 : Int32} (h_x3 : zr (0) (7) x3) {x4 : Int32} (h_x4 : zr (0) (255) x4) {s0 : Int32} (h_s0 : zr (0) (1) s0) {s1 : Int32} (h_s1 : zr (2) (2) s1) : zok (fX12_turn_69 σ x3 x4 s0 s1) (zAi (zIM G) (fun v : Int32 => zr (8) (15) v)) := by
  unfold fX12_turn_69
  refine zok_bu (s_X12_put hσ (zr_w h_s1 (by decide)) h_s0) (fun σ2 i1 => ?_)
  refine zok_bu (s_X12_put i1 (zr_w (zr_c (lo := 4) (hi := 4) (by decide)) (by decide)) (zr_w (zr_c (lo := 1) (hi := 1) (by decide)) (by decide))) (fun σ3 i2 => ?_)
  refine zok_bu (s_X12_put i2 (zr_w (zr_c (lo := 1) (hi := 1) (by decide)) (by decide)) (zr_w (zr_c (lo := 0) (hi := 0) (by decide)) (by decide))) (fun σ4 i3 => ?_)
  refine zok_if (fun q4 => ?_) (fun q4 => ?_)
  · have h5 := zc_eql (6) (6) q4 h_x3 (zr_c (lo := 6) (hi := 6) (by decide)) (by decide)
    refine zok_ck rfl ?_
    exact (s_X12_turn_106 i3 (zr_w h5 (by decide)) (zr_shr (lo := 0) (hi := 255) 8 (by decide) (rM_12 i3.sg _ (by decide)) (by decide)))
  exact (s_X12_turn_106 i3 h_x3 h_x4)
theorem s_X12_turn_219 {σ : zSt} (hσ : zPM σ) {s0 : Int32} (h_s0 : zr (8) (15) s0) : zok (fX12_turn_219 σ s0) (zPi σ (fun v : Int32 => zr (8) (15) v)) := by
  unfold fX12_turn_219
  exact zok_spi h_s0
theorem s_X12_turn_193 {G : Nat → Int} {σ : zSt} (hσ : zIM G σ) {x3 : Int32} (h_x3 : zr (0) (7) x3) {x4 : Int32} (h_x4 : zr (0) (255) x4) : zok (fX12_turn_193 σ x3 x4) (zAi (zIM G) (fun v : Int32 => zr (8) (15) v)) := by
  unfold fX12_turn_193
  refine zok_bu (s_X12_rTo hσ h_x3) (fun σ5 i1 => ?_)
  refine zok_bs (i1.wi 33 33 (by decide) h_x4 (by decide +kernel)) (fun σ6 e3 i2 => ?_)
  refine zok_if (fun q4 => ?_) (fun q4 => ?_)
  · have h5 := zc_eql (6) (6) q4 h_x3 (zr_c (lo := 6) (hi := 6) (by decide)) (by decide)
    exact zok_pai i2 (s_X12_turn_219 i2.P (zr_w (zr_c (lo := 15) (hi := 15) (by decide)) (by decide)))
  exact zok_pai i2 (s_X12_turn_219 i2.P (zr_w (zr_c (lo := 8) (hi := 8) (by decide)) (by decide)))
theorem s_X12_turn_191 {G : Nat → Int} {σ : zSt} (hσ : zIM G σ) {x3 : Int32} (h_x3 : zr (0) (7) x3) {s0 : Int32} (h_s0 : zr (0) (255) s0) : zok (fX12_turn_191 σ x3 s0) (zAi (zIM G) (fun v : Int32 => zr (8) (15) v)) := by
  unfold fX12_turn_191
  exact (s_X12_turn_193 hσ h_x3 h_s0)
theorem s_X12_turn_23 {G : Nat → Int} {σ : zSt} (hσ : zIM G σ) {x1 : Int32} (h_x1 : zr (0) (255) x1) {x2 : Int32} (h_x2 : zr (0) (7) x2) {s0 : Int32} (h_s0 : zr (0) (7) s0) : zok (fX12_turn_23 σ x1 x2 s0) (zAi (zIM G) (fun v : Int32 => zr (8) (15) v)) := by
  unfold fX12_turn_23
  refine zok_pi (s_X12_r hσ.P h_s0) (fun v8 h1 => ?_)
  refine zok_br (zr_shr (lo := 0) (hi := 3) 6 (by decide) h_x1 (by decide)) (fun v9 e3 h2 => ?_)
  refine zok_if (fun q4 => ?_) (fun q4 => ?_)
  · have h5 := zc_eql (1) (1) q4 h2 (zr_c (lo := 1) (hi := 1) (by decide)) (by decide)
    refine zok_br (zr_andr (lo := 0) (hi := 128) (zr_shld (lo := 0) (hi := 128) (zr_c (lo := 1) (hi := 1) (by decide)) h_x2 (by decide)) (by decide)) (fun v18 e7 h6 => ?_)
    refine zok_bu (s_X12_by hσ (zr_w h6 (by decide))) (fun σ19 i8 => ?_)
    refine zok_if (fun q9 => ?_) (fun q9 => ?_)
    · have h10 := zc_eql (0) (0) q9 h6 (zr_c (lo := 0) (hi := 0) (by decide)) (by decide)
      exact (s_X12_turn_69 i8 h_s0 h1 (zr_w (zr_c (lo := 1) (hi := 1) (by decide)) (by decide)) (zr_c (lo := 2) (hi := 2) (by decide)))
    have h11 := zc_nel (1) (128) q9 h6 (zr_c (lo := 0) (hi := 0) (by decide)) (by decide)
    exact (s_X12_turn_69 i8 h_s0 h1 (zr_w (zr_c (lo := 0) (hi := 0) (by decide)) (by decide)) (zr_c (lo := 2) (hi := 2) (by decide)))
  refine zok_if (fun q12 => ?_) (fun q12 => ?_)
  · have h13 := zc_eql (0) (0) q12 h2 (zr_c (lo := 0) (hi := 0) (by decide)) (by decide)
    refine zok_ai (s_X12_turned hσ h_x2 h1) (fun σ10 v11 i14 h15 => ?_)
    refine zok_bu (s_X12_by i14 h15) (fun σ12 i16 => ?_)
    refine zok_pi (s_X12_isEven i16.P h15) (fun v14 h17 => ?_)
    refine zok_bu (s_X12_put i16 (zr_w (zr_c (lo := 2) (hi := 2) (by decide)) (by decide)) h17) (fun σ15 i18 => ?_)
    refine zok_bu (s_X12_put i18 (zr_w (zr_c (lo := 4) (hi := 4) (by decide)) (by decide)) (zr_w (zr_c (lo := 0) (hi := 0) (by decide)) (by decide))) (fun σ16 i19 => ?_)
    refine zok_bu (s_X12_put i19 (zr_w (zr_c (lo := 1) (hi := 1) (by decide)) (by decide)) (zr_w (zr_c (lo := 0) (hi := 0) (by decide)) (by decide))) (fun σ17 i20 => ?_)
    exact (s_X12_turn_193 i20 h_s0 h15)
  have h21 := zc_nel (1) (3) q12 h2 (zr_c (lo := 0) (hi := 0) (by decide)) (by decide)
  refine zok_if (fun q22 => ?_) (fun q22 => ?_)
  · have h23 := zc_eql (2) (2) q22 h21 (zr_c (lo := 2) (hi := 2) (by decide)) (by decide)
    exact (s_X12_turn_191 hσ h_s0 (zr_andl (lo := 0) (hi := 255) h1 (by decide)))
  exact (s_X12_turn_191 hσ h_s0 (zr_or (lo := 0) (hi := 255) 8 h1 (zr_shld (lo := 0) (hi := 128) (zr_c (lo := 1) (hi := 1) (by decide)) h_x2 (by decide)) (by decide)))
theorem s_X12_turn {G : Nat → Int} {σ : zSt} (hσ : zIM G σ) {x1 : Int32} (h_x1 : zr (0) (255) x1) : zok (fX12_turn σ x1) (zAi (zIM G) (fun v : Int32 => zr (8) (15) v)) := by
  unfold fX12_turn
  refine zok_br (zr_andr (lo := 0) (hi := 7) (zr_c (lo := 7) (hi := 7) (by decide)) (by decide)) (fun v20 e2 h1 => ?_)
  refine zok_if (fun q3 => ?_) (fun q3 => ?_)
  · have h4 := zc_eql (0) (0) q3 (rM_7 hσ.sg _ (by decide)) (zr_c (lo := 0) (hi := 0) (by decide)) (by decide)
    exact (s_X12_turn_23 hσ h_x1 h1 (zr_andr (lo := 0) (hi := 7) (zr_c (lo := 7) (hi := 7) (by decide)) (by decide)))
  have h5 := zc_nel (1) (1) q3 (rM_7 hσ.sg _ (by decide)) (zr_c (lo := 0) (hi := 0) (by decide)) (by decide)
  exact (s_X12_turn_23 hσ h_x1 h1 (zr_w (zr_c (lo := 6) (hi := 6) (by decide)) (by decide)))
theorem s_X12_turns {G : Nat → Int} {σ : zSt} (hσ : zIM G σ) : zok (fX12_turns σ ) (zAi (zIM G) (fun v : Int32 => zr (8) (15) v)) := by
  unfold fX12_turns
  refine zok_ai (s_X12_fetch hσ) (fun σ1 v2 i1 h2 => ?_)
  refine zok_ai (s_X12_turn i1 h2) (fun σ3 v4 i3 h4 => ?_)
  exact zok_sai i3 h4
theorem s_X12_three_200 {σ : zSt} (hσ : zPM σ) {s0 : Int32} (h_s0 : zr (4) (6) s0) : zok (fX12_three_200 σ s0) (zPi σ (fun v : Int32 => zr (4) (19) v)) := by
  unfold fX12_three_200
  exact zok_spi (zr_w h_s0 (by decide))
theorem s_X12_three_189 {σ : zSt} (hσ : zPM σ) {x3 : Int32} (h_x3 : zr (1) (3) x3) : zok (fX12_three_189 σ x3) (zPi σ (fun v : Int32 => zr (4) (19) v)) := by
  unfold fX12_three_189
  refine zok_if (fun q1 => ?_) (fun q1 => ?_)
  · have h2 := zc_eql (3) (3) q1 h_x3 (zr_c (lo := 3) (hi := 3) (by decide)) (by decide)
    exact (s_X12_three_200 hσ (zr_w (zr_c (lo := 6) (hi := 6) (by decide)) (by decide)))
  have h3 := zc_nel (1) (2) q1 h_x3 (zr_c (lo := 3) (hi := 3) (by decide)) (by decide)
  exact (s_X12_three_200 hσ (zr_w (zr_c (lo := 4) (hi := 4) (by decide)) (by decide)))
theorem s_X12_three_173 {G : Nat → Int} {σ : zSt} (hσ : zIM G σ) {x3 : Int32} (h_x3 : zr (1) (3) x3) : zok (fX12_three_173 σ x3) (zAi (zIM G) (fun v : Int32 => zr (4) (19) v)) := by
  unfold fX12_three_173
  refine zok_if (fun q1 => ?_) (fun q1 => ?_)
  · have h2 := zc_eql (3) (3) q1 h_x3 (zr_c (lo := 3) (hi := 3) (by decide)) (by decide)
    refine zok_pi (s_X12_hl hσ.P) (fun v2 h3 => ?_)
    refine zok_ck rfl ?_
    refine zok_bs (hσ.wi 18 18 (by decide) h3 (by decide +kernel)) (fun σ3 e5 i4 => ?_)
    exact zok_pai i4 (s_X12_three_189 i4.P (zr_w h2 (by decide)))
  have h6 := zc_nel (1) (2) q1 h_x3 (zr_c (lo := 3) (hi := 3) (by decide)) (by decide)
  exact zok_pai hσ (s_X12_three_189 hσ.P (zr_w h6 (by decide)))
theorem s_X12_three_157 {G : Nat → Int} {σ : zSt} (hσ : zIM G σ) {x3 : Int32} (h_x3 : zr (1) (3) x3) : zok (fX12_three_157 σ x3) (zAi (zIM G) (fun v : Int32 => zr (4) (19) v)) := by
  unfold fX12_three_157
  refine zok_if (fun q1 => ?_) (fun q1 => ?_)
  · have h2 := zc_eql (2) (2) q1 h_x3 (zr_c (lo := 2) (hi := 2) (by decide)) (by decide)
    refine zok_pi (s_X12_hl hσ.P) (fun v5 h3 => ?_)
    refine zok_ck rfl ?_
    refine zok_bs (hσ.wi 19 19 (by decide) h3 (by decide +kernel)) (fun σ6 e5 i4 => ?_)
    exact (s_X12_three_173 i4 (zr_w h2 (by decide)))
  exact (s_X12_three_173 hσ h_x3)
theorem s_X12_three_128_body {G : Nat → Int} {σ : zSt} {k128 : zSt → Int32 → Int32 → Option (zSt × Int32)} {Mk128 : Int} (hk128 : ∀ (σ : zSt) (x3 : Int32) (x4 : Int32), zIM G σ → zr (1) (3) x3 → zr (2) (8) x4 → (8) - x4.toInt < Mk128 → zok (k128 σ x3 x4) (zAi (zIM G) (fun v : Int32 => zr (4) (19) v))) (hσ : zIM G σ) {x3 : Int32} (h_x3 : zr (1) (3) x3) {x4 : Int32} (h_x4 : zr (2) (8) x4) (hMk128 : (8) - x4.toInt ≤ Mk128) : zok (fX12_three_128_body k128 σ x3 x4) (zAi (zIM G) (fun v : Int32 => zr (4) (19) v)) := by
  unfold fX12_three_128_body
  refine zok_if (fun q1 => ?_) (fun q1 => ?_)
  · have h2 := zc_eql (1) (1) q1 h_x3 (zr_c (lo := 1) (hi := 1) (by decide)) (by decide)
    refine zok_if (fun q3 => ?_) (fun q3 => ?_)
    · have h4 := zc_ltr (8) q3 (zr_c (lo := 7) (hi := 7) (by decide)) h_x4 (by decide)
      exact (s_X12_three_157 hσ (zr_w h2 (by decide)))
    have h5 := zc_lel (7) (z_nlt q3) h_x4 (zr_c (lo := 7) (hi := 7) (by decide)) (by decide)
    refine zok_bu (s_X12_change hσ (zr_w h5 (by decide)) (zr_w (zr_add (lo := 10) (hi := 15) h5 (zr_c (lo := 8) (hi := 8) (by decide)) (by decide)) (by decide))) (fun σ7 i6 => ?_)
    refine zok_br (zr_add (lo := 3) (hi := 8) h5 (zr_c (lo := 1) (hi := 1) (by decide)) (by decide)) (fun v8 e8 h7 => ?_)
    exact hk128 _ _ _ i6 (zr_w h2 (by decide)) (zr_w h7 (by decide)) (by rw [e8]; have := z_tadd (y := (1 : Int32)) h5 (zr_c (lo := 1) (hi := 1) (by decide)) (by decide); have e9 : (1 : Int32).toInt = 1 := rfl; omega) 
  have h9 := zc_nel (2) (3) q1 h_x3 (zr_c (lo := 1) (hi := 1) (by decide)) (by decide)
  exact (s_X12_three_157 hσ (zr_w h9 (by decide)))
theorem s_X12_three_128 {G : Nat → Int} : ∀ (n : Nat) {σ : zSt} (hσ : zIM G σ) {x3 : Int32} (h_x3 : zr (1) (3) x3) {x4 : Int32} (h_x4 : zr (2) (8) x4) (hm : (8) - x4.toInt < n), zok (fX12_three_128 n σ x3 x4) (zAi (zIM G) (fun v : Int32 => zr (4) (19) v)) := by
  intro n
  induction n with
  | zero => intro σ hσ x3 h_x3 x4 h_x4 hm ; have h9 := h_x4.1; have h8 := h_x4.2; exfalso; omega
  | succ n ih => intro σ hσ x3 h_x3 x4 h_x4 hm ; exact s_X12_three_128_body (fun σ x3 x4 hσ h_x3 h_x4 hm1 => ih hσ h_x3 h_x4 (by omega)) hσ h_x3 h_x4 (Int.le_refl _)
theorem s_X12_three_239 {σ : zSt} (hσ : zPM σ) : zok (fX12_three_239 σ ) (zPi σ (fun v : Int32 => zr (4) (19) v)) := by
  unfold fX12_three_239
  exact zok_spi (zr_w (zr_c (lo := 10) (hi := 10) (by decide)) (by decide))
theorem s_X12_three_502 {σ : zSt} (hσ : zPM σ) : zok (fX12_three_502 σ ) (zPi σ (fun v : Int32 => zr (4) (19) v)) := by
  unfold fX12_three_502
  exact zok_spi (zr_w (zr_c (lo := 4) (hi := 4) (by decide)) (by decide))
theorem s_X12_three_88 {G : Nat → Int} {σ : zSt} (hσ : zIM G σ) {x1 : Int32} (h_x1 : zr (0) (7) x1) {x2 : Int32} (h_x2 : zr (1) (3) x2) {x3 : Int32} (h_x3 : zr (0) (3) x3) : zok (fX12_three_88 σ x1 x2 x3) (zAi (zIM G) (fun v : Int32 => zr (4) (19) v)) := by
  unfold fX12_three_88
  refine zok_if (fun q1 => ?_) (fun q1 => ?_)
  · have h2 := zc_eql (1) (1) q1 h_x2 (zr_c (lo := 1) (hi := 1) (by decide)) (by decide)
    refine zok_if (fun q3 => ?_) (fun q3 => ?_)
    · have h4 := zc_eql (0) (0) q3 h_x3 (zr_c (lo := 0) (hi := 0) (by decide)) (by decide)
      refine zok_ai (s_X12_pop hσ) (fun σ43 v44 i5 h6 => ?_)
      refine zok_ck rfl ?_
      refine zok_bs (i5.wi 19 19 (by decide) h6 (by decide +kernel)) (fun σ45 e8 i7 => ?_)
      refine zok_ck rfl ?_
      refine zok_ck rfl ?_
      refine zok_bs (i7.wi 20 20 (by decide) (rM_12 i7.sg _ (by decide)) (by decide +kernel)) (fun σ46 e10 i9 => ?_)
      exact zok_sai i9 (zr_w (zr_c (lo := 10) (hi := 10) (by decide)) (by decide))
    have h11 := zc_nel (1) (3) q3 h_x3 (zr_c (lo := 0) (hi := 0) (by decide)) (by decide)
    exact (s_X12_three_128 zfuel hσ h11 (zr_w (zr_c (lo := 2) (hi := 2) (by decide)) (by decide)) (by decide))
  have h12 := zc_nel (2) (3) q1 h_x2 (zr_c (lo := 1) (hi := 1) (by decide)) (by decide)
  refine zok_if (fun q13 => ?_) (fun q13 => ?_)
  · have h14 := zc_eql (2) (2) q13 h12 (zr_c (lo := 2) (hi := 2) (by decide)) (by decide)
    refine zok_ai (s_X12_nextWord hσ) (fun σ37 v38 i15 h16 => ?_)
    refine zok_ck rfl ?_
    refine zok_bs (i15.wi 20 20 (by decide) h16 (by decide +kernel)) (fun σ39 e18 i17 => ?_)
    refine zok_pi (s_X12_cc i17.P h_x1) (fun v41 h19 => ?_)
    refine zok_if (fun q20 => ?_) (fun q20 => ?_)
    · have h21 := zc_eql (0) (0) q20 h19 (zr_c (lo := 0) (hi := 0) (by decide)) (by decide)
      exact zok_pai i17 (s_X12_three_239 i17.P)
    have h22 := zc_nel (1) (1) q20 h19 (zr_c (lo := 0) (hi := 0) (by decide)) (by decide)
    refine zok_ck rfl ?_
    refine zok_ck rfl ?_
    refine zok_bs (i17.wi 19 19 (by decide) (rM_12 i17.sg _ (by decide)) (by decide +kernel)) (fun σ42 e24 i23 => ?_)
    exact zok_pai i23 (s_X12_three_239 i23.P)
  have h25 := zc_nel (3) (3) q13 h12 (zr_c (lo := 2) (hi := 2) (by decide)) (by decide)
  refine zok_if (fun q26 => ?_) (fun q26 => ?_)
  · have h27 := zc_eql (0) (0) q26 h_x1 (zr_c (lo := 0) (hi := 0) (by decide)) (by decide)
    refine zok_ai (s_X12_nextWord hσ) (fun σ9 v10 i28 h29 => ?_)
    refine zok_ck rfl ?_
    refine zok_bs (i28.wi 20 20 (by decide) h29 (by decide +kernel)) (fun σ11 e31 i30 => ?_)
    refine zok_ck rfl ?_
    refine zok_ck rfl ?_
    refine zok_bs (i30.wi 19 19 (by decide) (rM_12 i30.sg _ (by decide)) (by decide +kernel)) (fun σ12 e33 i32 => ?_)
    exact zok_sai i32 (zr_w (zr_c (lo := 10) (hi := 10) (by decide)) (by decide))
  have h34 := zc_nel (1) (7) q26 h_x1 (zr_c (lo := 0) (hi := 0) (by decide)) (by decide)
  refine zok_if (fun q35 => ?_) (fun q35 => ?_)
  · have h36 := zc_eql (1) (1) q35 h34 (zr_c (lo := 1) (hi := 1) (by decide)) (by decide)
    refine zok_ai (s_X12_turns hσ) (fun σ13 v14 i37 h38 => ?_)
    exact zok_sai i37 (zr_w h38 (by decide))
  have h39 := zc_nel (2) (7) q35 h34 (zr_c (lo := 1) (hi := 1) (by decide)) (by decide)
  refine zok_if (fun q40 => ?_) (fun q40 => ?_)
  · have h41 := zc_eql (2) (2) q40 h39 (zr_c (lo := 2) (hi := 2) (by decide)) (by decide)
    refine zok_ai (s_X12_next hσ) (fun σ15 v16 i42 h43 => ?_)
    refine zok_ck rfl ?_
    refine zok_bu (s_X12_portTo i42 h43 (rM_11 i42.sg _ (by decide))) (fun σ17 i44 => ?_)
    refine zok_ck rfl ?_
    refine zok_ck rfl ?_
    refine zok_bs (i44.wi 20 20 (by decide) (zr_or (lo := 0) (hi := 65535) 16 (zr_shl (lo := 0) (hi := 65280) 8 (by decide) (rM_11 i44.sg _ (by decide)) (by decide)) (zr_andr (lo := 0) (hi := 255) (zr_c (lo := 255) (hi := 255) (by decide)) (by decide)) (by decide)) (by decide +kernel)) (fun σ18 e46 i45 => ?_)
    exact zok_sai i45 (zr_w (zr_c (lo := 11) (hi := 11) (by decide)) (by decide))
  have h47 := zc_nel (3) (7) q40 h39 (zr_c (lo := 2) (hi := 2) (by decide)) (by decide)
  refine zok_if (fun q48 => ?_) (fun q48 => ?_)
  · have h49 := zc_eql (3) (3) q48 h47 (zr_c (lo := 3) (hi := 3) (by decide)) (by decide)
    refine zok_ai (s_X12_next hσ) (fun σ19 v20 i50 h51 => ?_)
    refine zok_ck rfl ?_
    refine zok_ck rfl ?_
    refine zok_bs (i50.wi 20 20 (by decide) (zr_andr (lo := 0) (hi := 65535) (zr_c (lo := 65535) (hi := 65535) (by decide)) (by decide)) (by decide +kernel)) (fun σ21 e53 i52 => ?_)
    refine zok_ai (s_X12_port i52 h51) (fun σ22 v23 i54 h55 => ?_)
    refine zok_ck rfl ?_
    refine zok_bs (i54.wi 0 0 (by decide) h55 (by decide +kernel)) (fun σ24 e57 i56 => ?_)
    exact zok_sai i56 (zr_w (zr_c (lo := 11) (hi := 11) (by decide)) (by decide))
  have h58 := zc_nel (4) (7) q48 h47 (zr_c (lo := 3) (hi := 3) (by decide)) (by decide)
  refine zok_if (fun q59 => ?_) (fun q59 => ?_)
  · have h60 := zc_eql (4) (4) q59 h58 (zr_c (lo := 4) (hi := 4) (by decide)) (by decide)
    refine zok_ck rfl ?_
    refine zok_pi (s_X12_word hσ.P (rM_12 hσ.sg _ (by decide))) (fun v26 h61 => ?_)
    refine zok_ck rfl ?_
    refine zok_pi (s_X12_hl hσ.P) (fun v28 h62 => ?_)
    refine zok_bu (s_X12_wordTo hσ (rM_12 hσ.sg _ (by decide)) h62) (fun σ29 i63 => ?_)
    refine zok_bu (s_X12_hlTo i63 (zr_w h61 (by decide))) (fun σ30 i64 => ?_)
    refine zok_ck rfl ?_
    refine zok_bs (i64.wi 20 20 (by decide) h61 (by decide +kernel)) (fun σ31 e66 i65 => ?_)
    exact zok_sai i65 (zr_w (zr_c (lo := 19) (hi := 19) (by decide)) (by decide))
  have h67 := zc_nel (5) (7) q59 h58 (zr_c (lo := 4) (hi := 4) (by decide)) (by decide)
  refine zok_if (fun q68 => ?_) (fun q68 => ?_)
  · have h69 := zc_eql (5) (5) q68 h67 (zr_c (lo := 5) (hi := 5) (by decide)) (by decide)
    refine zok_bu (s_X12_change hσ (zr_w (zr_c (lo := 4) (hi := 4) (by decide)) (by decide)) (zr_w (zr_c (lo := 6) (hi := 6) (by decide)) (by decide))) (fun σ32 i70 => ?_)
    refine zok_bu (s_X12_change i70 (zr_w (zr_c (lo := 5) (hi := 5) (by decide)) (by decide)) (zr_w (zr_c (lo := 7) (hi := 7) (by decide)) (by decide))) (fun σ33 i71 => ?_)
    exact zok_sai i71 (zr_w (zr_c (lo := 4) (hi := 4) (by decide)) (by decide))
  have h72 := zc_nel (6) (7) q68 h67 (zr_c (lo := 5) (hi := 5) (by decide)) (by decide)
  refine zok_ck rfl ?_
  refine zok_bs (hσ.wi 23 23 (by decide) (zr_sub (lo := 0) (hi := 1) h72 (zr_c (lo := 6) (hi := 6) (by decide)) (by decide)) (by decide +kernel)) (fun σ34 e74 i73 => ?_)
  refine zok_ck rfl ?_
  refine zok_bs (i73.wi 24 24 (by decide) (zr_sub (lo := 0) (hi := 1) h72 (zr_c (lo := 6) (hi := 6) (by decide)) (by decide)) (by decide +kernel)) (fun σ35 e76 i75 => ?_)
  refine zok_if (fun q77 => ?_) (fun q77 => ?_)
  · have h78 := zc_eql (7) (7) q77 h72 (zr_c (lo := 7) (hi := 7) (by decide)) (by decide)
    refine zok_ck rfl ?_
    refine zok_bs (i75.wi 27 27 (by decide) (zr_c (lo := 1) (hi := 1) (by decide)) (by decide +kernel)) (fun σ36 e80 i79 => ?_)
    exact zok_pai i79 (s_X12_three_502 i79.P)
  have h81 := zc_nel (6) (6) q77 h72 (zr_c (lo := 7) (hi := 7) (by decide)) (by decide)
  exact zok_pai i75 (s_X12_three_502 i75.P)
theorem s_X12_three_85 {σ : zSt} (hσ : zPM σ) : zok (fX12_three_85 σ ) (zPi σ (fun v : Int32 => zr (4) (19) v)) := by
  unfold fX12_three_85
  exact zok_spi (zr_w (zr_c (lo := 10) (hi := 10) (by decide)) (by decide))
end ZJN14
