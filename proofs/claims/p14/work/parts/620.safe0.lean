/-! SAFE: ranges of numbers, and what a pure function comes to -/
def zr (lo hi : Int) (x : Int32) : Prop := lo ≤ x.toInt ∧ x.toInt ≤ hi
def zrl (lo hi : Int) (x : Int64) : Prop := lo ≤ x.toInt ∧ x.toInt ≤ hi
def zok {α : Type} (o : Option α) (P : α → Prop) : Prop := ∃ a, o = some a ∧ P a
theorem zok_some {α : Type} {a : α} {P : α → Prop} (h : P a) : zok (some a) P := ⟨a, rfl, h⟩
theorem zok_mono {α : Type} {o : Option α} {P Q : α → Prop} (h : zok o P) (k : ∀ a, P a → Q a) : zok o Q := by
  obtain ⟨a, e, ha⟩ := h
  exact ⟨a, e, k a ha⟩
theorem zok_ck {α : Type} {b : Bool} {x : Option α} {P : α → Prop} (hb : b = true) (h : zok x P) : zok (zck b x) P := by subst hb; exact h
theorem zok_bv {α β : Type} {x : α} {f : α → Option β} {P : β → Prop} (h : ∀ y, y = x → zok (f y) P) : zok (zbv x f) P := h x rfl
theorem zok_br {β : Type} {x : Int32} {f : Int32 → Option β} {P : β → Prop} {lo hi : Int} (hx : zr lo hi x) (h : ∀ y, y = x → zr lo hi y → zok (f y) P) : zok (zbv x f) P := h x rfl hx
theorem zok_bl {β : Type} {x : Int64} {f : Int64 → Option β} {P : β → Prop} {lo hi : Int} (hx : zrl lo hi x) (h : ∀ y, y = x → zrl lo hi y → zok (f y) P) : zok (zbv x f) P := h x rfl hx
theorem zok_bs {β : Type} {x : zSt} {f : zSt → Option β} {P : β → Prop} {I : zSt → Prop} (hx : I x) (h : ∀ y, y = x → I y → zok (f y) P) : zok (zbv x f) P := h x rfl hx
theorem zok_bi {α : Type} {o : Option (zSt × Int32)} {f : zSt → Int32 → Option α} {Q : zSt × Int32 → Prop} {P : α → Prop} (h : zok o Q) (k : ∀ σ v, Q (σ, v) → zok (f σ v) P) : zok (zbi o f) P := by
  obtain ⟨⟨σ, v⟩, e, ha⟩ := h
  subst e
  exact k σ v ha
theorem zok_bll {α : Type} {o : Option (zSt × Int64)} {f : zSt → Int64 → Option α} {Q : zSt × Int64 → Prop} {P : α → Prop} (h : zok o Q) (k : ∀ σ v, Q (σ, v) → zok (f σ v) P) : zok (zbl o f) P := by
  obtain ⟨⟨σ, v⟩, e, ha⟩ := h
  subst e
  exact k σ v ha
theorem zok_bk {α : Type} {o : Option (zSt × Nat)} {f : zSt → Nat → Option α} {Q : zSt × Nat → Prop} {P : α → Prop} (h : zok o Q) (k : ∀ σ v, Q (σ, v) → zok (f σ v) P) : zok (zbk o f) P := by
  obtain ⟨⟨σ, v⟩, e, ha⟩ := h
  subst e
  exact k σ v ha
theorem zok_bu {α : Type} {o : Option zSt} {f : zSt → Option α} {Q : zSt → Prop} {P : α → Prop} (h : zok o Q) (k : ∀ σ, Q σ → zok (f σ) P) : zok (zbu o f) P := by
  obtain ⟨σ, e, ha⟩ := h
  subst e
  exact k σ ha
theorem zok_if {α : Type} {c : Prop} {d : Decidable c} {x y : Option α} {P : α → Prop} (h1 : c → zok x P) (h2 : ¬ c → zok y P) : zok (@ite _ c d x y) P := by
  by_cases h : c
  · rw [if_pos h]; exact h1 h
  · rw [if_neg h]; exact h2 h
/-- answers: a state with I and a number with Q; the same state and a number with Q -/
def zAi (I : zSt → Prop) (Q : Int32 → Prop) (r : zSt × Int32) : Prop := I r.1 ∧ Q r.2
def zAL (I : zSt → Prop) (Q : Int64 → Prop) (r : zSt × Int64) : Prop := I r.1 ∧ Q r.2
def zAk (I : zSt → Prop) (Q : Nat → Prop) (r : zSt × Nat) : Prop := I r.1 ∧ Q r.2
def zPi (σ : zSt) (Q : Int32 → Prop) (r : zSt × Int32) : Prop := r.1 = σ ∧ Q r.2
def zPl (σ : zSt) (Q : Int64 → Prop) (r : zSt × Int64) : Prop := r.1 = σ ∧ Q r.2
def zPk (σ : zSt) (Q : Nat → Prop) (r : zSt × Nat) : Prop := r.1 = σ ∧ Q r.2
def zPu (σ : zSt) (r : zSt) : Prop := r = σ
theorem zok_ai {α : Type} {o : Option (zSt × Int32)} {f : zSt → Int32 → Option α} {I : zSt → Prop} {Q : Int32 → Prop} {P : α → Prop} (h : zok o (zAi I Q)) (k : ∀ σ v, I σ → Q v → zok (f σ v) P) : zok (zbi o f) P := zok_bi h (fun σ v q => k σ v q.1 q.2)
theorem zok_al {α : Type} {o : Option (zSt × Int64)} {f : zSt → Int64 → Option α} {I : zSt → Prop} {Q : Int64 → Prop} {P : α → Prop} (h : zok o (zAL I Q)) (k : ∀ σ v, I σ → Q v → zok (f σ v) P) : zok (zbl o f) P := zok_bll h (fun σ v q => k σ v q.1 q.2)
theorem zok_ak {α : Type} {o : Option (zSt × Nat)} {f : zSt → Nat → Option α} {I : zSt → Prop} {Q : Nat → Prop} {P : α → Prop} (h : zok o (zAk I Q)) (k : ∀ σ v, I σ → Q v → zok (f σ v) P) : zok (zbk o f) P := zok_bk h (fun σ v q => k σ v q.1 q.2)
theorem zok_pi {α : Type} {o : Option (zSt × Int32)} {f : zSt → Int32 → Option α} {Q : Int32 → Prop} {P : α → Prop} {σ : zSt} (h : zok o (zPi σ Q)) (k : ∀ v, Q v → zok (f σ v) P) : zok (zbi o f) P := zok_bi h (fun σ1 v q => by obtain ⟨q1, q2⟩ := q; cases q1; exact k v q2)
theorem zok_pl {α : Type} {o : Option (zSt × Int64)} {f : zSt → Int64 → Option α} {Q : Int64 → Prop} {P : α → Prop} {σ : zSt} (h : zok o (zPl σ Q)) (k : ∀ v, Q v → zok (f σ v) P) : zok (zbl o f) P := zok_bll h (fun σ1 v q => by obtain ⟨q1, q2⟩ := q; cases q1; exact k v q2)
theorem zok_pk {α : Type} {o : Option (zSt × Nat)} {f : zSt → Nat → Option α} {Q : Nat → Prop} {P : α → Prop} {σ : zSt} (h : zok o (zPk σ Q)) (k : ∀ v, Q v → zok (f σ v) P) : zok (zbk o f) P := zok_bk h (fun σ1 v q => by obtain ⟨q1, q2⟩ := q; cases q1; exact k v q2)
theorem zok_pu {α : Type} {o : Option zSt} {f : zSt → Option α} {P : α → Prop} {σ : zSt} (h : zok o (zPu σ)) (k : zok (f σ) P) : zok (zbu o f) P := zok_bu h (fun σ1 q => by cases q; exact k)
theorem zok_sai {I : zSt → Prop} {Q : Int32 → Prop} {σ : zSt} {v : Int32} (hi : I σ) (hq : Q v) : zok (some (σ, v)) (zAi I Q) := ⟨_, rfl, hi, hq⟩
theorem zok_sal {I : zSt → Prop} {Q : Int64 → Prop} {σ : zSt} {v : Int64} (hi : I σ) (hq : Q v) : zok (some (σ, v)) (zAL I Q) := ⟨_, rfl, hi, hq⟩
theorem zok_sak {I : zSt → Prop} {Q : Nat → Prop} {σ : zSt} {v : Nat} (hi : I σ) (hq : Q v) : zok (some (σ, v)) (zAk I Q) := ⟨_, rfl, hi, hq⟩
theorem zok_spi {Q : Int32 → Prop} {σ : zSt} {v : Int32} (hq : Q v) : zok (some (σ, v)) (zPi σ Q) := ⟨_, rfl, rfl, hq⟩
theorem zok_spl {Q : Int64 → Prop} {σ : zSt} {v : Int64} (hq : Q v) : zok (some (σ, v)) (zPl σ Q) := ⟨_, rfl, rfl, hq⟩
theorem zok_spk {Q : Nat → Prop} {σ : zSt} {v : Nat} (hq : Q v) : zok (some (σ, v)) (zPk σ Q) := ⟨_, rfl, rfl, hq⟩
theorem zok_spu {σ : zSt} : zok (some σ) (zPu σ) := ⟨_, rfl, rfl⟩
theorem zok_pai {o : Option (zSt × Int32)} {I : zSt → Prop} {Q : Int32 → Prop} {σ : zSt} (hi : I σ) (h : zok o (zPi σ Q)) : zok o (zAi I Q) := zok_mono h (fun r q => ⟨q.1.symm ▸ hi, q.2⟩)
theorem zok_pal {o : Option (zSt × Int64)} {I : zSt → Prop} {Q : Int64 → Prop} {σ : zSt} (hi : I σ) (h : zok o (zPl σ Q)) : zok o (zAL I Q) := zok_mono h (fun r q => ⟨q.1.symm ▸ hi, q.2⟩)
theorem zok_pak {o : Option (zSt × Nat)} {I : zSt → Prop} {Q : Nat → Prop} {σ : zSt} (hi : I σ) (h : zok o (zPk σ Q)) : zok o (zAk I Q) := zok_mono h (fun r q => ⟨q.1.symm ▸ hi, q.2⟩)
theorem zok_pau {o : Option zSt} {I : zSt → Prop} {σ : zSt} (hi : I σ) (h : zok o (zPu σ)) : zok o I := zok_mono h (fun r q => by cases q; exact hi)
/-! numbers -/
theorem zr_any {x : Int32} : zr (-2147483648) 2147483647 x := by
  have h1 := Int32.le_toInt x
  have h2 := Int32.toInt_lt x
  exact ⟨by omega, by omega⟩
theorem zrl_any {x : Int64} : zrl (-9223372036854775808) 9223372036854775807 x := by
  have h1 := Int64.le_toInt x
  have h2 := Int64.toInt_lt x
  exact ⟨by omega, by omega⟩
theorem zr_w {a b lo hi : Int} {x : Int32} (h : zr a b x) (c : lo ≤ a ∧ b ≤ hi) : zr lo hi x := ⟨Int.le_trans c.1 h.1, Int.le_trans h.2 c.2⟩
theorem zrl_w {a b lo hi : Int} {x : Int64} (h : zrl a b x) (c : lo ≤ a ∧ b ≤ hi) : zrl lo hi x := ⟨Int.le_trans c.1 h.1, Int.le_trans h.2 c.2⟩
theorem zr_c {lo hi : Int} {x : Int32} (c : lo ≤ x.toInt ∧ x.toInt ≤ hi) : zr lo hi x := c
theorem zrl_c {lo hi : Int} {x : Int64} (c : lo ≤ x.toInt ∧ x.toInt ≤ hi) : zrl lo hi x := c
theorem zr_no {lo hi : Int} {x : Int32} {P : Prop} (h : zr lo hi x) (c : hi < lo) : P := by
  have h1 := h.1
  have h2 := h.2
  exfalso; omega
theorem zrl_no {lo hi : Int} {x : Int64} {P : Prop} (h : zrl lo hi x) (c : hi < lo) : P := by
  have h1 := h.1
  have h2 := h.2
  exfalso; omega
theorem z_bm {x : Int} (h1 : -2147483648 ≤ x) (h2 : x ≤ 2147483647) : x.bmod (2 ^ 32) = x := Int.bmod_eq_of_le (by omega) (by omega)
theorem z_bml {x : Int} (h1 : -9223372036854775808 ≤ x) (h2 : x ≤ 9223372036854775807) : x.bmod (2 ^ 64) = x := Int.bmod_eq_of_le (by omega) (by omega)
theorem z_tadd {x y : Int32} {a b c d : Int} (hx : zr a b x) (hy : zr c d y) (h : -2147483648 ≤ a + c ∧ b + d ≤ 2147483647) : (x + y).toInt = x.toInt + y.toInt := by
  obtain ⟨h1, h2⟩ := hx
  obtain ⟨h3, h4⟩ := hy
  rw [Int32.toInt_add]; exact z_bm (by omega) (by omega)
theorem z_tsub {x y : Int32} {a b c d : Int} (hx : zr a b x) (hy : zr c d y) (h : -2147483648 ≤ a - d ∧ b - c ≤ 2147483647) : (x - y).toInt = x.toInt - y.toInt := by
  obtain ⟨h1, h2⟩ := hx
  obtain ⟨h3, h4⟩ := hy
  rw [Int32.toInt_sub]; exact z_bm (by omega) (by omega)
theorem zr_add {lo hi : Int} {x y : Int32} {a b c d : Int} (hx : zr a b x) (hy : zr c d y) (h : -2147483648 ≤ a + c ∧ b + d ≤ 2147483647 ∧ lo ≤ a + c ∧ b + d ≤ hi) : zr lo hi (x + y) := by
  have e := z_tadd hx hy ⟨h.1, h.2.1⟩
  obtain ⟨h1, h2⟩ := hx
  obtain ⟨h3, h4⟩ := hy
  unfold zr; rw [e]; omega
theorem zr_sub {lo hi : Int} {x y : Int32} {a b c d : Int} (hx : zr a b x) (hy : zr c d y) (h : -2147483648 ≤ a - d ∧ b - c ≤ 2147483647 ∧ lo ≤ a - d ∧ b - c ≤ hi) : zr lo hi (x - y) := by
  have e := z_tsub hx hy ⟨h.1, h.2.1⟩
  obtain ⟨h1, h2⟩ := hx
  obtain ⟨h3, h4⟩ := hy
  unfold zr; rw [e]; omega
theorem zr_neg {lo hi : Int} {x : Int32} {a b : Int} (hx : zr a b x) (h : -2147483648 ≤ -b ∧ -a ≤ 2147483647 ∧ lo ≤ -b ∧ -a ≤ hi) : zr lo hi (-x) := by
  obtain ⟨h1, h2⟩ := hx
  unfold zr
  rw [Int32.toInt_neg, z_bm (by omega) (by omega)]; omega
theorem z_tmul {x y : Int32} {a b c d : Int} (hx : zr a b x) (hy : zr c d y) (h : 0 ≤ a ∧ 0 ≤ c ∧ b * d ≤ 2147483647) : (x * y).toInt = x.toInt * y.toInt := by
  obtain ⟨h1, h2⟩ := hx
  obtain ⟨h3, h4⟩ := hy
  have e : 0 ≤ x.toInt * y.toInt := Int.mul_nonneg (by omega) (by omega)
  have e1 : x.toInt * y.toInt ≤ b * d := Int.mul_le_mul h2 h4 (by omega) (by omega)
  rw [Int32.toInt_mul]; exact z_bm (by omega) (by omega)
theorem zr_mul {lo hi : Int} {x y : Int32} {a b c d : Int} (hx : zr a b x) (hy : zr c d y) (h : 0 ≤ a ∧ 0 ≤ c ∧ b * d ≤ 2147483647 ∧ lo ≤ a * c ∧ b * d ≤ hi) : zr lo hi (x * y) := by
  have e := z_tmul hx hy ⟨h.1, h.2.1, h.2.2.1⟩
  obtain ⟨h1, h2⟩ := hx
  obtain ⟨h3, h4⟩ := hy
  have e1 : x.toInt * y.toInt ≤ b * d := Int.mul_le_mul h2 h4 (by omega) (by omega)
  have e2 : a * c ≤ x.toInt * y.toInt := Int.mul_le_mul h1 h3 (by omega) (by omega)
  unfold zr; rw [e]; omega
theorem z_tN {x : Int32} (h : 0 ≤ x.toInt) : (x.toBitVec.toNat : Int) = x.toInt := by
  have e : x.toInt = x.toBitVec.toInt := rfl
  rw [e] at h ⊢
  rw [BitVec.toInt_eq_toNat_of_msb]
  · cases hm : x.toBitVec.msb with
    | false => rfl
    | true => exact absurd (BitVec.toInt_neg_of_msb_true hm) (by omega)
theorem z_Nt {x : Int32} {n : Nat} (h : x.toBitVec.toNat = n) (hn : n < 2147483648) : x.toInt = n := by
  have e : x.toInt = x.toBitVec.toInt := rfl
  rw [e, BitVec.toInt_eq_toNat_of_lt (by omega), h]
theorem zr_andr {m lo hi : Int} {x y : Int32} {c : Int} (hy : zr c m y) (h : 0 ≤ c ∧ lo ≤ 0 ∧ m ≤ hi) : zr lo hi (x &&& y) := by
  have hy0 : 0 ≤ y.toInt := by have := hy.1; omega
  have e := z_tN hy0
  have l : (x &&& y).toBitVec.toNat ≤ y.toBitVec.toNat := by rw [Int32.toBitVec_and, BitVec.toNat_and]; exact Nat.and_le_right
  have hlt := Int32.toInt_lt y
  have e1 := z_Nt (x := x &&& y) rfl (by omega)
  have := hy.2
  unfold zr; rw [e1]; omega
theorem zr_andl {m lo hi : Int} {x y : Int32} {c : Int} (hx : zr c m x) (h : 0 ≤ c ∧ lo ≤ 0 ∧ m ≤ hi) : zr lo hi (x &&& y) := by
  rw [Int32.and_comm]; exact zr_andr hx h
theorem z_orlt {a b k : Nat} (ha : a < 2 ^ k) (hb : b < 2 ^ k) : a ||| b < 2 ^ k := Nat.or_lt_two_pow ha hb
theorem z_xorlt {a b k : Nat} (ha : a < 2 ^ k) (hb : b < 2 ^ k) : a ^^^ b < 2 ^ k := Nat.xor_lt_two_pow ha hb
theorem zr_or {lo hi : Int} (k : Nat) {x y : Int32} {a b c d : Int} (hx : zr a b x) (hy : zr c d y) (h : 0 ≤ a ∧ 0 ≤ c ∧ b < ((2 ^ k : Nat) : Int) ∧ d < ((2 ^ k : Nat) : Int) ∧ k ≤ 31 ∧ lo ≤ 0 ∧ ((2 ^ k : Nat) : Int) ≤ hi + 1) : zr lo hi (x ||| y) := by
  obtain ⟨h1, h2⟩ := hx
  obtain ⟨h3, h4⟩ := hy
  obtain ⟨k1, k2, k3, k4, k5, k6, k7⟩ := h
  have e1 := z_tN (x := x) (by omega)
  have e2 := z_tN (x := y) (by omega)
  have l := z_orlt (k := k) (a := x.toBitVec.toNat) (b := y.toBitVec.toNat) (by omega) (by omega)
  have e : (x ||| y).toBitVec.toNat = x.toBitVec.toNat ||| y.toBitVec.toNat := by rw [Int32.toBitVec_or, BitVec.toNat_or]
  have p : (2 : Nat) ^ k ≤ 2 ^ 31 := Nat.pow_le_pow_right (by decide) k5
  have e3 := z_Nt e (by omega)
  unfold zr; rw [e3]; omega
theorem zr_xor {lo hi : Int} (k : Nat) {x y : Int32} {a b c d : Int} (hx : zr a b x) (hy : zr c d y) (h : 0 ≤ a ∧ 0 ≤ c ∧ b < ((2 ^ k : Nat) : Int) ∧ d < ((2 ^ k : Nat) : Int) ∧ k ≤ 31 ∧ lo ≤ 0 ∧ ((2 ^ k : Nat) : Int) ≤ hi + 1) : zr lo hi (x ^^^ y) := by
  obtain ⟨h1, h2⟩ := hx
  obtain ⟨h3, h4⟩ := hy
  obtain ⟨k1, k2, k3, k4, k5, k6, k7⟩ := h
  have e1 := z_tN (x := x) (by omega)
  have e2 := z_tN (x := y) (by omega)
  have l := z_xorlt (k := k) (a := x.toBitVec.toNat) (b := y.toBitVec.toNat) (by omega) (by omega)
  have e : (x ^^^ y).toBitVec.toNat = x.toBitVec.toNat ^^^ y.toBitVec.toNat := by rw [Int32.toBitVec_xor, BitVec.toNat_xor]
  have p : (2 : Nat) ^ k ≤ 2 ^ 31 := Nat.pow_le_pow_right (by decide) k5
  have e3 := z_Nt e (by omega)
  unfold zr; rw [e3]; omega
/-- right, by any number: no number that is not below 0 grows -/
theorem zr_shra {lo hi : Int} {x s : Int32} {a b : Int} (hx : zr a b x) (h : 0 ≤ a ∧ lo ≤ 0 ∧ b ≤ hi) : zr lo hi (x >>> s) := by
  have e := pk_shr x s _ rfl
  obtain ⟨h1, h2⟩ := hx
  have p : (0 : Int) < 2 ^ (s.toBitVec.smod 32).toNat := Int.pow_pos (by decide)
  have l1 : 0 ≤ x.toInt >>> (s.toBitVec.smod 32).toNat := by rw [Int.shiftRight_eq_div_pow]; exact Int.ediv_nonneg (by omega) (Int.le_of_lt (by exact_mod_cast p))
  have l2 : x.toInt >>> (s.toBitVec.smod 32).toNat ≤ x.toInt := by rw [Int.shiftRight_eq_div_pow]; exact Int.ediv_le_self _ (by omega)
  unfold zr; rw [e]; omega
theorem zr_shr {lo hi : Int} (k : Nat) {x s : Int32} {a b : Int} (hs : (s.toBitVec.smod 32).toNat = k) (hx : zr a b x) (h : lo ≤ a / ((2 ^ k : Nat) : Int) ∧ b / ((2 ^ k : Nat) : Int) ≤ hi) : zr lo hi (x >>> s) := by
  have e := pk_shr x s k hs
  obtain ⟨h1, h2⟩ := hx
  have p : (0 : Int) < ((2 ^ k : Nat) : Int) := by exact_mod_cast Nat.two_pow_pos k
  have l1 := Int.ediv_le_ediv p h1
  have l2 := Int.ediv_le_ediv p h2
  unfold zr; rw [e, Int.shiftRight_eq_div_pow]; omega
theorem z_tdiv {x y : Int32} {a b : Int} (c : Int) (hy : y.toInt = c) (hx : zr a b x) (h : 0 ≤ a ∧ 0 < c) : (x / y).toInt = x.toInt / c := by
  obtain ⟨h1, h2⟩ := hx
  have hl := Int32.toInt_lt x
  have e : x.toInt.tdiv c = x.toInt / c := Int.tdiv_eq_ediv_of_nonneg (by omega)
  have l1 : 0 ≤ x.toInt / c := Int.ediv_nonneg (by omega) (by omega)
  have l2 : x.toInt / c ≤ x.toInt := Int.ediv_le_self _ (by omega)
  rw [Int32.toInt_div, hy, e]; exact z_bm (by omega) (by omega)
theorem zr_div {lo hi : Int} {x y : Int32} {a b : Int} (c : Int) (hy : y.toInt = c) (hx : zr a b x) (h : 0 ≤ a ∧ 0 < c ∧ lo ≤ a / c ∧ b / c ≤ hi) : zr lo hi (x / y) := by
  have e := z_tdiv c hy hx ⟨h.1, h.2.1⟩
  have l1 := Int.ediv_le_ediv h.2.1 hx.1
  have l2 := Int.ediv_le_ediv h.2.1 hx.2
  unfold zr; rw [e]; omega
theorem z_trem {x y : Int32} {a b : Int} (c : Int) (hy : y.toInt = c) (hx : zr a b x) (h : 0 ≤ a ∧ 0 < c) : (zrem x y).toInt = x.toInt % c := by
  have e := z_tdiv c hy hx h
  have h1 := hx.1
  have l1 : 0 ≤ x.toInt / c := Int.ediv_nonneg (by omega) (by omega)
  have m := Int.mul_ediv_add_emod x.toInt c
  have m1 := Int.emod_nonneg x.toInt (b := c) (by omega)
  have hl := Int32.toInt_lt x
  have cm : c * (x.toInt / c) = x.toInt / c * c := Int.mul_comm _ _
  have p : 0 ≤ x.toInt / c * c := Int.mul_nonneg l1 (by omega)
  have em : (x / y * y).toInt = x.toInt / c * c := by rw [Int32.toInt_mul, e, hy]; exact z_bm (by omega) (by omega)
  unfold zrem
  rw [Int32.toInt_sub, em, z_bm (by omega) (by omega)]; omega
theorem zr_rem {lo hi : Int} {x y : Int32} {a b : Int} (c : Int) (hy : y.toInt = c) (hx : zr a b x) (h : 0 ≤ a ∧ 0 < c ∧ lo ≤ 0 ∧ (c - 1 ≤ hi ∨ b ≤ hi)) : zr lo hi (zrem x y) := by
  have e := z_trem c hy hx ⟨h.1, h.2.1⟩
  have m1 := Int.emod_nonneg x.toInt (b := c) (by omega)
  have m2 := Int.emod_lt_of_pos x.toInt h.2.1
  have m3 : x.toInt % c ≤ x.toInt := by
    have m := Int.mul_ediv_add_emod x.toInt c
    have l1 : 0 ≤ c * (x.toInt / c) := Int.mul_nonneg (by omega) (Int.ediv_nonneg (by have := hx.1; omega) (by omega))
    omega
  have := hx.2
  unfold zr; rw [e]; omega
theorem zr_max {lo hi : Int} {x y : Int32} {a b c d : Int} (hx : zr a b x) (hy : zr c d y) (h : (lo ≤ a ∨ lo ≤ c) ∧ b ≤ hi ∧ d ≤ hi) : zr lo hi (zmax x y) := by
  obtain ⟨h1, h2⟩ := hx
  obtain ⟨h3, h4⟩ := hy
  unfold zmax zr
  split
  · next q => have := Int32.lt_iff_toInt_lt.mp q; omega
  · next q => have : ¬ x.toInt < y.toInt := fun r => q (Int32.lt_iff_toInt_lt.mpr r); omega
theorem zr_min {lo hi : Int} {x y : Int32} {a b c d : Int} (hx : zr a b x) (hy : zr c d y) (h : (b ≤ hi ∨ d ≤ hi) ∧ lo ≤ a ∧ lo ≤ c) : zr lo hi (zmin x y) := by
  obtain ⟨h1, h2⟩ := hx
  obtain ⟨h3, h4⟩ := hy
  unfold zmin zr
  split
  · next q => have := Int32.lt_iff_toInt_lt.mp q; omega
  · next q => have : ¬ y.toInt < x.toInt := fun r => q (Int32.lt_iff_toInt_lt.mpr r); omega
theorem zr_i8 {lo hi : Int} {x : Int32} (h : lo ≤ -128 ∧ 127 ≤ hi) : zr lo hi (x.toInt8.toInt32) := by
  have h1 := Int8.le_toInt x.toInt8
  have h2 := Int8.toInt_lt x.toInt8
  unfold zr; rw [Int8.toInt_toInt32]; omega
theorem zr_cmp {lo hi : Int} {x y : Int64} (h : lo ≤ -1 ∧ 1 ≤ hi) : zr lo hi (lg_cmp x y) := by
  unfold lg_cmp zr
  split
  · have : (1 : Int32).toInt = 1 := rfl
    omega
  · split
    · have : (0 : Int32).toInt = 0 := rfl
      omega
    · have : (-1 : Int32).toInt = -1 := rfl
      omega
theorem zr_narz {lo hi : Int} {x : Int32} (h : lo ≤ 0 ∧ 1 ≤ hi) : zr lo hi (vp_nar .boolean x) := by
  have e : vp_nar .boolean x = x &&& 1 := rfl
  rw [e]
  exact zr_andr (m := 1) (c := 1) (zr_c (by decide)) ⟨by decide, h.1, h.2⟩
/-! longs -/
theorem zrl_i {a b : Int} {x : Int32} (h : zr a b x) : zrl a b x.toInt64 := by unfold zrl; rw [Int32.toInt_toInt64]; exact h
theorem zr_l {a b lo hi : Int} {x : Int64} (h : zrl a b x) (c : -2147483648 ≤ a ∧ b ≤ 2147483647 ∧ lo ≤ a ∧ b ≤ hi) : zr lo hi x.toInt32 := by
  obtain ⟨h1, h2⟩ := h
  unfold zr; rw [Int64.toInt_toInt32, z_bm (by omega) (by omega)]; omega
theorem z_tladd {x y : Int64} {a b c d : Int} (hx : zrl a b x) (hy : zrl c d y) (h : -9223372036854775808 ≤ a + c ∧ b + d ≤ 9223372036854775807) : (x + y).toInt = x.toInt + y.toInt := by
  obtain ⟨h1, h2⟩ := hx
  obtain ⟨h3, h4⟩ := hy
  rw [Int64.toInt_add]; exact z_bml (by omega) (by omega)
theorem zrl_add {lo hi : Int} {x y : Int64} {a b c d : Int} (hx : zrl a b x) (hy : zrl c d y) (h : -9223372036854775808 ≤ a + c ∧ b + d ≤ 9223372036854775807 ∧ lo ≤ a + c ∧ b + d ≤ hi) : zrl lo hi (x + y) := by
  have e := z_tladd hx hy ⟨h.1, h.2.1⟩
  obtain ⟨h1, h2⟩ := hx
  obtain ⟨h3, h4⟩ := hy
  unfold zrl; rw [e]; omega
theorem z_tldiv {x y : Int64} {a b : Int} (c : Int) (hy : y.toInt = c) (hx : zrl a b x) (h : 0 ≤ a ∧ 0 < c) : (x / y).toInt = x.toInt / c := by
  obtain ⟨h1, h2⟩ := hx
  have hl := Int64.toInt_lt x
  have e : x.toInt.tdiv c = x.toInt / c := Int.tdiv_eq_ediv_of_nonneg (by omega)
  have l1 : 0 ≤ x.toInt / c := Int.ediv_nonneg (by omega) (by omega)
  have l2 : x.toInt / c ≤ x.toInt := Int.ediv_le_self _ (by omega)
  rw [Int64.toInt_div, hy, e]; exact z_bml (by omega) (by omega)
theorem zrl_div {lo hi : Int} {x y : Int64} {a b : Int} (c : Int) (hy : y.toInt = c) (hx : zrl a b x) (h : 0 ≤ a ∧ 0 < c ∧ lo ≤ a / c ∧ b / c ≤ hi) : zrl lo hi (x / y) := by
  have e := z_tldiv c hy hx ⟨h.1, h.2.1⟩
  have l1 := Int.ediv_le_ediv h.2.1 hx.1
  have l2 := Int.ediv_le_ediv h.2.1 hx.2
  unfold zrl; rw [e]; omega
theorem z_tlrem {x y : Int64} {a b : Int} (c : Int) (hy : y.toInt = c) (hx : zrl a b x) (h : 0 ≤ a ∧ 0 < c) : (zreml x y).toInt = x.toInt % c := by
  have e := z_tldiv c hy hx h
  have h1 := hx.1
  have l1 : 0 ≤ x.toInt / c := Int.ediv_nonneg (by omega) (by omega)
  have m := Int.mul_ediv_add_emod x.toInt c
  have m1 := Int.emod_nonneg x.toInt (b := c) (by omega)
  have hl := Int64.toInt_lt x
  have cm : c * (x.toInt / c) = x.toInt / c * c := Int.mul_comm _ _
  have p : 0 ≤ x.toInt / c * c := Int.mul_nonneg l1 (by omega)
  have em : (x / y * y).toInt = x.toInt / c * c := by rw [Int64.toInt_mul, e, hy]; exact z_bml (by omega) (by omega)
  unfold zreml
  rw [Int64.toInt_sub, em, z_bml (by omega) (by omega)]; omega
theorem zrl_rem {lo hi : Int} {x y : Int64} {a b : Int} (c : Int) (hy : y.toInt = c) (hx : zrl a b x) (h : 0 ≤ a ∧ 0 < c ∧ lo ≤ 0 ∧ c - 1 ≤ hi) : zrl lo hi (zreml x y) := by
  have e := z_tlrem c hy hx ⟨h.1, h.2.1⟩
  have m1 := Int.emod_nonneg x.toInt (b := c) (by omega)
  have m2 := Int.emod_lt_of_pos x.toInt h.2.1
  unfold zrl; rw [e]; omega
/-! ways -/
theorem z_nlt {x y : Int32} (q : ¬ x < y) : y ≤ x := Int32.le_iff_toInt_le.mpr (Int.not_lt.mp (fun r => q (Int32.lt_iff_toInt_lt.mpr r)))
theorem z_nle {x y : Int32} (q : ¬ x ≤ y) : y < x := Int32.lt_iff_toInt_lt.mpr (Int.not_le.mp (fun r => q (Int32.le_iff_toInt_le.mpr r)))
theorem zc_ltl {x y : Int32} {a b c d : Int} (hi : Int) (q : x < y) (hx : zr a b x) (hy : zr c d y) (h : d - 1 ≤ hi) : zr a hi x := by
  have := Int32.lt_iff_toInt_lt.mp q
  have h1 := hx.1
  have h2 := hy.2
  exact ⟨h1, by omega⟩
theorem zc_ltr {x y : Int32} {a b c d : Int} (lo : Int) (q : x < y) (hx : zr a b x) (hy : zr c d y) (h : lo ≤ a + 1) : zr lo d y := by
  have := Int32.lt_iff_toInt_lt.mp q
  have h1 := hx.1
  have h2 := hy.2
  exact ⟨by omega, h2⟩
theorem zc_lel {x y : Int32} {a b c d : Int} (hi : Int) (q : x ≤ y) (hx : zr a b x) (hy : zr c d y) (h : d ≤ hi) : zr a hi x := by
  have := Int32.le_iff_toInt_le.mp q
  have h1 := hx.1
  have h2 := hy.2
  exact ⟨h1, by omega⟩
theorem zc_ler {x y : Int32} {a b c d : Int} (lo : Int) (q : x ≤ y) (hx : zr a b x) (hy : zr c d y) (h : lo ≤ a) : zr lo d y := by
  have := Int32.le_iff_toInt_le.mp q
  have h1 := hx.1
  have h2 := hy.2
  exact ⟨by omega, h2⟩
theorem zc_eql {x y : Int32} {a b c d : Int} (lo hi : Int) (q : x = y) (hx : zr a b x) (hy : zr c d y) (h : (lo ≤ a ∨ lo ≤ c) ∧ (b ≤ hi ∨ d ≤ hi)) : zr lo hi x := by
  subst q
  obtain ⟨h1, h2⟩ := hx
  obtain ⟨h3, h4⟩ := hy
  exact ⟨by omega, by omega⟩
theorem zc_eqr {x y : Int32} {a b c d : Int} (lo hi : Int) (q : x = y) (hx : zr a b x) (hy : zr c d y) (h : (lo ≤ a ∨ lo ≤ c) ∧ (b ≤ hi ∨ d ≤ hi)) : zr lo hi y := by
  subst q
  obtain ⟨h1, h2⟩ := hx
  obtain ⟨h3, h4⟩ := hy
  exact ⟨by omega, by omega⟩
theorem zc_nel {x y : Int32} {a b c d : Int} (lo hi : Int) (q : ¬ x = y) (hx : zr a b x) (hy : zr c d y) (h : c = d ∧ ((lo = a ∧ hi = b) ∨ (c = a ∧ lo = a + 1 ∧ hi = b) ∨ (c = b ∧ lo = a ∧ hi = b - 1))) : zr lo hi x := by
  have : ¬ x.toInt = y.toInt := fun r => q (Int32.toInt_inj.mp r)
  obtain ⟨h1, h2⟩ := hx
  obtain ⟨h3, h4⟩ := hy
  exact ⟨by omega, by omega⟩
theorem zc_ner {x y : Int32} {a b c d : Int} (lo hi : Int) (q : ¬ x = y) (hx : zr a b x) (hy : zr c d y) (h : a = b ∧ ((lo = c ∧ hi = d) ∨ (a = c ∧ lo = c + 1 ∧ hi = d) ∨ (a = d ∧ lo = c ∧ hi = d - 1))) : zr lo hi y := by
  have : ¬ x.toInt = y.toInt := fun r => q (Int32.toInt_inj.mp r)
  obtain ⟨h1, h2⟩ := hx
  obtain ⟨h3, h4⟩ := hy
  exact ⟨by omega, by omega⟩
theorem z_cmp_lt {x y : Int64} : lg_cmp x y < 0 ↔ x.toInt < y.toInt := by
  unfold lg_cmp
  split
  · next q => have := Int64.lt_iff_toInt_lt.mp q; exact ⟨fun h => absurd h (by decide), fun h => by omega⟩
  · next q =>
    have q1 : ¬ y.toInt < x.toInt := fun r => q (Int64.lt_iff_toInt_lt.mpr r)
    split
    · next q2 => subst q2; exact ⟨fun h => absurd h (by decide), fun h => by omega⟩
    · next q2 =>
      have : ¬ x.toInt = y.toInt := fun r => q2 (Int64.toInt_inj.mp r)
      exact ⟨fun _ => by omega, fun _ => by decide⟩
theorem z_cmp_gt {x y : Int64} : 0 < lg_cmp x y ↔ y.toInt < x.toInt := by
  unfold lg_cmp
  split
  · next q => have := Int64.lt_iff_toInt_lt.mp q; exact ⟨fun _ => this, fun _ => by decide⟩
  · next q =>
    have q1 : ¬ y.toInt < x.toInt := fun r => q (Int64.lt_iff_toInt_lt.mpr r)
    split
    · exact ⟨fun h => absurd h (by decide), fun h => by omega⟩
    · exact ⟨fun h => absurd h (by decide), fun h => by omega⟩
theorem z_cmp_eq {x y : Int64} : lg_cmp x y = 0 ↔ x = y := by
  unfold lg_cmp
  split
  · next q =>
    have := Int64.lt_iff_toInt_lt.mp q
    exact ⟨fun h => absurd h (by decide), fun h => by subst h; omega⟩
  · split
    · next q2 => exact ⟨fun _ => q2, fun _ => rfl⟩
    · next q2 => exact ⟨fun h => absurd h (by decide), fun h => absurd h q2⟩
theorem z_cmp_ge {x y : Int64} : 0 ≤ lg_cmp x y ↔ y.toInt ≤ x.toInt := by
  have h := @z_cmp_lt x y
  constructor
  · intro q
    have : ¬ lg_cmp x y < 0 := fun r => by
      have a := Int32.lt_iff_toInt_lt.mp r
      have b := Int32.le_iff_toInt_le.mp q
      omega
    exact Int.not_lt.mp (fun r => this (h.mpr r))
  · intro q
    exact z_nlt (fun r => by have := h.mp r; omega)
/-! checks -/
theorem zin_ok {i : Int32} {n : Nat} {lo hi : Int} (h : zr lo hi i) (c : 0 ≤ lo ∧ hi < n) : zin i n = true := by
  obtain ⟨h1, h2⟩ := h
  have e0 : (0 : Int32).toInt = 0 := rfl
  have a1 : ¬ i < 0 := fun r => by have := Int32.lt_iff_toInt_lt.mp r; omega
  have e : i.toNatClampNeg = i.toInt.toNat := rfl
  have a2 : ¬ n ≤ i.toNatClampNeg := by rw [e]; omega
  simp [zin, a1, a2]
theorem zbo_ok {x : Int32} {lo hi : Int} (h : zr lo hi x) (c : 0 ≤ lo ∧ hi ≤ 1) : zbo x = true := by
  obtain ⟨h1, h2⟩ := h
  have e0 : (0 : Int32).toInt = 0 := rfl
  have e1 : (1 : Int32).toInt = 1 := rfl
  have : x = 0 ∨ x = 1 := by
    by_cases q : x.toInt = 0
    · exact Or.inl (Int32.toInt_inj.mp (by omega))
    · exact Or.inr (Int32.toInt_inj.mp (by omega))
  rcases this with rfl | rfl <;> rfl
theorem zdv_ok {x : Int32} {lo hi : Int} (h : zr lo hi x) (c : 0 < lo ∨ hi < 0) : decide (¬ x = 0) = true := by
  obtain ⟨h1, h2⟩ := h
  have e0 : (0 : Int32).toInt = 0 := rfl
  refine decide_eq_true (fun r => ?_)
  rw [r] at h1 h2
  omega
theorem zdvl_ok {x : Int64} {lo hi : Int} (h : zrl lo hi x) (c : 0 < lo ∨ hi < 0) : decide (¬ x = 0) = true := by
  obtain ⟨h1, h2⟩ := h
  have e0 : (0 : Int64).toInt = 0 := rfl
  refine decide_eq_true (fun r => ?_)
  rw [r] at h1 h2
  omega
theorem z_ix {i : Int32} {a b : Int} {c d : Nat} (h : zr a b i) (h1 : 0 ≤ a ∧ (c : Int) ≤ a ∧ b ≤ (d : Int)) : c ≤ i.toNatClampNeg ∧ i.toNatClampNeg ≤ d := by
  obtain ⟨h2, h3⟩ := h
  have e : i.toNatClampNeg = i.toInt.toNat := rfl
  rw [e]; omega
