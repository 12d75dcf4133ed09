section ZJN0
/-! SAFE: ranges of numbers, and what a pure function comes to -/
def zr (lo hi : Int) (x : Int32) : Prop := lo ≤ x.toInt ∧ x.toInt ≤ hi
def zrl (lo hi : Int) (x : Int64) : Prop := lo ≤ x.toInt ∧ x.toInt ≤ hi
def zok {α : Type} (o : Option α) (P : α → Prop) : Prop := ∃ a, o = some a ∧ P a
theorem zok_some {α : Type} {a : α} {P : α → Prop} (h : P a) : zok (some a) P := ⟨a, rfl, h⟩
theorem zok_mono {α : Type} {o : Option α} {P Q : α → Prop} (h : zok o P) (k : ∀ a, P a → Q a) : zok o Q := by
  obtain ⟨a, e, ha⟩ := h
  exact ⟨a, e, k a ha⟩
theorem zok_ck {α : Type} {b : Bool} {x : Option α} {P : α → Prop} (hb : b = true) (h : zok x P) : zok (zck b x) P := by subst hb; exact h
theorem zok_bv {α β : Type} {x : α} {f : α → Option β} {P : β → Prop} (h : ∀ y, y = x → zok (f y) P) : zok (zbv x f) P := h x rfl
theorem zok_br {β : Type} {x : Int32} {f : Int32 → Option β} {P : β → Prop} {lo hi : Int} (hx : zr lo hi x) (h : ∀ y, y = x → zr lo hi y → zok (f y) P) : zok (zbv x f) P := h x rfl hx
theorem zok_bl {β : Type} {x : Int64} {f : Int64 → Option β} {P : β → Prop} {lo hi : Int} (hx : zrl lo hi x) (h : ∀ y, y = x → zrl lo hi y → zok (f y) P) : zok (zbv x f) P := h x rfl hx
theorem zok_bs {β : Type} {x : zSt} {f : zSt → Option β} {P : β → Prop} {I : zSt → Prop} (hx : I x) (h : ∀ y, y = x → I y → zok (f y) P) : zok (zbv x f) P := h x rfl hx
theorem zok_bi {α : Type} {o : Option (zSt × Int32)} {f : zSt → Int32 → Option α} {Q : zSt × Int32 → Prop} {P : α → Prop} (h : zok o Q) (k : ∀ σ v, Q (σ, v) → zok (f σ v) P) : zok (zbi o f) P := by
  obtain ⟨⟨σ, v⟩, e, ha⟩ := h
  subst e
  exact k σ v ha
theorem zok_bll {α : Type} {o : Option (zSt × Int64)} {f : zSt → Int64 → Option α} {Q : zSt × Int64 → Prop} {P : α → Prop} (h : zok o Q) (k : ∀ σ v, Q (σ, v) → zok (f σ v) P) : zok (zbl o f) P := by
  obtain ⟨⟨σ, v⟩, e, ha⟩ := h
  subst e
  exact k σ v ha
theorem zok_bk {α : Type} {o : Option (zSt × Nat)} {f : zSt → Nat → Option α} {Q : zSt × Nat → Prop} {P : α → Prop} (h : zok o Q) (k : ∀ σ v, Q (σ, v) → zok (f σ v) P) : zok (zbk o f) P := by
  obtain ⟨⟨σ, v⟩, e, ha⟩ := h
  subst e
  exact k σ v ha
theorem zok_bu {α : Type} {o : Option zSt} {f : zSt → Option α} {Q : zSt → Prop} {P : α → Prop} (h : zok o Q) (k : ∀ σ, Q σ → zok (f σ) P) : zok (zbu o f) P := by
  obtain ⟨σ, e, ha⟩ := h
  subst e
  exact k σ ha
theorem zok_if {α : Type} {c : Prop} {d : Decidable c} {x y : Option α} {P : α → Prop} (h1 : c → zok x P) (h2 : ¬ c → zok y P) : zok (@ite _ c d x y) P := by
  by_cases h : c
  · rw [if_pos h]; exact h1 h
  · rw [if_neg h]; exact h2 h
/-- answers: a state with I and a number with Q; the same state and a number with Q -/
def zAi (I : zSt → Prop) (Q : Int32 → Prop) (r : zSt × Int32) : Prop := I r.1 ∧ Q r.2
def zAL (I : zSt → Prop) (Q : Int64 → Prop) (r : zSt × Int64) : Prop := I r.1 ∧ Q r.2
def zAk (I : zSt → Prop) (Q : Nat → Prop) (r : zSt × Nat) : Prop := I r.1 ∧ Q r.2
def zPi (σ : zSt) (Q : Int32 → Prop) (r : zSt × Int32) : Prop := r.1 = σ ∧ Q r.2
def zPl (σ : zSt) (Q : Int64 → Prop) (r : zSt × Int64) : Prop := r.1 = σ ∧ Q r.2
def zPk (σ : zSt) (Q : Nat → Prop) (r : zSt × Nat) : Prop := r.1 = σ ∧ Q r.2
def zPu (σ : zSt) (r : zSt) : Prop := r = σ
theorem zok_ai {α : Type} {o : Option (zSt × Int32)} {f : zSt → Int32 → Option α} {I : zSt → Prop} {Q : Int32 → Prop} {P : α → Prop} (h : zok o (zAi I Q)) (k : ∀ σ v, I σ → Q v → zok (f σ v) P) : zok (zbi o f) P := zok_bi h (fun σ v q => k σ v q.1 q.2)
theorem zok_al {α : Type} {o : Option (zSt × Int64)} {f : zSt → Int64 → Option α} {I : zSt → Prop} {Q : Int64 → Prop} {P : α → Prop} (h : zok o (zAL I Q)) (k : ∀ σ v, I σ → Q v → zok (f σ v) P) : zok (zbl o f) P := zok_bll h (fun σ v q => k σ v q.1 q.2)
theorem zok_ak {α : Type} {o : Option (zSt × Nat)} {f : zSt → Nat → Option α} {I : zSt → Prop} {Q : Nat → Prop} {P : α → Prop} (h : zok o (zAk I Q)) (k : ∀ σ v, I σ → Q v → zok (f σ v) P) : zok (zbk o f) P := zok_bk h (fun σ v q => k σ v q.1 q.2)
theorem zok_pi {α : Type} {o : Option (zSt × Int32)} {f : zSt → Int32 → Option α} {Q : Int32 → Prop} {P : α → Prop} {σ : zSt} (h : zok o (zPi σ Q)) (k : ∀ v, Q v → zok (f σ v) P) : zok (zbi o f) P := zok_bi h (fun σ1 v q => by obtain ⟨q1, q2⟩ := q; cases q1; exact k v q2)
theorem zok_pl {α : Type} {o : Option (zSt × Int64)} {f : zSt → Int64 → Option α} {Q : Int64 → Prop} {P : α → Prop} {σ : zSt} (h : zok o (zPl σ Q)) (k : ∀ v, Q v → zok (f σ v) P) : zok (zbl o f) P := zok_bll h (fun σ1 v q => by obtain ⟨q1, q2⟩ := q; cases q1; exact k v q2)
theorem zok_pk {α : Type} {o : Option (zSt × Nat)} {f : zSt → Nat → Option α} {Q : Nat → Prop} {P : α → Prop} {σ : zSt} (h : zok o (zPk σ Q)) (k : ∀ v, Q v → zok (f σ v) P) : zok (zbk o f) P := zok_bk h (fun σ1 v q => by obtain ⟨q1, q2⟩ := q; cases q1; exact k v q2)
theorem zok_pu {α : Type} {o : Option zSt} {f : zSt → Option α} {P : α → Prop} {σ : zSt} (h : zok o (zPu σ)) (k : zok (f σ) P) : zok (zbu o f) P := zok_bu h (fun σ1 q => by cases q; exact k)
theorem zok_sai {I : zSt → Prop} {Q : Int32 → Prop} {σ : zSt} {v : Int32} (hi : I σ) (hq : Q v) : zok (some (σ, v)) (zAi I Q) := ⟨_, rfl, hi, hq⟩
theorem zok_sal {I : zSt → Prop} {Q : Int64 → Prop} {σ : zSt} {v : Int64} (hi : I σ) (hq : Q v) : zok (some (σ, v)) (zAL I Q) := ⟨_, rfl, hi, hq⟩
theorem zok_sak {I : zSt → Prop} {Q : Nat → Prop} {σ : zSt} {v : Nat} (hi : I σ) (hq : Q v) : zok (some (σ, v)) (zAk I Q) := ⟨_, rfl, hi, hq⟩
theorem zok_spi {Q : Int32 → Prop} {σ : zSt} {v : Int32} (hq : Q v) : zok (some (σ, v)) (zPi σ Q) := ⟨_, rfl, rfl, hq⟩
theorem zok_spl {Q : Int64 → Prop} {σ : zSt} {v : Int64} (hq : Q v) : zok (some (σ, v)) (zPl σ Q) := ⟨_, rfl, rfl, hq⟩
theorem zok_spk {Q : Nat → Prop} {σ : zSt} {v : Nat} (hq : Q v) : zok (some (σ, v)) (zPk σ Q) := ⟨_, rfl, rfl, hq⟩
theorem zok_spu {σ : zSt} : zok (some σ) (zPu σ) := ⟨_, rfl, rfl⟩
theorem zok_pai {o : Option (zSt × Int32)} {I : zSt → Prop} {Q : Int32 → Prop} {σ : zSt} (hi : I σ) (h : zok o (zPi σ Q)) : zok o (zAi I Q) := zok_mono h (fun r q => ⟨q.1.symm ▸ hi, q.2⟩)
theorem zok_pal {o : Option (zSt × Int64)} {I : zSt → Prop} {Q : Int64 → Prop} {σ : zSt} (hi : I σ) (h : zok o (zPl σ Q)) : zok o (zAL I Q) := zok_mono h (fun r q => ⟨q.1.symm ▸ hi, q.2⟩)
theorem zok_pak {o : Option (zSt × Nat)} {I : zSt → Prop} {Q : Nat → Prop} {σ : zSt} (hi : I σ) (h : zok o (zPk σ Q)) : zok o (zAk I Q) := zok_mono h (fun r q => ⟨q.1.symm ▸ hi, q.2⟩)
theorem zok_pau {o : Option zSt} {I : zSt → Prop} {σ : zSt} (hi : I σ) (h : zok o (zPu σ)) : zok o I := zok_mono h (fun r q => by cases q; exact hi)
/-! numbers -/
theorem zr_any {x : Int32} : zr (-2147483648) 2147483647 x := by
  have h1 := Int32.le_toInt x
  have h2 := Int32.toInt_lt x
  exact ⟨by omega, by omega⟩
theorem zrl_any {x : Int64} : zrl (-9223372036854775808) 9223372036854775807 x := by
  have h1 := Int64.le_toInt x
  have h2 := Int64.toInt_lt x
  exact ⟨by omega, by omega⟩
theorem zr_w {a b lo hi : Int} {x : Int32} (h : zr a b x) (c : lo ≤ a ∧ b ≤ hi) : zr lo hi x := ⟨Int.le_trans c.1 h.1, Int.le_trans h.2 c.2⟩
theorem zrl_w {a b lo hi : Int} {x : Int64} (h : zrl a b x) (c : lo ≤ a ∧ b ≤ hi) : zrl lo hi x := ⟨Int.le_trans c.1 h.1, Int.le_trans h.2 c.2⟩
theorem zr_c {lo hi : Int} {x : Int32} (c : lo ≤ x.toInt ∧ x.toInt ≤ hi) : zr lo hi x := c
theorem zrl_c {lo hi : Int} {x : Int64} (c : lo ≤ x.toInt ∧ x.toInt ≤ hi) : zrl lo hi x := c
theorem zr_no {lo hi : Int} {x : Int32} {P : Prop} (h : zr lo hi x) (c : hi < lo) : P := by
  have h1 := h.1
  have h2 := h.2
  exfalso; omega
theorem zrl_no {lo hi : Int} {x : Int64} {P : Prop} (h : zrl lo hi x) (c : hi < lo) : P := by
  have h1 := h.1
  have h2 := h.2
  exfalso; omega
theorem z_bm {x : Int} (h1 : -2147483648 ≤ x) (h2 : x ≤ 2147483647) : x.bmod (2 ^ 32) = x := Int.bmod_eq_of_le (by omega) (by omega)
theorem z_bml {x : Int} (h1 : -9223372036854775808 ≤ x) (h2 : x ≤ 9223372036854775807) : x.bmod (2 ^ 64) = x := Int.bmod_eq_of_le (by omega) (by omega)
theorem z_tadd {x y : Int32} {a b c d : Int} (hx : zr a b x) (hy : zr c d y) (h : -2147483648 ≤ a + c ∧ b + d ≤ 2147483647) : (x + y).toInt = x.toInt + y.toInt := by
  obtain ⟨h1, h2⟩ := hx
  obtain ⟨h3, h4⟩ := hy
  rw [Int32.toInt_add]; exact z_bm (by omega) (by omega)
theorem z_tsub {x y : Int32} {a b c d : Int} (hx : zr a b x) (hy : zr c d y) (h : -2147483648 ≤ a - d ∧ b - c ≤ 2147483647) : (x - y).toInt = x.toInt - y.toInt := by
  obtain ⟨h1, h2⟩ := hx
  obtain ⟨h3, h4⟩ := hy
  rw [Int32.toInt_sub]; exact z_bm (by omega) (by omega)
theorem zr_add {lo hi : Int} {x y : Int32} {a b c d : Int} (hx : zr a b x) (hy : zr c d y) (h : -2147483648 ≤ a + c ∧ b + d ≤ 2147483647 ∧ lo ≤ a + c ∧ b + d ≤ hi) : zr lo hi (x + y) := by
  have e := z_tadd hx hy ⟨h.1, h.2.1⟩
  obtain ⟨h1, h2⟩ := hx
  obtain ⟨h3, h4⟩ := hy
  unfold zr; rw [e]; omega
theorem zr_sub {lo hi : Int} {x y : Int32} {a b c d : Int} (hx : zr a b x) (hy : zr c d y) (h : -2147483648 ≤ a - d ∧ b - c ≤ 2147483647 ∧ lo ≤ a - d ∧ b - c ≤ hi) : zr lo hi (x - y) := by
  have e := z_tsub hx hy ⟨h.1, h.2.1⟩
  obtain ⟨h1, h2⟩ := hx
  obtain ⟨h3, h4⟩ := hy
  unfold zr; rw [e]; omega
theorem zr_neg {lo hi : Int} {x : Int32} {a b : Int} (hx : zr a b x) (h : -2147483648 ≤ -b ∧ -a ≤ 2147483647 ∧ lo ≤ -b ∧ -a ≤ hi) : zr lo hi (-x) := by
  obtain ⟨h1, h2⟩ := hx
  unfold zr
  rw [Int32.toInt_neg, z_bm (by omega) (by omega)]; omega
theorem z_tmul {x y : Int32} {a b c d : Int} (hx : zr a b x) (hy : zr c d y) (h : 0 ≤ a ∧ 0 ≤ c ∧ b * d ≤ 2147483647) : (x * y).toInt = x.toInt * y.toInt := by
  obtain ⟨h1, h2⟩ := hx
  obtain ⟨h3, h4⟩ := hy
  have e : 0 ≤ x.toInt * y.toInt := Int.mul_nonneg (by omega) (by omega)
  have e1 : x.toInt * y.toInt ≤ b * d := Int.mul_le_mul h2 h4 (by omega) (by omega)
  rw [Int32.toInt_mul]; exact z_bm (by omega) (by omega)
theorem zr_mul {lo hi : Int} {x y : Int32} {a b c d : Int} (hx : zr a b x) (hy : zr c d y) (h : 0 ≤ a ∧ 0 ≤ c ∧ b * d ≤ 2147483647 ∧ lo ≤ a * c ∧ b * d ≤ hi) : zr lo hi (x * y) := by
  have e := z_tmul hx hy ⟨h.1, h.2.1, h.2.2.1⟩
  obtain ⟨h1, h2⟩ := hx
  obtain ⟨h3, h4⟩ := hy
  have e1 : x.toInt * y.toInt ≤ b * d := Int.mul_le_mul h2 h4 (by omega) (by omega)
  have e2 : a * c ≤ x.toInt * y.toInt := Int.mul_le_mul h1 h3 (by omega) (by omega)
  unfold zr; rw [e]; omega
theorem z_tN {x : Int32} (h : 0 ≤ x.toInt) : (x.toBitVec.toNat : Int) = x.toInt := by
  have e : x.toInt = x.toBitVec.toInt := rfl
  rw [e] at h ⊢
  rw [BitVec.toInt_eq_toNat_of_msb]
  · cases hm : x.toBitVec.msb with
    | false => rfl
    | true => exact absurd (BitVec.toInt_neg_of_msb_true hm) (by omega)
theorem z_Nt {x : Int32} {n : Nat} (h : x.toBitVec.toNat = n) (hn : n < 2147483648) : x.toInt = n := by
  have e : x.toInt = x.toBitVec.toInt := rfl
  rw [e, BitVec.toInt_eq_toNat_of_lt (by omega), h]
theorem zr_andr {m lo hi : Int} {x y : Int32} {c : Int} (hy : zr c m y) (h : 0 ≤ c ∧ lo ≤ 0 ∧ m ≤ hi) : zr lo hi (x &&& y) := by
  have hy0 : 0 ≤ y.toInt := by have := hy.1; omega
  have e := z_tN hy0
  have l : (x &&& y).toBitVec.toNat ≤ y.toBitVec.toNat := by rw [Int32.toBitVec_and, BitVec.toNat_and]; exact Nat.and_le_right
  have hlt := Int32.toInt_lt y
  have e1 := z_Nt (x := x &&& y) rfl (by omega)
  have := hy.2
  unfold zr; rw [e1]; omega
theorem zr_andl {m lo hi : Int} {x y : Int32} {c : Int} (hx : zr c m x) (h : 0 ≤ c ∧ lo ≤ 0 ∧ m ≤ hi) : zr lo hi (x &&& y) := by
  rw [Int32.and_comm]; exact zr_andr hx h
theorem z_orlt {a b k : Nat} (ha : a < 2 ^ k) (hb : b < 2 ^ k) : a ||| b < 2 ^ k := Nat.or_lt_two_pow ha hb
theorem z_xorlt {a b k : Nat} (ha : a < 2 ^ k) (hb : b < 2 ^ k) : a ^^^ b < 2 ^ k := Nat.xor_lt_two_pow ha hb
theorem zr_or {lo hi : Int} (k : Nat) {x y : Int32} {a b c d : Int} (hx : zr a b x) (hy : zr c d y) (h : 0 ≤ a ∧ 0 ≤ c ∧ b < ((2 ^ k : Nat) : Int) ∧ d < ((2 ^ k : Nat) : Int) ∧ k ≤ 31 ∧ lo ≤ 0 ∧ ((2 ^ k : Nat) : Int) ≤ hi + 1) : zr lo hi (x ||| y) := by
  obtain ⟨h1, h2⟩ := hx
  obtain ⟨h3, h4⟩ := hy
  obtain ⟨k1, k2, k3, k4, k5, k6, k7⟩ := h
  have e1 := z_tN (x := x) (by omega)
  have e2 := z_tN (x := y) (by omega)
  have l := z_orlt (k := k) (a := x.toBitVec.toNat) (b := y.toBitVec.toNat) (by omega) (by omega)
  have e : (x ||| y).toBitVec.toNat = x.toBitVec.toNat ||| y.toBitVec.toNat := by rw [Int32.toBitVec_or, BitVec.toNat_or]
  have p : (2 : Nat) ^ k ≤ 2 ^ 31 := Nat.pow_le_pow_right (by decide) k5
  have e3 := z_Nt e (by omega)
  unfold zr; rw [e3]; omega
theorem zr_xor {lo hi : Int} (k : Nat) {x y : Int32} {a b c d : Int} (hx : zr a b x) (hy : zr c d y) (h : 0 ≤ a ∧ 0 ≤ c ∧ b < ((2 ^ k : Nat) : Int) ∧ d < ((2 ^ k : Nat) : Int) ∧ k ≤ 31 ∧ lo ≤ 0 ∧ ((2 ^ k : Nat) : Int) ≤ hi + 1) : zr lo hi (x ^^^ y) := by
  obtain ⟨h1, h2⟩ := hx
  obtain ⟨h3, h4⟩ := hy
  obtain ⟨k1, k2, k3, k4, k5, k6, k7⟩ := h
  have e1 := z_tN (x := x) (by omega)
  have e2 := z_tN (x := y) (by omega)
  have l := z_xorlt (k := k) (a := x.toBitVec.toNat) (b := y.toBitVec.toNat) (by omega) (by omega)
  have e : (x ^^^ y).toBitVec.toNat = x.toBitVec.toNat ^^^ y.toBitVec.toNat := by rw [Int32.toBitVec_xor, BitVec.toNat_xor]
  have p : (2 : Nat) ^ k ≤ 2 ^ 31 := Nat.pow_le_pow_right (by decide) k5
  have e3 := z_Nt e (by omega)
  unfold zr; rw [e3]; omega
/-- right, by any number: no number that is not below 0 grows -/
theorem zr_shra {lo hi : Int} {x s : Int32} {a b : Int} (hx : zr a b x) (h : 0 ≤ a ∧ lo ≤ 0 ∧ b ≤ hi) : zr lo hi (x >>> s) := by
  have e := pk_shr x s _ rfl
  obtain ⟨h1, h2⟩ := hx
  have p : (0 : Int) < 2 ^ (s.toBitVec.smod 32).toNat := Int.pow_pos (by decide)
  have l1 : 0 ≤ x.toInt >>> (s.toBitVec.smod 32).toNat := by rw [Int.shiftRight_eq_div_pow]; exact Int.ediv_nonneg (by omega) (Int.le_of_lt (by exact_mod_cast p))
  have l2 : x.toInt >>> (s.toBitVec.smod 32).toNat ≤ x.toInt := by rw [Int.shiftRight_eq_div_pow]; exact Int.ediv_le_self _ (by omega)
  unfold zr; rw [e]; omega
theorem zr_shr {lo hi : Int} (k : Nat) {x s : Int32} {a b : Int} (hs : (s.toBitVec.smod 32).toNat = k) (hx : zr a b x) (h : lo ≤ a / ((2 ^ k : Nat) : Int) ∧ b / ((2 ^ k : Nat) : Int) ≤ hi) : zr lo hi (x >>> s) := by
  have e := pk_shr x s k hs
  obtain ⟨h1, h2⟩ := hx
  have p : (0 : Int) < ((2 ^ k : Nat) : Int) := by exact_mod_cast Nat.two_pow_pos k
  have l1 := Int.ediv_le_ediv p h1
  have l2 := Int.ediv_le_ediv p h2
  unfold zr; rw [e, Int.shiftRight_eq_div_pow]; omega
theorem z_tdiv {x y : Int32} {a b : Int} (c : Int) (hy : y.toInt = c) (hx : zr a b x) (h : 0 ≤ a ∧ 0 < c) : (x / y).toInt = x.toInt / c := by
  obtain ⟨h1, h2⟩ := hx
  have hl := Int32.toInt_lt x
  have e : x.toInt.tdiv c = x.toInt / c := Int.tdiv_eq_ediv_of_nonneg (by omega)
  have l1 : 0 ≤ x.toInt / c := Int.ediv_nonneg (by omega) (by omega)
  have l2 : x.toInt / c ≤ x.toInt := Int.ediv_le_self _ (by omega)
  rw [Int32.toInt_div, hy, e]; exact z_bm (by omega) (by omega)
theorem zr_div {lo hi : Int} {x y : Int32} {a b : Int} (c : Int) (hy : y.toInt = c) (hx : zr a b x) (h : 0 ≤ a ∧ 0 < c ∧ lo ≤ a / c ∧ b / c ≤ hi) : zr lo hi (x / y) := by
  have e := z_tdiv c hy hx ⟨h.1, h.2.1⟩
  have l1 := Int.ediv_le_ediv h.2.1 hx.1
  have l2 := Int.ediv_le_ediv h.2.1 hx.2
  unfold zr; rw [e]; omega
theorem z_trem {x y : Int32} {a b : Int} (c : Int) (hy : y.toInt = c) (hx : zr a b x) (h : 0 ≤ a ∧ 0 < c) : (zrem x y).toInt = x.toInt % c := by
  have e := z_tdiv c hy hx h
  have h1 := hx.1
  have l1 : 0 ≤ x.toInt / c := Int.ediv_nonneg (by omega) (by omega)
  have m := Int.mul_ediv_add_emod x.toInt c
  have m1 := Int.emod_nonneg x.toInt (b := c) (by omega)
  have hl := Int32.toInt_lt x
  have cm : c * (x.toInt / c) = x.toInt / c * c := Int.mul_comm _ _
  have p : 0 ≤ x.toInt / c * c := Int.mul_nonneg l1 (by omega)
  have em : (x / y * y).toInt = x.toInt / c * c := by rw [Int32.toInt_mul, e, hy]; exact z_bm (by omega) (by omega)
  unfold zrem
  rw [Int32.toInt_sub, em, z_bm (by omega) (by omega)]; omega
theorem zr_rem {lo hi : Int} {x y : Int32} {a b : Int} (c : Int) (hy : y.toInt = c) (hx : zr a b x) (h : 0 ≤ a ∧ 0 < c ∧ lo ≤ 0 ∧ (c - 1 ≤ hi ∨ b ≤ hi)) : zr lo hi (zrem x y) := by
  have e := z_trem c hy hx ⟨h.1, h.2.1⟩
  have m1 := Int.emod_nonneg x.toInt (b := c) (by omega)
  have m2 := Int.emod_lt_of_pos x.toInt h.2.1
  have m3 : x.toInt % c ≤ x.toInt := by
    have m := Int.mul_ediv_add_emod x.toInt c
    have l1 : 0 ≤ c * (x.toInt / c) := Int.mul_nonneg (by omega) (Int.ediv_nonneg (by have := hx.1; omega) (by omega))
    omega
  have := hx.2
  unfold zr; rw [e]; omega
theorem zr_max {lo hi : Int} {x y : Int32} {a b c d : Int} (hx : zr a b x) (hy : zr c d y) (h : (lo ≤ a ∨ lo ≤ c) ∧ b ≤ hi ∧ d ≤ hi) : zr lo hi (zmax x y) := by
  obtain ⟨h1, h2⟩ := hx
  obtain ⟨h3, h4⟩ := hy
  unfold zmax zr
  split
  · next q => have := Int32.lt_iff_toInt_lt.mp q; omega
  · next q => have : ¬ x.toInt < y.toInt := fun r => q (Int32.lt_iff_toInt_lt.mpr r); omega
theorem zr_min {lo hi : Int} {x y : Int32} {a b c d : Int} (hx : zr a b x) (hy : zr c d y) (h : (b ≤ hi ∨ d ≤ hi) ∧ lo ≤ a ∧ lo ≤ c) : zr lo hi (zmin x y) := by
  obtain ⟨h1, h2⟩ := hx
  obtain ⟨h3, h4⟩ := hy
  unfold zmin zr
  split
  · next q => have := Int32.lt_iff_toInt_lt.mp q; omega
  · next q => have : ¬ y.toInt < x.toInt := fun r => q (Int32.lt_iff_toInt_lt.mpr r); omega
theorem zr_i8 {lo hi : Int} {x : Int32} (h : lo ≤ -128 ∧ 127 ≤ hi) : zr lo hi (x.toInt8.toInt32) := by
  have h1 := Int8.le_toInt x.toInt8
  have h2 := Int8.toInt_lt x.toInt8
  unfold zr; rw [Int8.toInt_toInt32]; omega
theorem zr_cmp {lo hi : Int} {x y : Int64} (h : lo ≤ -1 ∧ 1 ≤ hi) : zr lo hi (lg_cmp x y) := by
  unfold lg_cmp zr
  split
  · have : (1 : Int32).toInt = 1 := rfl
    omega
  · split
    · have : (0 : Int32).toInt = 0 := rfl
      omega
    · have : (-1 : Int32).toInt = -1 := rfl
      omega
theorem zr_narz {lo hi : Int} {x : Int32} (h : lo ≤ 0 ∧ 1 ≤ hi) : zr lo hi (vp_nar .boolean x) := by
  have e : vp_nar .boolean x = x &&& 1 := rfl
  rw [e]
  exact zr_andr (m := 1) (c := 1) (zr_c (by decide)) ⟨by decide, h.1, h.2⟩
/-! longs -/
theorem zrl_i {a b : Int} {x : Int32} (h : zr a b x) : zrl a b x.toInt64 := by unfold zrl; rw [Int32.toInt_toInt64]; exact h
theorem zr_l {a b lo hi : Int} {x : Int64} (h : zrl a b x) (c : -2147483648 ≤ a ∧ b ≤ 2147483647 ∧ lo ≤ a ∧ b ≤ hi) : zr lo hi x.toInt32 := by
  obtain ⟨h1, h2⟩ := h
  unfold zr; rw [Int64.toInt_toInt32, z_bm (by omega) (by omega)]; omega
theorem z_tladd {x y : Int64} {a b c d : Int} (hx : zrl a b x) (hy : zrl c d y) (h : -9223372036854775808 ≤ a + c ∧ b + d ≤ 9223372036854775807) : (x + y).toInt = x.toInt + y.toInt := by
  obtain ⟨h1, h2⟩ := hx
  obtain ⟨h3, h4⟩ := hy
  rw [Int64.toInt_add]; exact z_bml (by omega) (by omega)
theorem zrl_add {lo hi : Int} {x y : Int64} {a b c d : Int} (hx : zrl a b x) (hy : zrl c d y) (h : -9223372036854775808 ≤ a + c ∧ b + d ≤ 9223372036854775807 ∧ lo ≤ a + c ∧ b + d ≤ hi) : zrl lo hi (x + y) := by
  have e := z_tladd hx hy ⟨h.1, h.2.1⟩
  obtain ⟨h1, h2⟩ := hx
  obtain ⟨h3, h4⟩ := hy
  unfold zrl; rw [e]; omega
theorem z_tldiv {x y : Int64} {a b : Int} (c : Int) (hy : y.toInt = c) (hx : zrl a b x) (h : 0 ≤ a ∧ 0 < c) : (x / y).toInt = x.toInt / c := by
  obtain ⟨h1, h2⟩ := hx
  have hl := Int64.toInt_lt x
  have e : x.toInt.tdiv c = x.toInt / c := Int.tdiv_eq_ediv_of_nonneg (by omega)
  have l1 : 0 ≤ x.toInt / c := Int.ediv_nonneg (by omega) (by omega)
  have l2 : x.toInt / c ≤ x.toInt := Int.ediv_le_self _ (by omega)
  rw [Int64.toInt_div, hy, e]; exact z_bml (by omega) (by omega)
theorem zrl_div {lo hi : Int} {x y : Int64} {a b : Int} (c : Int) (hy : y.toInt = c) (hx : zrl a b x) (h : 0 ≤ a ∧ 0 < c ∧ lo ≤ a / c ∧ b / c ≤ hi) : zrl lo hi (x / y) := by
  have e := z_tldiv c hy hx ⟨h.1, h.2.1⟩
  have l1 := Int.ediv_le_ediv h.2.1 hx.1
  have l2 := Int.ediv_le_ediv h.2.1 hx.2
  unfold zrl; rw [e]; omega
theorem z_tlrem {x y : Int64} {a b : Int} (c : Int) (hy : y.toInt = c) (hx : zrl a b x) (h : 0 ≤ a ∧ 0 < c) : (zreml x y).toInt = x.toInt % c := by
  have e := z_tldiv c hy hx h
  have h1 := hx.1
  have l1 : 0 ≤ x.toInt / c := Int.ediv_nonneg (by omega) (by omega)
  have m := Int.mul_ediv_add_emod x.toInt c
  have m1 := Int.emod_nonneg x.toInt (b := c) (by omega)
  have hl := Int64.toInt_lt x
  have cm : c * (x.toInt / c) = x.toInt / c * c := Int.mul_comm _ _
  have p : 0 ≤ x.toInt / c * c := Int.mul_nonneg l1 (by omega)
  have em : (x / y * y).toInt = x.toInt / c * c := by rw [Int64.toInt_mul, e, hy]; exact z_bml (by omega) (by omega)
  unfold zreml
  rw [Int64.toInt_sub, em, z_bml (by omega) (by omega)]; omega
theorem zrl_rem {lo hi : Int} {x y : Int64} {a b : Int} (c : Int) (hy : y.toInt = c) (hx : zrl a b x) (h : 0 ≤ a ∧ 0 < c ∧ lo ≤ 0 ∧ c - 1 ≤ hi) : zrl lo hi (zreml x y) := by
  have e := z_tlrem c hy hx ⟨h.1, h.2.1⟩
  have m1 := Int.emod_nonneg x.toInt (b := c) (by omega)
  have m2 := Int.emod_lt_of_pos x.toInt h.2.1
  unfold zrl; rw [e]; omega
/-! ways -/
theorem z_nlt {x y : Int32} (q : ¬ x < y) : y ≤ x := Int32.le_iff_toInt_le.mpr (Int.not_lt.mp (fun r => q (Int32.lt_iff_toInt_lt.mpr r)))
theorem z_nle {x y : Int32} (q : ¬ x ≤ y) : y < x := Int32.lt_iff_toInt_lt.mpr (Int.not_le.mp (fun r => q (Int32.le_iff_toInt_le.mpr r)))
theorem zc_ltl {x y : Int32} {a b c d : Int} (hi : Int) (q : x < y) (hx : zr a b x) (hy : zr c d y) (h : d - 1 ≤ hi) : zr a hi x := by
  have := Int32.lt_iff_toInt_lt.mp q
  have h1 := hx.1
  have h2 := hy.2
  exact ⟨h1, by omega⟩
theorem zc_ltr {x y : Int32} {a b c d : Int} (lo : Int) (q : x < y) (hx : zr a b x) (hy : zr c d y) (h : lo ≤ a + 1) : zr lo d y := by
  have := Int32.lt_iff_toInt_lt.mp q
  have h1 := hx.1
  have h2 := hy.2
  exact ⟨by omega, h2⟩
theorem zc_lel {x y : Int32} {a b c d : Int} (hi : Int) (q : x ≤ y) (hx : zr a b x) (hy : zr c d y) (h : d ≤ hi) : zr a hi x := by
  have := Int32.le_iff_toInt_le.mp q
  have h1 := hx.1
  have h2 := hy.2
  exact ⟨h1, by omega⟩
theorem zc_ler {x y : Int32} {a b c d : Int} (lo : Int) (q : x ≤ y) (hx : zr a b x) (hy : zr c d y) (h : lo ≤ a) : zr lo d y := by
  have := Int32.le_iff_toInt_le.mp q
  have h1 := hx.1
  have h2 := hy.2
  exact ⟨by omega, h2⟩
theorem zc_eql {x y : Int32} {a b c d : Int} (lo hi : Int) (q : x = y) (hx : zr a b x) (hy : zr c d y) (h : (lo ≤ a ∨ lo ≤ c) ∧ (b ≤ hi ∨ d ≤ hi)) : zr lo hi x := by
  subst q
  obtain ⟨h1, h2⟩ := hx
  obtain ⟨h3, h4⟩ := hy
  exact ⟨by omega, by omega⟩
theorem zc_eqr {x y : Int32} {a b c d : Int} (lo hi : Int) (q : x = y) (hx : zr a b x) (hy : zr c d y) (h : (lo ≤ a ∨ lo ≤ c) ∧ (b ≤ hi ∨ d ≤ hi)) : zr lo hi y := by
  subst q
  obtain ⟨h1, h2⟩ := hx
  obtain ⟨h3, h4⟩ := hy
  exact ⟨by omega, by omega⟩
theorem zc_nel {x y : Int32} {a b c d : Int} (lo hi : Int) (q : ¬ x = y) (hx : zr a b x) (hy : zr c d y) (h : c = d ∧ ((lo = a ∧ hi = b) ∨ (c = a ∧ lo = a + 1 ∧ hi = b) ∨ (c = b ∧ lo = a ∧ hi = b - 1))) : zr lo hi x := by
  have : ¬ x.toInt = y.toInt := fun r => q (Int32.toInt_inj.mp r)
  obtain ⟨h1, h2⟩ := hx
  obtain ⟨h3, h4⟩ := hy
  exact ⟨by omega, by omega⟩
theorem zc_ner {x y : Int32} {a b c d : Int} (lo hi : Int) (q : ¬ x = y) (hx : zr a b x) (hy : zr c d y) (h : a = b ∧ ((lo = c ∧ hi = d) ∨ (a = c ∧ lo = c + 1 ∧ hi = d) ∨ (a = d ∧ lo = c ∧ hi = d - 1))) : zr lo hi y := by
  have : ¬ x.toInt = y.toInt := fun r => q (Int32.toInt_inj.mp r)
  obtain ⟨h1, h2⟩ := hx
  obtain ⟨h3, h4⟩ := hy
  exact ⟨by omega, by omega⟩
theorem z_cmp_lt {x y : Int64} : lg_cmp x y < 0 ↔ x.toInt < y.toInt := by
  unfold lg_cmp
  split
  · next q => have := Int64.lt_iff_toInt_lt.mp q; exact ⟨fun h => absurd h (by decide), fun h => by omega⟩
  · next q =>
    have q1 : ¬ y.toInt < x.toInt := fun r => q (Int64.lt_iff_toInt_lt.mpr r)
    split
    · next q2 => subst q2; exact ⟨fun h => absurd h (by decide), fun h => by omega⟩
    · next q2 =>
      have : ¬ x.toInt = y.toInt := fun r => q2 (Int64.toInt_inj.mp r)
      exact ⟨fun _ => by omega, fun _ => by decide⟩
theorem z_cmp_gt {x y : Int64} : 0 < lg_cmp x y ↔ y.toInt < x.toInt := by
  unfold lg_cmp
  split
  · next q => have := Int64.lt_iff_toInt_lt.mp q; exact ⟨fun _ => this, fun _ => by decide⟩
  · next q =>
    have q1 : ¬ y.toInt < x.toInt := fun r => q (Int64.lt_iff_toInt_lt.mpr r)
    split
    · exact ⟨fun h => absurd h (by decide), fun h => by omega⟩
    · exact ⟨fun h => absurd h (by decide), fun h => by omega⟩
theorem z_cmp_eq {x y : Int64} : lg_cmp x y = 0 ↔ x = y := by
  unfold lg_cmp
  split
  · next q =>
    have := Int64.lt_iff_toInt_lt.mp q
    exact ⟨fun h => absurd h (by decide), fun h => by subst h; omega⟩
  · split
    · next q2 => exact ⟨fun _ => q2, fun _ => rfl⟩
    · next q2 => exact ⟨fun h => absurd h (by decide), fun h => absurd h q2⟩
theorem z_cmp_ge {x y : Int64} : 0 ≤ lg_cmp x y ↔ y.toInt ≤ x.toInt := by
  have h := @z_cmp_lt x y
  constructor
  · intro q
    have : ¬ lg_cmp x y < 0 := fun r => by
      have a := Int32.lt_iff_toInt_lt.mp r
      have b := Int32.le_iff_toInt_le.mp q
      omega
    exact Int.not_lt.mp (fun r => this (h.mpr r))
  · intro q
    exact z_nlt (fun r => by have := h.mp r; omega)
/-! checks -/
theorem zin_ok {i : Int32} {n : Nat} {lo hi : Int} (h : zr lo hi i) (c : 0 ≤ lo ∧ hi < n) : zin i n = true := by
  obtain ⟨h1, h2⟩ := h
  have e0 : (0 : Int32).toInt = 0 := rfl
  have a1 : ¬ i < 0 := fun r => by have := Int32.lt_iff_toInt_lt.mp r; omega
  have e : i.toNatClampNeg = i.toInt.toNat := rfl
  have a2 : ¬ n ≤ i.toNatClampNeg := by rw [e]; omega
  simp [zin, a1, a2]
theorem zbo_ok {x : Int32} {lo hi : Int} (h : zr lo hi x) (c : 0 ≤ lo ∧ hi ≤ 1) : zbo x = true := by
  obtain ⟨h1, h2⟩ := h
  have e0 : (0 : Int32).toInt = 0 := rfl
  have e1 : (1 : Int32).toInt = 1 := rfl
  have : x = 0 ∨ x = 1 := by
    by_cases q : x.toInt = 0
    · exact Or.inl (Int32.toInt_inj.mp (by omega))
    · exact Or.inr (Int32.toInt_inj.mp (by omega))
  rcases this with rfl | rfl <;> rfl
theorem zdv_ok {x : Int32} {lo hi : Int} (h : zr lo hi x) (c : 0 < lo ∨ hi < 0) : decide (¬ x = 0) = true := by
  obtain ⟨h1, h2⟩ := h
  have e0 : (0 : Int32).toInt = 0 := rfl
  refine decide_eq_true (fun r => ?_)
  rw [r] at h1 h2
  omega
theorem zdvl_ok {x : Int64} {lo hi : Int} (h : zrl lo hi x) (c : 0 < lo ∨ hi < 0) : decide (¬ x = 0) = true := by
  obtain ⟨h1, h2⟩ := h
  have e0 : (0 : Int64).toInt = 0 := rfl
  refine decide_eq_true (fun r => ?_)
  rw [r] at h1 h2
  omega
theorem z_ix {i : Int32} {a b : Int} {c d : Nat} (h : zr a b i) (h1 : 0 ≤ a ∧ (c : Int) ≤ a ∧ b ≤ (d : Int)) : c ≤ i.toNatClampNeg ∧ i.toNatClampNeg ≤ d := by
  obtain ⟨h2, h3⟩ := h
  have e : i.toNatClampNeg = i.toInt.toNat := rfl
  rw [e]; omega
end ZJN0
section ZJN1
/-! SAFE 1: invariants of a state: ranges by segments (cell, from, to, lo, hi), frozen cells, one special cell -/
abbrev zSeg : Type := Nat × Nat × Nat × Int × Int
def zSg (S : List zSeg) (σ : zSt) : Prop := ∀ s ∈ S, ∀ j, s.2.1 ≤ j → j ≤ s.2.2.1 → zr s.2.2.2.1 s.2.2.2.2 (σ.1 s.1 j)
def zFz (Z : List (Nat × Nat)) (G : Nat → Int) (σ : zSt) : Prop := ∀ (i : Nat) (z : Nat × Nat), Z[i]? = some z → (σ.1 z.1 z.2).toInt = G i
def zFl (Z : List (Nat × Nat)) (G : Nat → Int) (σ : zSt) : Prop := ∀ (i : Nat) (z : Nat × Nat), Z[i]? = some z → (σ.2 z.1 z.2).toInt = G (100 + i)
/-- a cell that is v0, or 16 and more -/
def zSp (q : Nat × Nat × Int) (σ : zSt) : Prop := (σ.1 q.1 q.2.1).toInt = q.2.2 ∨ 16 ≤ (σ.1 q.1 q.2.1).toInt
def zIV (S : List zSeg) (Z ZL : List (Nat × Nat)) (q : Nat × Nat × Int) (G : Nat → Int) (σ : zSt) : Prop := zSg S σ ∧ zFz Z G σ ∧ zFl ZL G σ ∧ zSp q σ
theorem zsi_ne {σ : zSt} {k j : Nat} {v : Int32} {k1 : Nat} (h : ¬ k1 = k) : (zsi σ k j v).1 k1 = σ.1 k1 := by
  have e : Nat.beq k1 k = false := Bool.eq_false_iff.mpr (fun r => h (Nat.eq_of_beq_eq_true r))
  show (bif Nat.beq k1 k then upd (σ.1 k1) j v else σ.1 k1) = _
  rw [e]; rfl
theorem zsi_eq {σ : zSt} {k j : Nat} {v : Int32} : (zsi σ k j v).1 k = upd (σ.1 k) j v := by
  show (bif Nat.beq k k then upd (σ.1 k) j v else σ.1 k) = _
  rw [show Nat.beq k k = true from Nat.beq_refl k]; rfl
theorem zsi_ej {σ : zSt} {k j : Nat} {v : Int32} : (zsi σ k j v).1 k j = v := by rw [zsi_eq]; exact if_pos rfl
theorem zsi_nj {σ : zSt} {k j j1 : Nat} {v : Int32} (h : ¬ j1 = j) : (zsi σ k j v).1 k j1 = σ.1 k j1 := by rw [zsi_eq]; exact if_neg h
theorem zsi_at {σ : zSt} {k j k1 j1 : Nat} {v : Int32} : (zsi σ k j v).1 k1 j1 = if k1 = k ∧ j1 = j then v else σ.1 k1 j1 := by
  by_cases h : k1 = k
  · subst h
    by_cases hj : j1 = j
    · subst hj; rw [zsi_ej, if_pos ⟨rfl, rfl⟩]
    · rw [zsi_nj hj, if_neg (fun r => hj r.2)]
  · rw [zsi_ne h, if_neg (fun r => h r.1)]
theorem zsl_at {σ : zSt} {k j k1 j1 : Nat} {v : Int64} : (zsl σ k j v).2 k1 j1 = if k1 = k ∧ j1 = j then v else σ.2 k1 j1 := by
  show (bif Nat.beq k1 k then vp_updL (σ.2 k1) j v else σ.2 k1) j1 = _
  by_cases h : k1 = k
  · subst h
    rw [show Nat.beq k1 k1 = true from Nat.beq_refl k1]
    show (if j1 = j then v else σ.2 k1 j1) = _
    by_cases hj : j1 = j
    · rw [if_pos hj, if_pos ⟨rfl, hj⟩]
    · rw [if_neg hj, if_neg (fun r => hj r.2)]
  · have e : Nat.beq k1 k = false := Bool.eq_false_iff.mpr (fun r => h (Nat.eq_of_beq_eq_true r))
    rw [e, if_neg (fun r => h r.1)]; rfl
def zWi (S : List zSeg) (Z : List (Nat × Nat)) (q : Nat × Nat × Int) (k a b : Nat) (lo hi : Int) : Bool :=
  (S.all (fun s => !Nat.beq s.1 k || (Nat.blt b s.2.1 || (Nat.blt s.2.2.1 a || (decide (s.2.2.2.1 ≤ lo) && decide (hi ≤ s.2.2.2.2))))) && Z.all (fun z => !Nat.beq z.1 k || (Nat.blt b z.2 || Nat.blt z.2 a))) && (!Nat.beq q.1 k || (Nat.blt b q.2.1 || Nat.blt q.2.1 a))
theorem z_out {k k1 a b j j1 : Nat} {x : Bool} (hj : a ≤ j ∧ j ≤ b) (h : (!Nat.beq k1 k || (Nat.blt b j1 || Nat.blt j1 a)) = true) : ¬ (k1 = k ∧ j1 = j) := by
  intro r
  obtain ⟨r1, r2⟩ := r
  subst r1; subst r2
  rw [show Nat.beq k1 k1 = true from Nat.beq_refl k1] at h
  simp only [Bool.not_true, Bool.false_or, Bool.or_eq_true, Nat.blt_eq] at h
  omega
section ZIV
variable {S : List zSeg} {Z ZL : List (Nat × Nat)} {q : Nat × Nat × Int} {G : Nat → Int} {σ : zSt}
theorem zIV_i {k j : Nat} {v : Int32} {lo hi : Int} (a b : Nat) (h : zIV S Z ZL q G σ) (hj : a ≤ j ∧ j ≤ b) (hv : zr lo hi v) (c : zWi S Z q k a b lo hi = true) : zIV S Z ZL q G (zsi σ k j v) := by
  obtain ⟨h1, h2, h3, h4⟩ := h
  rw [zWi, Bool.and_eq_true, Bool.and_eq_true, List.all_eq_true, List.all_eq_true] at c
  obtain ⟨⟨c1, c2⟩, c3⟩ := c
  refine ⟨fun s hs j1 l1 l2 => ?_, fun i z hz => ?_, h3, ?_⟩
  · rw [zsi_at]
    by_cases r : s.1 = k ∧ j1 = j
    · rw [if_pos r]
      obtain ⟨r1, r2⟩ := r
      have c4 := c1 s hs
      rw [r1, show Nat.beq k k = true from Nat.beq_refl k] at c4
      simp only [Bool.not_true, Bool.false_or, Bool.or_eq_true, Bool.and_eq_true, Nat.blt_eq, decide_eq_true_eq] at c4
      obtain ⟨v1, v2⟩ := hv
      exact ⟨by omega, by omega⟩
    · rw [if_neg r]; exact h1 s hs j1 l1 l2
  · rw [zsi_at, if_neg (z_out (x := true) hj (c2 z (List.mem_of_getElem? hz)))]
    exact h2 i z hz
  · unfold zSp
    rw [zsi_at, if_neg (z_out (x := true) hj c3)]
    exact h4
def zWk (S : List zSeg) (Z : List (Nat × Nat)) (q : Nat × Nat × Int) (k : Nat) : Bool := (S.all (fun s => !Nat.beq s.1 k) && Z.all (fun z => !Nat.beq z.1 k)) && !Nat.beq q.1 k
theorem z_nb {a b : Nat} (h : (!Nat.beq a b) = true) : ¬ a = b := by
  intro r
  subst r
  rw [show Nat.beq a a = true from Nat.beq_refl a] at h
  exact absurd h (by decide)
theorem zIV_k {k j : Nat} {v : Int32} (h : zIV S Z ZL q G σ) (c : zWk S Z q k = true) : zIV S Z ZL q G (zsi σ k j v) := by
  obtain ⟨h1, h2, h3, h4⟩ := h
  rw [zWk, Bool.and_eq_true, Bool.and_eq_true, List.all_eq_true, List.all_eq_true] at c
  obtain ⟨⟨c1, c2⟩, c3⟩ := c
  refine ⟨fun s hs j1 l1 l2 => ?_, fun i z hz => ?_, h3, ?_⟩
  · rw [zsi_ne (z_nb (c1 s hs))]; exact h1 s hs j1 l1 l2
  · rw [zsi_ne (z_nb (c2 z (List.mem_of_getElem? hz)))]; exact h2 i z hz
  · unfold zSp; rw [zsi_ne (z_nb c3)]; exact h4
theorem zIV_l {k j : Nat} {v : Int64} (a b : Nat) (h : zIV S Z ZL q G σ) (hj : a ≤ j ∧ j ≤ b) (c : ZL.all (fun z => !Nat.beq z.1 k || (Nat.blt b z.2 || Nat.blt z.2 a)) = true) : zIV S Z ZL q G (zsl σ k j v) := by
  obtain ⟨h1, h2, h3, h4⟩ := h
  rw [List.all_eq_true] at c
  refine ⟨h1, h2, fun i z hz => ?_, h4⟩
  rw [zsl_at, if_neg (z_out (x := true) hj (c z (List.mem_of_getElem? hz)))]
  exact h3 i z hz
/-- the special cell -/
def zWs (S : List zSeg) (Z : List (Nat × Nat)) (q : Nat × Nat × Int) (lo hi : Int) : Bool :=
  S.all (fun s => !Nat.beq s.1 q.1 || (Nat.blt q.2.1 s.2.1 || (Nat.blt s.2.2.1 q.2.1 || (decide (s.2.2.2.1 ≤ lo) && decide (hi ≤ s.2.2.2.2))))) && Z.all (fun z => !Nat.beq z.1 q.1 || (Nat.blt q.2.1 z.2 || Nat.blt z.2 q.2.1))
theorem zIV_s {v : Int32} {lo hi : Int} (h : zIV S Z ZL q G σ) (hv : zr lo hi v) (c : zWs S Z q lo hi = true) (hs : v.toInt = q.2.2 ∨ 16 ≤ v.toInt) : zIV S Z ZL q G (zsi σ q.1 q.2.1 v) := by
  obtain ⟨h1, h2, h3, h4⟩ := h
  rw [zWs, Bool.and_eq_true, List.all_eq_true, List.all_eq_true] at c
  obtain ⟨c1, c2⟩ := c
  refine ⟨fun s hs j1 l1 l2 => ?_, fun i z hz => ?_, h3, ?_⟩
  · rw [zsi_at]
    by_cases r : s.1 = q.1 ∧ j1 = q.2.1
    · rw [if_pos r]
      obtain ⟨r1, r2⟩ := r
      have c4 := c1 s hs
      rw [r1, show Nat.beq q.1 q.1 = true from Nat.beq_refl _] at c4
      simp only [Bool.not_true, Bool.false_or, Bool.or_eq_true, Bool.and_eq_true, Nat.blt_eq, decide_eq_true_eq] at c4
      obtain ⟨v1, v2⟩ := hv
      exact ⟨by omega, by omega⟩
    · rw [if_neg r]; exact h1 s hs j1 l1 l2
  · rw [zsi_at, if_neg (z_out (x := true) (a := q.2.1) (b := q.2.1) ⟨Nat.le_refl _, Nat.le_refl _⟩ (c2 z (List.mem_of_getElem? hz)))]
    exact h2 i z hz
  · unfold zSp; rw [zsi_ej]; exact hs
def zWc (S : List zSeg) (Z : List (Nat × Nat)) (q : Nat × Nat × Int) (k0 k1 : Nat) : Bool :=
  (S.all (fun s => !Nat.beq s.1 k1 || S.any (fun t => Nat.beq t.1 k0 && (Nat.beq t.2.1 s.2.1 && (Nat.beq t.2.2.1 s.2.2.1 && (decide (t.2.2.2.1 = s.2.2.2.1) && decide (t.2.2.2.2 = s.2.2.2.2)))))) && Z.all (fun z => !Nat.beq z.1 k1)) && !Nat.beq q.1 k1
theorem zcpi_ne {k0 k1 sp dp n k : Nat} (h : ¬ k = k1) : (zcpi σ k0 k1 sp dp n).1 k = σ.1 k := by
  have e : Nat.beq k k1 = false := Bool.eq_false_iff.mpr (fun r => h (Nat.eq_of_beq_eq_true r))
  show (bif Nat.beq k k1 then va_cpy (σ.1 k0) (σ.1 k) sp dp n else σ.1 k) = _
  rw [e]; rfl
theorem zcpi_eq {k0 k1 n j : Nat} : (zcpi σ k0 k1 0 0 n).1 k1 j = if j < n then σ.1 k0 j else σ.1 k1 j := by
  show (bif Nat.beq k1 k1 then va_cpy (σ.1 k0) (σ.1 k1) 0 0 n else σ.1 k1) j = _
  rw [show Nat.beq k1 k1 = true from Nat.beq_refl k1]
  show (if 0 ≤ j ∧ j < 0 + n then σ.1 k0 (0 + (j - 0)) else σ.1 k1 j) = _
  by_cases h : j < n
  · rw [if_pos h, if_pos ⟨Nat.zero_le _, by omega⟩, show 0 + (j - 0) = j by omega]
  · rw [if_neg h, if_neg (fun r => h (by omega))]
theorem zIV_c {k0 k1 sp dp n : Nat} (h : zIV S Z ZL q G σ) (c : zWc S Z q k0 k1 = true) (e0 : sp = 0) (e1 : dp = 0) : zIV S Z ZL q G (zcpi σ k0 k1 sp dp n) := by
  subst e0; subst e1
  obtain ⟨h1, h2, h3, h4⟩ := h
  rw [zWc, Bool.and_eq_true, Bool.and_eq_true, List.all_eq_true, List.all_eq_true] at c
  obtain ⟨⟨c1, c2⟩, c3⟩ := c
  refine ⟨fun s hs j1 l1 l2 => ?_, fun i z hz => ?_, h3, ?_⟩
  · by_cases r : s.1 = k1
    · have c4 := c1 s hs
      have d := h1 s hs j1 l1 l2
      rw [r] at c4 d ⊢
      rw [show Nat.beq k1 k1 = true from Nat.beq_refl k1] at c4
      simp only [Bool.not_true, Bool.false_or, List.any_eq_true, Bool.and_eq_true, decide_eq_true_eq] at c4
      obtain ⟨t, ht, t1, t2, t3, t4, t5⟩ := c4
      have t1 := Nat.eq_of_beq_eq_true t1
      have t2 := Nat.eq_of_beq_eq_true t2
      have t3 := Nat.eq_of_beq_eq_true t3
      have d2 := h1 t ht j1 (by omega) (by omega)
      rw [t1, t4, t5] at d2
      rw [zcpi_eq]
      split
      · exact d2
      · exact d
    · rw [zcpi_ne r]; exact h1 s hs j1 l1 l2
  · rw [zcpi_ne (z_nb (c2 z (List.mem_of_getElem? hz)))]; exact h2 i z hz
  · unfold zSp; rw [zcpi_ne (z_nb c3)]; exact h4
theorem zIV_cl {k0 k1 sp dp n : Nat} (h : zIV S Z ZL q G σ) (c : ZL.all (fun z => !Nat.beq z.1 k1) = true) : zIV S Z ZL q G (zcpl σ k0 k1 sp dp n) := by
  obtain ⟨h1, h2, h3, h4⟩ := h
  rw [List.all_eq_true] at c
  refine ⟨h1, h2, fun i z hz => ?_, h4⟩
  have e : Nat.beq z.1 k1 = false := Bool.eq_false_iff.mpr (fun r => z_nb (c z (List.mem_of_getElem? hz)) (Nat.eq_of_beq_eq_true r))
  have e2 : (zcpl σ k0 k1 sp dp n).2 z.1 = σ.2 z.1 := by
    show (bif Nat.beq z.1 k1 then va_cpy (σ.2 k0) (σ.2 z.1) sp dp n else σ.2 z.1) = _
    rw [e]; rfl
  rw [e2]; exact h3 i z hz
end ZIV
/-! facts behind a write -/
theorem z_tr {σ σ1 : zSt} {k j : Nat} {v : Int32} {k1 j1 : Nat} {lo hi : Int} (e : σ1 = zsi σ k j v) (c : Nat.beq k1 k = false) (h : zr lo hi (zgi σ k1 j1)) : zr lo hi (zgi σ1 k1 j1) := by
  subst e
  have n : ¬ k1 = k := fun r => by subst r; rw [show Nat.beq k1 k1 = true from Nat.beq_refl k1] at c; exact absurd c (by decide)
  unfold zgi at h ⊢
  rw [zsi_ne n]; exact h
theorem z_trj {σ σ1 : zSt} {k j : Nat} {v : Int32} {j1 : Nat} {lo hi : Int} (e : σ1 = zsi σ k j v) (c : ¬ j1 = j) (h : zr lo hi (zgi σ k j1)) : zr lo hi (zgi σ1 k j1) := by
  subst e
  unfold zgi at h ⊢
  rw [zsi_nj c]; exact h
theorem z_trl {σ σ1 : zSt} {k j : Nat} {v : Int64} {k1 j1 : Nat} {lo hi : Int} (e : σ1 = zsl σ k j v) (h : zr lo hi (zgi σ k1 j1)) : zr lo hi (zgi σ1 k1 j1) := by subst e; exact h
theorem z_own {σ σ1 : zSt} {k j : Nat} {v : Int32} {lo hi : Int} (e : σ1 = zsi σ k j v) (h : zr lo hi v) : zr lo hi (zgi σ1 k j) := by subst e; unfold zgi; rw [zsi_ej]; exact h
/-! more numbers -/
theorem z_ixlt {i : Int32} {a b : Int} {d : Nat} (h : zr a b i) (h1 : 0 ≤ a ∧ b < (d : Int)) : i.toNatClampNeg < d := by
  obtain ⟨h2, h3⟩ := h
  have e : i.toNatClampNeg = i.toInt.toNat := rfl
  rw [e]; omega
theorem zr_remv {lo hi : Int} {x y : Int32} {a b c d : Int} (hx : zr a b x) (hy : zr c d y) (h : 0 ≤ a ∧ 0 < c ∧ lo ≤ 0 ∧ d - 1 ≤ hi) : zr lo hi (zrem x y) := by
  have hy1 := hy.1
  have hy2 := hy.2
  have e := z_trem y.toInt rfl hx ⟨h.1, by omega⟩
  have m1 := Int.emod_nonneg x.toInt (b := y.toInt) (by omega)
  have m2 := Int.emod_lt_of_pos x.toInt (b := y.toInt) (by omega)
  unfold zr; rw [e]; omega
theorem zr_shl {lo hi : Int} (k : Nat) {x s : Int32} {a b : Int} (hs : (s.toBitVec.smod 32).toNat = k) (hx : zr a b x) (h : 0 ≤ a ∧ k < 31 ∧ b * ((2 ^ k : Nat) : Int) ≤ 2147483647 ∧ lo ≤ a * ((2 ^ k : Nat) : Int) ∧ b * ((2 ^ k : Nat) : Int) ≤ hi) : zr lo hi (x <<< s) := by
  obtain ⟨h1, h2⟩ := hx
  obtain ⟨k1, k2, k3, k4, k5⟩ := h
  have e0 := z_tN (x := x) (by omega)
  have p : (0 : Int) ≤ ((2 ^ k : Nat) : Int) := Int.natCast_nonneg _
  have l1 : a * ((2 ^ k : Nat) : Int) ≤ x.toInt * ((2 ^ k : Nat) : Int) := Int.mul_le_mul_of_nonneg_right h1 p
  have l2 : x.toInt * ((2 ^ k : Nat) : Int) ≤ b * ((2 ^ k : Nat) : Int) := Int.mul_le_mul_of_nonneg_right h2 p
  have l0 : 0 ≤ a * ((2 ^ k : Nat) : Int) := Int.mul_nonneg k1 p
  have e1 : (x <<< s).toBitVec = x.toBitVec <<< (s.toBitVec.smod 32).toNat := rfl
  have e3 : ((x.toBitVec.toNat * 2 ^ k : Nat) : Int) = x.toInt * ((2 ^ k : Nat) : Int) := by rw [Int.natCast_mul, e0]
  have e2 : (x <<< s).toBitVec.toNat = x.toBitVec.toNat * 2 ^ k := by
    rw [e1, hs, BitVec.toNat_shiftLeft, Nat.shiftLeft_eq, Nat.mod_eq_of_lt (by omega)]
  have e4 := z_Nt e2 (by omega)
  unfold zr; rw [e4, e3]; omega
theorem z_s31 : ∀ n : Nat, n < 32 → (((Int32.ofNat n) &&& 31).toBitVec.smod 32).toNat = n := by decide
theorem zr_shld {lo hi : Int} {x y : Int32} {a b c d : Int} (hx : zr a b x) (hy : zr c d y) (h : 0 ≤ a ∧ 0 ≤ c ∧ d < 31 ∧ lo ≤ 0 ∧ b * ((2 ^ d.toNat : Nat) : Int) ≤ 2147483647 ∧ b * ((2 ^ d.toNat : Nat) : Int) ≤ hi) : zr lo hi (x <<< (y &&& 31)) := by
  obtain ⟨k1, k2, k3, k4, k5, k6⟩ := h
  have y1 := hy.1
  have y2 := hy.2
  have hx1 := hx.1
  have hx2 := hx.2
  obtain ⟨n, hn⟩ : ∃ n : Nat, y.toInt = n := ⟨y.toInt.toNat, by omega⟩
  have ey : y = Int32.ofNat n := Int32.toInt_inj.mp (by rw [Int32.toInt_ofNat_of_lt (by omega), hn])
  have hs := z_s31 n (by omega)
  rw [← ey] at hs
  have pw : (2 : Nat) ^ n ≤ 2 ^ d.toNat := Nat.pow_le_pow_right (by decide) (by omega)
  have pi : ((2 ^ n : Nat) : Int) ≤ ((2 ^ d.toNat : Nat) : Int) := Int.ofNat_le.mpr pw
  have b0 : 0 ≤ b := by omega
  have l : b * ((2 ^ n : Nat) : Int) ≤ b * ((2 ^ d.toNat : Nat) : Int) := Int.mul_le_mul_of_nonneg_left pi b0
  exact zr_shl n hs hx ⟨k1, by omega, by omega, Int.le_trans k4 (Int.mul_nonneg k1 (Int.natCast_nonneg _)), by omega⟩
theorem zrl_max {lo hi : Int} {x y : Int64} {a b c d : Int} (hx : zrl a b x) (hy : zrl c d y) (h : (lo ≤ a ∨ lo ≤ c) ∧ b ≤ hi ∧ d ≤ hi) : zrl lo hi (zmaxl x y) := by
  obtain ⟨h1, h2⟩ := hx
  obtain ⟨h3, h4⟩ := hy
  unfold zmaxl zrl
  split
  · next q => have := Int64.lt_iff_toInt_lt.mp q; omega
  · next q => have : ¬ y.toInt < x.toInt := fun r => q (Int64.lt_iff_toInt_lt.mpr r); omega
/-! String constants -/
theorem zkN_r {m : Nat} {l : List Nat} {n : Nat} (h : n ∈ l) (c : (l.all (fun i => Nat.ble (zkL i) m) && Nat.ble m 2147483647) = true) : zr 0 m (zkN n) := by
  rw [Bool.and_eq_true, List.all_eq_true] at c
  have c1 := Nat.le_of_ble_eq_true (c.1 n h)
  have c2 := Nat.le_of_ble_eq_true c.2
  have e : (zkN n).toInt = zkL n := Int32.toInt_ofNat_of_lt (by omega)
  unfold zr; rw [e]; omega
theorem z_kL : ∀ n, zkL n < 2147483648 := by
  intro n
  by_cases h : n < 179
  · have : ∀ i : Fin 179, zkL i.val < 2147483648 := by decide +kernel
    exact this ⟨n, h⟩
  · have e : zkL n = zkL 178 := by
      obtain ⟨k, rfl⟩ : ∃ k, n = 179 + k := ⟨n - 179, by omega⟩
      rw [Nat.add_comm]; rfl
    rw [e]; decide +kernel
theorem zin_k {n : Nat} {x : Int32} {a b : Int} (q : ¬ zkN n ≤ x) (h : zr a b x) (c : 0 ≤ a) : zin x (zkL n) = true := by
  have l := z_kL n
  have e : (zkN n).toInt = zkL n := Int32.toInt_ofNat_of_lt (by omega)
  have q1 := Int32.lt_iff_toInt_lt.mp (z_nle q)
  have h1 := h.1
  exact zin_ok (lo := x.toInt) (hi := x.toInt) ⟨Int.le_refl _, Int.le_refl _⟩ ⟨by omega, by omega⟩
theorem z_memlt {n m : Nat} {l : List Nat} (h : n ∈ l) (c : l.all (fun i => Nat.blt i m) = true) : n < m := by
  rw [List.all_eq_true] at c
  exact Nat.blt_eq.mp (c n h)
theorem z_memsub {n : Nat} {l l1 : List Nat} (h : n ∈ l) (c : l.all (fun i => l1.contains i) = true) : n ∈ l1 := by
  rw [List.all_eq_true] at c
  exact List.contains_iff_mem.mp (c n h)
/-- the state of an answer that may be a throw -/
def zRis (r : zRi) : zSt := match r with | Sum.inl x => x.1 | Sum.inr x => x.1
def zRls (r : zRl) : zSt := match r with | Sum.inl x => x.1 | Sum.inr x => x.1
def zRus (r : zRu) : zSt := match r with | Sum.inl x => x | Sum.inr x => x.1
theorem z_su {U a b : Int} {x : Int32} (h : zr a b x) (c : U - a < 2000000) : U - x.toInt < (zfuel : Nat) := by
  have h1 := h.1
  unfold zfuel; omega
theorem z_sd {U a b : Int} {x : Int32} (h : zr a b x) (c : b - U < 2000000) : x.toInt - U < (zfuel : Nat) := by
  have h1 := h.2
  unfold zfuel; omega
theorem z_sul {U a b : Int} {x : Int64} (h : zrl a b x) (c : U - a < 2000000) : U - x.toInt < (zfuel : Nat) := by
  have h1 := h.1
  unfold zfuel; omega
theorem z_trr {σ σ1 : zSt} {k j : Nat} {v : Int32} {j1 a b : Nat} {lo hi : Int} (e : σ1 = zsi σ k j v) (hj : a ≤ j ∧ j ≤ b) (c : j1 < a ∨ b < j1) (h : zr lo hi (zgi σ k j1)) : zr lo hi (zgi σ1 k j1) := z_trj e (by omega) h
theorem z_shl1 : ∀ n : Fin 14, 1 ≤ (zlshl 1 (Int32.ofNat n.val)).toInt ∧ (zlshl 1 (Int32.ofNat n.val)).toInt ≤ 8192 := by decide
theorem zrl_shl {lo hi : Int} {y : Int32} {c d : Int} (hy : zr c d y) (h : 0 ≤ c ∧ d < 14 ∧ lo ≤ 1 ∧ 8192 ≤ hi) : zrl lo hi (zlshl 1 y) := by
  obtain ⟨k2, k3, k4, k5⟩ := h
  have y1 := hy.1
  have y2 := hy.2
  obtain ⟨n, hn⟩ : ∃ n : Nat, y.toInt = n := ⟨y.toInt.toNat, by omega⟩
  have ey : y = Int32.ofNat n := Int32.toInt_inj.mp (by rw [Int32.toInt_ofNat_of_lt (by omega), hn])
  have q := z_shl1 ⟨n, by omega⟩
  rw [← ey] at q
  exact ⟨by omega, by omega⟩
/-! SAFE 2: writes that change frozen cells -/
def zWz (Z : List (Nat × Nat)) (l : List Nat) (k a b : Nat) : Bool := (List.range Z.length).all (fun i => match Z[i]? with | none => true | some z => (!Nat.beq z.1 k || (Nat.blt b z.2 || Nat.blt z.2 a)) || l.contains i)
def zWe (S : List zSeg) (Z : List (Nat × Nat)) (q : Nat × Nat × Int) (l : List Nat) (k a b : Nat) (lo hi : Int) : Bool := (zWi S [] q k a b lo hi && zWz Z l k a b) && Nat.ble Z.length 100
theorem zIV_e {S : List zSeg} {Z ZL : List (Nat × Nat)} {q : Nat × Nat × Int} {G : Nat → Int} {σ : zSt} {l : List Nat} {k j : Nat} {v : Int32} {lo hi : Int} (a b : Nat) (h : zIV S Z ZL q G σ) (hj : a ≤ j ∧ j ≤ b) (hv : zr lo hi v) (c : zWe S Z q l k a b lo hi = true) : ∃ G', zIV S Z ZL q G' (zsi σ k j v) ∧ ∀ i, ¬ i ∈ l → G' i = G i := by
  obtain ⟨h1, h2, h3, h4⟩ := h
  rw [zWe, Bool.and_eq_true, Bool.and_eq_true] at c
  obtain ⟨⟨c1, c2⟩, c3⟩ := c
  have c3 := Nat.le_of_ble_eq_true c3
  have base : zIV S [] ZL q G (zsi σ k j v) := zIV_i a b ⟨h1, fun i z hz => by simp at hz, h3, h4⟩ hj hv c1
  refine ⟨fun i => if i < 100 then (match Z[i]? with | none => G i | some z => ((zsi σ k j v).1 z.1 z.2).toInt) else G i, ⟨base.1, fun i z hz => ?_, fun i z hz => ?_, base.2.2.2⟩, fun i hi => ?_⟩
  · have hl : i < Z.length := (List.getElem?_eq_some_iff.mp hz).1
    show _ = if i < 100 then (match Z[i]? with | none => G i | some z => ((zsi σ k j v).1 z.1 z.2).toInt) else G i
    rw [if_pos (by omega), hz]
  · show _ = if 100 + i < 100 then _ else _
    rw [if_neg (by omega)]
    exact base.2.2.1 i z hz
  · show (if i < 100 then (match Z[i]? with | none => G i | some z => ((zsi σ k j v).1 z.1 z.2).toInt) else G i) = G i
    by_cases g : i < 100
    · rw [if_pos g]
      cases hz : Z[i]? with
      | none => rfl
      | some z =>
        have hl : i < Z.length := (List.getElem?_eq_some_iff.mp hz).1
        rw [zWz, List.all_eq_true] at c2
        have c4 := c2 i (List.mem_range.mpr hl)
        rw [hz] at c4
        have c5 : (!Nat.beq z.1 k || (Nat.blt b z.2 || Nat.blt z.2 a)) = true := by
          have c6 := (Bool.or_eq_true _ _).mp c4
          rcases c6 with c6 | c6
          · exact c6
          · exact absurd (List.contains_iff_mem.mp c6) hi
        show ((zsi σ k j v).1 z.1 z.2).toInt = G i
        rw [zsi_at, if_neg (z_out (x := true) hj c5)]
        exact h2 i z hz
    · rw [if_neg g]
/-- a write into a row all of whose places have one range -/
def zWu (S : List zSeg) (Z : List (Nat × Nat)) (q : Nat × Nat × Int) (k : Nat) (lo hi : Int) : Bool := (S.all (fun s => !Nat.beq s.1 k || (decide (s.2.2.2.1 ≤ lo) && decide (hi ≤ s.2.2.2.2))) && Z.all (fun z => !Nat.beq z.1 k)) && !Nat.beq q.1 k
theorem zIV_u {S : List zSeg} {Z ZL : List (Nat × Nat)} {q : Nat × Nat × Int} {G : Nat → Int} {σ : zSt} {k j : Nat} {v : Int32} {lo hi : Int} (h : zIV S Z ZL q G σ) (hv : zr lo hi v) (c : zWu S Z q k lo hi = true) : zIV S Z ZL q G (zsi σ k j v) := by
  obtain ⟨h1, h2, h3, h4⟩ := h
  rw [zWu, Bool.and_eq_true, Bool.and_eq_true, List.all_eq_true, List.all_eq_true] at c
  obtain ⟨⟨c1, c2⟩, c3⟩ := c
  refine ⟨fun s hs j1 l1 l2 => ?_, fun i z hz => ?_, h3, ?_⟩
  · rw [zsi_at]
    by_cases r : s.1 = k ∧ j1 = j
    · rw [if_pos r]
      obtain ⟨r1, r2⟩ := r
      have c4 := c1 s hs
      rw [r1, show Nat.beq k k = true from Nat.beq_refl k] at c4
      simp only [Bool.not_true, Bool.false_or, Bool.and_eq_true, decide_eq_true_eq] at c4
      obtain ⟨v1, v2⟩ := hv
      exact ⟨by omega, by omega⟩
    · rw [if_neg r]; exact h1 s hs j1 l1 l2
  · rw [zsi_ne (z_nb (c2 z (List.mem_of_getElem? hz)))]; exact h2 i z hz
  · unfold zSp; rw [zsi_ne (z_nb c3)]; exact h4
theorem z_trp {σ σ1 : zSt} {x v : Int32} {j k1 j1 : Nat} {lo hi : Int} (e : σ1 = zsi σ (ztp x) j v) (c : (Nat.beq k1 13 || Nat.beq k1 14) = false) (h : zr lo hi (zgi σ k1 j1)) : zr lo hi (zgi σ1 k1 j1) := by
  have c1 := (Bool.or_eq_false_iff.mp c)
  unfold ztp at e
  split at e
  · exact z_tr e c1.1 h
  · exact z_tr e c1.2 h
theorem z_getD {P : Int32 → Prop} {l : List Int32} {d : Int32} (h : ∀ x ∈ l, P x) (h0 : P d) (j : Nat) : P (l.getD j d) := by
  rw [List.getD_eq_getElem?_getD]
  cases q : l[j]? with
  | none => exact h0
  | some x => exact h x (List.mem_of_getElem? q)
def zRik (l : List Nat) (r : zRi) : Prop := match r with | Sum.inl _ => True | Sum.inr x => x.2 ∈ l
def zTi (I : zSt → Prop) (l : List Nat) (r : zRi) : Prop := I (zRis r) ∧ zRik l r
theorem zok_ti0 {I : zSt → Prop} {l : List Nat} {σ : zSt} {v : Int32} (h : I σ) : zok (some ((Sum.inl (σ, v)) : zRi)) (zTi I l) := ⟨_, rfl, h, trivial⟩
theorem zok_ti1 {I : zSt → Prop} {l : List Nat} {σ : zSt} {k : Nat} (h : I σ) (c : k ∈ l) : zok (some (Sum.inr (σ, k) : zRi)) (zTi I l) := ⟨_, rfl, h, c⟩
def zRlk (l : List Nat) (r : zRl) : Prop := match r with | Sum.inl _ => True | Sum.inr x => x.2 ∈ l
def zTl (I : zSt → Prop) (l : List Nat) (r : zRl) : Prop := I (zRls r) ∧ zRlk l r
theorem zok_tl0 {I : zSt → Prop} {l : List Nat} {σ : zSt} {v : Int64} (h : I σ) : zok (some ((Sum.inl (σ, v)) : zRl)) (zTl I l) := ⟨_, rfl, h, trivial⟩
theorem zok_tl1 {I : zSt → Prop} {l : List Nat} {σ : zSt} {k : Nat} (h : I σ) (c : k ∈ l) : zok (some (Sum.inr (σ, k) : zRl)) (zTl I l) := ⟨_, rfl, h, c⟩
def zRuk (l : List Nat) (r : zRu) : Prop := match r with | Sum.inl _ => True | Sum.inr x => x.2 ∈ l
def zTu (I : zSt → Prop) (l : List Nat) (r : zRu) : Prop := I (zRus r) ∧ zRuk l r
theorem zok_tu0 {I : zSt → Prop} {l : List Nat} {σ : zSt} (h : I σ) : zok (some ((Sum.inl σ) : zRu)) (zTu I l) := ⟨_, rfl, h, trivial⟩
theorem zok_tu1 {I : zSt → Prop} {l : List Nat} {σ : zSt} {k : Nat} (h : I σ) (c : k ∈ l) : zok (some (Sum.inr (σ, k) : zRu)) (zTu I l) := ⟨_, rfl, h, c⟩
end ZJN1
section ZJN2
def sC : List zSeg := [(1, 2, 2, 0, 262656), (1, 3, 3, 0, 512), (1, 4, 4, 0, 262144), (1, 5, 5, 0, 16), (1, 7, 7, -1, 32752), (7, 4, 4, 6, 17), (7, 5, 5, 0, 65535), (40, 8, 8, 0, 8), (41, 8, 8, 0, 8), (10, 2, 2, 0, 32), (5, 3, 3, 0, 8), (13, 0, 262655, 0, 255), (14, 0, 262655, 0, 255), (15, 0, 8191, 0, 255), (16, 0, 8191, 0, 255), (17, 0, 32767, 0, 255), (18, 0, 32767, 0, 255), (19, 0, 3, 0, 255), (20, 0, 3, 0, 255), (21, 0, 16383, 0, 255), (22, 0, 16383, 0, 255), (36, 0, 15, 0, 255), (36, 16, 20, 0, 65535), (36, 21, 22, 0, 255), (36, 23, 24, 0, 1), (36, 25, 25, 0, 2), (36, 26, 28, 0, 1), (36, 0, 20, 0, 65535), (37, 0, 15, 0, 255), (37, 16, 20, 0, 65535), (37, 21, 22, 0, 255), (37, 23, 24, 0, 1), (37, 25, 25, 0, 2), (37, 26, 28, 0, 1), (37, 0, 20, 0, 65535), (23, 0, 10, 0, 255), (23, 11, 11, 0, 16383), (23, 12, 12, 0, 3), (23, 13, 13, 0, 255), (23, 14, 14, 0, 1), (23, 15, 15, 0, 255), (23, 19, 19, 0, 255), (23, 21, 21, 0, 227), (23, 26, 26, 0, 255), (23, 32, 95, 0, 255), (24, 0, 10, 0, 255), (24, 11, 11, 0, 16383), (24, 12, 12, 0, 3), (24, 13, 13, 0, 255), (24, 14, 14, 0, 1), (24, 15, 15, 0, 255), (24, 19, 19, 0, 255), (24, 21, 21, 0, 227), (24, 26, 26, 0, 255), (24, 32, 95, 0, 255), (34, 0, 6, 0, 255), (34, 10, 11, 0, 1), (35, 0, 6, 0, 255), (35, 10, 11, 0, 1), (30, 17, 17, 0, 7), (31, 17, 17, 0, 7), (32, 64, 64, 0, 3), (33, 64, 64, 0, 3)]
def zZC : List (Nat × Nat) := [(1, 2), (0, 11), (0, 0)]
def zLC : List (Nat × Nat) := []
def zQC : Nat × Nat × Int := (7, 4, 6)
def zIC (G : Nat → Int) (σ : zSt) : Prop := zIV sC zZC zLC zQC G σ
def zPC (σ : zSt) : Prop := zSg sC σ ∧ zSp zQC σ
def zEC (l : List Nat) (G : Nat → Int) (σ : zSt) : Prop := ∃ G1, zIC G1 σ ∧ ∀ i, ¬ i ∈ l → G1 i = G i
section ZSC
variable {G : Nat → Int} {σ : zSt} {l : List Nat}
theorem zIC.sg (h : zIC G σ) : zSg sC σ := h.1
theorem zIC.sp (h : zIC G σ) : zSp zQC σ := h.2.2.2
theorem zIC.fz (h : zIC G σ) : zFz zZC G σ := h.2.1
theorem zIC.fl (h : zIC G σ) : zFl zLC G σ := h.2.2.1
theorem zIC.P (h : zIC G σ) : zPC σ := ⟨h.sg, h.sp⟩
theorem zPC.sg (h : zPC σ) : zSg sC σ := h.1
theorem zPC.sp (h : zPC σ) : zSp zQC σ := h.2
theorem zIC.E (h : zIC G σ) : zEC l G σ := ⟨G, h, fun _ _ => rfl⟩
theorem zEC.sg (h : zEC l G σ) : zSg sC σ := by obtain ⟨G1, h1, _⟩ := h; exact h1.sg
theorem zEC.sp (h : zEC l G σ) : zSp zQC σ := by obtain ⟨G1, h1, _⟩ := h; exact h1.sp
theorem zEC.P (h : zEC l G σ) : zPC σ := by obtain ⟨G1, h1, _⟩ := h; exact h1.P
theorem zIC.wi {k j : Nat} {v : Int32} {lo hi : Int} (h : zIC G σ) (a b : Nat) (hj : a ≤ j ∧ j ≤ b) (hv : zr lo hi v) (c : zWi sC zZC zQC k a b lo hi = true) : zIC G (zsi σ k j v) := zIV_i a b h hj hv c
theorem zIC.wk {k j : Nat} {v : Int32} (h : zIC G σ) (c : zWk sC zZC zQC k = true) : zIC G (zsi σ k j v) := zIV_k h c
theorem zIC.wl {k j : Nat} {v : Int64} (h : zIC G σ) (a b : Nat) (hj : a ≤ j ∧ j ≤ b) (c : zLC.all (fun z => !Nat.beq z.1 k || (Nat.blt b z.2 || Nat.blt z.2 a)) = true) : zIC G (zsl σ k j v) := zIV_l a b h hj c
theorem zIC.wc {k0 k1 sp dp n : Nat} (h : zIC G σ) (c : zWc sC zZC zQC k0 k1 = true) (e0 : sp = 0) (e1 : dp = 0) : zIC G (zcpi σ k0 k1 sp dp n) := zIV_c h c e0 e1
theorem zIC.wcl {k0 k1 sp dp n : Nat} (h : zIC G σ) (c : zLC.all (fun z => !Nat.beq z.1 k1) = true) : zIC G (zcpl σ k0 k1 sp dp n) := zIV_cl h c
theorem zIC.sp0 {v : Int32} {lo hi : Int} (h : zIC G σ) (hv : zr lo hi v) (c : (decide (lo = 6 ∧ hi = 6) && zWs sC zZC zQC lo hi) = true) : zIC G (zsi σ 7 4 v) := by
  rw [Bool.and_eq_true] at c
  have e := of_decide_eq_true c.1
  have h1 := hv.1
  have h2 := hv.2
  exact zIV_s h hv c.2 (Or.inl (by show v.toInt = 6; omega))
theorem zIC.sp1 {v : Int32} {lo hi : Int} (h : zIC G σ) (hv : zr lo hi v) (c : (decide (16 ≤ lo) && zWs sC zZC zQC lo hi) = true) : zIC G (zsi σ 7 4 v) := by
  rw [Bool.and_eq_true] at c
  have e := of_decide_eq_true c.1
  have h1 := hv.1
  exact zIV_s h hv c.2 (Or.inr (by omega))
theorem zIC.we {k j : Nat} {v : Int32} {lo hi : Int} (h : zIC G σ) (a b : Nat) (hj : a ≤ j ∧ j ≤ b) (hv : zr lo hi v) (c : zWe sC zZC zQC l k a b lo hi = true) : zEC l G (zsi σ k j v) := zIV_e a b h hj hv c
theorem zEC.lift {σ1 : zSt} (h : zEC l G σ) (k : ∀ G1, zIC G1 σ → zIC G1 σ1) : zEC l G σ1 := by obtain ⟨G1, h1, g1⟩ := h; exact ⟨G1, k G1 h1, g1⟩
theorem zEC.wi {k j : Nat} {v : Int32} {lo hi : Int} (h : zEC l G σ) (a b : Nat) (hj : a ≤ j ∧ j ≤ b) (hv : zr lo hi v) (c : zWe sC zZC zQC l k a b lo hi = true) : zEC l G (zsi σ k j v) := by
  obtain ⟨G1, h1, g1⟩ := h
  obtain ⟨G2, h2, g2⟩ := h1.we a b hj hv c
  exact ⟨G2, h2, fun i hi => (g2 i hi).trans (g1 i hi)⟩
theorem zEC.wk {k j : Nat} {v : Int32} (h : zEC l G σ) (c : zWk sC zZC zQC k = true) : zEC l G (zsi σ k j v) := h.lift (fun _ h1 => h1.wk c)
theorem zEC.wl {k j : Nat} {v : Int64} (h : zEC l G σ) (a b : Nat) (hj : a ≤ j ∧ j ≤ b) (c : zLC.all (fun z => !Nat.beq z.1 k || (Nat.blt b z.2 || Nat.blt z.2 a)) = true) : zEC l G (zsl σ k j v) := h.lift (fun _ h1 => h1.wl a b hj c)
theorem zEC.sub {l1 : List Nat} (h : zEC l1 G σ) (c : l1.all (fun i => l.contains i) = true) : zEC l G σ := by
  obtain ⟨G1, h1, g1⟩ := h
  rw [List.all_eq_true] at c
  exact ⟨G1, h1, fun i hi => g1 i (fun r => hi (List.contains_iff_mem.mp (c i r)))⟩
theorem zEC.upi {o : Option (zSt × Int32)} {Q : Int32 → Prop} (h : zEC l G σ) (k : ∀ G1, zIC G1 σ → zok o (zAi (zIC G1) Q)) : zok o (zAi (zEC l G) Q) := by
  obtain ⟨G1, h1, g1⟩ := h
  exact zok_mono (k G1 h1) (fun r q => ⟨⟨G1, q.1, g1⟩, q.2⟩)
theorem zEC.uEi {o : Option (zSt × Int32)} {Q : Int32 → Prop} {l1 : List Nat} (h : zEC l G σ) (c : l1.all (fun i => l.contains i) = true) (k : ∀ G1, zEC l1 G1 σ → zok o (zAi (zEC l1 G1) Q)) : zok o (zAi (zEC l G) Q) := by
  obtain ⟨G1, h1, g1⟩ := h
  rw [List.all_eq_true] at c
  have k1 : ∀ x, zEC l1 G1 x → zEC l G x := fun x hx => by
    obtain ⟨G2, h2, g2⟩ := hx
    exact ⟨G2, h2, fun i hi => (g2 i (fun r => hi (List.contains_iff_mem.mp (c i r)))).trans (g1 i hi)⟩
  exact zok_mono (k G1 h1.E) (fun r q => ⟨k1 _ q.1, q.2⟩)
theorem zEC.upl {o : Option (zSt × Int64)} {Q : Int64 → Prop} (h : zEC l G σ) (k : ∀ G1, zIC G1 σ → zok o (zAL (zIC G1) Q)) : zok o (zAL (zEC l G) Q) := by
  obtain ⟨G1, h1, g1⟩ := h
  exact zok_mono (k G1 h1) (fun r q => ⟨⟨G1, q.1, g1⟩, q.2⟩)
theorem zEC.uEl {o : Option (zSt × Int64)} {Q : Int64 → Prop} {l1 : List Nat} (h : zEC l G σ) (c : l1.all (fun i => l.contains i) = true) (k : ∀ G1, zEC l1 G1 σ → zok o (zAL (zEC l1 G1) Q)) : zok o (zAL (zEC l G) Q) := by
  obtain ⟨G1, h1, g1⟩ := h
  rw [List.all_eq_true] at c
  have k1 : ∀ x, zEC l1 G1 x → zEC l G x := fun x hx => by
    obtain ⟨G2, h2, g2⟩ := hx
    exact ⟨G2, h2, fun i hi => (g2 i (fun r => hi (List.contains_iff_mem.mp (c i r)))).trans (g1 i hi)⟩
  exact zok_mono (k G1 h1.E) (fun r q => ⟨k1 _ q.1, q.2⟩)
theorem zEC.upu {o : Option zSt} (h : zEC l G σ) (k : ∀ G1, zIC G1 σ → zok o (zIC G1)) : zok o (zEC l G) := by
  obtain ⟨G1, h1, g1⟩ := h
  exact zok_mono (k G1 h1) (fun r q => ⟨G1, q, g1⟩)
theorem zEC.uEu {o : Option zSt} {l1 : List Nat} (h : zEC l G σ) (c : l1.all (fun i => l.contains i) = true) (k : ∀ G1, zEC l1 G1 σ → zok o (zEC l1 G1)) : zok o (zEC l G) := by
  obtain ⟨G1, h1, g1⟩ := h
  rw [List.all_eq_true] at c
  have k1 : ∀ x, zEC l1 G1 x → zEC l G x := fun x hx => by
    obtain ⟨G2, h2, g2⟩ := hx
    exact ⟨G2, h2, fun i hi => (g2 i (fun r => hi (List.contains_iff_mem.mp (c i r)))).trans (g1 i hi)⟩
  exact zok_mono (k G1 h1.E) (fun r q => k1 _ q)
theorem zEC.upR {α : Type} {g : α → zSt} {o : Option α} (h : zEC l G σ) (k : ∀ G1, zIC G1 σ → zok o (fun r => zIC G1 (g r))) : zok o (fun r => zEC l G (g r)) := by
  obtain ⟨G1, h1, g1⟩ := h
  exact zok_mono (k G1 h1) (fun r q => ⟨G1, q, g1⟩)
theorem zEC.upTi {o : Option zRi} {ks : List Nat} (h : zEC l G σ) (k : ∀ G1, zIC G1 σ → zok o (zTi (zIC G1) ks)) : zok o (zTi (zEC l G) ks) := by
  obtain ⟨G1, h1, g1⟩ := h
  exact zok_mono (k G1 h1) (fun r q => ⟨⟨G1, q.1, g1⟩, q.2⟩)
theorem zEC.upTl {o : Option zRl} {ks : List Nat} (h : zEC l G σ) (k : ∀ G1, zIC G1 σ → zok o (zTl (zIC G1) ks)) : zok o (zTl (zEC l G) ks) := by
  obtain ⟨G1, h1, g1⟩ := h
  exact zok_mono (k G1 h1) (fun r q => ⟨⟨G1, q.1, g1⟩, q.2⟩)
theorem zEC.upTu {o : Option zRu} {ks : List Nat} (h : zEC l G σ) (k : ∀ G1, zIC G1 σ → zok o (zTu (zIC G1) ks)) : zok o (zTu (zEC l G) ks) := by
  obtain ⟨G1, h1, g1⟩ := h
  exact zok_mono (k G1 h1) (fun r q => ⟨⟨G1, q.1, g1⟩, q.2⟩)
theorem rC_0 (h : zSg sC σ) (j : Nat) (hj : 2 ≤ j ∧ j ≤ 2) : zr (0) (262656) (zgi σ 1 j) := h _ (List.mem_of_getElem? (i := 0) rfl) j hj.1 hj.2
theorem rC_1 (h : zSg sC σ) (j : Nat) (hj : 3 ≤ j ∧ j ≤ 3) : zr (0) (512) (zgi σ 1 j) := h _ (List.mem_of_getElem? (i := 1) rfl) j hj.1 hj.2
theorem rC_2 (h : zSg sC σ) (j : Nat) (hj : 4 ≤ j ∧ j ≤ 4) : zr (0) (262144) (zgi σ 1 j) := h _ (List.mem_of_getElem? (i := 2) rfl) j hj.1 hj.2
theorem rC_3 (h : zSg sC σ) (j : Nat) (hj : 5 ≤ j ∧ j ≤ 5) : zr (0) (16) (zgi σ 1 j) := h _ (List.mem_of_getElem? (i := 3) rfl) j hj.1 hj.2
theorem rC_4 (h : zSg sC σ) (j : Nat) (hj : 7 ≤ j ∧ j ≤ 7) : zr (-1) (32752) (zgi σ 1 j) := h _ (List.mem_of_getElem? (i := 4) rfl) j hj.1 hj.2
theorem rC_5 (h : zSg sC σ) (j : Nat) (hj : 4 ≤ j ∧ j ≤ 4) : zr (6) (17) (zgi σ 7 j) := h _ (List.mem_of_getElem? (i := 5) rfl) j hj.1 hj.2
theorem rC_6 (h : zSg sC σ) (j : Nat) (hj : 5 ≤ j ∧ j ≤ 5) : zr (0) (65535) (zgi σ 7 j) := h _ (List.mem_of_getElem? (i := 6) rfl) j hj.1 hj.2
theorem rC_7 (h : zSg sC σ) (j : Nat) (hj : 8 ≤ j ∧ j ≤ 8) : zr (0) (8) (zgi σ 40 j) := h _ (List.mem_of_getElem? (i := 7) rfl) j hj.1 hj.2
theorem rC_8 (h : zSg sC σ) (j : Nat) (hj : 8 ≤ j ∧ j ≤ 8) : zr (0) (8) (zgi σ 41 j) := h _ (List.mem_of_getElem? (i := 8) rfl) j hj.1 hj.2
theorem rC_9 (h : zSg sC σ) (j : Nat) (hj : 2 ≤ j ∧ j ≤ 2) : zr (0) (32) (zgi σ 10 j) := h _ (List.mem_of_getElem? (i := 9) rfl) j hj.1 hj.2
theorem rC_10 (h : zSg sC σ) (j : Nat) (hj : 3 ≤ j ∧ j ≤ 3) : zr (0) (8) (zgi σ 5 j) := h _ (List.mem_of_getElem? (i := 10) rfl) j hj.1 hj.2
theorem rC_11 (h : zSg sC σ) (j : Nat) (hj : 0 ≤ j ∧ j ≤ 262655) : zr (0) (255) (zgi σ 13 j) := h _ (List.mem_of_getElem? (i := 11) rfl) j hj.1 hj.2
theorem rC_12 (h : zSg sC σ) (j : Nat) (hj : 0 ≤ j ∧ j ≤ 262655) : zr (0) (255) (zgi σ 14 j) := h _ (List.mem_of_getElem? (i := 12) rfl) j hj.1 hj.2
theorem rC_13 (h : zSg sC σ) (j : Nat) (hj : 0 ≤ j ∧ j ≤ 8191) : zr (0) (255) (zgi σ 15 j) := h _ (List.mem_of_getElem? (i := 13) rfl) j hj.1 hj.2
theorem rC_14 (h : zSg sC σ) (j : Nat) (hj : 0 ≤ j ∧ j ≤ 8191) : zr (0) (255) (zgi σ 16 j) := h _ (List.mem_of_getElem? (i := 14) rfl) j hj.1 hj.2
theorem rC_15 (h : zSg sC σ) (j : Nat) (hj : 0 ≤ j ∧ j ≤ 32767) : zr (0) (255) (zgi σ 17 j) := h _ (List.mem_of_getElem? (i := 15) rfl) j hj.1 hj.2
theorem rC_16 (h : zSg sC σ) (j : Nat) (hj : 0 ≤ j ∧ j ≤ 32767) : zr (0) (255) (zgi σ 18 j) := h _ (List.mem_of_getElem? (i := 16) rfl) j hj.1 hj.2
theorem rC_17 (h : zSg sC σ) (j : Nat) (hj : 0 ≤ j ∧ j ≤ 3) : zr (0) (255) (zgi σ 19 j) := h _ (List.mem_of_getElem? (i := 17) rfl) j hj.1 hj.2
theorem rC_18 (h : zSg sC σ) (j : Nat) (hj : 0 ≤ j ∧ j ≤ 3) : zr (0) (255) (zgi σ 20 j) := h _ (List.mem_of_getElem? (i := 18) rfl) j hj.1 hj.2
theorem rC_19 (h : zSg sC σ) (j : Nat) (hj : 0 ≤ j ∧ j ≤ 16383) : zr (0) (255) (zgi σ 21 j) := h _ (List.mem_of_getElem? (i := 19) rfl) j hj.1 hj.2
theorem rC_20 (h : zSg sC σ) (j : Nat) (hj : 0 ≤ j ∧ j ≤ 16383) : zr (0) (255) (zgi σ 22 j) := h _ (List.mem_of_getElem? (i := 20) rfl) j hj.1 hj.2
theorem rC_21 (h : zSg sC σ) (j : Nat) (hj : 0 ≤ j ∧ j ≤ 15) : zr (0) (255) (zgi σ 36 j) := h _ (List.mem_of_getElem? (i := 21) rfl) j hj.1 hj.2
theorem rC_22 (h : zSg sC σ) (j : Nat) (hj : 16 ≤ j ∧ j ≤ 20) : zr (0) (65535) (zgi σ 36 j) := h _ (List.mem_of_getElem? (i := 22) rfl) j hj.1 hj.2
theorem rC_23 (h : zSg sC σ) (j : Nat) (hj : 21 ≤ j ∧ j ≤ 22) : zr (0) (255) (zgi σ 36 j) := h _ (List.mem_of_getElem? (i := 23) rfl) j hj.1 hj.2
theorem rC_24 (h : zSg sC σ) (j : Nat) (hj : 23 ≤ j ∧ j ≤ 24) : zr (0) (1) (zgi σ 36 j) := h _ (List.mem_of_getElem? (i := 24) rfl) j hj.1 hj.2
theorem rC_25 (h : zSg sC σ) (j : Nat) (hj : 25 ≤ j ∧ j ≤ 25) : zr (0) (2) (zgi σ 36 j) := h _ (List.mem_of_getElem? (i := 25) rfl) j hj.1 hj.2
theorem rC_26 (h : zSg sC σ) (j : Nat) (hj : 26 ≤ j ∧ j ≤ 28) : zr (0) (1) (zgi σ 36 j) := h _ (List.mem_of_getElem? (i := 26) rfl) j hj.1 hj.2
theorem rC_27 (h : zSg sC σ) (j : Nat) (hj : 0 ≤ j ∧ j ≤ 20) : zr (0) (65535) (zgi σ 36 j) := h _ (List.mem_of_getElem? (i := 27) rfl) j hj.1 hj.2
theorem rC_28 (h : zSg sC σ) (j : Nat) (hj : 0 ≤ j ∧ j ≤ 15) : zr (0) (255) (zgi σ 37 j) := h _ (List.mem_of_getElem? (i := 28) rfl) j hj.1 hj.2
theorem rC_29 (h : zSg sC σ) (j : Nat) (hj : 16 ≤ j ∧ j ≤ 20) : zr (0) (65535) (zgi σ 37 j) := h _ (List.mem_of_getElem? (i := 29) rfl) j hj.1 hj.2
theorem rC_30 (h : zSg sC σ) (j : Nat) (hj : 21 ≤ j ∧ j ≤ 22) : zr (0) (255) (zgi σ 37 j) := h _ (List.mem_of_getElem? (i := 30) rfl) j hj.1 hj.2
theorem rC_31 (h : zSg sC σ) (j : Nat) (hj : 23 ≤ j ∧ j ≤ 24) : zr (0) (1) (zgi σ 37 j) := h _ (List.mem_of_getElem? (i := 31) rfl) j hj.1 hj.2
theorem rC_32 (h : zSg sC σ) (j : Nat) (hj : 25 ≤ j ∧ j ≤ 25) : zr (0) (2) (zgi σ 37 j) := h _ (List.mem_of_getElem? (i := 32) rfl) j hj.1 hj.2
theorem rC_33 (h : zSg sC σ) (j : Nat) (hj : 26 ≤ j ∧ j ≤ 28) : zr (0) (1) (zgi σ 37 j) := h _ (List.mem_of_getElem? (i := 33) rfl) j hj.1 hj.2
theorem rC_34 (h : zSg sC σ) (j : Nat) (hj : 0 ≤ j ∧ j ≤ 20) : zr (0) (65535) (zgi σ 37 j) := h _ (List.mem_of_getElem? (i := 34) rfl) j hj.1 hj.2
theorem rC_35 (h : zSg sC σ) (j : Nat) (hj : 0 ≤ j ∧ j ≤ 10) : zr (0) (255) (zgi σ 23 j) := h _ (List.mem_of_getElem? (i := 35) rfl) j hj.1 hj.2
theorem rC_36 (h : zSg sC σ) (j : Nat) (hj : 11 ≤ j ∧ j ≤ 11) : zr (0) (16383) (zgi σ 23 j) := h _ (List.mem_of_getElem? (i := 36) rfl) j hj.1 hj.2
theorem rC_37 (h : zSg sC σ) (j : Nat) (hj : 12 ≤ j ∧ j ≤ 12) : zr (0) (3) (zgi σ 23 j) := h _ (List.mem_of_getElem? (i := 37) rfl) j hj.1 hj.2
theorem rC_38 (h : zSg sC σ) (j : Nat) (hj : 13 ≤ j ∧ j ≤ 13) : zr (0) (255) (zgi σ 23 j) := h _ (List.mem_of_getElem? (i := 38) rfl) j hj.1 hj.2
theorem rC_39 (h : zSg sC σ) (j : Nat) (hj : 14 ≤ j ∧ j ≤ 14) : zr (0) (1) (zgi σ 23 j) := h _ (List.mem_of_getElem? (i := 39) rfl) j hj.1 hj.2
theorem rC_40 (h : zSg sC σ) (j : Nat) (hj : 15 ≤ j ∧ j ≤ 15) : zr (0) (255) (zgi σ 23 j) := h _ (List.mem_of_getElem? (i := 40) rfl) j hj.1 hj.2
theorem rC_41 (h : zSg sC σ) (j : Nat) (hj : 19 ≤ j ∧ j ≤ 19) : zr (0) (255) (zgi σ 23 j) := h _ (List.mem_of_getElem? (i := 41) rfl) j hj.1 hj.2
theorem rC_42 (h : zSg sC σ) (j : Nat) (hj : 21 ≤ j ∧ j ≤ 21) : zr (0) (227) (zgi σ 23 j) := h _ (List.mem_of_getElem? (i := 42) rfl) j hj.1 hj.2
theorem rC_43 (h : zSg sC σ) (j : Nat) (hj : 26 ≤ j ∧ j ≤ 26) : zr (0) (255) (zgi σ 23 j) := h _ (List.mem_of_getElem? (i := 43) rfl) j hj.1 hj.2
theorem rC_44 (h : zSg sC σ) (j : Nat) (hj : 32 ≤ j ∧ j ≤ 95) : zr (0) (255) (zgi σ 23 j) := h _ (List.mem_of_getElem? (i := 44) rfl) j hj.1 hj.2
theorem rC_45 (h : zSg sC σ) (j : Nat) (hj : 0 ≤ j ∧ j ≤ 10) : zr (0) (255) (zgi σ 24 j) := h _ (List.mem_of_getElem? (i := 45) rfl) j hj.1 hj.2
theorem rC_46 (h : zSg sC σ) (j : Nat) (hj : 11 ≤ j ∧ j ≤ 11) : zr (0) (16383) (zgi σ 24 j) := h _ (List.mem_of_getElem? (i := 46) rfl) j hj.1 hj.2
theorem rC_47 (h : zSg sC σ) (j : Nat) (hj : 12 ≤ j ∧ j ≤ 12) : zr (0) (3) (zgi σ 24 j) := h _ (List.mem_of_getElem? (i := 47) rfl) j hj.1 hj.2
theorem rC_48 (h : zSg sC σ) (j : Nat) (hj : 13 ≤ j ∧ j ≤ 13) : zr (0) (255) (zgi σ 24 j) := h _ (List.mem_of_getElem? (i := 48) rfl) j hj.1 hj.2
theorem rC_49 (h : zSg sC σ) (j : Nat) (hj : 14 ≤ j ∧ j ≤ 14) : zr (0) (1) (zgi σ 24 j) := h _ (List.mem_of_getElem? (i := 49) rfl) j hj.1 hj.2
theorem rC_50 (h : zSg sC σ) (j : Nat) (hj : 15 ≤ j ∧ j ≤ 15) : zr (0) (255) (zgi σ 24 j) := h _ (List.mem_of_getElem? (i := 50) rfl) j hj.1 hj.2
theorem rC_51 (h : zSg sC σ) (j : Nat) (hj : 19 ≤ j ∧ j ≤ 19) : zr (0) (255) (zgi σ 24 j) := h _ (List.mem_of_getElem? (i := 51) rfl) j hj.1 hj.2
theorem rC_52 (h : zSg sC σ) (j : Nat) (hj : 21 ≤ j ∧ j ≤ 21) : zr (0) (227) (zgi σ 24 j) := h _ (List.mem_of_getElem? (i := 52) rfl) j hj.1 hj.2
theorem rC_53 (h : zSg sC σ) (j : Nat) (hj : 26 ≤ j ∧ j ≤ 26) : zr (0) (255) (zgi σ 24 j) := h _ (List.mem_of_getElem? (i := 53) rfl) j hj.1 hj.2
theorem rC_54 (h : zSg sC σ) (j : Nat) (hj : 32 ≤ j ∧ j ≤ 95) : zr (0) (255) (zgi σ 24 j) := h _ (List.mem_of_getElem? (i := 54) rfl) j hj.1 hj.2
theorem rC_55 (h : zSg sC σ) (j : Nat) (hj : 0 ≤ j ∧ j ≤ 6) : zr (0) (255) (zgi σ 34 j) := h _ (List.mem_of_getElem? (i := 55) rfl) j hj.1 hj.2
theorem rC_56 (h : zSg sC σ) (j : Nat) (hj : 10 ≤ j ∧ j ≤ 11) : zr (0) (1) (zgi σ 34 j) := h _ (List.mem_of_getElem? (i := 56) rfl) j hj.1 hj.2
theorem rC_57 (h : zSg sC σ) (j : Nat) (hj : 0 ≤ j ∧ j ≤ 6) : zr (0) (255) (zgi σ 35 j) := h _ (List.mem_of_getElem? (i := 57) rfl) j hj.1 hj.2
theorem rC_58 (h : zSg sC σ) (j : Nat) (hj : 10 ≤ j ∧ j ≤ 11) : zr (0) (1) (zgi σ 35 j) := h _ (List.mem_of_getElem? (i := 58) rfl) j hj.1 hj.2
theorem rC_59 (h : zSg sC σ) (j : Nat) (hj : 17 ≤ j ∧ j ≤ 17) : zr (0) (7) (zgi σ 30 j) := h _ (List.mem_of_getElem? (i := 59) rfl) j hj.1 hj.2
theorem rC_60 (h : zSg sC σ) (j : Nat) (hj : 17 ≤ j ∧ j ≤ 17) : zr (0) (7) (zgi σ 31 j) := h _ (List.mem_of_getElem? (i := 60) rfl) j hj.1 hj.2
theorem rC_61 (h : zSg sC σ) (j : Nat) (hj : 64 ≤ j ∧ j ≤ 64) : zr (0) (3) (zgi σ 32 j) := h _ (List.mem_of_getElem? (i := 61) rfl) j hj.1 hj.2
theorem rC_62 (h : zSg sC σ) (j : Nat) (hj : 64 ≤ j ∧ j ≤ 64) : zr (0) (3) (zgi σ 33 j) := h _ (List.mem_of_getElem? (i := 62) rfl) j hj.1 hj.2
theorem xC_sp {lo hi : Int} (h : zSp zQC σ) (hr : zr lo hi (zgi σ 7 4)) (c : 6 < lo ∧ hi ≤ 17) : zr 16 17 (zgi σ 7 4) := by
  obtain ⟨r1, r2⟩ := hr
  unfold zgi at r1 r2 ⊢
  rcases h with h | h
  · have h : (σ.1 7 4).toInt = 6 := h
    exfalso; omega
  · have h : 16 ≤ (σ.1 7 4).toInt := h
    exact ⟨h, by omega⟩
end ZSC
theorem rC_tp {σ : zSt} {x : Int32} (h : zSg sC σ) (j : Nat) (hj : j < 262656) : zr 0 255 (zgi σ (ztp x) j) := by
  unfold ztp
  split
  · exact rC_11 h j ⟨Nat.zero_le _, by omega⟩
  · exact rC_12 h j ⟨Nat.zero_le _, by omega⟩
theorem zIC.tp {G : Nat → Int} {σ : zSt} {x v : Int32} {j : Nat} {lo hi : Int} (h : zIC G σ) (hv : zr lo hi v) (c : 0 ≤ lo ∧ hi ≤ 255) : zIC G (zsi σ (ztp x) j v) := by
  have hv := zr_w (lo := 0) (hi := 255) hv c
  unfold ztp
  split
  · exact zIV_u h hv (by decide +kernel)
  · exact zIV_u h hv (by decide +kernel)
theorem zEC.tp {G : Nat → Int} {σ : zSt} {l : List Nat} {x v : Int32} {j : Nat} {lo hi : Int} (h : zEC l G σ) (hv : zr lo hi v) (c : 0 ≤ lo ∧ hi ≤ 255) : zEC l G (zsi σ (ztp x) j v) := h.lift (fun _ h1 => h1.tp hv c)
theorem s_rangeCheck {σ : zSt} {x0 x1 x2 : Int32} {a b c d e f : Int} (h0 : zr a b x0) (h1 : zr c d x1) (h2 : zr e f x2) (q : d ≤ e ∧ 0 ≤ c ∧ f ≤ a) : zok (fJ7_rangeCheck_23922 σ x0 x1 x2) (zPu σ) := by
  obtain ⟨a1, a2⟩ := h0
  obtain ⟨b1, b2⟩ := h1
  obtain ⟨c1, c2⟩ := h2
  have z0 : (0 : Int32).toInt = 0 := rfl
  unfold fJ7_rangeCheck_23922
  rw [if_pos (Int32.le_iff_toInt_le.mpr (by omega)), if_pos (Int32.le_iff_toInt_le.mpr (by omega)), if_pos (Int32.le_iff_toInt_le.mpr (by omega))]
  exact zok_spu
theorem z_ef {σ : zSt} {x1 x4 : Int32} (h : zSg sC σ) (hx4 : zr 0 7 x4) (q1 : ¬ ((zgi σ 10 2) - x4) ≤ x1) (q2 : ¬ x1 < 0) : zin (x1 + x4) 32 = true := by
  have hl := rC_9 h 2 (by decide)
  have e := z_tsub hl hx4 (by decide)
  have a := Int32.lt_iff_toInt_lt.mp (z_nle q1)
  have b := Int32.le_iff_toInt_le.mp (z_nlt q2)
  have e0 : (0 : Int32).toInt = 0 := rfl
  rw [e] at a
  have hx1 : zr 0 32 x1 := ⟨by omega, by have := hl.2; have := hx4.1; omega⟩
  have e2 := z_tadd hx1 hx4 (by decide)
  refine zin_ok (lo := (x1 + x4).toInt) (hi := (x1 + x4).toInt) ⟨Int.le_refl _, Int.le_refl _⟩ ⟨?_, ?_⟩
  · rw [e2]; have := hx4.1; omega
  · rw [e2]; have := hl.2; omega
theorem zt1_r (j : Nat) : zr (0) (32752) (zt1 j) := z_getD (P := zr 0 32752) (fun x h => by simp only [List.mem_cons, List.not_mem_nil, or_false] at h; rcases h with rfl | rfl | rfl <;> exact zr_c (by decide)) (zr_c (by decide)) j
theorem z_m8 {x : Int32} (h : zr (8192) (262656) x) (q : zr 0 0 (zrem x 8192)) : zr (8192) (262144) x := by
  have e := z_trem (y := 8192) 8192 (by decide) h (by decide)
  have a := q.1
  have b := q.2
  have h1 := h.1
  have h2 := h.2
  rw [e] at a b
  exact ⟨h1, by omega⟩
end ZJN2
section ZJN3
theorem s_X6_keep_k11 {G : Nat → Int} {σ : zSt} (hσ : zIC G σ) : zok (fX6_keep_k11 σ ) (zIC G) := by
  unfold fX6_keep_k11
  refine zok_ck (by decide) ?_
  refine zok_bs (hσ.wcl (by decide)) (fun σ1 e2 i1 => ?_)
  refine zok_bs (i1.wk (by decide)) (fun σ2 e4 i3 => ?_)
  refine zok_bs (i3.wk (by decide)) (fun σ3 e6 i5 => ?_)
  exact zok_some i5
theorem s_X6_keep_k12 {G : Nat → Int} {σ : zSt} (hσ : zIC G σ) : zok (fX6_keep_k12 σ ) (zIC G) := by
  unfold fX6_keep_k12
  refine zok_ck (by decide) ?_
  refine zok_bs (hσ.wcl (by decide)) (fun σ1 e2 i1 => ?_)
  refine zok_bs (i1.wk (by decide)) (fun σ2 e4 i3 => ?_)
  refine zok_bs (i3.wk (by decide)) (fun σ3 e6 i5 => ?_)
  exact zok_some i5
theorem s_X0_keep {G : Nat → Int} {σ : zSt} (hσ : zIC G σ) : zok (fX0_keep σ ) (zIC G) := by
  unfold fX0_keep
  refine zok_ck (by decide) ?_
  refine zok_bs (hσ.wcl (by decide)) (fun σ1 e2 i1 => ?_)
  refine zok_bu (s_X6_keep_k11 i1) (fun σ2 i3 => ?_)
  refine zok_bu (s_X6_keep_k12 i3) (fun σ3 i4 => ?_)
  exact zok_some i4
theorem s_X6_bringBack_k11 {G : Nat → Int} {σ : zSt} (hσ : zIC G σ) : zok (fX6_bringBack_k11 σ ) (zIC G) := by
  unfold fX6_bringBack_k11
  refine zok_ck (by decide) ?_
  refine zok_bs (hσ.wcl (by decide)) (fun σ1 e2 i1 => ?_)
  refine zok_bs (i1.wk (by decide)) (fun σ2 e4 i3 => ?_)
  refine zok_bs (i3.wk (by decide)) (fun σ3 e6 i5 => ?_)
  exact zok_some i5
theorem s_X6_bringBack_k12 {G : Nat → Int} {σ : zSt} (hσ : zIC G σ) : zok (fX6_bringBack_k12 σ ) (zIC G) := by
  unfold fX6_bringBack_k12
  refine zok_ck (by decide) ?_
  refine zok_bs (hσ.wcl (by decide)) (fun σ1 e2 i1 => ?_)
  refine zok_bs (i1.wk (by decide)) (fun σ2 e4 i3 => ?_)
  refine zok_bs (i3.wk (by decide)) (fun σ3 e6 i5 => ?_)
  exact zok_some i5
theorem s_X0_bringBack {G : Nat → Int} {σ : zSt} (hσ : zIC G σ) : zok (fX0_bringBack σ ) (zIC G) := by
  unfold fX0_bringBack
  refine zok_ck (by decide) ?_
  refine zok_bs (hσ.wcl (by decide)) (fun σ1 e2 i1 => ?_)
  refine zok_bu (s_X6_bringBack_k11 i1) (fun σ2 i3 => ?_)
  refine zok_bu (s_X6_bringBack_k12 i3) (fun σ3 i4 => ?_)
  exact zok_some i4
theorem s_X0_count_20 {σ : zSt} (hσ : zPC σ) {s0 : Int64} : zok (fX0_count_20 σ s0) (zPl σ (fun v : Int64 => True)) := by
  unfold fX0_count_20
  exact zok_spl trivial
theorem s_X0_count {σ : zSt} (hσ : zPC σ) {x1 : Int32} (h_x1 : zr (0) (3) x1) : zok (fX0_count σ x1) (zPl σ (fun v : Int64 => True)) := by
  unfold fX0_count
  refine zok_if (fun q1 => ?_) (fun q1 => ?_)
  · exact zr_no (zc_ltl (-1) q1 h_x1 (zr_c (lo := 0) (hi := 0) (by decide)) (by decide)) (by decide)
  refine zok_if (fun q2 => ?_) (fun q2 => ?_)
  · exact zr_no (zc_lel (3) q2 (zr_c (lo := 7) (hi := 7) (by decide)) h_x1 (by decide)) (by decide)
  refine zok_ck (zin_ok h_x1 (by decide)) ?_
  exact (s_X0_count_20 hσ)
theorem s_X0_countPicture {G : Nat → Int} {σ : zSt} (hσ : zIC G σ) : zok (fX0_countPicture σ ) (zIC G) := by
  unfold fX0_countPicture
  refine zok_ck rfl ?_
  refine zok_ck rfl ?_
  refine zok_bs (hσ.wl 2 2 (by decide) (by decide)) (fun σ1 e2 i1 => ?_)
  exact zok_some i1
theorem s_X7_moveTone_57 {G : Nat → Int} {σ : zSt} (hσ : zIC G σ) {x1 : Int32} (h_x1 : zr (0) (2) x1) {x2 : Int32} : zok (fX7_moveTone_57 σ x1 x2) (zIC G) := by
  unfold fX7_moveTone_57
  refine zok_ck (zin_ok (zr_add (lo := 3) (hi := 5) (zr_c (lo := 3) (hi := 3) (by decide)) h_x1 (by decide)) (by decide)) ?_
  refine zok_bs (hσ.wi 3 5 (z_ix (zr_add (lo := 3) (hi := 5) (zr_c (lo := 3) (hi := 3) (by decide)) h_x1 (by decide)) (by decide)) zr_any (by decide +kernel)) (fun σ1 e2 i1 => ?_)
  exact zok_some i1
theorem s_X7_moveTone_56 {G : Nat → Int} {σ : zSt} (hσ : zIC G σ) {x1 : Int32} (h_x1 : zr (0) (2) x1) {x2 : Int32} {s0 : Int32} {s1 : Int32} (h_s1 : zr (6) (8) s1) : zok (fX7_moveTone_56 σ x1 x2 s0 s1) (zIC G) := by
  unfold fX7_moveTone_56
  refine zok_ck (zin_ok h_s1 (by decide)) ?_
  refine zok_bs (hσ.wi 6 8 (z_ix h_s1 (by decide)) zr_any (by decide +kernel)) (fun σ2 e2 i1 => ?_)
  exact (s_X7_moveTone_57 i1 h_x1)
theorem s_X7_moveTone {G : Nat → Int} {σ : zSt} (hσ : zIC G σ) {x1 : Int32} (h_x1 : zr (0) (2) x1) : zok (fX7_moveTone σ x1) (zIC G) := by
  unfold fX7_moveTone
  refine zok_ck (zin_ok (zr_add (lo := 3) (hi := 5) (zr_c (lo := 3) (hi := 3) (by decide)) h_x1 (by decide)) (by decide)) ?_
  refine zok_br (zr_max (lo := 0) (hi := 2147483647) (zr_c (lo := 0) (hi := 0) (by decide)) zr_any (by decide)) (fun v3 e2 h1 => ?_)
  refine zok_if (fun q3 => ?_) (fun q3 => ?_)
  · have h4 := zc_eql (0) (0) q3 h1 (zr_c (lo := 0) (hi := 0) (by decide)) (by decide)
    refine zok_ck (zin_ok (zr_add (lo := 0) (hi := 2) (zr_c (lo := 0) (hi := 0) (by decide)) h_x1 (by decide)) (by decide)) ?_
    refine zok_bv (fun v4 e6 => ?_)
    refine zok_if (fun q7 => ?_) (fun q7 => ?_)
    · have h8 := zc_ltr (2) q7 (zr_c (lo := 1) (hi := 1) (by decide)) zr_any (by decide)
      refine zok_ck (zin_ok (zr_add (lo := 6) (hi := 8) (zr_c (lo := 6) (hi := 6) (by decide)) h_x1 (by decide)) (by decide)) ?_
      exact (s_X7_moveTone_56 hσ h_x1 (zr_add (lo := 6) (hi := 8) (zr_c (lo := 6) (hi := 6) (by decide)) h_x1 (by decide)))
    have h9 := zc_lel (1) (z_nlt q7) zr_any (zr_c (lo := 1) (hi := 1) (by decide)) (by decide)
    exact (s_X7_moveTone_56 hσ h_x1 (zr_add (lo := 6) (hi := 8) (zr_c (lo := 6) (hi := 6) (by decide)) h_x1 (by decide)))
  have h10 := zc_nel (1) (2147483647) q3 h1 (zr_c (lo := 0) (hi := 0) (by decide)) (by decide)
  exact (s_X7_moveTone_57 hσ h_x1)
theorem s_X7_moveNoise_136 {σ : zSt} (hσ : zPC σ) : zok (fX7_moveNoise_136 σ ) (zPu σ) := by
  unfold fX7_moveNoise_136
  exact zok_spu
theorem s_X7_moveNoise_120 {G : Nat → Int} {σ : zSt} (hσ : zIC G σ) {x2 : Int32} {s0 : Int32} (h_s0 : zr (0) (1) s0) : zok (fX7_moveNoise_120 σ x2 s0) (zIC G) := by
  unfold fX7_moveNoise_120
  refine zok_ck rfl ?_
  refine zok_bs (hσ.wi 16 16 (by decide) zr_any (by decide +kernel)) (fun σ1 e2 i1 => ?_)
  exact zok_pau i1 (s_X7_moveNoise_136 i1.P)
theorem s_X7_moveNoise_65 {G : Nat → Int} {σ : zSt} (hσ : zIC G σ) {s0 : Int32} {s1 : Int32} (h_s1 : zr (14) (14) s1) : zok (fX7_moveNoise_65 σ s0 s1) (zIC G) := by
  unfold fX7_moveNoise_65
  refine zok_ck (zin_ok h_s1 (by decide)) ?_
  refine zok_bs (hσ.wi 14 14 (z_ix h_s1 (by decide)) zr_any (by decide +kernel)) (fun σ2 e2 i1 => ?_)
  refine zok_ck rfl ?_
  refine zok_ck rfl ?_
  refine zok_bs (i1.wi 15 15 (by decide) zr_any (by decide +kernel)) (fun σ3 e4 i3 => ?_)
  refine zok_ck rfl ?_
  refine zok_if (fun q5 => ?_) (fun q5 => ?_)
  · have h6 := zc_eql (1) (1) q5 zr_any (zr_c (lo := 1) (hi := 1) (by decide)) (by decide)
    refine zok_ck rfl ?_
    refine zok_bv (fun v4 e8 => ?_)
    refine zok_ck rfl ?_
    refine zok_if (fun q9 => ?_) (fun q9 => ?_)
    · have h10 := zc_ler (4) q9 (zr_c (lo := 4) (hi := 4) (by decide)) zr_any (by decide)
      exact (s_X7_moveNoise_120 i3 (zr_andr (lo := 0) (hi := 1) (zr_c (lo := 1) (hi := 1) (by decide)) (by decide)))
    have h11 := zc_ltl (3) (z_nle q9) zr_any (zr_c (lo := 4) (hi := 4) (by decide)) (by decide)
    exact (s_X7_moveNoise_120 i3 (zr_andr (lo := 0) (hi := 1) (zr_c (lo := 1) (hi := 1) (by decide)) (by decide)))
  exact zok_pau i3 (s_X7_moveNoise_136 i3.P)
theorem s_X7_moveNoise {G : Nat → Int} {σ : zSt} (hσ : zIC G σ) : zok (fX7_moveNoise σ ) (zIC G) := by
  unfold fX7_moveNoise
  refine zok_ck rfl ?_
  refine zok_ck rfl ?_
  refine zok_bs (hσ.wi 14 14 (by decide) (zr_max (lo := 0) (hi := 2147483647) (zr_c (lo := 0) (hi := 0) (by decide)) zr_any (by decide)) (by decide +kernel)) (fun σ5 e2 i1 => ?_)
  refine zok_ck rfl ?_
  refine zok_if (fun q3 => ?_) (fun q3 => ?_)
  · have h4 := zc_lel (0) q3 (z_own e2 (zr_max (lo := 0) (hi := 2147483647) (zr_c (lo := 0) (hi := 0) (by decide)) zr_any (by decide))) (zr_c (lo := 0) (hi := 0) (by decide)) (by decide)
    refine zok_ck rfl ?_
    refine zok_br (zr_andr (lo := 0) (hi := 3) (zr_c (lo := 3) (hi := 3) (by decide)) (by decide)) (fun v6 e6 h5 => ?_)
    refine zok_if (fun q7 => ?_) (fun q7 => ?_)
    · have h8 := zc_eql (3) (3) q7 h5 (zr_c (lo := 3) (hi := 3) (by decide)) (by decide)
      refine zok_ck rfl ?_
      exact (s_X7_moveNoise_65 i1 (zr_c (lo := 14) (hi := 14) (by decide)))
    have h9 := zc_nel (0) (2) q7 h5 (zr_c (lo := 3) (hi := 3) (by decide)) (by decide)
    exact (s_X7_moveNoise_65 i1 (zr_c (lo := 14) (hi := 14) (by decide)))
  have h10 := zc_ltr (1) (z_nle q3) (zr_c (lo := 0) (hi := 0) (by decide)) (z_own e2 (zr_max (lo := 0) (hi := 2147483647) (zr_c (lo := 0) (hi := 0) (by decide)) zr_any (by decide))) (by decide)
  exact zok_some i1
theorem s_X7_nextSample_87 {σ : zSt} {k28 : zSt → Int32 → Int32 → Int32 → Option (zSt × Int32)} {Mk28 : Int} (hk28 : ∀ (x1 : Int32) (x2 : Int32) (x3 : Int32), zr (0) (4) x3 → (4) - x3.toInt < Mk28 → zok (k28 σ x1 x2 x3) (zPi σ (fun v : Int32 => True))) (hσ : zPC σ) {x1 : Int32} {x2 : Int32} {x3 : Int32} (h_x3 : zr (0) (3) x3) {s0 : Int32} (hMk28 : (4) - x3.toInt ≤ Mk28) : zok (fX7_nextSample_87 k28 σ x1 x2 x3 s0) (zPi σ (fun v : Int32 => True)) := by
  unfold fX7_nextSample_87
  refine zok_ck rfl ?_
  refine zok_bv (fun v1 e2 => ?_)
  refine zok_ck rfl ?_
  refine zok_bv (fun v2 e4 => ?_)
  refine zok_br (zr_add (lo := 1) (hi := 4) h_x3 (zr_c (lo := 1) (hi := 1) (by decide)) (by decide)) (fun v3 e6 h5 => ?_)
  exact hk28 _ _ _  (zr_w h5 (by decide)) (by rw [e6]; have := z_tadd (y := (1 : Int32)) h_x3 (zr_c (lo := 1) (hi := 1) (by decide)) (by decide); have e9 : (1 : Int32).toInt = 1 := rfl; omega) 
theorem s_X7_nextSample_59 {σ : zSt} {k28 : zSt → Int32 → Int32 → Int32 → Option (zSt × Int32)} {Mk28 : Int} (hk28 : ∀ (x1 : Int32) (x2 : Int32) (x3 : Int32), zr (0) (4) x3 → (4) - x3.toInt < Mk28 → zok (k28 σ x1 x2 x3) (zPi σ (fun v : Int32 => True))) (hσ : zPC σ) {x1 : Int32} {x2 : Int32} {x3 : Int32} (h_x3 : zr (0) (3) x3) {s0 : Int32} (hMk28 : (4) - x3.toInt ≤ Mk28) : zok (fX7_nextSample_59 k28 σ x1 x2 x3 s0) (zPi σ (fun v : Int32 => True)) := by
  unfold fX7_nextSample_59
  refine zok_if (fun q1 => ?_) (fun q1 => ?_)
  · have h2 := zc_eql (1) (1) q1 zr_any (zr_c (lo := 1) (hi := 1) (by decide)) (by decide)
    refine zok_ck (zin_ok (zr_add (lo := 9) (hi := 12) (zr_c (lo := 9) (hi := 9) (by decide)) h_x3 (by decide)) (by decide)) ?_
    refine zok_ck (zin_ok (zr_andr (lo := 0) (hi := 15) (zr_c (lo := 15) (hi := 15) (by decide)) (by decide)) (by decide)) ?_
    exact (s_X7_nextSample_87 hk28 hσ h_x3 hMk28)
  exact (s_X7_nextSample_87 hk28 hσ h_x3 hMk28)
theorem s_X7_nextSample_28_body {σ : zSt} {k28 : zSt → Int32 → Int32 → Int32 → Option (zSt × Int32)} {Mk28 : Int} (hk28 : ∀ (x1 : Int32) (x2 : Int32) (x3 : Int32), zr (0) (4) x3 → (4) - x3.toInt < Mk28 → zok (k28 σ x1 x2 x3) (zPi σ (fun v : Int32 => True))) (hσ : zPC σ) {x1 : Int32} {x2 : Int32} {x3 : Int32} (h_x3 : zr (0) (4) x3) (hMk28 : (4) - x3.toInt ≤ Mk28) : zok (fX7_nextSample_28_body k28 σ x1 x2 x3) (zPi σ (fun v : Int32 => True)) := by
  unfold fX7_nextSample_28_body
  refine zok_if (fun q1 => ?_) (fun q1 => ?_)
  · have h2 := zc_ler (4) q1 (zr_c (lo := 4) (hi := 4) (by decide)) h_x3 (by decide)
    exact zok_spi trivial
  have h3 := zc_ltl (3) (z_nle q1) h_x3 (zr_c (lo := 4) (hi := 4) (by decide)) (by decide)
  refine zok_if (fun q4 => ?_) (fun q4 => ?_)
  · have h5 := zc_eql (3) (3) q4 h3 (zr_c (lo := 3) (hi := 3) (by decide)) (by decide)
    refine zok_ck rfl ?_
    exact (s_X7_nextSample_59 hk28 hσ (zr_w h5 (by decide)) hMk28)
  have h6 := zc_nel (0) (2) q4 h3 (zr_c (lo := 3) (hi := 3) (by decide)) (by decide)
  refine zok_ck (zin_ok (zr_add (lo := 6) (hi := 8) (zr_c (lo := 6) (hi := 6) (by decide)) h6 (by decide)) (by decide)) ?_
  exact (s_X7_nextSample_59 hk28 hσ (zr_w h6 (by decide)) hMk28)
theorem s_X7_nextSample_28 {σ : zSt} (hσ : zPC σ) : ∀ (n : Nat) {x1 : Int32} {x2 : Int32} {x3 : Int32} (h_x3 : zr (0) (4) x3) (hm : (4) - x3.toInt < n), zok (fX7_nextSample_28 n σ x1 x2 x3) (zPi σ (fun v : Int32 => True)) := by
  intro n
  induction n with
  | zero => intro x1 x2 x3 h_x3 hm ; have h9 := h_x3.1; have h8 := h_x3.2; exfalso; omega
  | succ n ih => intro x1 x2 x3 h_x3 hm ; exact s_X7_nextSample_28_body (fun x1 x2 x3 h_x3 hm1 => ih h_x3 (by omega)) hσ h_x3 (Int.le_refl _)
theorem s_X7_nextSample_2_body {G : Nat → Int} {σ : zSt} {k2 : zSt → Int32 → Option (zSt × Int32)} {Mk2 : Int} (hk2 : ∀ (σ : zSt) (x1 : Int32), zIC G σ → zr (0) (3) x1 → (3) - x1.toInt < Mk2 → zok (k2 σ x1) (zAi (zIC G) (fun v : Int32 => True))) (hσ : zIC G σ) {x1 : Int32} (h_x1 : zr (0) (3) x1) (hMk2 : (3) - x1.toInt ≤ Mk2) : zok (fX7_nextSample_2_body k2 σ x1) (zAi (zIC G) (fun v : Int32 => True)) := by
  unfold fX7_nextSample_2_body
  refine zok_if (fun q1 => ?_) (fun q1 => ?_)
  · have h2 := zc_ler (3) q1 (zr_c (lo := 3) (hi := 3) (by decide)) h_x1 (by decide)
    refine zok_bu (s_X7_moveNoise hσ) (fun σ4 i3 => ?_)
    exact zok_pai i3 (s_X7_nextSample_28 i3.P zfuel (zr_w (zr_c (lo := 0) (hi := 0) (by decide)) (by decide)) (by decide))
  have h4 := zc_ltl (2) (z_nle q1) h_x1 (zr_c (lo := 3) (hi := 3) (by decide)) (by decide)
  refine zok_bu (s_X7_moveTone hσ h4) (fun σ5 i5 => ?_)
  refine zok_br (zr_add (lo := 1) (hi := 3) h4 (zr_c (lo := 1) (hi := 1) (by decide)) (by decide)) (fun v6 e7 h6 => ?_)
  exact hk2 _ _ i5 (zr_w h6 (by decide)) (by rw [e7]; have := z_tadd (y := (1 : Int32)) h4 (zr_c (lo := 1) (hi := 1) (by decide)) (by decide); have e9 : (1 : Int32).toInt = 1 := rfl; omega) 
theorem s_X7_nextSample_2 {G : Nat → Int} : ∀ (n : Nat) {σ : zSt} (hσ : zIC G σ) {x1 : Int32} (h_x1 : zr (0) (3) x1) (hm : (3) - x1.toInt < n), zok (fX7_nextSample_2 n σ x1) (zAi (zIC G) (fun v : Int32 => True)) := by
  intro n
  induction n with
  | zero => intro σ hσ x1 h_x1 hm ; have h9 := h_x1.1; have h8 := h_x1.2; exfalso; omega
  | succ n ih => intro σ hσ x1 h_x1 hm ; exact s_X7_nextSample_2_body (fun σ x1 hσ h_x1 hm1 => ih hσ h_x1 (by omega)) hσ h_x1 (Int.le_refl _)
theorem s_X7_nextSample {G : Nat → Int} {σ : zSt} (hσ : zIC G σ) : zok (fX7_nextSample σ ) (zAi (zIC G) (fun v : Int32 => True)) := by
  unfold fX7_nextSample
  exact (s_X7_nextSample_2 zfuel hσ (zr_w (zr_c (lo := 0) (hi := 0) (by decide)) (by decide)) (by decide))
theorem s_X6_add_k11_56 {σ : zSt} (hσ : zPC σ) : zok (fX6_add_k11_56 σ ) (zPu σ) := by
  unfold fX6_add_k11_56
  exact zok_spu
theorem s_X6_add_k11 {G : Nat → Int} {σ : zSt} (hσ : zIC G σ) {x1 : Int64} (h_x1 : zrl (-2147483648) (2147483647) x1) : zok (fX6_add_k11 σ x1) (zIC G) := by
  unfold fX6_add_k11
  refine zok_ck (zin_ok (zr_andr (lo := 0) (hi := 4095) (zr_c (lo := 4095) (hi := 4095) (by decide)) (by decide)) (by decide)) ?_
  refine zok_bs (hσ.wl 0 4095 (z_ix (zr_andr (lo := 0) (hi := 4095) (zr_c (lo := 4095) (hi := 4095) (by decide)) (by decide)) (by decide)) (by decide)) (fun σ1 e2 i1 => ?_)
  refine zok_if (fun q3 => ?_) (fun q3 => ?_)
  · have h4 := zc_ler (4096) q3 (zr_c (lo := 4096) (hi := 4096) (by decide)) zr_any (by decide)
    refine zok_bs (i1.wk (by decide)) (fun σ2 e6 i5 => ?_)
    exact zok_pau i5 (s_X6_add_k11_56 i5.P)
  have h7 := zc_ltl (4095) (z_nle q3) zr_any (zr_c (lo := 4096) (hi := 4096) (by decide)) (by decide)
  refine zok_bs (i1.wk (by decide)) (fun σ3 e9 i8 => ?_)
  exact zok_pau i8 (s_X6_add_k11_56 i8.P)
theorem s_X0_addSample {G : Nat → Int} {σ : zSt} (hσ : zIC G σ) : zok (fX0_addSample σ ) (zIC G) := by
  unfold fX0_addSample
  refine zok_ai (s_X7_nextSample hσ) (fun σ1 v2 i1 h2 => ?_)
  refine zok_bu (s_X6_add_k11 i1 (zrl_i zr_any)) (fun σ3 i3 => ?_)
  refine zok_ck rfl ?_
  refine zok_ck rfl ?_
  refine zok_bs (i3.wl 3 3 (by decide) (by decide)) (fun σ4 e5 i4 => ?_)
  refine zok_ck rfl ?_
  refine zok_ck rfl ?_
  refine zok_bs (i4.wl 4 4 (by decide) (by decide)) (fun σ5 e7 i6 => ?_)
  refine zok_ck rfl ?_
  refine zok_ck rfl ?_
  refine zok_bs (i6.wl 5 5 (by decide) (by decide)) (fun σ6 e9 i8 => ?_)
  refine zok_ck rfl ?_
  refine zok_ck rfl ?_
  refine zok_bs (i8.wl 6 6 (by decide) (by decide)) (fun σ7 e11 i10 => ?_)
  exact zok_some i10
theorem s_X10_takeOwnPatch_7_body {G : Nat → Int} {σ : zSt} {k7 : zSt → Int32 → Option (zSt)} {Mk7 : Int} (hk7 : ∀ (σ : zSt) (x1 : Int32), zIC G σ → zr (0) (8) x1 → (8) - x1.toInt < Mk7 → zok (k7 σ x1) (zIC G)) (hσ : zIC G σ) {x1 : Int32} (h_x1 : zr (0) (8) x1) (hMk7 : (8) - x1.toInt ≤ Mk7) : zok (fX10_takeOwnPatch_7_body k7 σ x1) (zIC G) := by
  unfold fX10_takeOwnPatch_7_body
  refine zok_if (fun q1 => ?_) (fun q1 => ?_)
  · have h2 := zc_ler (8) q1 (zr_c (lo := 8) (hi := 8) (by decide)) h_x1 (by decide)
    exact zok_some hσ
  have h3 := zc_ltl (7) (z_nle q1) h_x1 (zr_c (lo := 8) (hi := 8) (by decide)) (by decide)
  refine zok_ck (zin_ok h3 (by decide)) ?_
  refine zok_bs (hσ.wl 7 7 (by decide) (by decide)) (fun σ1 e5 i4 => ?_)
  refine zok_br (zr_add (lo := 1) (hi := 8) h3 (zr_c (lo := 1) (hi := 1) (by decide)) (by decide)) (fun v2 e7 h6 => ?_)
  exact hk7 _ _ i4 (zr_w h6 (by decide)) (by rw [e7]; have := z_tadd (y := (1 : Int32)) h3 (zr_c (lo := 1) (hi := 1) (by decide)) (by decide); have e9 : (1 : Int32).toInt = 1 := rfl; omega) 
theorem s_X10_takeOwnPatch_7 {G : Nat → Int} : ∀ (n : Nat) {σ : zSt} (hσ : zIC G σ) {x1 : Int32} (h_x1 : zr (0) (8) x1) (hm : (8) - x1.toInt < n), zok (fX10_takeOwnPatch_7 n σ x1) (zIC G) := by
  intro n
  induction n with
  | zero => intro σ hσ x1 h_x1 hm ; have h9 := h_x1.1; have h8 := h_x1.2; exfalso; omega
  | succ n ih => intro σ hσ x1 h_x1 hm ; exact s_X10_takeOwnPatch_7_body (fun σ x1 hσ h_x1 hm1 => ih hσ h_x1 (by omega)) hσ h_x1 (Int.le_refl _)
theorem s_X10_takeOwnPatch {G : Nat → Int} {σ : zSt} (hσ : zIC G σ) : zok (fX10_takeOwnPatch σ ) (zIC G) := by
  unfold fX10_takeOwnPatch
  refine zok_bs (hσ.wl 7 7 (by decide) (by decide)) (fun σ3 e2 i1 => ?_)
  exact (s_X10_takeOwnPatch_7 zfuel i1 (zr_w (zr_c (lo := 0) (hi := 0) (by decide)) (by decide)) (by decide))
theorem s_X10_takeChannel_110 {G : Nat → Int} {σ : zSt} (hσ : zIC G σ) {s0 : Int64} : zok (fX10_takeChannel_110 σ s0) (zIC G) := by
  unfold fX10_takeChannel_110
  refine zok_bs (hσ.wl 6 6 (by decide) (by decide)) (fun σ1 e2 i1 => ?_)
  exact zok_some i1
theorem s_X10_takeChannel_106 {G : Nat → Int} {σ : zSt} (hσ : zIC G σ) : zok (fX10_takeChannel_106 σ ) (zIC G) := by
  unfold fX10_takeChannel_106
  exact (s_X10_takeChannel_110 hσ)
theorem s_X10_takeChannel_82 {G : Nat → Int} {σ : zSt} (hσ : zIC G σ) {s0 : Int32} (h_s0 : zr (-134217728) (134217727) s0) : zok (fX10_takeChannel_82 σ s0) (zIC G) := by
  unfold fX10_takeChannel_82
  refine zok_if (fun q1 => ?_) (fun q1 => ?_)
  · have h2 := zc_lel (0) q1 h_s0 (zr_c (lo := 0) (hi := 0) (by decide)) (by decide)
    exact (s_X10_takeChannel_106 hσ)
  have h3 := zc_ltr (1) (z_nle q1) (zr_c (lo := 0) (hi := 0) (by decide)) h_s0 (by decide)
  refine zok_if (fun q4 => ?_) (fun q4 => ?_)
  · have h5 := zc_ltr (19) q4 (zr_c (lo := 18) (hi := 18) (by decide)) h3 (by decide)
    exact (s_X10_takeChannel_106 hσ)
  have h6 := zc_lel (18) (z_nlt q4) h3 (zr_c (lo := 18) (hi := 18) (by decide)) (by decide)
  refine zok_ck (zin_ok (zr_sub (lo := 0) (hi := 17) h6 (zr_c (lo := 1) (hi := 1) (by decide)) (by decide)) (by decide)) ?_
  exact (s_X10_takeChannel_110 hσ)
theorem s_X10_takeChannel_71 {G : Nat → Int} {σ : zSt} (hσ : zIC G σ) {x1 : Int32} (h_x1 : zr (0) (8) x1) : zok (fX10_takeChannel_71 σ x1) (zIC G) := by
  unfold fX10_takeChannel_71
  refine zok_ck (zin_ok (zr_add (lo := 48) (hi := 56) (zr_c (lo := 48) (hi := 48) (by decide)) h_x1 (by decide)) (by decide)) ?_
  exact (s_X10_takeChannel_82 hσ (zr_shr (lo := -134217728) (hi := 134217727) 4 (by decide) zr_any (by decide)))
theorem s_X10_takeChannel {G : Nat → Int} {σ : zSt} (hσ : zIC G σ) {x1 : Int32} (h_x1 : zr (0) (8) x1) : zok (fX10_takeChannel σ x1) (zIC G) := by
  unfold fX10_takeChannel
  refine zok_bs (hσ.wi 3 3 (by decide) h_x1 (by decide +kernel)) (fun σ2 e2 i1 => ?_)
  refine zok_ck (zin_ok (zr_add (lo := 16) (hi := 24) (zr_c (lo := 16) (hi := 16) (by decide)) h_x1 (by decide)) (by decide)) ?_
  refine zok_ck (zin_ok (zr_add (lo := 32) (hi := 40) (zr_c (lo := 32) (hi := 32) (by decide)) h_x1 (by decide)) (by decide)) ?_
  refine zok_bs (i1.wi 4 4 (by decide) zr_any (by decide +kernel)) (fun σ3 e4 i3 => ?_)
  refine zok_ck (zin_ok (zr_add (lo := 32) (hi := 40) (zr_c (lo := 32) (hi := 32) (by decide)) h_x1 (by decide)) (by decide)) ?_
  refine zok_bs (i3.wi 5 5 (by decide) (zr_andr (lo := 0) (hi := 7) (zr_c (lo := 7) (hi := 7) (by decide)) (by decide)) (by decide +kernel)) (fun σ4 e6 i5 => ?_)
  refine zok_if (fun q7 => ?_) (fun q7 => ?_)
  · have h8 := zc_eql (0) (0) q7 zr_any (zr_c (lo := 0) (hi := 0) (by decide)) (by decide)
    exact (s_X10_takeChannel_71 i5 h_x1)
  refine zok_if (fun q9 => ?_) (fun q9 => ?_)
  · have h10 := zc_ltl (5) q9 h_x1 (zr_c (lo := 6) (hi := 6) (by decide)) (by decide)
    exact (s_X10_takeChannel_71 i5 (zr_w h10 (by decide)))
  have h11 := zc_ler (6) (z_nlt q9) (zr_c (lo := 6) (hi := 6) (by decide)) h_x1 (by decide)
  exact (s_X10_takeChannel_82 i5 (zr_w (zr_add (lo := 16) (hi := 18) (zr_c (lo := 10) (hi := 10) (by decide)) h11 (by decide)) (by decide)))
theorem s_X10_isOn_131 {σ : zSt} (hσ : zPC σ) {s0 : Int32} (h_s0 : zr (0) (1) s0) : zok (fX10_isOn_131 σ s0) (zPi σ (fun v : Int32 => zr (0) (1) v)) := by
  unfold fX10_isOn_131
  refine zok_ck (zbo_ok h_s0 (by decide)) ?_
  exact zok_spi h_s0
theorem s_X10_isOn_122 {σ : zSt} (hσ : zPC σ) {s0 : Int32} (h_s0 : zr (2) (4) s0) {s1 : Int32} : zok (fX10_isOn_122 σ s0 s1) (zPi σ (fun v : Int32 => zr (0) (1) v)) := by
  unfold fX10_isOn_122
  refine zok_if (fun q1 => ?_) (fun q1 => ?_)
  · have h2 := zc_eql (0) (0) q1 (zr_andr (lo := 0) (hi := 4) h_s0 (by decide)) (zr_c (lo := 0) (hi := 0) (by decide)) (by decide)
    exact (s_X10_isOn_131 hσ (zr_w (zr_c (lo := 0) (hi := 0) (by decide)) (by decide)))
  have h3 := zc_nel (1) (4) q1 (zr_andr (lo := 0) (hi := 4) h_s0 (by decide)) (zr_c (lo := 0) (hi := 0) (by decide)) (by decide)
  exact (s_X10_isOn_131 hσ (zr_w (zr_c (lo := 1) (hi := 1) (by decide)) (by decide)))
theorem s_X10_isOn_105 {σ : zSt} (hσ : zPC σ) {s0 : Int32} (h_s0 : zr (0) (1) s0) : zok (fX10_isOn_105 σ s0) (zPi σ (fun v : Int32 => zr (0) (1) v)) := by
  unfold fX10_isOn_105
  refine zok_ck (zbo_ok h_s0 (by decide)) ?_
  exact zok_spi h_s0
theorem s_X10_isOn_96 {σ : zSt} (hσ : zPC σ) {s0 : Int32} (h_s0 : zr (1) (8) s0) {s1 : Int32} : zok (fX10_isOn_96 σ s0 s1) (zPi σ (fun v : Int32 => zr (0) (1) v)) := by
  unfold fX10_isOn_96
  refine zok_if (fun q1 => ?_) (fun q1 => ?_)
  · have h2 := zc_eql (0) (0) q1 (zr_andr (lo := 0) (hi := 8) h_s0 (by decide)) (zr_c (lo := 0) (hi := 0) (by decide)) (by decide)
    exact (s_X10_isOn_105 hσ (zr_w (zr_c (lo := 0) (hi := 0) (by decide)) (by decide)))
  have h3 := zc_nel (1) (8) q1 (zr_andr (lo := 0) (hi := 8) h_s0 (by decide)) (zr_c (lo := 0) (hi := 0) (by decide)) (by decide)
  exact (s_X10_isOn_105 hσ (zr_w (zr_c (lo := 1) (hi := 1) (by decide)) (by decide)))
theorem s_X10_isOn_78 {σ : zSt} (hσ : zPC σ) {s0 : Int32} (h_s0 : zr (0) (1) s0) : zok (fX10_isOn_78 σ s0) (zPi σ (fun v : Int32 => zr (0) (1) v)) := by
  unfold fX10_isOn_78
  refine zok_ck (zbo_ok h_s0 (by decide)) ?_
  exact zok_spi h_s0
theorem s_X10_isOn {σ : zSt} (hσ : zPC σ) {x1 : Int32} (h_x1 : zr (0) (1) x1) : zok (fX10_isOn σ x1) (zPi σ (fun v : Int32 => zr (0) (1) v)) := by
  unfold fX10_isOn
  refine zok_ck (zin_ok (zr_add (lo := 32) (hi := 40) (zr_c (lo := 32) (hi := 32) (by decide)) (rC_10 hσ.sg _ (by decide)) (by decide)) (by decide)) ?_
  refine zok_if (fun q1 => ?_) (fun q1 => ?_)
  · have h2 := zc_eql (0) (0) q1 (zr_andr (lo := 0) (hi := 16) (zr_c (lo := 16) (hi := 16) (by decide)) (by decide)) (zr_c (lo := 0) (hi := 0) (by decide)) (by decide)
    refine zok_if (fun q3 => ?_) (fun q3 => ?_)
    · have h4 := zc_eql (0) (0) q3 zr_any (zr_c (lo := 0) (hi := 0) (by decide)) (by decide)
      refine zok_ck rfl ?_
      exact zok_spi (zr_w (zr_c (lo := 0) (hi := 0) (by decide)) (by decide))
    refine zok_if (fun q5 => ?_) (fun q5 => ?_)
    · have h6 := zc_eql (6) (6) q5 (rC_10 hσ.sg _ (by decide)) (zr_c (lo := 6) (hi := 6) (by decide)) (by decide)
      refine zok_ck rfl ?_
      refine zok_if (fun q7 => ?_) (fun q7 => ?_)
      · have h8 := zc_eql (0) (0) q7 (zr_andr (lo := 0) (hi := 16) (zr_c (lo := 16) (hi := 16) (by decide)) (by decide)) (zr_c (lo := 0) (hi := 0) (by decide)) (by decide)
        exact (s_X10_isOn_78 hσ (zr_w (zr_c (lo := 0) (hi := 0) (by decide)) (by decide)))
      have h9 := zc_nel (1) (16) q7 (zr_andr (lo := 0) (hi := 16) (zr_c (lo := 16) (hi := 16) (by decide)) (by decide)) (zr_c (lo := 0) (hi := 0) (by decide)) (by decide)
      exact (s_X10_isOn_78 hσ (zr_w (zr_c (lo := 1) (hi := 1) (by decide)) (by decide)))
    refine zok_if (fun q10 => ?_) (fun q10 => ?_)
    · have h11 := zc_eql (7) (7) q10 (rC_10 hσ.sg _ (by decide)) (zr_c (lo := 7) (hi := 7) (by decide)) (by decide)
      refine zok_ck rfl ?_
      refine zok_if (fun q12 => ?_) (fun q12 => ?_)
      · have h13 := zc_eql (0) (0) q12 h_x1 (zr_c (lo := 0) (hi := 0) (by decide)) (by decide)
        exact (s_X10_isOn_96 hσ (zr_w (zr_c (lo := 1) (hi := 1) (by decide)) (by decide)))
      have h14 := zc_nel (1) (1) q12 h_x1 (zr_c (lo := 0) (hi := 0) (by decide)) (by decide)
      exact (s_X10_isOn_96 hσ (zr_w (zr_c (lo := 8) (hi := 8) (by decide)) (by decide)))
    refine zok_if (fun q15 => ?_) (fun q15 => ?_)
    · have h16 := zc_eql (8) (8) q15 (rC_10 hσ.sg _ (by decide)) (zr_c (lo := 8) (hi := 8) (by decide)) (by decide)
      refine zok_ck rfl ?_
      refine zok_if (fun q17 => ?_) (fun q17 => ?_)
      · have h18 := zc_eql (0) (0) q17 h_x1 (zr_c (lo := 0) (hi := 0) (by decide)) (by decide)
        exact (s_X10_isOn_122 hσ (zr_w (zr_c (lo := 4) (hi := 4) (by decide)) (by decide)))
      have h19 := zc_nel (1) (1) q17 h_x1 (zr_c (lo := 0) (hi := 0) (by decide)) (by decide)
      exact (s_X10_isOn_122 hσ (zr_w (zr_c (lo := 2) (hi := 2) (by decide)) (by decide)))
    have h20 := zc_nel (0) (7) q15 (rC_10 hσ.sg _ (by decide)) (zr_c (lo := 8) (hi := 8) (by decide)) (by decide)
    refine zok_ck rfl ?_
    exact zok_spi (zr_w (zr_c (lo := 0) (hi := 0) (by decide)) (by decide))
  have h21 := zc_nel (1) (16) q1 (zr_andr (lo := 0) (hi := 16) (zr_c (lo := 16) (hi := 16) (by decide)) (by decide)) (zr_c (lo := 0) (hi := 0) (by decide)) (by decide)
  refine zok_ck rfl ?_
  exact zok_spi (zr_w (zr_c (lo := 1) (hi := 1) (by decide)) (by decide))
theorem s_X10_part {σ : zSt} (hσ : zPC σ) {x1 : Int32} (h_x1 : zr (0) (7) x1) : zok (fX10_part σ x1) (zPi σ (fun v : Int32 => zr (0) (255) v)) := by
  unfold fX10_part
  exact zok_spi (zr_andr (lo := 0) (hi := 255) (zr_c (lo := 255) (hi := 255) (by decide)) (by decide))
theorem s_X10_rateIn_126 {σ : zSt} (hσ : zPC σ) {s0 : Int32} (h_s0 : zr (0) (15) s0) : zok (fX10_rateIn_126 σ s0) (zPi σ (fun v : Int32 => zr (0) (15) v)) := by
  unfold fX10_rateIn_126
  exact zok_spi h_s0
theorem s_X10_rateIn_94 {σ : zSt} (hσ : zPC σ) {s0 : Int32} (h_s0 : zr (0) (15) s0) : zok (fX10_rateIn_94 σ s0) (zPi σ (fun v : Int32 => zr (0) (15) v)) := by
  unfold fX10_rateIn_94
  exact zok_spi h_s0
theorem s_X10_rateIn_16 {σ : zSt} (hσ : zPC σ) {x1 : Int32} {x2 : Int32} (h_x2 : zr (0) (1) x2) {s0 : Int32} (h_s0 : zr (0) (1) s0) : zok (fX10_rateIn_16 σ x1 x2 s0) (zPi σ (fun v : Int32 => zr (0) (15) v)) := by
  unfold fX10_rateIn_16
  refine zok_pi (s_X10_part hσ (zr_w (zr_add (lo := 6) (hi := 7) (zr_c (lo := 6) (hi := 6) (by decide)) h_x2 (by decide)) (by decide))) (fun v2 h1 => ?_)
  refine zok_br (zr_andr (lo := 0) (hi := 15) (zr_c (lo := 15) (hi := 15) (by decide)) (by decide)) (fun v3 e3 h2 => ?_)
  refine zok_if (fun q4 => ?_) (fun q4 => ?_)
  · have h5 := zc_eql (0) (0) q4 zr_any (zr_c (lo := 0) (hi := 0) (by decide)) (by decide)
    exact zok_spi (zr_w (zr_c (lo := 12) (hi := 12) (by decide)) (by decide))
  refine zok_if (fun q6 => ?_) (fun q6 => ?_)
  · have h7 := zc_eql (1) (1) q6 zr_any (zr_c (lo := 1) (hi := 1) (by decide)) (by decide)
    refine zok_pi (s_X10_part hσ (zr_w (zr_add (lo := 4) (hi := 5) (zr_c (lo := 4) (hi := 4) (by decide)) h_x2 (by decide)) (by decide))) (fun v5 h8 => ?_)
    exact zok_spi (zr_shr (lo := 0) (hi := 15) 4 (by decide) h8 (by decide))
  refine zok_if (fun q9 => ?_) (fun q9 => ?_)
  · have h10 := zc_eql (2) (2) q9 zr_any (zr_c (lo := 2) (hi := 2) (by decide)) (by decide)
    refine zok_pi (s_X10_part hσ (zr_w (zr_add (lo := 4) (hi := 5) (zr_c (lo := 4) (hi := 4) (by decide)) h_x2 (by decide)) (by decide))) (fun v7 h11 => ?_)
    exact zok_spi (zr_andr (lo := 0) (hi := 15) (zr_c (lo := 15) (hi := 15) (by decide)) (by decide))
  refine zok_if (fun q12 => ?_) (fun q12 => ?_)
  · have h13 := zc_eql (3) (3) q12 zr_any (zr_c (lo := 3) (hi := 3) (by decide)) (by decide)
    refine zok_if (fun q14 => ?_) (fun q14 => ?_)
    · have h15 := zc_eql (0) (0) q14 h_s0 (zr_c (lo := 0) (hi := 0) (by decide)) (by decide)
      exact (s_X10_rateIn_94 hσ h2)
    have h16 := zc_nel (1) (1) q14 h_s0 (zr_c (lo := 0) (hi := 0) (by decide)) (by decide)
    exact (s_X10_rateIn_94 hσ (zr_w (zr_c (lo := 0) (hi := 0) (by decide)) (by decide)))
  refine zok_ck (zin_ok (zr_add (lo := 32) (hi := 40) (zr_c (lo := 32) (hi := 32) (by decide)) (rC_10 hσ.sg _ (by decide)) (by decide)) (by decide)) ?_
  refine zok_if (fun q17 => ?_) (fun q17 => ?_)
  · have h18 := zc_eql (0) (0) q17 (zr_andr (lo := 0) (hi := 32) (zr_c (lo := 32) (hi := 32) (by decide)) (by decide)) (zr_c (lo := 0) (hi := 0) (by decide)) (by decide)
    refine zok_if (fun q19 => ?_) (fun q19 => ?_)
    · have h20 := zc_eql (0) (0) q19 h_s0 (zr_c (lo := 0) (hi := 0) (by decide)) (by decide)
      exact (s_X10_rateIn_126 hσ (zr_w (zr_c (lo := 7) (hi := 7) (by decide)) (by decide)))
    have h21 := zc_nel (1) (1) q19 h_s0 (zr_c (lo := 0) (hi := 0) (by decide)) (by decide)
    exact (s_X10_rateIn_126 hσ h2)
  have h22 := zc_nel (1) (32) q17 (zr_andr (lo := 0) (hi := 32) (zr_c (lo := 32) (hi := 32) (by decide)) (by decide)) (zr_c (lo := 0) (hi := 0) (by decide)) (by decide)
  exact zok_spi (zr_w (zr_c (lo := 5) (hi := 5) (by decide)) (by decide))
theorem s_X10_rateIn {σ : zSt} (hσ : zPC σ) {x1 : Int32} {x2 : Int32} (h_x2 : zr (0) (1) x2) : zok (fX10_rateIn σ x1 x2) (zPi σ (fun v : Int32 => zr (0) (15) v)) := by
  unfold fX10_rateIn
  refine zok_pi (s_X10_part hσ (zr_w h_x2 (by decide))) (fun v9 h1 => ?_)
  refine zok_if (fun q2 => ?_) (fun q2 => ?_)
  · have h3 := zc_eql (0) (0) q2 (zr_andr (lo := 0) (hi := 32) (zr_c (lo := 32) (hi := 32) (by decide)) (by decide)) (zr_c (lo := 0) (hi := 0) (by decide)) (by decide)
    exact (s_X10_rateIn_16 hσ h_x2 (zr_w (zr_c (lo := 0) (hi := 0) (by decide)) (by decide)))
  have h4 := zc_nel (1) (32) q2 (zr_andr (lo := 0) (hi := 32) (zr_c (lo := 32) (hi := 32) (by decide)) (by decide)) (zr_c (lo := 0) (hi := 0) (by decide)) (by decide)
  exact (s_X10_rateIn_16 hσ h_x2 (zr_w (zr_c (lo := 1) (hi := 1) (by decide)) (by decide)))
theorem s_X10_slowTick {σ : zSt} (hσ : zPC σ) : zok (fX10_slowTick σ ) (zPi σ (fun v : Int32 => zr (0) (6) v)) := by
  unfold fX10_slowTick
  refine zok_ck rfl ?_
  exact zok_spi (zr_mul (lo := 0) (hi := 6) (zr_c (lo := 2) (hi := 2) (by decide)) (zr_andr (lo := 0) (hi := 3) (zr_c (lo := 3) (hi := 3) (by decide)) (by decide)) (by decide))
theorem s_X10_tickAt_53 {σ : zSt} (hσ : zPC σ) {s0 : Int32} (h_s0 : zr (0) (1) s0) : zok (fX10_tickAt_53 σ s0) (zPi σ (fun v : Int32 => zr (0) (1) v)) := by
  unfold fX10_tickAt_53
  exact zok_spi h_s0
theorem s_X10_tickAt_26 {σ : zSt} (hσ : zPC σ) {x2 : Int32} {x3 : Int32} {s0 : Int32} (h_s0 : zr (0) (1) s0) : zok (fX10_tickAt_26 σ x2 x3 s0) (zPi σ (fun v : Int32 => zr (0) (1) v)) := by
  unfold fX10_tickAt_26
  refine zok_if (fun q1 => ?_) (fun q1 => ?_)
  · have h2 := zc_eql (0) (0) q1 h_s0 (zr_c (lo := 0) (hi := 0) (by decide)) (by decide)
    exact (s_X10_tickAt_53 hσ (zr_w (zr_c (lo := 0) (hi := 0) (by decide)) (by decide)))
  have h3 := zc_nel (1) (1) q1 h_s0 (zr_c (lo := 0) (hi := 0) (by decide)) (by decide)
  refine zok_ck rfl ?_
  exact (s_X10_tickAt_53 hσ (zr_andr (lo := 0) (hi := 1) (zr_c (lo := 1) (hi := 1) (by decide)) (by decide)))
theorem s_X10_tickAt {σ : zSt} (hσ : zPC σ) {x1 : Int32} (h_x1 : zr (-2147483648) (14) x1) {x2 : Int32} : zok (fX10_tickAt σ x1 x2) (zPi σ (fun v : Int32 => zr (0) (1) v)) := by
  unfold fX10_tickAt
  refine zok_bv (fun v1 e2 => ?_)
  refine zok_ck rfl ?_
  refine zok_if (fun q3 => ?_) (fun q3 => ?_)
  · have h4 := zc_eql (0) (0) q3 zr_any (zr_c (lo := 0) (hi := 0) (by decide)) (by decide)
    exact (s_X10_tickAt_26 hσ (zr_w (zr_c (lo := 1) (hi := 1) (by decide)) (by decide)))
  exact (s_X10_tickAt_26 hσ (zr_w (zr_c (lo := 0) (hi := 0) (by decide)) (by decide)))
theorem s_X10_louder_56 {σ : zSt} (hσ : zPC σ) {s0 : Int32} : zok (fX10_louder_56 σ s0) (zPi σ (fun v : Int32 => True)) := by
  unfold fX10_louder_56
  exact zok_spi trivial
theorem s_X10_louder {σ : zSt} (hσ : zPC σ) {x1 : Int32} {x2 : Int32} (h_x2 : zr (-2147483648) (15) x2) {x3 : Int32} : zok (fX10_louder σ x1 x2 x3) (zPi σ (fun v : Int32 => True)) := by
  unfold fX10_louder
  refine zok_if (fun q1 => ?_) (fun q1 => ?_)
  · have h2 := zc_eql (15) (15) q1 h_x2 (zr_c (lo := 15) (hi := 15) (by decide)) (by decide)
    exact zok_spi trivial
  have h3 := zc_nel (-2147483648) (14) q1 h_x2 (zr_c (lo := 15) (hi := 15) (by decide)) (by decide)
  refine zok_if (fun q4 => ?_) (fun q4 => ?_)
  · have h5 := zc_ltl (11) q4 h3 (zr_c (lo := 12) (hi := 12) (by decide)) (by decide)
    refine zok_pi (s_X10_tickAt hσ (zr_w h5 (by decide))) (fun v2 h6 => ?_)
    refine zok_if (fun q7 => ?_) (fun q7 => ?_)
    · have h8 := zc_eql (1) (1) q7 h6 (zr_c (lo := 1) (hi := 1) (by decide)) (by decide)
      refine zok_ck (by decide) ?_
      exact (s_X10_louder_56 hσ)
    have h9 := zc_nel (0) (0) q7 h6 (zr_c (lo := 1) (hi := 1) (by decide)) (by decide)
    exact (s_X10_louder_56 hσ)
  have h10 := zc_ler (12) (z_nlt q4) (zr_c (lo := 12) (hi := 12) (by decide)) h3 (by decide)
  refine zok_pi (s_X10_slowTick hσ) (fun v4 h11 => ?_)
  exact zok_spi trivial
theorem s_X10_softer {σ : zSt} (hσ : zPC σ) {x1 : Int32} (h_x1 : zr (-2147483648) (15) x1) {x2 : Int32} : zok (fX10_softer σ x1 x2) (zPi σ (fun v : Int32 => zr (0) (2) v)) := by
  unfold fX10_softer
  refine zok_if (fun q1 => ?_) (fun q1 => ?_)
  · have h2 := zc_eql (13) (13) q1 h_x1 (zr_c (lo := 13) (hi := 13) (by decide)) (by decide)
    refine zok_pi (s_X10_slowTick hσ) (fun v2 h3 => ?_)
    refine zok_ck rfl ?_
    exact zok_spi (zr_w (zr_andr (lo := 0) (hi := 1) (zr_c (lo := 1) (hi := 1) (by decide)) (by decide)) (by decide))
  refine zok_if (fun q4 => ?_) (fun q4 => ?_)
  · have h5 := zc_eql (14) (14) q4 h_x1 (zr_c (lo := 14) (hi := 14) (by decide)) (by decide)
    refine zok_pi (s_X10_slowTick hσ) (fun v4 h6 => ?_)
    exact zok_spi (zr_w (zr_add (lo := 1) (hi := 2) (zr_andr (lo := 0) (hi := 1) (zr_c (lo := 1) (hi := 1) (by decide)) (by decide)) (zr_c (lo := 1) (hi := 1) (by decide)) (by decide)) (by decide))
  refine zok_if (fun q7 => ?_) (fun q7 => ?_)
  · have h8 := zc_eql (15) (15) q7 h_x1 (zr_c (lo := 15) (hi := 15) (by decide)) (by decide)
    exact zok_spi (zr_w (zr_c (lo := 2) (hi := 2) (by decide)) (by decide))
  have h9 := zc_nel (-2147483648) (14) q7 h_x1 (zr_c (lo := 15) (hi := 15) (by decide)) (by decide)
  refine zok_pi (s_X10_tickAt hσ h9) (fun v6 h10 => ?_)
  exact zok_spi (zr_w h10 (by decide))
theorem s_X10_moveLevel_148 {σ : zSt} (hσ : zPC σ) : zok (fX10_moveLevel_148 σ ) (zPu σ) := by
  unfold fX10_moveLevel_148
  exact zok_spu
theorem s_X10_moveLevel_52 {G : Nat → Int} {σ : zSt} (hσ : zIC G σ) {x1 : Int32} (h_x1 : zr (128) (264) x1) {x3 : Int32} (h_x3 : zr (1) (15) x3) {x4 : Int32} : zok (fX10_moveLevel_52 σ x1 x3 x4) (zIC G) := by
  unfold fX10_moveLevel_52
  refine zok_ck (by decide) ?_
  refine zok_br (zr_min (lo := -2147483648) (hi := 15) (zr_c (lo := 15) (hi := 15) (by decide)) zr_any (by decide)) (fun v1 e2 h1 => ?_)
  refine zok_ck (zin_ok (zr_andr (lo := 0) (hi := 3) (zr_c (lo := 3) (hi := 3) (by decide)) (by decide)) (by decide)) ?_
  refine zok_bv (fun v2 e4 => ?_)
  refine zok_ck (zin_ok (zr_add (lo := 129) (hi := 265) h_x1 (zr_c (lo := 1) (hi := 1) (by decide)) (by decide)) (by decide)) ?_
  refine zok_if (fun q5 => ?_) (fun q5 => ?_)
  · have h6 := zc_eql (1) (1) q5 zr_any (zr_c (lo := 1) (hi := 1) (by decide)) (by decide)
    refine zok_ck (zin_ok (zr_add (lo := 128) (hi := 264) h_x1 (zr_c (lo := 0) (hi := 0) (by decide)) (by decide)) (by decide)) ?_
    refine zok_pi (s_X10_louder hσ.P h1) (fun v7 h7 => ?_)
    refine zok_ck (zin_ok (zr_add (lo := 128) (hi := 264) h_x1 (zr_c (lo := 0) (hi := 0) (by decide)) (by decide)) (by decide)) ?_
    refine zok_bs (hσ.wi 128 264 (z_ix (zr_add (lo := 128) (hi := 264) h_x1 (zr_c (lo := 0) (hi := 0) (by decide)) (by decide)) (by decide)) (zr_max (lo := 0) (hi := 2147483647) (zr_c (lo := 0) (hi := 0) (by decide)) zr_any (by decide)) (by decide +kernel)) (fun σ8 e9 i8 => ?_)
    exact zok_pau i8 (s_X10_moveLevel_148 i8.P)
  refine zok_ck (zin_ok (zr_add (lo := 128) (hi := 264) h_x1 (zr_c (lo := 0) (hi := 0) (by decide)) (by decide)) (by decide)) ?_
  refine zok_pi (s_X10_softer hσ.P h1) (fun v4 h10 => ?_)
  refine zok_ck (zin_ok (zr_add (lo := 128) (hi := 264) h_x1 (zr_c (lo := 0) (hi := 0) (by decide)) (by decide)) (by decide)) ?_
  refine zok_bs (hσ.wi 128 264 (z_ix (zr_add (lo := 128) (hi := 264) h_x1 (zr_c (lo := 0) (hi := 0) (by decide)) (by decide)) (by decide)) (zr_min (lo := -2147483648) (hi := 127) (zr_c (lo := 127) (hi := 127) (by decide)) zr_any (by decide)) (by decide +kernel)) (fun σ5 e12 i11 => ?_)
  exact zok_pau i11 (s_X10_moveLevel_148 i11.P)
theorem s_X10_moveLevel {G : Nat → Int} {σ : zSt} (hσ : zIC G σ) {x1 : Int32} (h_x1 : zr (128) (264) x1) {x2 : Int32} (h_x2 : zr (0) (1) x2) : zok (fX10_moveLevel σ x1 x2) (zIC G) := by
  unfold fX10_moveLevel
  refine zok_ck (zin_ok (zr_add (lo := 129) (hi := 265) h_x1 (zr_c (lo := 1) (hi := 1) (by decide)) (by decide)) (by decide)) ?_
  refine zok_pi (s_X10_rateIn hσ.P h_x2) (fun v10 h1 => ?_)
  refine zok_if (fun q2 => ?_) (fun q2 => ?_)
  · have h3 := zc_eql (0) (0) q2 h1 (zr_c (lo := 0) (hi := 0) (by decide)) (by decide)
    exact zok_some hσ
  have h4 := zc_nel (1) (15) q2 h1 (zr_c (lo := 0) (hi := 0) (by decide)) (by decide)
  refine zok_bv (fun v11 e6 => ?_)
  refine zok_pi (s_X10_part hσ.P (zr_w h_x2 (by decide))) (fun v13 h7 => ?_)
  refine zok_if (fun q8 => ?_) (fun q8 => ?_)
  · have h9 := zc_eql (0) (0) q8 (zr_andr (lo := 0) (hi := 16) (zr_c (lo := 16) (hi := 16) (by decide)) (by decide)) (zr_c (lo := 0) (hi := 0) (by decide)) (by decide)
    refine zok_ck (by decide) ?_
    refine zok_bv (fun v14 e11 => ?_)
    exact (s_X10_moveLevel_52 hσ h_x1 h4)
  have h12 := zc_nel (1) (16) q8 (zr_andr (lo := 0) (hi := 16) (zr_c (lo := 16) (hi := 16) (by decide)) (by decide)) (zr_c (lo := 0) (hi := 0) (by decide)) (by decide)
  exact (s_X10_moveLevel_52 hσ h_x1 h4)
theorem s_X10_moveState_96 {σ : zSt} (hσ : zPC σ) : zok (fX10_moveState_96 σ ) (zPu σ) := by
  unfold fX10_moveState_96
  exact zok_spu
theorem s_X10_moveState_73 {G : Nat → Int} {σ : zSt} (hσ : zIC G σ) {x1 : Int32} (h_x1 : zr (128) (264) x1) {x2 : Int32} (h_x2 : zr (0) (15) x2) {x3 : Int32} {x4 : Int32} : zok (fX10_moveState_73 σ x1 x2 x3 x4) (zIC G) := by
  unfold fX10_moveState_73
  refine zok_if (fun q1 => ?_) (fun q1 => ?_)
  · have h2 := zc_eql (2) (2) q1 zr_any (zr_c (lo := 2) (hi := 2) (by decide)) (by decide)
    refine zok_ck (by decide) ?_
    refine zok_if (fun q3 => ?_) (fun q3 => ?_)
    · have h4 := zc_ltl (14) q3 zr_any h_x2 (by decide)
      exact zok_pau hσ (s_X10_moveState_96 hσ.P)
    have h5 := zc_ler (0) (z_nlt q3) h_x2 zr_any (by decide)
    refine zok_ck (zin_ok (zr_add (lo := 129) (hi := 265) h_x1 (zr_c (lo := 1) (hi := 1) (by decide)) (by decide)) (by decide)) ?_
    refine zok_bs (hσ.wi 129 265 (z_ix (zr_add (lo := 129) (hi := 265) h_x1 (zr_c (lo := 1) (hi := 1) (by decide)) (by decide)) (by decide)) (zr_c (lo := 3) (hi := 3) (by decide)) (by decide +kernel)) (fun σ1 e7 i6 => ?_)
    exact zok_pau i6 (s_X10_moveState_96 i6.P)
  exact zok_pau hσ (s_X10_moveState_96 hσ.P)
theorem s_X10_moveState_51 {G : Nat → Int} {σ : zSt} (hσ : zIC G σ) {x1 : Int32} (h_x1 : zr (128) (264) x1) {x2 : Int32} (h_x2 : zr (0) (15) x2) {x3 : Int32} {x4 : Int32} : zok (fX10_moveState_51 σ x1 x2 x3 x4) (zIC G) := by
  unfold fX10_moveState_51
  refine zok_if (fun q1 => ?_) (fun q1 => ?_)
  · have h2 := zc_eql (1) (1) q1 zr_any (zr_c (lo := 1) (hi := 1) (by decide)) (by decide)
    refine zok_if (fun q3 => ?_) (fun q3 => ?_)
    · have h4 := zc_eql (0) (0) q3 zr_any (zr_c (lo := 0) (hi := 0) (by decide)) (by decide)
      refine zok_ck (zin_ok (zr_add (lo := 129) (hi := 265) h_x1 (zr_c (lo := 1) (hi := 1) (by decide)) (by decide)) (by decide)) ?_
      refine zok_bs (hσ.wi 129 265 (z_ix (zr_add (lo := 129) (hi := 265) h_x1 (zr_c (lo := 1) (hi := 1) (by decide)) (by decide)) (by decide)) (zr_c (lo := 2) (hi := 2) (by decide)) (by decide +kernel)) (fun σ2 e6 i5 => ?_)
      exact zok_pau i5 (s_X10_moveState_96 i5.P)
    exact (s_X10_moveState_73 hσ h_x1 h_x2)
  exact (s_X10_moveState_73 hσ h_x1 h_x2)
theorem s_X10_moveState {G : Nat → Int} {σ : zSt} (hσ : zIC G σ) {x1 : Int32} (h_x1 : zr (128) (264) x1) {x2 : Int32} (h_x2 : zr (0) (15) x2) : zok (fX10_moveState σ x1 x2) (zIC G) := by
  unfold fX10_moveState
  refine zok_ck (zin_ok (zr_add (lo := 128) (hi := 264) h_x1 (zr_c (lo := 0) (hi := 0) (by decide)) (by decide)) (by decide)) ?_
  refine zok_bv (fun v3 e2 => ?_)
  refine zok_ck (zin_ok (zr_add (lo := 129) (hi := 265) h_x1 (zr_c (lo := 1) (hi := 1) (by decide)) (by decide)) (by decide)) ?_
  refine zok_bv (fun v4 e4 => ?_)
  refine zok_if (fun q5 => ?_) (fun q5 => ?_)
  · have h6 := zc_eql (0) (0) q5 zr_any (zr_c (lo := 0) (hi := 0) (by decide)) (by decide)
    refine zok_if (fun q7 => ?_) (fun q7 => ?_)
    · have h8 := zc_ltl (123) q7 zr_any (zr_c (lo := 124) (hi := 124) (by decide)) (by decide)
      exact (s_X10_moveState_51 hσ h_x1 h_x2)
    have h9 := zc_ler (124) (z_nlt q7) (zr_c (lo := 124) (hi := 124) (by decide)) zr_any (by decide)
    refine zok_ck (zin_ok (zr_add (lo := 129) (hi := 265) h_x1 (zr_c (lo := 1) (hi := 1) (by decide)) (by decide)) (by decide)) ?_
    refine zok_bs (hσ.wi 129 265 (z_ix (zr_add (lo := 129) (hi := 265) h_x1 (zr_c (lo := 1) (hi := 1) (by decide)) (by decide)) (by decide)) (zr_c (lo := 1) (hi := 1) (by decide)) (by decide +kernel)) (fun σ5 e11 i10 => ?_)
    refine zok_ck (zin_ok (zr_add (lo := 130) (hi := 266) h_x1 (zr_c (lo := 2) (hi := 2) (by decide)) (by decide)) (by decide)) ?_
    refine zok_bs (i10.wi 130 266 (z_ix (zr_add (lo := 130) (hi := 266) h_x1 (zr_c (lo := 2) (hi := 2) (by decide)) (by decide)) (by decide)) (zr_c (lo := 0) (hi := 0) (by decide)) (by decide +kernel)) (fun σ6 e13 i12 => ?_)
    exact zok_pau i12 (s_X10_moveState_96 i12.P)
  exact (s_X10_moveState_51 hσ h_x1 h_x2)
theorem s_X10_sway_56 {σ : zSt} (hσ : zPC σ) {x1 : Int32} : zok (fX10_sway_56 σ x1) (zPi σ (fun v : Int32 => True)) := by
  unfold fX10_sway_56
  refine zok_ck (by decide) ?_
  exact zok_spi trivial
theorem s_X10_sway_70 {σ : zSt} (hσ : zPC σ) : zok (fX10_sway_70 σ ) (zPi σ (fun v : Int32 => True)) := by
  unfold fX10_sway_70
  exact zok_spi trivial
theorem s_X10_sway_62 {σ : zSt} (hσ : zPC σ) {x1 : Int32} : zok (fX10_sway_62 σ x1) (zPi σ (fun v : Int32 => True)) := by
  unfold fX10_sway_62
  refine zok_ck (by decide) ?_
  exact zok_spi trivial
theorem s_X10_sway {σ : zSt} (hσ : zPC σ) {x1 : Int32} : zok (fX10_sway σ x1) (zPi σ (fun v : Int32 => True)) := by
  unfold fX10_sway
  refine zok_ck rfl ?_
  refine zok_if (fun q1 => ?_) (fun q1 => ?_)
  · have h2 := zc_eql (1) (1) q1 (zr_andr (lo := 0) (hi := 7) (zr_c (lo := 7) (hi := 7) (by decide)) (by decide)) (zr_c (lo := 1) (hi := 1) (by decide)) (by decide)
    exact (s_X10_sway_56 hσ)
  refine zok_if (fun q3 => ?_) (fun q3 => ?_)
  · have h4 := zc_eql (2) (2) q3 (zr_andr (lo := 0) (hi := 7) (zr_c (lo := 7) (hi := 7) (by decide)) (by decide)) (zr_c (lo := 2) (hi := 2) (by decide)) (by decide)
    exact zok_spi trivial
  refine zok_if (fun q5 => ?_) (fun q5 => ?_)
  · have h6 := zc_eql (3) (3) q5 (zr_andr (lo := 0) (hi := 7) (zr_c (lo := 7) (hi := 7) (by decide)) (by decide)) (zr_c (lo := 3) (hi := 3) (by decide)) (by decide)
    exact (s_X10_sway_56 hσ)
  refine zok_if (fun q7 => ?_) (fun q7 => ?_)
  · have h8 := zc_eql (4) (4) q7 (zr_andr (lo := 0) (hi := 7) (zr_c (lo := 7) (hi := 7) (by decide)) (by decide)) (zr_c (lo := 4) (hi := 4) (by decide)) (by decide)
    exact (s_X10_sway_70 hσ)
  refine zok_if (fun q9 => ?_) (fun q9 => ?_)
  · have h10 := zc_eql (5) (5) q9 (zr_andr (lo := 0) (hi := 7) (zr_c (lo := 7) (hi := 7) (by decide)) (by decide)) (zr_c (lo := 5) (hi := 5) (by decide)) (by decide)
    exact (s_X10_sway_62 hσ)
  refine zok_if (fun q11 => ?_) (fun q11 => ?_)
  · have h12 := zc_eql (6) (6) q11 (zr_andr (lo := 0) (hi := 7) (zr_c (lo := 7) (hi := 7) (by decide)) (by decide)) (zr_c (lo := 6) (hi := 6) (by decide)) (by decide)
    exact zok_spi trivial
  refine zok_if (fun q13 => ?_) (fun q13 => ?_)
  · have h14 := zc_eql (7) (7) q13 (zr_andr (lo := 0) (hi := 7) (zr_c (lo := 7) (hi := 7) (by decide)) (by decide)) (zr_c (lo := 7) (hi := 7) (by decide)) (by decide)
    exact (s_X10_sway_62 hσ)
  have h15 := zc_nel (0) (6) q13 (zr_andr (lo := 0) (hi := 7) (zr_c (lo := 7) (hi := 7) (by decide)) (by decide)) (zr_c (lo := 7) (hi := 7) (by decide)) (by decide)
  exact (s_X10_sway_70 hσ)
theorem s_X10_movePhase_22 {G : Nat → Int} {σ : zSt} (hσ : zIC G σ) {x1 : Int32} (h_x1 : zr (128) (264) x1) {x2 : Int32} (h_x2 : zr (0) (255) x2) {s0 : Int32} : zok (fX10_movePhase_22 σ x1 x2 s0) (zIC G) := by
  unfold fX10_movePhase_22
  refine zok_ck (zin_ok (zr_andr (lo := 0) (hi := 15) (zr_c (lo := 15) (hi := 15) (by decide)) (by decide)) (by decide)) ?_
  refine zok_ck (by decide) ?_
  refine zok_bv (fun v1 e2 => ?_)
  refine zok_ck (zin_ok (zr_add (lo := 130) (hi := 266) h_x1 (zr_c (lo := 2) (hi := 2) (by decide)) (by decide)) (by decide)) ?_
  refine zok_ck (zin_ok (zr_add (lo := 130) (hi := 266) h_x1 (zr_c (lo := 2) (hi := 2) (by decide)) (by decide)) (by decide)) ?_
  refine zok_bs (hσ.wi 130 266 (z_ix (zr_add (lo := 130) (hi := 266) h_x1 (zr_c (lo := 2) (hi := 2) (by decide)) (by decide)) (by decide)) (zr_andr (lo := 0) (hi := 524287) (zr_c (lo := 524287) (hi := 524287) (by decide)) (by decide)) (by decide +kernel)) (fun σ2 e4 i3 => ?_)
  exact zok_some i3
theorem s_X10_movePhase {G : Nat → Int} {σ : zSt} (hσ : zIC G σ) {x1 : Int32} (h_x1 : zr (128) (264) x1) {x2 : Int32} (h_x2 : zr (0) (255) x2) : zok (fX10_movePhase σ x1 x2) (zIC G) := by
  unfold fX10_movePhase
  refine zok_if (fun q1 => ?_) (fun q1 => ?_)
  · have h2 := zc_eql (0) (0) q1 (zr_andr (lo := 0) (hi := 64) (zr_c (lo := 64) (hi := 64) (by decide)) (by decide)) (zr_c (lo := 0) (hi := 0) (by decide)) (by decide)
    exact (s_X10_movePhase_22 hσ h_x1 h_x2)
  have h3 := zc_nel (1) (64) q1 (zr_andr (lo := 0) (hi := 64) (zr_c (lo := 64) (hi := 64) (by decide)) (by decide)) (zr_c (lo := 0) (hi := 0) (by decide)) (by decide)
  refine zok_ck (by decide) ?_
  refine zok_pi (s_X10_sway hσ.P) (fun v4 h4 => ?_)
  exact (s_X10_movePhase_22 hσ h_x1 h_x2)
theorem s_X10_drumPhase_115 {σ : zSt} (hσ : zPC σ) {s0 : Int32} (h_s0 : zr (-4194304) (4194303) s0) : zok (fX10_drumPhase_115 σ s0) (zPi σ (fun v : Int32 => zr (-4194304) (4194303) v)) := by
  unfold fX10_drumPhase_115
  exact zok_spi h_s0
theorem s_X10_drumPhase_155 {σ : zSt} (hσ : zPC σ) {s0 : Int32} (h_s0 : zr (52) (720) s0) : zok (fX10_drumPhase_155 σ s0) (zPi σ (fun v : Int32 => zr (-4194304) (4194303) v)) := by
  unfold fX10_drumPhase_155
  exact zok_spi (zr_w h_s0 (by decide))
theorem s_X10_drumPhase_193 {σ : zSt} (hσ : zPC σ) {s0 : Int32} (h_s0 : zr (0) (768) s0) : zok (fX10_drumPhase_193 σ s0) (zPi σ (fun v : Int32 => zr (-4194304) (4194303) v)) := by
  unfold fX10_drumPhase_193
  exact zok_spi (zr_w h_s0 (by decide))
theorem s_X10_drumPhase_82 {σ : zSt} (hσ : zPC σ) {x1 : Int32} (h_x1 : zr (-4194304) (4194303) x1) {x2 : Int32} (h_x2 : zr (0) (1) x2) {x5 : Int32} (h_x5 : zr (0) (1) x5) {s0 : Int32} (h_s0 : zr (0) (1) s0) : zok (fX10_drumPhase_82 σ x1 x2 x5 s0) (zPi σ (fun v : Int32 => zr (-4194304) (4194303) v)) := by
  unfold fX10_drumPhase_82
  refine zok_if (fun q1 => ?_) (fun q1 => ?_)
  · have h2 := zc_eql (8) (8) q1 (rC_10 hσ.sg _ (by decide)) (zr_c (lo := 8) (hi := 8) (by decide)) (by decide)
    refine zok_if (fun q3 => ?_) (fun q3 => ?_)
    · have h4 := zc_eql (0) (0) q3 h_x2 (zr_c (lo := 0) (hi := 0) (by decide)) (by decide)
      exact (s_X10_drumPhase_115 hσ h_x1)
    have h5 := zc_nel (1) (1) q3 h_x2 (zr_c (lo := 0) (hi := 0) (by decide)) (by decide)
    refine zok_if (fun q6 => ?_) (fun q6 => ?_)
    · have h7 := zc_eql (0) (0) q6 h_x5 (zr_c (lo := 0) (hi := 0) (by decide)) (by decide)
      exact (s_X10_drumPhase_115 hσ (zr_w (zr_c (lo := 256) (hi := 256) (by decide)) (by decide)))
    have h8 := zc_nel (1) (1) q6 h_x5 (zr_c (lo := 0) (hi := 0) (by decide)) (by decide)
    exact (s_X10_drumPhase_115 hσ (zr_w (zr_c (lo := 768) (hi := 768) (by decide)) (by decide)))
  have h9 := zc_nel (0) (7) q1 (rC_10 hσ.sg _ (by decide)) (zr_c (lo := 8) (hi := 8) (by decide)) (by decide)
  refine zok_if (fun q10 => ?_) (fun q10 => ?_)
  · have h11 := zc_eql (0) (0) q10 h_x2 (zr_c (lo := 0) (hi := 0) (by decide)) (by decide)
    refine zok_if (fun q12 => ?_) (fun q12 => ?_)
    · have h13 := zc_eql (0) (0) q12 h_x5 (zr_c (lo := 0) (hi := 0) (by decide)) (by decide)
      refine zok_if (fun q14 => ?_) (fun q14 => ?_)
      · have h15 := zc_eql (0) (0) q14 h_s0 (zr_c (lo := 0) (hi := 0) (by decide)) (by decide)
        exact (s_X10_drumPhase_155 hσ (zr_w (zr_c (lo := 208) (hi := 208) (by decide)) (by decide)))
      have h16 := zc_nel (1) (1) q14 h_s0 (zr_c (lo := 0) (hi := 0) (by decide)) (by decide)
      exact (s_X10_drumPhase_155 hσ (zr_w (zr_c (lo := 52) (hi := 52) (by decide)) (by decide)))
    have h17 := zc_nel (1) (1) q12 h_x5 (zr_c (lo := 0) (hi := 0) (by decide)) (by decide)
    refine zok_if (fun q18 => ?_) (fun q18 => ?_)
    · have h19 := zc_eql (0) (0) q18 h_s0 (zr_c (lo := 0) (hi := 0) (by decide)) (by decide)
      exact (s_X10_drumPhase_155 hσ (zr_w (zr_c (lo := 564) (hi := 564) (by decide)) (by decide)))
    have h20 := zc_nel (1) (1) q18 h_s0 (zr_c (lo := 0) (hi := 0) (by decide)) (by decide)
    exact (s_X10_drumPhase_155 hσ (zr_w (zr_c (lo := 720) (hi := 720) (by decide)) (by decide)))
  have h21 := zc_nel (1) (1) q10 h_x2 (zr_c (lo := 0) (hi := 0) (by decide)) (by decide)
  refine zok_if (fun q22 => ?_) (fun q22 => ?_)
  · have h23 := zc_eql (0) (0) q22 (zr_andr (lo := 0) (hi := 512) (zr_c (lo := 512) (hi := 512) (by decide)) (by decide)) (zr_c (lo := 0) (hi := 0) (by decide)) (by decide)
    refine zok_if (fun q24 => ?_) (fun q24 => ?_)
    · have h25 := zc_eql (0) (0) q24 h_s0 (zr_c (lo := 0) (hi := 0) (by decide)) (by decide)
      exact (s_X10_drumPhase_193 hσ (zr_w (zr_c (lo := 256) (hi := 256) (by decide)) (by decide)))
    have h26 := zc_nel (1) (1) q24 h_s0 (zr_c (lo := 0) (hi := 0) (by decide)) (by decide)
    exact (s_X10_drumPhase_193 hσ (zr_w (zr_c (lo := 0) (hi := 0) (by decide)) (by decide)))
  have h27 := zc_nel (1) (512) q22 (zr_andr (lo := 0) (hi := 512) (zr_c (lo := 512) (hi := 512) (by decide)) (by decide)) (zr_c (lo := 0) (hi := 0) (by decide)) (by decide)
  refine zok_if (fun q28 => ?_) (fun q28 => ?_)
  · have h29 := zc_eql (0) (0) q28 h_s0 (zr_c (lo := 0) (hi := 0) (by decide)) (by decide)
    exact (s_X10_drumPhase_193 hσ (zr_w (zr_c (lo := 512) (hi := 512) (by decide)) (by decide)))
  have h30 := zc_nel (1) (1) q28 h_s0 (zr_c (lo := 0) (hi := 0) (by decide)) (by decide)
  exact (s_X10_drumPhase_193 hσ (zr_w (zr_c (lo := 768) (hi := 768) (by decide)) (by decide)))
theorem s_X10_drumPhase_62 {σ : zSt} (hσ : zPC σ) {x1 : Int32} (h_x1 : zr (-4194304) (4194303) x1) {x2 : Int32} (h_x2 : zr (0) (1) x2) {s0 : Int32} (h_s0 : zr (0) (1) s0) : zok (fX10_drumPhase_62 σ x1 x2 s0) (zPi σ (fun v : Int32 => zr (-4194304) (4194303) v)) := by
  unfold fX10_drumPhase_62
  refine zok_ck rfl ?_
  refine zok_if (fun q1 => ?_) (fun q1 => ?_)
  · have h2 := zc_eql (1) (1) q1 (zr_andr (lo := 0) (hi := 1) (zr_c (lo := 1) (hi := 1) (by decide)) (by decide)) (zr_c (lo := 1) (hi := 1) (by decide)) (by decide)
    exact (s_X10_drumPhase_82 hσ h_x1 h_x2 h_s0 (zr_w (zr_c (lo := 1) (hi := 1) (by decide)) (by decide)))
  have h3 := zc_nel (0) (0) q1 (zr_andr (lo := 0) (hi := 1) (zr_c (lo := 1) (hi := 1) (by decide)) (by decide)) (zr_c (lo := 1) (hi := 1) (by decide)) (by decide)
  exact (s_X10_drumPhase_82 hσ h_x1 h_x2 h_s0 (zr_w (zr_c (lo := 0) (hi := 0) (by decide)) (by decide)))
theorem s_X10_drumPhase {σ : zSt} (hσ : zPC σ) {x1 : Int32} (h_x1 : zr (-4194304) (4194303) x1) {x2 : Int32} (h_x2 : zr (0) (1) x2) : zok (fX10_drumPhase σ x1 x2) (zPi σ (fun v : Int32 => zr (-4194304) (4194303) v)) := by
  unfold fX10_drumPhase
  refine zok_ck rfl ?_
  refine zok_br (zr_shr (lo := -4194304) (hi := 4194303) 9 (by decide) zr_any (by decide)) (fun v1 e2 h1 => ?_)
  refine zok_ck rfl ?_
  refine zok_br (zr_shr (lo := -4194304) (hi := 4194303) 9 (by decide) zr_any (by decide)) (fun v2 e4 h3 => ?_)
  refine zok_if (fun q5 => ?_) (fun q5 => ?_)
  · have h6 := zc_eql (0) (0) q5 (zr_andr (lo := 0) (hi := 1) (zr_c (lo := 1) (hi := 1) (by decide)) (by decide)) (zr_c (lo := 0) (hi := 0) (by decide)) (by decide)
    exact (s_X10_drumPhase_62 hσ h_x1 h_x2 (zr_w (zr_c (lo := 0) (hi := 0) (by decide)) (by decide)))
  have h7 := zc_nel (1) (1) q5 (zr_andr (lo := 0) (hi := 1) (zr_c (lo := 1) (hi := 1) (by decide)) (by decide)) (zr_c (lo := 0) (hi := 0) (by decide)) (by decide)
  exact (s_X10_drumPhase_62 hσ h_x1 h_x2 (zr_w (zr_c (lo := 1) (hi := 1) (by decide)) (by decide)))
theorem s_X10_turnedPhase_98 {σ : zSt} (hσ : zPC σ) {s0 : Int32} : zok (fX10_turnedPhase_98 σ s0) (zPi σ (fun v : Int32 => True)) := by
  unfold fX10_turnedPhase_98
  exact zok_spi trivial
theorem s_X10_turnedPhase_35 {σ : zSt} (hσ : zPC σ) {x1 : Int32} (h_x1 : zr (128) (264) x1) {x2 : Int32} (h_x2 : zr (0) (1) x2) {x3 : Int32} (h_x3 : zr (-4194304) (4194303) x3) : zok (fX10_turnedPhase_35 σ x1 x2 x3) (zPi σ (fun v : Int32 => True)) := by
  unfold fX10_turnedPhase_35
  refine zok_if (fun q1 => ?_) (fun q1 => ?_)
  · have h2 := zc_eql (1) (1) q1 h_x2 (zr_c (lo := 1) (hi := 1) (by decide)) (by decide)
    refine zok_ck (zin_ok (zr_add (lo := 123) (hi := 259) (zr_sub (lo := 120) (hi := 256) h_x1 (zr_c (lo := 8) (hi := 8) (by decide)) (by decide)) (zr_c (lo := 3) (hi := 3) (by decide)) (by decide)) (by decide)) ?_
    exact zok_spi trivial
  have h3 := zc_nel (0) (0) q1 h_x2 (zr_c (lo := 1) (hi := 1) (by decide)) (by decide)
  refine zok_pi (s_X10_part hσ (zr_w (zr_c (lo := 3) (hi := 3) (by decide)) (by decide))) (fun v2 h4 => ?_)
  refine zok_br (zr_andr (lo := 0) (hi := 7) (zr_c (lo := 7) (hi := 7) (by decide)) (by decide)) (fun v3 e6 h5 => ?_)
  refine zok_if (fun q7 => ?_) (fun q7 => ?_)
  · have h8 := zc_eql (0) (0) q7 h5 (zr_c (lo := 0) (hi := 0) (by decide)) (by decide)
    exact (s_X10_turnedPhase_98 hσ)
  have h9 := zc_nel (1) (7) q7 h5 (zr_c (lo := 0) (hi := 0) (by decide)) (by decide)
  refine zok_ck (zin_ok (zr_add (lo := 131) (hi := 267) h_x1 (zr_c (lo := 3) (hi := 3) (by decide)) (by decide)) (by decide)) ?_
  refine zok_ck (zin_ok (zr_add (lo := 132) (hi := 268) h_x1 (zr_c (lo := 4) (hi := 4) (by decide)) (by decide)) (by decide)) ?_
  exact (s_X10_turnedPhase_98 hσ)
theorem s_X10_turnedPhase {σ : zSt} (hσ : zPC σ) {x1 : Int32} (h_x1 : zr (128) (264) x1) {x2 : Int32} (h_x2 : zr (0) (1) x2) : zok (fX10_turnedPhase σ x1 x2) (zPi σ (fun v : Int32 => True)) := by
  unfold fX10_turnedPhase
  refine zok_ck (zin_ok (zr_add (lo := 130) (hi := 266) h_x1 (zr_c (lo := 2) (hi := 2) (by decide)) (by decide)) (by decide)) ?_
  refine zok_br (zr_shr (lo := -4194304) (hi := 4194303) 9 (by decide) zr_any (by decide)) (fun v4 e2 h1 => ?_)
  refine zok_if (fun q3 => ?_) (fun q3 => ?_)
  · have h4 := zc_eql (0) (0) q3 zr_any (zr_c (lo := 0) (hi := 0) (by decide)) (by decide)
    exact (s_X10_turnedPhase_35 hσ h_x1 h_x2 h1)
  refine zok_if (fun q5 => ?_) (fun q5 => ?_)
  · have h6 := zc_ltl (6) q5 (rC_10 hσ.sg _ (by decide)) (zr_c (lo := 7) (hi := 7) (by decide)) (by decide)
    exact (s_X10_turnedPhase_35 hσ h_x1 h_x2 h1)
  have h7 := zc_ler (7) (z_nlt q5) (zr_c (lo := 7) (hi := 7) (by decide)) (rC_10 hσ.sg _ (by decide)) (by decide)
  refine zok_pi (s_X10_drumPhase hσ h1 h_x2) (fun v6 h8 => ?_)
  exact zok_spi trivial
theorem s_X10_scaled_44 {σ : zSt} (hσ : zPC σ) {s0 : Int32} (h_s0 : zr (0) (2147483647) s0) : zok (fX10_scaled_44 σ s0) (zPi σ (fun v : Int32 => zr (0) (2147483647) v)) := by
  unfold fX10_scaled_44
  exact zok_spi h_s0
theorem s_X10_scaled {σ : zSt} (hσ : zPC σ) {x1 : Int32} (h_x1 : zr (0) (3) x1) : zok (fX10_scaled σ x1) (zPi σ (fun v : Int32 => zr (0) (2147483647) v)) := by
  unfold fX10_scaled
  refine zok_if (fun q1 => ?_) (fun q1 => ?_)
  · have h2 := zc_eql (0) (0) q1 h_x1 (zr_c (lo := 0) (hi := 0) (by decide)) (by decide)
    exact zok_spi (zr_w (zr_c (lo := 0) (hi := 0) (by decide)) (by decide))
  have h3 := zc_nel (1) (3) q1 h_x1 (zr_c (lo := 0) (hi := 0) (by decide)) (by decide)
  refine zok_ck (zin_ok (zr_andr (lo := 0) (hi := 15) (zr_c (lo := 15) (hi := 15) (by decide)) (by decide)) (by decide)) ?_
  refine zok_bv (fun v1 e5 => ?_)
  refine zok_if (fun q6 => ?_) (fun q6 => ?_)
  · have h7 := zc_lel (0) q6 zr_any (zr_c (lo := 0) (hi := 0) (by decide)) (by decide)
    exact (s_X10_scaled_44 hσ (zr_w (zr_c (lo := 0) (hi := 0) (by decide)) (by decide)))
  have h8 := zc_ltr (1) (z_nle q6) (zr_c (lo := 0) (hi := 0) (by decide)) zr_any (by decide)
  exact (s_X10_scaled_44 hσ (zr_shra (lo := 0) (hi := 2147483647) h8 (by decide)))
theorem s_X10_tremble_30 {σ : zSt} (hσ : zPC σ) {s0 : Int32} (h_s0 : zr (-2147483648) (105) s0) : zok (fX10_tremble_30 σ s0) (zPi σ (fun v : Int32 => True)) := by
  unfold fX10_tremble_30
  refine zok_ck (by decide) ?_
  exact zok_spi trivial
theorem s_X10_tremble {σ : zSt} (hσ : zPC σ) : zok (fX10_tremble σ ) (zPi σ (fun v : Int32 => True)) := by
  unfold fX10_tremble
  refine zok_ck rfl ?_
  refine zok_ck (by decide) ?_
  refine zok_ck (by decide) ?_
  refine zok_bv (fun v1 e2 => ?_)
  refine zok_if (fun q3 => ?_) (fun q3 => ?_)
  · have h4 := zc_ler (105) q3 (zr_c (lo := 105) (hi := 105) (by decide)) zr_any (by decide)
    exact (s_X10_tremble_30 hσ (zr_w (zr_sub (lo := -2147483437) (hi := 105) (zr_c (lo := 210) (hi := 210) (by decide)) h4 (by decide)) (by decide)))
  have h5 := zc_ltl (104) (z_nle q3) zr_any (zr_c (lo := 105) (hi := 105) (by decide)) (by decide)
  exact (s_X10_tremble_30 hσ (zr_w h5 (by decide)))
theorem s_X10_softness_124 {σ : zSt} (hσ : zPC σ) {x4 : Int32} : zok (fX10_softness_124 σ x4) (zPi σ (fun v : Int32 => zr (-2147483648) (127) v)) := by
  unfold fX10_softness_124
  exact zok_spi (zr_min (lo := -2147483648) (hi := 127) (zr_c (lo := 127) (hi := 127) (by decide)) zr_any (by decide))
theorem s_X10_softness_103 {σ : zSt} (hσ : zPC σ) {x2 : Int32} (h_x2 : zr (0) (1) x2) {x4 : Int32} : zok (fX10_softness_103 σ x2 x4) (zPi σ (fun v : Int32 => zr (-2147483648) (127) v)) := by
  unfold fX10_softness_103
  refine zok_pi (s_X10_part hσ (zr_w h_x2 (by decide))) (fun v2 h1 => ?_)
  refine zok_if (fun q2 => ?_) (fun q2 => ?_)
  · have h3 := zc_eql (0) (0) q2 (zr_andr (lo := 0) (hi := 128) (zr_c (lo := 128) (hi := 128) (by decide)) (by decide)) (zr_c (lo := 0) (hi := 0) (by decide)) (by decide)
    exact (s_X10_softness_124 hσ)
  have h4 := zc_nel (1) (128) q2 (zr_andr (lo := 0) (hi := 128) (zr_c (lo := 128) (hi := 128) (by decide)) (by decide)) (zr_c (lo := 0) (hi := 0) (by decide)) (by decide)
  refine zok_pi (s_X10_tremble hσ) (fun v4 h5 => ?_)
  refine zok_bv (fun v5 e7 => ?_)
  exact (s_X10_softness_124 hσ)
theorem s_X10_softness_88 {σ : zSt} (hσ : zPC σ) {x2 : Int32} (h_x2 : zr (0) (0) x2) {x4 : Int32} : zok (fX10_softness_88 σ x2 x4) (zPi σ (fun v : Int32 => zr (-2147483648) (127) v)) := by
  unfold fX10_softness_88
  refine zok_pi (s_X10_part hσ (zr_w (zr_c (lo := 2) (hi := 2) (by decide)) (by decide))) (fun v7 h1 => ?_)
  refine zok_bv (fun v8 e3 => ?_)
  exact (s_X10_softness_103 hσ (zr_w h_x2 (by decide)))
theorem s_X10_softness {σ : zSt} (hσ : zPC σ) {x1 : Int32} (h_x1 : zr (128) (264) x1) {x2 : Int32} (h_x2 : zr (0) (1) x2) : zok (fX10_softness σ x1 x2) (zPi σ (fun v : Int32 => zr (-2147483648) (127) v)) := by
  unfold fX10_softness
  refine zok_ck (zin_ok (zr_add (lo := 48) (hi := 56) (zr_c (lo := 48) (hi := 48) (by decide)) (rC_10 hσ.sg _ (by decide)) (by decide)) (by decide)) ?_
  refine zok_bv (fun v9 e2 => ?_)
  refine zok_ck (zin_ok (zr_add (lo := 128) (hi := 264) h_x1 (zr_c (lo := 0) (hi := 0) (by decide)) (by decide)) (by decide)) ?_
  refine zok_pi (s_X10_part hσ (zr_w (zr_add (lo := 2) (hi := 3) (zr_c (lo := 2) (hi := 2) (by decide)) h_x2 (by decide)) (by decide))) (fun v11 h3 => ?_)
  refine zok_pi (s_X10_scaled hσ (zr_shr (lo := 0) (hi := 3) 6 (by decide) h3 (by decide))) (fun v13 h4 => ?_)
  refine zok_bv (fun v14 e6 => ?_)
  refine zok_if (fun q7 => ?_) (fun q7 => ?_)
  · have h8 := zc_eql (1) (1) q7 h_x2 (zr_c (lo := 1) (hi := 1) (by decide)) (by decide)
    refine zok_bv (fun v16 e10 => ?_)
    exact (s_X10_softness_103 hσ (zr_w h8 (by decide)))
  have h11 := zc_nel (0) (0) q7 h_x2 (zr_c (lo := 1) (hi := 1) (by decide)) (by decide)
  refine zok_if (fun q12 => ?_) (fun q12 => ?_)
  · have h13 := zc_eql (0) (0) q12 zr_any (zr_c (lo := 0) (hi := 0) (by decide)) (by decide)
    exact (s_X10_softness_88 hσ h11)
  refine zok_if (fun q14 => ?_) (fun q14 => ?_)
  · have h15 := zc_ltl (6) q14 (rC_10 hσ.sg _ (by decide)) (zr_c (lo := 7) (hi := 7) (by decide)) (by decide)
    exact (s_X10_softness_88 hσ h11)
  have h16 := zc_ler (7) (z_nlt q14) (zr_c (lo := 7) (hi := 7) (by decide)) (rC_10 hσ.sg _ (by decide)) (by decide)
  refine zok_bv (fun v15 e18 => ?_)
  exact (s_X10_softness_103 hσ (zr_w h11 (by decide)))
theorem s_X10_waveAt_104 {σ : zSt} (hσ : zPC σ) {s0 : Int32} : zok (fX10_waveAt_104 σ s0) (zPi σ (fun v : Int32 => True)) := by
  unfold fX10_waveAt_104
  exact zok_spi trivial
theorem s_X10_waveAt_49 {σ : zSt} (hσ : zPC σ) {x1 : Int32} (h_x1 : zr (-2147483648) (127) x1) {x3 : Int32} (h_x3 : zr (0) (1) x3) {s0 : Int32} (h_s0 : zr (0) (255) s0) : zok (fX10_waveAt_49 σ x1 x3 s0) (zPi σ (fun v : Int32 => True)) := by
  unfold fX10_waveAt_49
  refine zok_ck (zin_ok h_s0 (by decide)) ?_
  refine zok_bv (fun v1 e2 => ?_)
  refine zok_ck (zin_ok (zr_sub (lo := 0) (hi := 255) (zr_c (lo := 255) (hi := 255) (by decide)) (zr_andr (lo := 0) (hi := 255) (zr_c (lo := 255) (hi := 255) (by decide)) (by decide)) (by decide)) (by decide)) ?_
  refine zok_bv (fun v2 e4 => ?_)
  refine zok_if (fun q5 => ?_) (fun q5 => ?_)
  · have h6 := zc_eql (0) (0) q5 h_x3 (zr_c (lo := 0) (hi := 0) (by decide)) (by decide)
    exact (s_X10_waveAt_104 hσ)
  have h7 := zc_nel (1) (1) q5 h_x3 (zr_c (lo := 0) (hi := 0) (by decide)) (by decide)
  exact (s_X10_waveAt_104 hσ)
theorem s_X10_waveAt_24 {σ : zSt} (hσ : zPC σ) {x0 : Int32} (h_x0 : zr (0) (1023) x0) {x1 : Int32} (h_x1 : zr (-2147483648) (127) x1) {x3 : Int32} (h_x3 : zr (0) (1) x3) : zok (fX10_waveAt_24 σ x0 x1 x3) (zPi σ (fun v : Int32 => True)) := by
  unfold fX10_waveAt_24
  refine zok_if (fun q1 => ?_) (fun q1 => ?_)
  · have h2 := zc_eql (0) (0) q1 (zr_andr (lo := 0) (hi := 256) (zr_c (lo := 256) (hi := 256) (by decide)) (by decide)) (zr_c (lo := 0) (hi := 0) (by decide)) (by decide)
    exact (s_X10_waveAt_49 hσ h_x1 h_x3 (zr_andr (lo := 0) (hi := 255) (zr_c (lo := 255) (hi := 255) (by decide)) (by decide)))
  have h3 := zc_nel (1) (256) q1 (zr_andr (lo := 0) (hi := 256) (zr_c (lo := 256) (hi := 256) (by decide)) (by decide)) (zr_c (lo := 0) (hi := 0) (by decide)) (by decide)
  exact (s_X10_waveAt_49 hσ h_x1 h_x3 (zr_sub (lo := 0) (hi := 255) (zr_c (lo := 255) (hi := 255) (by decide)) (zr_andr (lo := 0) (hi := 255) (zr_c (lo := 255) (hi := 255) (by decide)) (by decide)) (by decide)))
theorem s_X10_waveAt_13 {σ : zSt} (hσ : zPC σ) {x0 : Int32} (h_x0 : zr (0) (1023) x0) {x1 : Int32} (h_x1 : zr (-2147483648) (127) x1) {x2 : Int32} (h_x2 : zr (0) (1) x2) {s0 : Int32} (h_s0 : zr (0) (1) s0) : zok (fX10_waveAt_13 σ x0 x1 x2 s0) (zPi σ (fun v : Int32 => True)) := by
  unfold fX10_waveAt_13
  refine zok_if (fun q1 => ?_) (fun q1 => ?_)
  · have h2 := zc_eql (0) (0) q1 h_s0 (zr_c (lo := 0) (hi := 0) (by decide)) (by decide)
    exact (s_X10_waveAt_24 hσ h_x0 h_x1 (zr_w h2 (by decide)))
  have h3 := zc_nel (1) (1) q1 h_s0 (zr_c (lo := 0) (hi := 0) (by decide)) (by decide)
  refine zok_if (fun q4 => ?_) (fun q4 => ?_)
  · have h5 := zc_eql (0) (0) q4 h_x2 (zr_c (lo := 0) (hi := 0) (by decide)) (by decide)
    exact (s_X10_waveAt_24 hσ h_x0 h_x1 (zr_w h3 (by decide)))
  have h6 := zc_nel (1) (1) q4 h_x2 (zr_c (lo := 0) (hi := 0) (by decide)) (by decide)
  exact zok_spi trivial
theorem s_X10_waveAt {σ : zSt} (hσ : zPC σ) {x0 : Int32} (h_x0 : zr (0) (1023) x0) {x1 : Int32} (h_x1 : zr (-2147483648) (127) x1) {x2 : Int32} (h_x2 : zr (0) (1) x2) : zok (fX10_waveAt σ x0 x1 x2) (zPi σ (fun v : Int32 => True)) := by
  unfold fX10_waveAt
  refine zok_if (fun q1 => ?_) (fun q1 => ?_)
  · have h2 := zc_eql (0) (0) q1 (zr_andr (lo := 0) (hi := 512) (zr_c (lo := 512) (hi := 512) (by decide)) (by decide)) (zr_c (lo := 0) (hi := 0) (by decide)) (by decide)
    exact (s_X10_waveAt_13 hσ h_x0 h_x1 h_x2 (zr_w (zr_c (lo := 0) (hi := 0) (by decide)) (by decide)))
  have h3 := zc_nel (1) (512) q1 (zr_andr (lo := 0) (hi := 512) (zr_c (lo := 512) (hi := 512) (by decide)) (by decide)) (zr_c (lo := 0) (hi := 0) (by decide)) (by decide)
  exact (s_X10_waveAt_13 hσ h_x0 h_x1 h_x2 (zr_w (zr_c (lo := 1) (hi := 1) (by decide)) (by decide)))
theorem s_X10_moveOut_55 {G : Nat → Int} {σ : zSt} (hσ : zIC G σ) {x1 : Int32} (h_x1 : zr (128) (264) x1) {x3 : Int32} : zok (fX10_moveOut_55 σ x1 x3) (zIC G) := by
  unfold fX10_moveOut_55
  refine zok_ck (zin_ok (zr_add (lo := 131) (hi := 267) h_x1 (zr_c (lo := 3) (hi := 3) (by decide)) (by decide)) (by decide)) ?_
  refine zok_ck (zin_ok (zr_add (lo := 132) (hi := 268) h_x1 (zr_c (lo := 4) (hi := 4) (by decide)) (by decide)) (by decide)) ?_
  refine zok_bs (hσ.wi 132 268 (z_ix (zr_add (lo := 132) (hi := 268) h_x1 (zr_c (lo := 4) (hi := 4) (by decide)) (by decide)) (by decide)) zr_any (by decide +kernel)) (fun σ1 e2 i1 => ?_)
  refine zok_ck (zin_ok (zr_add (lo := 131) (hi := 267) h_x1 (zr_c (lo := 3) (hi := 3) (by decide)) (by decide)) (by decide)) ?_
  refine zok_bs (i1.wi 131 267 (z_ix (zr_add (lo := 131) (hi := 267) h_x1 (zr_c (lo := 3) (hi := 3) (by decide)) (by decide)) (by decide)) zr_any (by decide +kernel)) (fun σ2 e4 i3 => ?_)
  exact zok_some i3
theorem s_X10_moveOut_51 {G : Nat → Int} {σ : zSt} (hσ : zIC G σ) {x1 : Int32} (h_x1 : zr (128) (264) x1) {s0 : Int32} (h_s0 : zr (0) (1) s0) {s1 : Int32} (h_s1 : zr (-2147483648) (127) s1) {s2 : Int32} (h_s2 : zr (0) (1023) s2) : zok (fX10_moveOut_51 σ x1 s0 s1 s2) (zIC G) := by
  unfold fX10_moveOut_51
  refine zok_pi (s_X10_waveAt hσ.P h_s2 h_s1 h_s0) (fun v4 h1 => ?_)
  exact (s_X10_moveOut_55 hσ h_x1)
theorem s_X10_moveOut {G : Nat → Int} {σ : zSt} (hσ : zIC G σ) {x1 : Int32} (h_x1 : zr (128) (264) x1) {x2 : Int32} (h_x2 : zr (0) (1) x2) : zok (fX10_moveOut σ x1 x2) (zIC G) := by
  unfold fX10_moveOut
  refine zok_ck (zin_ok (zr_add (lo := 128) (hi := 264) h_x1 (zr_c (lo := 0) (hi := 0) (by decide)) (by decide)) (by decide)) ?_
  refine zok_if (fun q1 => ?_) (fun q1 => ?_)
  · have h2 := zc_ler (124) q1 (zr_c (lo := 124) (hi := 124) (by decide)) zr_any (by decide)
    exact (s_X10_moveOut_55 hσ h_x1)
  have h3 := zc_ltl (123) (z_nle q1) zr_any (zr_c (lo := 124) (hi := 124) (by decide)) (by decide)
  refine zok_pi (s_X10_turnedPhase hσ.P h_x1 h_x2) (fun v6 h4 => ?_)
  refine zok_pi (s_X10_softness hσ.P h_x1 h_x2) (fun v8 h5 => ?_)
  refine zok_pi (s_X10_part hσ.P (zr_w (zr_c (lo := 3) (hi := 3) (by decide)) (by decide))) (fun v10 h6 => ?_)
  refine zok_if (fun q7 => ?_) (fun q7 => ?_)
  · have h8 := zc_eql (1) (1) q7 (zr_andr (lo := 0) (hi := 1) (zr_c (lo := 1) (hi := 1) (by decide)) (by decide)) (zr_c (lo := 1) (hi := 1) (by decide)) (by decide)
    exact (s_X10_moveOut_51 hσ h_x1 (zr_w (zr_c (lo := 1) (hi := 1) (by decide)) (by decide)) h5 (zr_andr (lo := 0) (hi := 1023) (zr_c (lo := 1023) (hi := 1023) (by decide)) (by decide)))
  have h9 := zc_nel (0) (0) q7 (zr_andr (lo := 0) (hi := 1) (zr_c (lo := 1) (hi := 1) (by decide)) (by decide)) (zr_c (lo := 1) (hi := 1) (by decide)) (by decide)
  exact (s_X10_moveOut_51 hσ h_x1 (zr_w (zr_c (lo := 0) (hi := 0) (by decide)) (by decide)) h5 (zr_andr (lo := 0) (hi := 1023) (zr_c (lo := 1023) (hi := 1023) (by decide)) (by decide)))
theorem s_X10_moveOperator_99 {G : Nat → Int} {σ : zSt} (hσ : zIC G σ) {x1 : Int32} (h_x1 : zr (128) (264) x1) {x2 : Int32} (h_x2 : zr (0) (1) x2) : zok (fX10_moveOperator_99 σ x1 x2) (zIC G) := by
  unfold fX10_moveOperator_99
  refine zok_pi (s_X10_part hσ.P (zr_w h_x2 (by decide))) (fun v2 h1 => ?_)
  refine zok_bu (s_X10_movePhase hσ h_x1 h1) (fun σ3 i2 => ?_)
  refine zok_bu (s_X10_moveOut i2 h_x1 h_x2) (fun σ4 i3 => ?_)
  exact zok_some i3
theorem s_X10_moveOperator_78 {G : Nat → Int} {σ : zSt} (hσ : zIC G σ) {x1 : Int32} (h_x1 : zr (128) (264) x1) {x2 : Int32} (h_x2 : zr (0) (1) x2) : zok (fX10_moveOperator_78 σ x1 x2) (zIC G) := by
  unfold fX10_moveOperator_78
  refine zok_bu (s_X10_moveLevel hσ h_x1 h_x2) (fun σ5 i1 => ?_)
  refine zok_pi (s_X10_part i1.P (zr_w (zr_add (lo := 6) (hi := 7) (zr_c (lo := 6) (hi := 6) (by decide)) h_x2 (by decide)) (by decide))) (fun v7 h2 => ?_)
  refine zok_bu (s_X10_moveState i1 h_x1 (zr_shr (lo := 0) (hi := 15) 4 (by decide) h2 (by decide))) (fun σ8 i3 => ?_)
  exact (s_X10_moveOperator_99 i3 h_x1 h_x2)
theorem s_X10_moveOperator_53 {G : Nat → Int} {σ : zSt} (hσ : zIC G σ) {x1 : Int32} (h_x1 : zr (128) (264) x1) {x2 : Int32} (h_x2 : zr (0) (1) x2) : zok (fX10_moveOperator_53 σ x1 x2) (zIC G) := by
  unfold fX10_moveOperator_53
  refine zok_ck (zin_ok (zr_add (lo := 129) (hi := 265) h_x1 (zr_c (lo := 1) (hi := 1) (by decide)) (by decide)) (by decide)) ?_
  refine zok_if (fun q1 => ?_) (fun q1 => ?_)
  · have h2 := zc_eql (4) (4) q1 zr_any (zr_c (lo := 4) (hi := 4) (by decide)) (by decide)
    refine zok_ck (zin_ok (zr_add (lo := 128) (hi := 264) h_x1 (zr_c (lo := 0) (hi := 0) (by decide)) (by decide)) (by decide)) ?_
    refine zok_if (fun q3 => ?_) (fun q3 => ?_)
    · have h4 := zc_ler (127) q3 (zr_c (lo := 127) (hi := 127) (by decide)) zr_any (by decide)
      exact (s_X10_moveOperator_99 hσ h_x1 h_x2)
    have h5 := zc_ltl (126) (z_nle q3) zr_any (zr_c (lo := 127) (hi := 127) (by decide)) (by decide)
    exact (s_X10_moveOperator_78 hσ h_x1 h_x2)
  exact (s_X10_moveOperator_78 hσ h_x1 h_x2)
theorem s_X10_moveOperator_52 {G : Nat → Int} {σ : zSt} (hσ : zIC G σ) {x1 : Int32} (h_x1 : zr (128) (264) x1) {x2 : Int32} (h_x2 : zr (0) (1) x2) {s0 : Int32} (h_s0 : zr (0) (4) s0) {s1 : Int32} (h_s1 : zr (129) (265) s1) : zok (fX10_moveOperator_52 σ x1 x2 s0 s1) (zIC G) := by
  unfold fX10_moveOperator_52
  refine zok_ck (zin_ok h_s1 (by decide)) ?_
  refine zok_bs (hσ.wi 129 265 (z_ix h_s1 (by decide)) h_s0 (by decide +kernel)) (fun σ9 e2 i1 => ?_)
  exact (s_X10_moveOperator_53 i1 h_x1 h_x2)
theorem s_X10_moveOperator_13 {G : Nat → Int} {σ : zSt} (hσ : zIC G σ) {x1 : Int32} (h_x1 : zr (128) (264) x1) {x2 : Int32} (h_x2 : zr (0) (1) x2) {s0 : Int32} (h_s0 : zr (0) (1) s0) : zok (fX10_moveOperator_13 σ x1 x2 s0) (zIC G) := by
  unfold fX10_moveOperator_13
  refine zok_ck (zin_ok (zr_add (lo := 133) (hi := 269) h_x1 (zr_c (lo := 5) (hi := 5) (by decide)) (by decide)) (by decide)) ?_
  refine zok_if (fun q1 => ?_) (fun q1 => ?_)
  · have h2 := zc_eqr (0) (1) q1 h_s0 zr_any (by decide)
    exact (s_X10_moveOperator_53 hσ h_x1 h_x2)
  refine zok_ck (zin_ok (zr_add (lo := 133) (hi := 269) h_x1 (zr_c (lo := 5) (hi := 5) (by decide)) (by decide)) (by decide)) ?_
  refine zok_bs (hσ.wi 133 269 (z_ix (zr_add (lo := 133) (hi := 269) h_x1 (zr_c (lo := 5) (hi := 5) (by decide)) (by decide)) (by decide)) h_s0 (by decide +kernel)) (fun σ10 e4 i3 => ?_)
  refine zok_if (fun q5 => ?_) (fun q5 => ?_)
  · have h6 := zc_eql (1) (1) q5 h_s0 (zr_c (lo := 1) (hi := 1) (by decide)) (by decide)
    exact (s_X10_moveOperator_52 i3 h_x1 h_x2 (zr_w (zr_c (lo := 0) (hi := 0) (by decide)) (by decide)) (zr_add (lo := 129) (hi := 265) h_x1 (zr_c (lo := 1) (hi := 1) (by decide)) (by decide)))
  have h7 := zc_nel (0) (0) q5 h_s0 (zr_c (lo := 1) (hi := 1) (by decide)) (by decide)
  exact (s_X10_moveOperator_52 i3 h_x1 h_x2 (zr_w (zr_c (lo := 4) (hi := 4) (by decide)) (by decide)) (zr_add (lo := 129) (hi := 265) h_x1 (zr_c (lo := 1) (hi := 1) (by decide)) (by decide)))
theorem s_X10_moveOperator {G : Nat → Int} {σ : zSt} (hσ : zIC G σ) {x1 : Int32} (h_x1 : zr (128) (264) x1) {x2 : Int32} (h_x2 : zr (0) (1) x2) : zok (fX10_moveOperator σ x1 x2) (zIC G) := by
  unfold fX10_moveOperator
  refine zok_pi (s_X10_isOn hσ.P h_x2) (fun v12 h1 => ?_)
  refine zok_if (fun q2 => ?_) (fun q2 => ?_)
  · have h3 := zc_eql (0) (0) q2 h1 (zr_c (lo := 0) (hi := 0) (by decide)) (by decide)
    exact (s_X10_moveOperator_13 hσ h_x1 h_x2 (zr_w (zr_c (lo := 0) (hi := 0) (by decide)) (by decide)))
  have h4 := zc_nel (1) (1) q2 h1 (zr_c (lo := 0) (hi := 0) (by decide)) (by decide)
  exact (s_X10_moveOperator_13 hσ h_x1 h_x2 (zr_w (zr_c (lo := 1) (hi := 1) (by decide)) (by decide)))
theorem s_X10_makeNext_136 {G : Nat → Int} {σ : zSt} {k41 : zSt → Int32 → Int32 → Option (zSt)} {Mk41 : Int} (hk41 : ∀ (σ : zSt) (x1 : Int32) (x2 : Int32), zIC G σ → zr (0) (9) x2 → (9) - x2.toInt < Mk41 → zok (k41 σ x1 x2) (zIC G)) (hσ : zIC G σ) {x2 : Int32} (h_x2 : zr (0) (8) x2) {s0 : Int32} (h_s0 : zr (1) (2) s0) {s1 : Int32} {s2 : Int32} (hMk41 : (9) - x2.toInt ≤ Mk41) : zok (fX10_makeNext_136 k41 σ x2 s0 s1 s2) (zIC G) := by
  unfold fX10_makeNext_136
  refine zok_bv (fun v1 e2 => ?_)
  refine zok_br (zr_add (lo := 1) (hi := 9) h_x2 (zr_c (lo := 1) (hi := 1) (by decide)) (by decide)) (fun v2 e4 h3 => ?_)
  exact hk41 _ _ _ hσ (zr_w h3 (by decide)) (by rw [e4]; have := z_tadd (y := (1 : Int32)) h_x2 (zr_c (lo := 1) (hi := 1) (by decide)) (by decide); have e9 : (1 : Int32).toInt = 1 := rfl; omega) 
theorem s_X10_makeNext_135 {G : Nat → Int} {σ : zSt} {k41 : zSt → Int32 → Int32 → Option (zSt)} {Mk41 : Int} (hk41 : ∀ (σ : zSt) (x1 : Int32) (x2 : Int32), zIC G σ → zr (0) (9) x2 → (9) - x2.toInt < Mk41 → zok (k41 σ x1 x2) (zIC G)) (hσ : zIC G σ) {x2 : Int32} (h_x2 : zr (0) (8) x2) {s0 : Int32} {s1 : Int32} (hMk41 : (9) - x2.toInt ≤ Mk41) : zok (fX10_makeNext_135 k41 σ x2 s0 s1) (zIC G) := by
  unfold fX10_makeNext_135
  exact (s_X10_makeNext_136 hk41 hσ h_x2 (zr_w (zr_c (lo := 1) (hi := 1) (by decide)) (by decide)) hMk41)
theorem s_X10_makeNext_101 {G : Nat → Int} {σ : zSt} {k41 : zSt → Int32 → Int32 → Option (zSt)} {Mk41 : Int} (hk41 : ∀ (σ : zSt) (x1 : Int32) (x2 : Int32), zIC G σ → zr (0) (9) x2 → (9) - x2.toInt < Mk41 → zok (k41 σ x1 x2) (zIC G)) (hσ : zIC G σ) {x1 : Int32} {x2 : Int32} (h_x2 : zr (0) (8) x2) {x3 : Int32} (h_x3 : zr (128) (256) x3) {s0 : Int32} (hMk41 : (9) - x2.toInt ≤ Mk41) : zok (fX10_makeNext_101 k41 σ x1 x2 x3 s0) (zIC G) := by
  unfold fX10_makeNext_101
  refine zok_ck (zin_ok (zr_add (lo := 139) (hi := 267) (zr_add (lo := 136) (hi := 264) h_x3 (zr_c (lo := 8) (hi := 8) (by decide)) (by decide)) (zr_c (lo := 3) (hi := 3) (by decide)) (by decide)) (by decide)) ?_
  refine zok_if (fun q1 => ?_) (fun q1 => ?_)
  · have h2 := zc_eql (0) (0) q1 zr_any (zr_c (lo := 0) (hi := 0) (by decide)) (by decide)
    exact (s_X10_makeNext_135 hk41 hσ h_x2 hMk41)
  refine zok_if (fun q3 => ?_) (fun q3 => ?_)
  · have h4 := zc_ltl (5) q3 h_x2 (zr_c (lo := 6) (hi := 6) (by decide)) (by decide)
    exact (s_X10_makeNext_135 hk41 hσ (zr_w h4 (by decide)) hMk41)
  have h5 := zc_ler (6) (z_nlt q3) (zr_c (lo := 6) (hi := 6) (by decide)) h_x2 (by decide)
  exact (s_X10_makeNext_136 hk41 hσ (zr_w h5 (by decide)) (zr_w (zr_c (lo := 2) (hi := 2) (by decide)) (by decide)) hMk41)
theorem s_X10_makeNext_100 {G : Nat → Int} {σ : zSt} {k41 : zSt → Int32 → Int32 → Option (zSt)} {Mk41 : Int} (hk41 : ∀ (σ : zSt) (x1 : Int32) (x2 : Int32), zIC G σ → zr (0) (9) x2 → (9) - x2.toInt < Mk41 → zok (k41 σ x1 x2) (zIC G)) (hσ : zIC G σ) {x1 : Int32} {x2 : Int32} (h_x2 : zr (0) (8) x2) {x3 : Int32} (h_x3 : zr (128) (256) x3) (hMk41 : (9) - x2.toInt ≤ Mk41) : zok (fX10_makeNext_100 k41 σ x1 x2 x3) (zIC G) := by
  unfold fX10_makeNext_100
  exact (s_X10_makeNext_101 hk41 hσ h_x2 h_x3 hMk41)
theorem s_X10_makeNext_174 {G : Nat → Int} {σ : zSt} (hσ : zIC G σ) {x1 : Int32} {s0 : Int32} {s1 : Int32} (h_s1 : zr (65) (65) s1) : zok (fX10_makeNext_174 σ x1 s0 s1) (zIC G) := by
  unfold fX10_makeNext_174
  refine zok_ck (zin_ok h_s1 (by decide)) ?_
  refine zok_bs (hσ.wi 65 65 (z_ix h_s1 (by decide)) (zr_shr (lo := -1073741824) (hi := 1073741823) 1 (by decide) zr_any (by decide)) (by decide +kernel)) (fun σ3 e2 i1 => ?_)
  refine zok_ck rfl ?_
  refine zok_bs (i1.wi 67 67 (by decide) zr_any (by decide +kernel)) (fun σ4 e4 i3 => ?_)
  exact zok_some i3
theorem s_X10_makeNext_41_body {G : Nat → Int} {σ : zSt} {k41 : zSt → Int32 → Int32 → Option (zSt)} {Mk41 : Int} (hk41 : ∀ (σ : zSt) (x1 : Int32) (x2 : Int32), zIC G σ → zr (0) (9) x2 → (9) - x2.toInt < Mk41 → zok (k41 σ x1 x2) (zIC G)) (hσ : zIC G σ) {x1 : Int32} {x2 : Int32} (h_x2 : zr (0) (9) x2) (hMk41 : (9) - x2.toInt ≤ Mk41) : zok (fX10_makeNext_41_body k41 σ x1 x2) (zIC G) := by
  unfold fX10_makeNext_41_body
  refine zok_if (fun q1 => ?_) (fun q1 => ?_)
  · have h2 := zc_ler (9) q1 (zr_c (lo := 9) (hi := 9) (by decide)) h_x2 (by decide)
    refine zok_ck rfl ?_
    refine zok_bv (fun v5 e4 => ?_)
    refine zok_if (fun q5 => ?_) (fun q5 => ?_)
    · have h6 := zc_eql (1) (1) q5 (zr_andr (lo := 0) (hi := 1) (zr_c (lo := 1) (hi := 1) (by decide)) (by decide)) (zr_c (lo := 1) (hi := 1) (by decide)) (by decide)
      exact (s_X10_makeNext_174 hσ (zr_c (lo := 65) (hi := 65) (by decide)))
    have h7 := zc_nel (0) (0) q5 (zr_andr (lo := 0) (hi := 1) (zr_c (lo := 1) (hi := 1) (by decide)) (by decide)) (zr_c (lo := 1) (hi := 1) (by decide)) (by decide)
    exact (s_X10_makeNext_174 hσ (zr_c (lo := 65) (hi := 65) (by decide)))
  have h8 := zc_ltl (8) (z_nle q1) h_x2 (zr_c (lo := 9) (hi := 9) (by decide)) (by decide)
  refine zok_bu (s_X10_takeChannel hσ h8) (fun σ6 i9 => ?_)
  refine zok_br (zr_add (lo := 128) (hi := 256) (zr_c (lo := 128) (hi := 128) (by decide)) (zr_mul (lo := 0) (hi := 128) (zr_c (lo := 16) (hi := 16) (by decide)) h8 (by decide)) (by decide)) (fun v7 e11 h10 => ?_)
  refine zok_bu (s_X10_moveOperator i9 (zr_w h10 (by decide)) (zr_w (zr_c (lo := 0) (hi := 0) (by decide)) (by decide))) (fun σ8 i12 => ?_)
  refine zok_bu (s_X10_moveOperator i12 (zr_w (zr_add (lo := 136) (hi := 264) h10 (zr_c (lo := 8) (hi := 8) (by decide)) (by decide)) (by decide)) (zr_w (zr_c (lo := 1) (hi := 1) (by decide)) (by decide))) (fun σ9 i13 => ?_)
  refine zok_if (fun q14 => ?_) (fun q14 => ?_)
  · have h15 := zc_eql (0) (0) q14 zr_any (zr_c (lo := 0) (hi := 0) (by decide)) (by decide)
    exact (s_X10_makeNext_100 hk41 i13 h8 h10 hMk41)
  refine zok_if (fun q16 => ?_) (fun q16 => ?_)
  · have h17 := zc_ltl (6) q16 h8 (zr_c (lo := 7) (hi := 7) (by decide)) (by decide)
    exact (s_X10_makeNext_100 hk41 i13 (zr_w h17 (by decide)) h10 hMk41)
  have h18 := zc_ler (7) (z_nlt q16) (zr_c (lo := 7) (hi := 7) (by decide)) h8 (by decide)
  refine zok_ck (zin_ok (zr_add (lo := 131) (hi := 259) h10 (zr_c (lo := 3) (hi := 3) (by decide)) (by decide)) (by decide)) ?_
  exact (s_X10_makeNext_101 hk41 i13 (zr_w h18 (by decide)) h10 hMk41)
theorem s_X10_makeNext_41 {G : Nat → Int} : ∀ (n : Nat) {σ : zSt} (hσ : zIC G σ) {x1 : Int32} {x2 : Int32} (h_x2 : zr (0) (9) x2) (hm : (9) - x2.toInt < n), zok (fX10_makeNext_41 n σ x1 x2) (zIC G) := by
  intro n
  induction n with
  | zero => intro σ hσ x1 x2 h_x2 hm ; have h9 := h_x2.1; have h8 := h_x2.2; exfalso; omega
  | succ n ih => intro σ hσ x1 x2 h_x2 hm ; exact s_X10_makeNext_41_body (fun σ x1 x2 hσ h_x2 hm1 => ih hσ h_x2 (by omega)) hσ h_x2 (Int.le_refl _)
theorem s_X10_makeNext_30 {G : Nat → Int} {σ : zSt} (hσ : zIC G σ) {s0 : Int32} (h_s0 : zr (0) (1) s0) : zok (fX10_makeNext_30 σ s0) (zIC G) := by
  unfold fX10_makeNext_30
  refine zok_ck (zbo_ok h_s0 (by decide)) ?_
  refine zok_bs (hσ.wi 2 2 (by decide) h_s0 (by decide +kernel)) (fun σ10 e2 i1 => ?_)
  refine zok_bu (s_X10_takeOwnPatch i1) (fun σ11 i3 => ?_)
  exact (s_X10_makeNext_41 zfuel i3 (zr_w (zr_c (lo := 0) (hi := 0) (by decide)) (by decide)) (by decide))
theorem s_X10_makeNext {G : Nat → Int} {σ : zSt} (hσ : zIC G σ) : zok (fX10_makeNext σ ) (zIC G) := by
  unfold fX10_makeNext
  refine zok_ck rfl ?_
  refine zok_ck rfl ?_
  refine zok_bs (hσ.wi 66 66 (by decide) zr_any (by decide +kernel)) (fun σ12 e2 i1 => ?_)
  refine zok_ck rfl ?_
  refine zok_if (fun q3 => ?_) (fun q3 => ?_)
  · have h4 := zc_eql (0) (0) q3 (zr_andr (lo := 0) (hi := 32) (zr_c (lo := 32) (hi := 32) (by decide)) (by decide)) (zr_c (lo := 0) (hi := 0) (by decide)) (by decide)
    exact (s_X10_makeNext_30 i1 (zr_w (zr_c (lo := 0) (hi := 0) (by decide)) (by decide)))
  have h5 := zc_nel (1) (32) q3 (zr_andr (lo := 0) (hi := 32) (zr_c (lo := 32) (hi := 32) (by decide)) (by decide)) (zr_c (lo := 0) (hi := 0) (by decide)) (by decide)
  exact (s_X10_makeNext_30 i1 (zr_w (zr_c (lo := 1) (hi := 1) (by decide)) (by decide)))
theorem s_X10_heard_24 {σ : zSt} (hσ : zPC σ) {s0 : Int32} : zok (fX10_heard_24 σ s0) (zPi σ (fun v : Int32 => True)) := by
  unfold fX10_heard_24
  exact zok_spi trivial
theorem s_X10_heard {σ : zSt} (hσ : zPC σ) : zok (fX10_heard σ ) (zPi σ (fun v : Int32 => True)) := by
  unfold fX10_heard
  refine zok_ck rfl ?_
  refine zok_if (fun q1 => ?_) (fun q1 => ?_)
  · have h2 := zc_eql (1) (1) q1 (zr_andr (lo := 0) (hi := 1) (zr_c (lo := 1) (hi := 1) (by decide)) (by decide)) (zr_c (lo := 1) (hi := 1) (by decide)) (by decide)
    refine zok_ck rfl ?_
    exact (s_X10_heard_24 hσ)
  have h3 := zc_nel (0) (0) q1 (zr_andr (lo := 0) (hi := 1) (zr_c (lo := 1) (hi := 1) (by decide)) (by decide)) (zr_c (lo := 1) (hi := 1) (by decide)) (by decide)
  exact (s_X10_heard_24 hσ)
theorem s_X6_add_k12_56 {σ : zSt} (hσ : zPC σ) : zok (fX6_add_k12_56 σ ) (zPu σ) := by
  unfold fX6_add_k12_56
  exact zok_spu
theorem s_X6_add_k12 {G : Nat → Int} {σ : zSt} (hσ : zIC G σ) {x1 : Int64} : zok (fX6_add_k12 σ x1) (zIC G) := by
  unfold fX6_add_k12
  refine zok_ck (zin_ok (zr_andr (lo := 0) (hi := 4095) (zr_c (lo := 4095) (hi := 4095) (by decide)) (by decide)) (by decide)) ?_
  refine zok_bs (hσ.wl 0 4095 (z_ix (zr_andr (lo := 0) (hi := 4095) (zr_c (lo := 4095) (hi := 4095) (by decide)) (by decide)) (by decide)) (by decide)) (fun σ1 e2 i1 => ?_)
  refine zok_if (fun q3 => ?_) (fun q3 => ?_)
  · have h4 := zc_ler (4096) q3 (zr_c (lo := 4096) (hi := 4096) (by decide)) zr_any (by decide)
    refine zok_bs (i1.wk (by decide)) (fun σ2 e6 i5 => ?_)
    exact zok_pau i5 (s_X6_add_k12_56 i5.P)
  have h7 := zc_ltl (4095) (z_nle q3) zr_any (zr_c (lo := 4096) (hi := 4096) (by decide)) (by decide)
  refine zok_bs (i1.wk (by decide)) (fun σ3 e9 i8 => ?_)
  exact zok_pau i8 (s_X6_add_k12_56 i8.P)
theorem s_X0_addMix {G : Nat → Int} {σ : zSt} (hσ : zIC G σ) : zok (fX0_addMix σ ) (zIC G) := by
  unfold fX0_addMix
  refine zok_ck rfl ?_
  refine zok_bl (zrl_max (lo := 1) (hi := 9223372036854775807) (zrl_c (lo := 1) (hi := 1) (by decide)) zrl_any (by decide)) (fun v1 e2 h1 => ?_)
  refine zok_ck rfl ?_
  refine zok_ck (zdvl_ok h1 (by decide)) ?_
  refine zok_pi (s_X10_heard hσ.P) (fun v3 h3 => ?_)
  refine zok_bv (fun v4 e5 => ?_)
  refine zok_ck rfl ?_
  refine zok_ck (zdvl_ok h1 (by decide)) ?_
  refine zok_pi (s_X10_heard hσ.P) (fun v6 h6 => ?_)
  refine zok_bv (fun v7 e8 => ?_)
  refine zok_bu (s_X6_add_k12 hσ) (fun σ8 i9 => ?_)
  refine zok_ck rfl ?_
  refine zok_bs (i9.wl 4 4 (by decide) (by decide)) (fun σ9 e11 i10 => ?_)
  refine zok_ck rfl ?_
  refine zok_bs (i10.wl 5 5 (by decide) (by decide)) (fun σ10 e13 i12 => ?_)
  refine zok_ck rfl ?_
  refine zok_bs (i12.wl 6 6 (by decide) (by decide)) (fun σ11 e15 i14 => ?_)
  exact zok_some i14
theorem z_wrap {x y : Int64} (h : 0 ≤ y.toInt) : (x + y).toInt = x.toInt + y.toInt ∨ (0 ≤ x.toInt ∧ (x + y).toInt < 0) := by
  have a1 := Int64.le_toInt x
  have a2 := Int64.toInt_lt x
  have b2 := Int64.toInt_lt y
  rw [Int64.toInt_add]
  by_cases q : x.toInt + y.toInt ≤ 9223372036854775807
  · exact Or.inl (z_bml (by omega) q)
  · refine Or.inr ⟨by omega, ?_⟩
    have e : (x.toInt + y.toInt).bmod (2 ^ 64) = (x.toInt + y.toInt - 18446744073709551616).bmod (2 ^ 64) := by
      exact (Int.sub_bmod_right (x.toInt + y.toInt) (2 ^ 64)).symm
    rw [e, z_bml (by omega) (by omega)]; omega
theorem z_tdivb {a : Int} {c : Int} (hc : 0 < c) : a - c < c * a.tdiv c ∧ c * a.tdiv c < a + c := by
  have h1 := Int.mul_tdiv_add_tmod a c
  have h2 := Int.tmod_lt_of_pos a hc
  have h3 := Int.lt_tmod_of_pos a hc
  omega
theorem z_bt {x2 x4 : Int64} {b : Int32} (hb : zr (1) (31) b) (e : x4 = x2 + b.toInt64) (c : Int64) (hc : 16 ≤ c.toInt) : (x4 / c).toInt - (x2 / c).toInt < 100 := by
  have b1 := hb.1
  have b2 := hb.2
  have eb : b.toInt64.toInt = b.toInt := Int32.toInt_toInt64 b
  have dv : ∀ x : Int64, (x / c).toInt = x.toInt.tdiv c.toInt := fun x => Int64.toInt_div_of_ne_right x c (fun r => by rw [r] at hc; exact absurd hc (by decide))
  have w := z_wrap (x := x2) (y := b.toInt64) (by omega)
  rw [← e, eb] at w
  rw [dv, dv]
  have d4 := z_tdivb (a := x4.toInt) (c := c.toInt) (by omega)
  have d2 := z_tdivb (a := x2.toInt) (c := c.toInt) (by omega)
  rcases w with w | w
  · rw [w] at d4 ⊢
    have hd : c.toInt * ((x2.toInt + b.toInt).tdiv c.toInt - x2.toInt.tdiv c.toInt) < c.toInt * 100 := by
      rw [Int.mul_sub]; omega
    exact Int.lt_of_mul_lt_mul_left hd (by omega)
  · have h4 : x4.toInt.tdiv c.toInt ≤ 0 := by
      have hn := Int.tdiv_nonneg (a := -x4.toInt) (b := c.toInt) (by omega) (by omega)
      rw [Int.neg_tdiv] at hn; omega
    have h2 : 0 ≤ x2.toInt.tdiv c.toInt := Int.tdiv_nonneg w.1 (by omega)
    omega
theorem s_pass81_h {G : Nat → Int} {x2 x4 : Int64} : ∀ (n : Nat) {σ : zSt} (hσ : zIC G σ) {x6 : Int64} (hn : 1 ≤ n) (hm : (x4 / 81).toInt - x6.toInt < n), zok (fX0_pass_105 n σ x4 x6) (zIC G) := by
  intro n
  induction n with
  | zero => intro σ hσ x6 hn hm; exfalso; omega
  | succ n ih =>
    intro σ hσ x6 hn hm
    show zok (fX0_pass_105_body (fX0_pass_105 n) σ x4 x6) (zIC G)
    unfold fX0_pass_105_body
    refine zok_ck (by decide) ?_
    refine zok_if (fun q => zok_some hσ) (fun q => ?_)
    have q1 : ¬ (x4 / 81).toInt ≤ x6.toInt := fun r => q (z_cmp_ge.mpr r)
    refine zok_bu (s_X0_addMix hσ) (fun σ1 i1 => ?_)
    refine zok_bv (fun v2 e2 => ?_)
    have l := Int64.toInt_lt (x4 / 81)
    have c1 : (1 : Int64).toInt = 1 := rfl
    have e3 : (x6 + 1).toInt = x6.toInt + 1 := by rw [Int64.toInt_add, c1]; exact z_bml (by have := Int64.le_toInt x6; omega) (by omega)
    exact ih i1 (by omega) (by rw [e2, e3]; omega)
theorem s_pass72_h {G : Nat → Int} {x2 x4 : Int64} (h81 : (x4 / 81).toInt - (x2 / 81).toInt < 100) : ∀ (n : Nat) {σ : zSt} (hσ : zIC G σ) {x6 : Int64} (hn : 1 ≤ n) (hm : (x4 / 72).toInt - x6.toInt < n), zok (fX0_pass_70 n σ x2 x4 x6) (zIC G) := by
  intro n
  induction n with
  | zero => intro σ hσ x6 hn hm; exfalso; omega
  | succ n ih =>
    intro σ hσ x6 hn hm
    show zok (fX0_pass_70_body (fX0_pass_70 n) σ x2 x4 x6) (zIC G)
    unfold fX0_pass_70_body
    refine zok_ck (by decide) ?_
    refine zok_if (fun q => zok_ck (by decide) (zok_bv (fun v3 e3 => s_pass81_h (x2 := x2) zfuel hσ (by decide) (by rw [e3]; unfold zfuel; omega)))) (fun q => ?_)
    have q1 : ¬ (x4 / 72).toInt ≤ x6.toInt := fun r => q (z_cmp_ge.mpr r)
    refine zok_bu (s_X10_makeNext hσ) (fun σ1 i1 => ?_)
    refine zok_bv (fun v2 e2 => ?_)
    have l := Int64.toInt_lt (x4 / 72)
    have c1 : (1 : Int64).toInt = 1 := rfl
    have e3 : (x6 + 1).toInt = x6.toInt + 1 := by rw [Int64.toInt_add, c1]; exact z_bml (by have := Int64.le_toInt x6; omega) (by omega)
    exact ih i1 (by omega) (by rw [e2, e3]; omega)
theorem s_pass16_h {G : Nat → Int} {x2 x4 : Int64} (h81 : (x4 / 81).toInt - (x2 / 81).toInt < 100) (h72 : (x4 / 72).toInt - (x2 / 72).toInt < 100) : ∀ (n : Nat) {σ : zSt} (hσ : zIC G σ) {x6 : Int64} (hn : 1 ≤ n) (hm : (x4 / 16).toInt - x6.toInt < n), zok (fX0_pass_38 n σ x2 x4 x6) (zIC G) := by
  intro n
  induction n with
  | zero => intro σ hσ x6 hn hm; exfalso; omega
  | succ n ih =>
    intro σ hσ x6 hn hm
    show zok (fX0_pass_38_body (fX0_pass_38 n) σ x2 x4 x6) (zIC G)
    unfold fX0_pass_38_body
    refine zok_ck (by decide) ?_
    refine zok_if (fun q => zok_ck (by decide) (zok_bv (fun v3 e3 => s_pass72_h h81 zfuel hσ (by decide) (by rw [e3]; unfold zfuel; omega)))) (fun q => ?_)
    have q1 : ¬ (x4 / 16).toInt ≤ x6.toInt := fun r => q (z_cmp_ge.mpr r)
    refine zok_bu (s_X0_addSample hσ) (fun σ1 i1 => ?_)
    refine zok_bv (fun v2 e2 => ?_)
    have l := Int64.toInt_lt (x4 / 16)
    have c1 : (1 : Int64).toInt = 1 := rfl
    have e3 : (x6 + 1).toInt = x6.toInt + 1 := by rw [Int64.toInt_add, c1]; exact z_bml (by have := Int64.le_toInt x6; omega) (by omega)
    exact ih i1 (by omega) (by rw [e2, e3]; omega)
theorem s_X0_pass {G : Nat → Int} {σ : zSt} (hσ : zIC G σ) {x1 : Int32} (h_x1 : zr (1) (31) x1) : zok (fX0_pass σ x1) (zIC G) := by
  unfold fX0_pass
  refine zok_ck rfl ?_
  refine zok_bv (fun v9 e9 => ?_)
  refine zok_bv (fun v10 e10 => ?_)
  refine zok_ck rfl ?_
  refine zok_bs (hσ.wl 0 0 (by decide) (by decide)) (fun σ11 e11 i11 => ?_)
  refine zok_ck rfl (zok_ck rfl ?_)
  refine zok_bs (i11.wl 1 1 (by decide) (by decide)) (fun σ12 e12 i12 => ?_)
  refine zok_ck (by decide) ?_
  refine zok_bv (fun v13 e13 => ?_)
  exact s_pass16_h (z_bt h_x1 e10 81 (by decide)) (z_bt h_x1 e10 72 (by decide)) zfuel i12 (by decide) (by have := z_bt h_x1 e10 16 (by decide); rw [e13]; unfold zfuel; omega)
end ZJN3
