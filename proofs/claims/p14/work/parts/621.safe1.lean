/-! SAFE 1: invariants of a state: ranges by segments (cell, from, to, lo, hi), frozen cells, one special cell -/
abbrev zSeg : Type := Nat × Nat × Nat × Int × Int
def zSg (S : List zSeg) (σ : zSt) : Prop := ∀ s ∈ S, ∀ j, s.2.1 ≤ j → j ≤ s.2.2.1 → zr s.2.2.2.1 s.2.2.2.2 (σ.1 s.1 j)
def zFz (Z : List (Nat × Nat)) (G : Nat → Int) (σ : zSt) : Prop := ∀ (i : Nat) (z : Nat × Nat), Z[i]? = some z → (σ.1 z.1 z.2).toInt = G i
def zFl (Z : List (Nat × Nat)) (G : Nat → Int) (σ : zSt) : Prop := ∀ (i : Nat) (z : Nat × Nat), Z[i]? = some z → (σ.2 z.1 z.2).toInt = G (100 + i)
/-- a cell that is v0, or 16 and more -/
def zSp (q : Nat × Nat × Int) (σ : zSt) : Prop := (σ.1 q.1 q.2.1).toInt = q.2.2 ∨ 16 ≤ (σ.1 q.1 q.2.1).toInt
def zIV (S : List zSeg) (Z ZL : List (Nat × Nat)) (q : Nat × Nat × Int) (G : Nat → Int) (σ : zSt) : Prop := zSg S σ ∧ zFz Z G σ ∧ zFl ZL G σ ∧ zSp q σ
theorem zsi_ne {σ : zSt} {k j : Nat} {v : Int32} {k1 : Nat} (h : ¬ k1 = k) : (zsi σ k j v).1 k1 = σ.1 k1 := by
  have e : Nat.beq k1 k = false := Bool.eq_false_iff.mpr (fun r => h (Nat.eq_of_beq_eq_true r))
  show (bif Nat.beq k1 k then upd (σ.1 k1) j v else σ.1 k1) = _
  rw [e]; rfl
theorem zsi_eq {σ : zSt} {k j : Nat} {v : Int32} : (zsi σ k j v).1 k = upd (σ.1 k) j v := by
  show (bif Nat.beq k k then upd (σ.1 k) j v else σ.1 k) = _
  rw [show Nat.beq k k = true from Nat.beq_refl k]; rfl
theorem zsi_ej {σ : zSt} {k j : Nat} {v : Int32} : (zsi σ k j v).1 k j = v := by rw [zsi_eq]; exact if_pos rfl
theorem zsi_nj {σ : zSt} {k j j1 : Nat} {v : Int32} (h : ¬ j1 = j) : (zsi σ k j v).1 k j1 = σ.1 k j1 := by rw [zsi_eq]; exact if_neg h
theorem zsi_at {σ : zSt} {k j k1 j1 : Nat} {v : Int32} : (zsi σ k j v).1 k1 j1 = if k1 = k ∧ j1 = j then v else σ.1 k1 j1 := by
  by_cases h : k1 = k
  · subst h
    by_cases hj : j1 = j
    · subst hj; rw [zsi_ej, if_pos ⟨rfl, rfl⟩]
    · rw [zsi_nj hj, if_neg (fun r => hj r.2)]
  · rw [zsi_ne h, if_neg (fun r => h r.1)]
theorem zsl_at {σ : zSt} {k j k1 j1 : Nat} {v : Int64} : (zsl σ k j v).2 k1 j1 = if k1 = k ∧ j1 = j then v else σ.2 k1 j1 := by
  show (bif Nat.beq k1 k then vp_updL (σ.2 k1) j v else σ.2 k1) j1 = _
  by_cases h : k1 = k
  · subst h
    rw [show Nat.beq k1 k1 = true from Nat.beq_refl k1]
    show (if j1 = j then v else σ.2 k1 j1) = _
    by_cases hj : j1 = j
    · rw [if_pos hj, if_pos ⟨rfl, hj⟩]
    · rw [if_neg hj, if_neg (fun r => hj r.2)]
  · have e : Nat.beq k1 k = false := Bool.eq_false_iff.mpr (fun r => h (Nat.eq_of_beq_eq_true r))
    rw [e, if_neg (fun r => h r.1)]; rfl
def zWi (S : List zSeg) (Z : List (Nat × Nat)) (q : Nat × Nat × Int) (k a b : Nat) (lo hi : Int) : Bool :=
  (S.all (fun s => !Nat.beq s.1 k || (Nat.blt b s.2.1 || (Nat.blt s.2.2.1 a || (decide (s.2.2.2.1 ≤ lo) && decide (hi ≤ s.2.2.2.2))))) && Z.all (fun z => !Nat.beq z.1 k || (Nat.blt b z.2 || Nat.blt z.2 a))) && (!Nat.beq q.1 k || (Nat.blt b q.2.1 || Nat.blt q.2.1 a))
theorem z_out {k k1 a b j j1 : Nat} {x : Bool} (hj : a ≤ j ∧ j ≤ b) (h : (!Nat.beq k1 k || (Nat.blt b j1 || Nat.blt j1 a)) = true) : ¬ (k1 = k ∧ j1 = j) := by
  intro r
  obtain ⟨r1, r2⟩ := r
  subst r1; subst r2
  rw [show Nat.beq k1 k1 = true from Nat.beq_refl k1] at h
  simp only [Bool.not_true, Bool.false_or, Bool.or_eq_true, Nat.blt_eq] at h
  omega
section ZIV
variable {S : List zSeg} {Z ZL : List (Nat × Nat)} {q : Nat × Nat × Int} {G : Nat → Int} {σ : zSt}
theorem zIV_i {k j : Nat} {v : Int32} {lo hi : Int} (a b : Nat) (h : zIV S Z ZL q G σ) (hj : a ≤ j ∧ j ≤ b) (hv : zr lo hi v) (c : zWi S Z q k a b lo hi = true) : zIV S Z ZL q G (zsi σ k j v) := by
  obtain ⟨h1, h2, h3, h4⟩ := h
  rw [zWi, Bool.and_eq_true, Bool.and_eq_true, List.all_eq_true, List.all_eq_true] at c
  obtain ⟨⟨c1, c2⟩, c3⟩ := c
  refine ⟨fun s hs j1 l1 l2 => ?_, fun i z hz => ?_, h3, ?_⟩
  · rw [zsi_at]
    by_cases r : s.1 = k ∧ j1 = j
    · rw [if_pos r]
      obtain ⟨r1, r2⟩ := r
      have c4 := c1 s hs
      rw [r1, show Nat.beq k k = true from Nat.beq_refl k] at c4
      simp only [Bool.not_true, Bool.false_or, Bool.or_eq_true, Bool.and_eq_true, Nat.blt_eq, decide_eq_true_eq] at c4
      obtain ⟨v1, v2⟩ := hv
      exact ⟨by omega, by omega⟩
    · rw [if_neg r]; exact h1 s hs j1 l1 l2
  · rw [zsi_at, if_neg (z_out (x := true) hj (c2 z (List.mem_of_getElem? hz)))]
    exact h2 i z hz
  · unfold zSp
    rw [zsi_at, if_neg (z_out (x := true) hj c3)]
    exact h4
def zWk (S : List zSeg) (Z : List (Nat × Nat)) (q : Nat × Nat × Int) (k : Nat) : Bool := (S.all (fun s => !Nat.beq s.1 k) && Z.all (fun z => !Nat.beq z.1 k)) && !Nat.beq q.1 k
theorem z_nb {a b : Nat} (h : (!Nat.beq a b) = true) : ¬ a = b := by
  intro r
  subst r
  rw [show Nat.beq a a = true from Nat.beq_refl a] at h
  exact absurd h (by decide)
theorem zIV_k {k j : Nat} {v : Int32} (h : zIV S Z ZL q G σ) (c : zWk S Z q k = true) : zIV S Z ZL q G (zsi σ k j v) := by
  obtain ⟨h1, h2, h3, h4⟩ := h
  rw [zWk, Bool.and_eq_true, Bool.and_eq_true, List.all_eq_true, List.all_eq_true] at c
  obtain ⟨⟨c1, c2⟩, c3⟩ := c
  refine ⟨fun s hs j1 l1 l2 => ?_, fun i z hz => ?_, h3, ?_⟩
  · rw [zsi_ne (z_nb (c1 s hs))]; exact h1 s hs j1 l1 l2
  · rw [zsi_ne (z_nb (c2 z (List.mem_of_getElem? hz)))]; exact h2 i z hz
  · unfold zSp; rw [zsi_ne (z_nb c3)]; exact h4
theorem zIV_l {k j : Nat} {v : Int64} (a b : Nat) (h : zIV S Z ZL q G σ) (hj : a ≤ j ∧ j ≤ b) (c : ZL.all (fun z => !Nat.beq z.1 k || (Nat.blt b z.2 || Nat.blt z.2 a)) = true) : zIV S Z ZL q G (zsl σ k j v) := by
  obtain ⟨h1, h2, h3, h4⟩ := h
  rw [List.all_eq_true] at c
  refine ⟨h1, h2, fun i z hz => ?_, h4⟩
  rw [zsl_at, if_neg (z_out (x := true) hj (c z (List.mem_of_getElem? hz)))]
  exact h3 i z hz
/-- the special cell -/
def zWs (S : List zSeg) (Z : List (Nat × Nat)) (q : Nat × Nat × Int) (lo hi : Int) : Bool :=
  S.all (fun s => !Nat.beq s.1 q.1 || (Nat.blt q.2.1 s.2.1 || (Nat.blt s.2.2.1 q.2.1 || (decide (s.2.2.2.1 ≤ lo) && decide (hi ≤ s.2.2.2.2))))) && Z.all (fun z => !Nat.beq z.1 q.1 || (Nat.blt q.2.1 z.2 || Nat.blt z.2 q.2.1))
theorem zIV_s {v : Int32} {lo hi : Int} (h : zIV S Z ZL q G σ) (hv : zr lo hi v) (c : zWs S Z q lo hi = true) (hs : v.toInt = q.2.2 ∨ 16 ≤ v.toInt) : zIV S Z ZL q G (zsi σ q.1 q.2.1 v) := by
  obtain ⟨h1, h2, h3, h4⟩ := h
  rw [zWs, Bool.and_eq_true, List.all_eq_true, List.all_eq_true] at c
  obtain ⟨c1, c2⟩ := c
  refine ⟨fun s hs j1 l1 l2 => ?_, fun i z hz => ?_, h3, ?_⟩
  · rw [zsi_at]
    by_cases r : s.1 = q.1 ∧ j1 = q.2.1
    · rw [if_pos r]
      obtain ⟨r1, r2⟩ := r
      have c4 := c1 s hs
      rw [r1, show Nat.beq q.1 q.1 = true from Nat.beq_refl _] at c4
      simp only [Bool.not_true, Bool.false_or, Bool.or_eq_true, Bool.and_eq_true, Nat.blt_eq, decide_eq_true_eq] at c4
      obtain ⟨v1, v2⟩ := hv
      exact ⟨by omega, by omega⟩
    · rw [if_neg r]; exact h1 s hs j1 l1 l2
  · rw [zsi_at, if_neg (z_out (x := true) (a := q.2.1) (b := q.2.1) ⟨Nat.le_refl _, Nat.le_refl _⟩ (c2 z (List.mem_of_getElem? hz)))]
    exact h2 i z hz
  · unfold zSp; rw [zsi_ej]; exact hs
def zWc (S : List zSeg) (Z : List (Nat × Nat)) (q : Nat × Nat × Int) (k0 k1 : Nat) : Bool :=
  (S.all (fun s => !Nat.beq s.1 k1 || S.any (fun t => Nat.beq t.1 k0 && (Nat.beq t.2.1 s.2.1 && (Nat.beq t.2.2.1 s.2.2.1 && (decide (t.2.2.2.1 = s.2.2.2.1) && decide (t.2.2.2.2 = s.2.2.2.2)))))) && Z.all (fun z => !Nat.beq z.1 k1)) && !Nat.beq q.1 k1
theorem zcpi_ne {k0 k1 sp dp n k : Nat} (h : ¬ k = k1) : (zcpi σ k0 k1 sp dp n).1 k = σ.1 k := by
  have e : Nat.beq k k1 = false := Bool.eq_false_iff.mpr (fun r => h (Nat.eq_of_beq_eq_true r))
  show (bif Nat.beq k k1 then va_cpy (σ.1 k0) (σ.1 k) sp dp n else σ.1 k) = _
  rw [e]; rfl
theorem zcpi_eq {k0 k1 n j : Nat} : (zcpi σ k0 k1 0 0 n).1 k1 j = if j < n then σ.1 k0 j else σ.1 k1 j := by
  show (bif Nat.beq k1 k1 then va_cpy (σ.1 k0) (σ.1 k1) 0 0 n else σ.1 k1) j = _
  rw [show Nat.beq k1 k1 = true from Nat.beq_refl k1]
  show (if 0 ≤ j ∧ j < 0 + n then σ.1 k0 (0 + (j - 0)) else σ.1 k1 j) = _
  by_cases h : j < n
  · rw [if_pos h, if_pos ⟨Nat.zero_le _, by omega⟩, show 0 + (j - 0) = j by omega]
  · rw [if_neg h, if_neg (fun r => h (by omega))]
theorem zIV_c {k0 k1 sp dp n : Nat} (h : zIV S Z ZL q G σ) (c : zWc S Z q k0 k1 = true) (e0 : sp = 0) (e1 : dp = 0) : zIV S Z ZL q G (zcpi σ k0 k1 sp dp n) := by
  subst e0; subst e1
  obtain ⟨h1, h2, h3, h4⟩ := h
  rw [zWc, Bool.and_eq_true, Bool.and_eq_true, List.all_eq_true, List.all_eq_true] at c
  obtain ⟨⟨c1, c2⟩, c3⟩ := c
  refine ⟨fun s hs j1 l1 l2 => ?_, fun i z hz => ?_, h3, ?_⟩
  · by_cases r : s.1 = k1
    · have c4 := c1 s hs
      have d := h1 s hs j1 l1 l2
      rw [r] at c4 d ⊢
      rw [show Nat.beq k1 k1 = true from Nat.beq_refl k1] at c4
      simp only [Bool.not_true, Bool.false_or, List.any_eq_true, Bool.and_eq_true, decide_eq_true_eq] at c4
      obtain ⟨t, ht, t1, t2, t3, t4, t5⟩ := c4
      have t1 := Nat.eq_of_beq_eq_true t1
      have t2 := Nat.eq_of_beq_eq_true t2
      have t3 := Nat.eq_of_beq_eq_true t3
      have d2 := h1 t ht j1 (by omega) (by omega)
      rw [t1, t4, t5] at d2
      rw [zcpi_eq]
      split
      · exact d2
      · exact d
    · rw [zcpi_ne r]; exact h1 s hs j1 l1 l2
  · rw [zcpi_ne (z_nb (c2 z (List.mem_of_getElem? hz)))]; exact h2 i z hz
  · unfold zSp; rw [zcpi_ne (z_nb c3)]; exact h4
theorem zIV_cl {k0 k1 sp dp n : Nat} (h : zIV S Z ZL q G σ) (c : ZL.all (fun z => !Nat.beq z.1 k1) = true) : zIV S Z ZL q G (zcpl σ k0 k1 sp dp n) := by
  obtain ⟨h1, h2, h3, h4⟩ := h
  rw [List.all_eq_true] at c
  refine ⟨h1, h2, fun i z hz => ?_, h4⟩
  have e : Nat.beq z.1 k1 = false := Bool.eq_false_iff.mpr (fun r => z_nb (c z (List.mem_of_getElem? hz)) (Nat.eq_of_beq_eq_true r))
  have e2 : (zcpl σ k0 k1 sp dp n).2 z.1 = σ.2 z.1 := by
    show (bif Nat.beq z.1 k1 then va_cpy (σ.2 k0) (σ.2 z.1) sp dp n else σ.2 z.1) = _
    rw [e]; rfl
  rw [e2]; exact h3 i z hz
end ZIV
/-! facts behind a write -/
theorem z_tr {σ σ1 : zSt} {k j : Nat} {v : Int32} {k1 j1 : Nat} {lo hi : Int} (e : σ1 = zsi σ k j v) (c : Nat.beq k1 k = false) (h : zr lo hi (zgi σ k1 j1)) : zr lo hi (zgi σ1 k1 j1) := by
  subst e
  have n : ¬ k1 = k := fun r => by subst r; rw [show Nat.beq k1 k1 = true from Nat.beq_refl k1] at c; exact absurd c (by decide)
  unfold zgi at h ⊢
  rw [zsi_ne n]; exact h
theorem z_trj {σ σ1 : zSt} {k j : Nat} {v : Int32} {j1 : Nat} {lo hi : Int} (e : σ1 = zsi σ k j v) (c : ¬ j1 = j) (h : zr lo hi (zgi σ k j1)) : zr lo hi (zgi σ1 k j1) := by
  subst e
  unfold zgi at h ⊢
  rw [zsi_nj c]; exact h
theorem z_trl {σ σ1 : zSt} {k j : Nat} {v : Int64} {k1 j1 : Nat} {lo hi : Int} (e : σ1 = zsl σ k j v) (h : zr lo hi (zgi σ k1 j1)) : zr lo hi (zgi σ1 k1 j1) := by subst e; exact h
theorem z_own {σ σ1 : zSt} {k j : Nat} {v : Int32} {lo hi : Int} (e : σ1 = zsi σ k j v) (h : zr lo hi v) : zr lo hi (zgi σ1 k j) := by subst e; unfold zgi; rw [zsi_ej]; exact h
/-! more numbers -/
theorem z_ixlt {i : Int32} {a b : Int} {d : Nat} (h : zr a b i) (h1 : 0 ≤ a ∧ b < (d : Int)) : i.toNatClampNeg < d := by
  obtain ⟨h2, h3⟩ := h
  have e : i.toNatClampNeg = i.toInt.toNat := rfl
  rw [e]; omega
theorem zr_remv {lo hi : Int} {x y : Int32} {a b c d : Int} (hx : zr a b x) (hy : zr c d y) (h : 0 ≤ a ∧ 0 < c ∧ lo ≤ 0 ∧ d - 1 ≤ hi) : zr lo hi (zrem x y) := by
  have hy1 := hy.1
  have hy2 := hy.2
  have e := z_trem y.toInt rfl hx ⟨h.1, by omega⟩
  have m1 := Int.emod_nonneg x.toInt (b := y.toInt) (by omega)
  have m2 := Int.emod_lt_of_pos x.toInt (b := y.toInt) (by omega)
  unfold zr; rw [e]; omega
theorem zr_shl {lo hi : Int} (k : Nat) {x s : Int32} {a b : Int} (hs : (s.toBitVec.smod 32).toNat = k) (hx : zr a b x) (h : 0 ≤ a ∧ k < 31 ∧ b * ((2 ^ k : Nat) : Int) ≤ 2147483647 ∧ lo ≤ a * ((2 ^ k : Nat) : Int) ∧ b * ((2 ^ k : Nat) : Int) ≤ hi) : zr lo hi (x <<< s) := by
  obtain ⟨h1, h2⟩ := hx
  obtain ⟨k1, k2, k3, k4, k5⟩ := h
  have e0 := z_tN (x := x) (by omega)
  have p : (0 : Int) ≤ ((2 ^ k : Nat) : Int) := Int.natCast_nonneg _
  have l1 : a * ((2 ^ k : Nat) : Int) ≤ x.toInt * ((2 ^ k : Nat) : Int) := Int.mul_le_mul_of_nonneg_right h1 p
  have l2 : x.toInt * ((2 ^ k : Nat) : Int) ≤ b * ((2 ^ k : Nat) : Int) := Int.mul_le_mul_of_nonneg_right h2 p
  have l0 : 0 ≤ a * ((2 ^ k : Nat) : Int) := Int.mul_nonneg k1 p
  have e1 : (x <<< s).toBitVec = x.toBitVec <<< (s.toBitVec.smod 32).toNat := rfl
  have e3 : ((x.toBitVec.toNat * 2 ^ k : Nat) : Int) = x.toInt * ((2 ^ k : Nat) : Int) := by rw [Int.natCast_mul, e0]
  have e2 : (x <<< s).toBitVec.toNat = x.toBitVec.toNat * 2 ^ k := by
    rw [e1, hs, BitVec.toNat_shiftLeft, Nat.shiftLeft_eq, Nat.mod_eq_of_lt (by omega)]
  have e4 := z_Nt e2 (by omega)
  unfold zr; rw [e4, e3]; omega
theorem z_s31 : ∀ n : Nat, n < 32 → (((Int32.ofNat n) &&& 31).toBitVec.smod 32).toNat = n := by decide
theorem zr_shld {lo hi : Int} {x y : Int32} {a b c d : Int} (hx : zr a b x) (hy : zr c d y) (h : 0 ≤ a ∧ 0 ≤ c ∧ d < 31 ∧ lo ≤ 0 ∧ b * ((2 ^ d.toNat : Nat) : Int) ≤ 2147483647 ∧ b * ((2 ^ d.toNat : Nat) : Int) ≤ hi) : zr lo hi (x <<< (y &&& 31)) := by
  obtain ⟨k1, k2, k3, k4, k5, k6⟩ := h
  have y1 := hy.1
  have y2 := hy.2
  have hx1 := hx.1
  have hx2 := hx.2
  obtain ⟨n, hn⟩ : ∃ n : Nat, y.toInt = n := ⟨y.toInt.toNat, by omega⟩
  have ey : y = Int32.ofNat n := Int32.toInt_inj.mp (by rw [Int32.toInt_ofNat_of_lt (by omega), hn])
  have hs := z_s31 n (by omega)
  rw [← ey] at hs
  have pw : (2 : Nat) ^ n ≤ 2 ^ d.toNat := Nat.pow_le_pow_right (by decide) (by omega)
  have pi : ((2 ^ n : Nat) : Int) ≤ ((2 ^ d.toNat : Nat) : Int) := Int.ofNat_le.mpr pw
  have b0 : 0 ≤ b := by omega
  have l : b * ((2 ^ n : Nat) : Int) ≤ b * ((2 ^ d.toNat : Nat) : Int) := Int.mul_le_mul_of_nonneg_left pi b0
  exact zr_shl n hs hx ⟨k1, by omega, by omega, Int.le_trans k4 (Int.mul_nonneg k1 (Int.natCast_nonneg _)), by omega⟩
theorem zrl_max {lo hi : Int} {x y : Int64} {a b c d : Int} (hx : zrl a b x) (hy : zrl c d y) (h : (lo ≤ a ∨ lo ≤ c) ∧ b ≤ hi ∧ d ≤ hi) : zrl lo hi (zmaxl x y) := by
  obtain ⟨h1, h2⟩ := hx
  obtain ⟨h3, h4⟩ := hy
  unfold zmaxl zrl
  split
  · next q => have := Int64.lt_iff_toInt_lt.mp q; omega
  · next q => have : ¬ y.toInt < x.toInt := fun r => q (Int64.lt_iff_toInt_lt.mpr r); omega
/-! String constants -/
theorem zkN_r {m : Nat} {l : List Nat} {n : Nat} (h : n ∈ l) (c : (l.all (fun i => Nat.ble (zkL i) m) && Nat.ble m 2147483647) = true) : zr 0 m (zkN n) := by
  rw [Bool.and_eq_true, List.all_eq_true] at c
  have c1 := Nat.le_of_ble_eq_true (c.1 n h)
  have c2 := Nat.le_of_ble_eq_true c.2
  have e : (zkN n).toInt = zkL n := Int32.toInt_ofNat_of_lt (by omega)
  unfold zr; rw [e]; omega
theorem z_kL : ∀ n, zkL n < 2147483648 := by
  intro n
  by_cases h : n < 179
  · have : ∀ i : Fin 179, zkL i.val < 2147483648 := by decide +kernel
    exact this ⟨n, h⟩
  · have e : zkL n = zkL 178 := by
      obtain ⟨k, rfl⟩ : ∃ k, n = 179 + k := ⟨n - 179, by omega⟩
      rw [Nat.add_comm]; rfl
    rw [e]; decide +kernel
theorem zin_k {n : Nat} {x : Int32} {a b : Int} (q : ¬ zkN n ≤ x) (h : zr a b x) (c : 0 ≤ a) : zin x (zkL n) = true := by
  have l := z_kL n
  have e : (zkN n).toInt = zkL n := Int32.toInt_ofNat_of_lt (by omega)
  have q1 := Int32.lt_iff_toInt_lt.mp (z_nle q)
  have h1 := h.1
  exact zin_ok (lo := x.toInt) (hi := x.toInt) ⟨Int.le_refl _, Int.le_refl _⟩ ⟨by omega, by omega⟩
theorem z_memlt {n m : Nat} {l : List Nat} (h : n ∈ l) (c : l.all (fun i => Nat.blt i m) = true) : n < m := by
  rw [List.all_eq_true] at c
  exact Nat.blt_eq.mp (c n h)
theorem z_memsub {n : Nat} {l l1 : List Nat} (h : n ∈ l) (c : l.all (fun i => l1.contains i) = true) : n ∈ l1 := by
  rw [List.all_eq_true] at c
  exact List.contains_iff_mem.mp (c n h)
/-- the state of an answer that may be a throw -/
def zRis (r : zRi) : zSt := match r with | Sum.inl x => x.1 | Sum.inr x => x.1
def zRls (r : zRl) : zSt := match r with | Sum.inl x => x.1 | Sum.inr x => x.1
def zRus (r : zRu) : zSt := match r with | Sum.inl x => x | Sum.inr x => x.1
theorem z_su {U a b : Int} {x : Int32} (h : zr a b x) (c : U - a < 2000000) : U - x.toInt < (zfuel : Nat) := by
  have h1 := h.1
  unfold zfuel; omega
theorem z_sd {U a b : Int} {x : Int32} (h : zr a b x) (c : b - U < 2000000) : x.toInt - U < (zfuel : Nat) := by
  have h1 := h.2
  unfold zfuel; omega
theorem z_sul {U a b : Int} {x : Int64} (h : zrl a b x) (c : U - a < 2000000) : U - x.toInt < (zfuel : Nat) := by
  have h1 := h.1
  unfold zfuel; omega
theorem z_trr {σ σ1 : zSt} {k j : Nat} {v : Int32} {j1 a b : Nat} {lo hi : Int} (e : σ1 = zsi σ k j v) (hj : a ≤ j ∧ j ≤ b) (c : j1 < a ∨ b < j1) (h : zr lo hi (zgi σ k j1)) : zr lo hi (zgi σ1 k j1) := z_trj e (by omega) h
theorem z_shl1 : ∀ n : Fin 14, 1 ≤ (zlshl 1 (Int32.ofNat n.val)).toInt ∧ (zlshl 1 (Int32.ofNat n.val)).toInt ≤ 8192 := by decide
theorem zrl_shl {lo hi : Int} {y : Int32} {c d : Int} (hy : zr c d y) (h : 0 ≤ c ∧ d < 14 ∧ lo ≤ 1 ∧ 8192 ≤ hi) : zrl lo hi (zlshl 1 y) := by
  obtain ⟨k2, k3, k4, k5⟩ := h
  have y1 := hy.1
  have y2 := hy.2
  obtain ⟨n, hn⟩ : ∃ n : Nat, y.toInt = n := ⟨y.toInt.toNat, by omega⟩
  have ey : y = Int32.ofNat n := Int32.toInt_inj.mp (by rw [Int32.toInt_ofNat_of_lt (by omega), hn])
  have q := z_shl1 ⟨n, by omega⟩
  rw [← ey] at q
  exact ⟨by omega, by omega⟩
/-! SAFE 2: writes that change frozen cells -/
def zWz (Z : List (Nat × Nat)) (l : List Nat) (k a b : Nat) : Bool := (List.range Z.length).all (fun i => match Z[i]? with | none => true | some z => (!Nat.beq z.1 k || (Nat.blt b z.2 || Nat.blt z.2 a)) || l.contains i)
def zWe (S : List zSeg) (Z : List (Nat × Nat)) (q : Nat × Nat × Int) (l : List Nat) (k a b : Nat) (lo hi : Int) : Bool := (zWi S [] q k a b lo hi && zWz Z l k a b) && Nat.ble Z.length 100
theorem zIV_e {S : List zSeg} {Z ZL : List (Nat × Nat)} {q : Nat × Nat × Int} {G : Nat → Int} {σ : zSt} {l : List Nat} {k j : Nat} {v : Int32} {lo hi : Int} (a b : Nat) (h : zIV S Z ZL q G σ) (hj : a ≤ j ∧ j ≤ b) (hv : zr lo hi v) (c : zWe S Z q l k a b lo hi = true) : ∃ G', zIV S Z ZL q G' (zsi σ k j v) ∧ ∀ i, ¬ i ∈ l → G' i = G i := by
  obtain ⟨h1, h2, h3, h4⟩ := h
  rw [zWe, Bool.and_eq_true, Bool.and_eq_true] at c
  obtain ⟨⟨c1, c2⟩, c3⟩ := c
  have c3 := Nat.le_of_ble_eq_true c3
  have base : zIV S [] ZL q G (zsi σ k j v) := zIV_i a b ⟨h1, fun i z hz => by simp at hz, h3, h4⟩ hj hv c1
  refine ⟨fun i => if i < 100 then (match Z[i]? with | none => G i | some z => ((zsi σ k j v).1 z.1 z.2).toInt) else G i, ⟨base.1, fun i z hz => ?_, fun i z hz => ?_, base.2.2.2⟩, fun i hi => ?_⟩
  · have hl : i < Z.length := (List.getElem?_eq_some_iff.mp hz).1
    show _ = if i < 100 then (match Z[i]? with | none => G i | some z => ((zsi σ k j v).1 z.1 z.2).toInt) else G i
    rw [if_pos (by omega), hz]
  · show _ = if 100 + i < 100 then _ else _
    rw [if_neg (by omega)]
    exact base.2.2.1 i z hz
  · show (if i < 100 then (match Z[i]? with | none => G i | some z => ((zsi σ k j v).1 z.1 z.2).toInt) else G i) = G i
    by_cases g : i < 100
    · rw [if_pos g]
      cases hz : Z[i]? with
      | none => rfl
      | some z =>
        have hl : i < Z.length := (List.getElem?_eq_some_iff.mp hz).1
        rw [zWz, List.all_eq_true] at c2
        have c4 := c2 i (List.mem_range.mpr hl)
        rw [hz] at c4
        have c5 : (!Nat.beq z.1 k || (Nat.blt b z.2 || Nat.blt z.2 a)) = true := by
          have c6 := (Bool.or_eq_true _ _).mp c4
          rcases c6 with c6 | c6
          · exact c6
          · exact absurd (List.contains_iff_mem.mp c6) hi
        show ((zsi σ k j v).1 z.1 z.2).toInt = G i
        rw [zsi_at, if_neg (z_out (x := true) hj c5)]
        exact h2 i z hz
    · rw [if_neg g]
/-- a write into a row all of whose places have one range -/
def zWu (S : List zSeg) (Z : List (Nat × Nat)) (q : Nat × Nat × Int) (k : Nat) (lo hi : Int) : Bool := (S.all (fun s => !Nat.beq s.1 k || (decide (s.2.2.2.1 ≤ lo) && decide (hi ≤ s.2.2.2.2))) && Z.all (fun z => !Nat.beq z.1 k)) && !Nat.beq q.1 k
theorem zIV_u {S : List zSeg} {Z ZL : List (Nat × Nat)} {q : Nat × Nat × Int} {G : Nat → Int} {σ : zSt} {k j : Nat} {v : Int32} {lo hi : Int} (h : zIV S Z ZL q G σ) (hv : zr lo hi v) (c : zWu S Z q k lo hi = true) : zIV S Z ZL q G (zsi σ k j v) := by
  obtain ⟨h1, h2, h3, h4⟩ := h
  rw [zWu, Bool.and_eq_true, Bool.and_eq_true, List.all_eq_true, List.all_eq_true] at c
  obtain ⟨⟨c1, c2⟩, c3⟩ := c
  refine ⟨fun s hs j1 l1 l2 => ?_, fun i z hz => ?_, h3, ?_⟩
  · rw [zsi_at]
    by_cases r : s.1 = k ∧ j1 = j
    · rw [if_pos r]
      obtain ⟨r1, r2⟩ := r
      have c4 := c1 s hs
      rw [r1, show Nat.beq k k = true from Nat.beq_refl k] at c4
      simp only [Bool.not_true, Bool.false_or, Bool.and_eq_true, decide_eq_true_eq] at c4
      obtain ⟨v1, v2⟩ := hv
      exact ⟨by omega, by omega⟩
    · rw [if_neg r]; exact h1 s hs j1 l1 l2
  · rw [zsi_ne (z_nb (c2 z (List.mem_of_getElem? hz)))]; exact h2 i z hz
  · unfold zSp; rw [zsi_ne (z_nb c3)]; exact h4
theorem z_trp {σ σ1 : zSt} {x v : Int32} {j k1 j1 : Nat} {lo hi : Int} (e : σ1 = zsi σ (ztp x) j v) (c : (Nat.beq k1 13 || Nat.beq k1 14) = false) (h : zr lo hi (zgi σ k1 j1)) : zr lo hi (zgi σ1 k1 j1) := by
  have c1 := (Bool.or_eq_false_iff.mp c)
  unfold ztp at e
  split at e
  · exact z_tr e c1.1 h
  · exact z_tr e c1.2 h
theorem z_getD {P : Int32 → Prop} {l : List Int32} {d : Int32} (h : ∀ x ∈ l, P x) (h0 : P d) (j : Nat) : P (l.getD j d) := by
  rw [List.getD_eq_getElem?_getD]
  cases q : l[j]? with
  | none => exact h0
  | some x => exact h x (List.mem_of_getElem? q)
def zRik (l : List Nat) (r : zRi) : Prop := match r with | Sum.inl _ => True | Sum.inr x => x.2 ∈ l
def zTi (I : zSt → Prop) (l : List Nat) (r : zRi) : Prop := I (zRis r) ∧ zRik l r
theorem zok_ti0 {I : zSt → Prop} {l : List Nat} {σ : zSt} {v : Int32} (h : I σ) : zok (some ((Sum.inl (σ, v)) : zRi)) (zTi I l) := ⟨_, rfl, h, trivial⟩
theorem zok_ti1 {I : zSt → Prop} {l : List Nat} {σ : zSt} {k : Nat} (h : I σ) (c : k ∈ l) : zok (some (Sum.inr (σ, k) : zRi)) (zTi I l) := ⟨_, rfl, h, c⟩
def zRlk (l : List Nat) (r : zRl) : Prop := match r with | Sum.inl _ => True | Sum.inr x => x.2 ∈ l
def zTl (I : zSt → Prop) (l : List Nat) (r : zRl) : Prop := I (zRls r) ∧ zRlk l r
theorem zok_tl0 {I : zSt → Prop} {l : List Nat} {σ : zSt} {v : Int64} (h : I σ) : zok (some ((Sum.inl (σ, v)) : zRl)) (zTl I l) := ⟨_, rfl, h, trivial⟩
theorem zok_tl1 {I : zSt → Prop} {l : List Nat} {σ : zSt} {k : Nat} (h : I σ) (c : k ∈ l) : zok (some (Sum.inr (σ, k) : zRl)) (zTl I l) := ⟨_, rfl, h, c⟩
def zRuk (l : List Nat) (r : zRu) : Prop := match r with | Sum.inl _ => True | Sum.inr x => x.2 ∈ l
def zTu (I : zSt → Prop) (l : List Nat) (r : zRu) : Prop := I (zRus r) ∧ zRuk l r
theorem zok_tu0 {I : zSt → Prop} {l : List Nat} {σ : zSt} (h : I σ) : zok (some ((Sum.inl σ) : zRu)) (zTu I l) := ⟨_, rfl, h, trivial⟩
theorem zok_tu1 {I : zSt → Prop} {l : List Nat} {σ : zSt} {k : Nat} (h : I σ) (c : k ∈ l) : zok (some (Sum.inr (σ, k) : zRu)) (zTu I l) := ⟨_, rfl, h, c⟩
