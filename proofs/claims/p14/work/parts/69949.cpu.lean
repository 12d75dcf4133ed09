/-! CELLS THAT BELONG TOGETHER, AROUND THE PROCESSOR -/
/-- class's row, first cell, how many; reference's row, first cell; mask -/
def zTb : List (Nat × Nat × Nat × Nat × Nat × Int32) := [(34, 0, 1, 3, 33, (-1)), (34, 1, 5, 3, 37, (-1)), (34, 6, 1, 3, 35, (-1)), (34, 7, 5, 3, 42, (-1)), (23, 0, 17, 3, 47, (-1)), (23, 18, 4, 3, 64, (-1)), (23, 26, 1, 3, 68, (-1)), (23, 32, 64, 8, 0, 255), (21, 0, 16384, 7, 0, 255), (30, 0, 3, 3, 69, (-1)), (30, 9, 5, 3, 78, (-1)), (30, 17, 1, 3, 86, (-1)), (30, 18, 1, 3, 34, (-1)), (32, 0, 64, 3, 98, (-1)), (32, 64, 1, 3, 163, (-1)), (32, 68, 1, 3, 162, (-1)), (40, 0, 8, 3, 90, (-1)), (40, 8, 1, 3, 89, (-1)), (25, 0, 61440, 9, 0, (-1))]
def zE (σ μ : zSt) : Prop := ∀ t ∈ zTb, ∀ i : Nat, i < t.2.2.1 → μ.1 t.2.2.2.1 (t.2.2.2.2.1 + i) &&& t.2.2.2.2.2 = σ.1 t.1 (t.2.1 + i)
def zDj (s t : Nat × Nat × Nat × Nat × Nat × Int32) : Bool := (Nat.beq s.1 t.1 && (Nat.beq s.2.1 t.2.1 && (Nat.beq s.2.2.1 t.2.2.1 && (Nat.beq s.2.2.2.1 t.2.2.2.1 && (Nat.beq s.2.2.2.2.1 t.2.2.2.2.1 && decide (s.2.2.2.2.2 = t.2.2.2.2.2)))))) || ((!(Nat.beq s.1 t.1) || (Nat.ble (s.2.1 + s.2.2.1) t.2.1 || Nat.ble (t.2.1 + t.2.2.1) s.2.1)) && (!(Nat.beq s.2.2.2.1 t.2.2.2.1) || (Nat.ble (s.2.2.2.2.1 + s.2.2.1) t.2.2.2.2.1 || Nat.ble (t.2.2.2.2.1 + t.2.2.1) s.2.2.2.2.1)))
theorem zTb_dj : (zTb.all (fun s => zTb.all (fun t => zDj s t))) = true := by decide +kernel
theorem zTb_d {s t : Nat × Nat × Nat × Nat × Nat × Int32} (hs : s ∈ zTb) (ht : t ∈ zTb) : s = t ∨ ((¬ s.1 = t.1 ∨ s.2.1 + s.2.2.1 ≤ t.2.1 ∨ t.2.1 + t.2.2.1 ≤ s.2.1) ∧ (¬ s.2.2.2.1 = t.2.2.2.1 ∨ s.2.2.2.2.1 + s.2.2.1 ≤ t.2.2.2.2.1 ∨ t.2.2.2.2.1 + t.2.2.1 ≤ s.2.2.2.2.1)) := by
  have d := zTb_dj
  rw [List.all_eq_true] at d
  have d1 := d s hs
  rw [List.all_eq_true] at d1
  have d2 := d1 t ht
  unfold zDj at d2
  rw [Bool.or_eq_true] at d2
  rcases d2 with q | q
  · left
    rw [Bool.and_eq_true, Bool.and_eq_true, Bool.and_eq_true, Bool.and_eq_true, Bool.and_eq_true] at q
    obtain ⟨q1, q2, q3, q4, q5, q6⟩ := q
    obtain ⟨s1, s2, s3, s4, s5, s6⟩ := s
    obtain ⟨t1, t2, t3, t4, t5, t6⟩ := t
    have e1 : s1 = t1 := Nat.eq_of_beq_eq_true q1
    have e2 : s2 = t2 := Nat.eq_of_beq_eq_true q2
    have e3 : s3 = t3 := Nat.eq_of_beq_eq_true q3
    have e4 : s4 = t4 := Nat.eq_of_beq_eq_true q4
    have e5 : s5 = t5 := Nat.eq_of_beq_eq_true q5
    have e6 : s6 = t6 := of_decide_eq_true q6
    rw [e1, e2, e3, e4, e5, e6]
  · right
    rw [Bool.and_eq_true, Bool.or_eq_true, Bool.or_eq_true, Bool.or_eq_true, Bool.or_eq_true] at q
    obtain ⟨q1, q2⟩ := q
    refine ⟨?_, ?_⟩
    · rcases q1 with x | x | x
      · left
        intro e
        rw [e, Nat.beq_refl] at x
        exact absurd x (by decide)
      · exact Or.inr (Or.inl (Nat.le_of_ble_eq_true x))
      · exact Or.inr (Or.inr (Nat.le_of_ble_eq_true x))
    · rcases q2 with x | x | x
      · left
        intro e
        rw [e, Nat.beq_refl] at x
        exact absurd x (by decide)
      · exact Or.inr (Or.inl (Nat.le_of_ble_eq_true x))
      · exact Or.inr (Or.inr (Nat.le_of_ble_eq_true x))
/-- partners -/
def zPn (k j r i : Nat) (m : Int32) : Prop := ∃ t ∈ zTb, t.1 = k ∧ t.2.2.2.1 = r ∧ t.2.2.2.2.2 = m ∧ ∃ d : Nat, d < t.2.2.1 ∧ t.2.1 + d = j ∧ t.2.2.2.2.1 + d = i
theorem zE.at {σ μ : zSt} (h : zE σ μ) {k j r i : Nat} {m : Int32} (p : zPn k j r i m) : μ.1 r i &&& m = σ.1 k j := by
  obtain ⟨t, ht, e1, e2, e3, d, hd, e4, e5⟩ := p
  have q := h t ht d hd
  rw [e1, e2, e3, e4, e5] at q
  exact q
theorem zE.wr {σ μ : zSt} (h : zE σ μ) {k j r i : Nat} {m v w : Int32} (p : zPn k j r i m) (e : w &&& m = v) : zE (zsi σ k j v) (zsi μ r i w) := by
  obtain ⟨t, ht, e1, e2, e3, d, hd, e4, e5⟩ := p
  intro s hs x hx
  rw [zsi_at, zsi_at]
  rcases zTb_d hs ht with q | ⟨q1, q2⟩
  · subst q
    by_cases y : x = d
    · subst y
      rw [if_pos ⟨e2, e5⟩, if_pos ⟨e1, e4⟩, e3]
      exact e
    · rw [if_neg (fun z => y (by have := z.2; omega)), if_neg (fun z => y (by have := z.2; omega))]
      exact h s hs x hx
  · rw [if_neg (fun z => by
      rcases q2 with a | a | a
      · exact a (z.1.trans e2.symm)
      · have := z.2; omega
      · have := z.2; omega), if_neg (fun z => by
      rcases q1 with a | a | a
      · exact a (z.1.trans e1.symm)
      · have := z.2; omega
      · have := z.2; omega)]
    exact h s hs x hx
/-- cells without a partner -/
def zNc (k j : Nat) : Bool := zTb.all (fun t => !(Nat.beq t.1 k) || (Nat.blt j t.2.1 || Nat.ble (t.2.1 + t.2.2.1) j))
def zNmm (r i : Nat) : Bool := zTb.all (fun t => !(Nat.beq t.2.2.2.1 r) || (Nat.blt i t.2.2.2.2.1 || Nat.ble (t.2.2.2.2.1 + t.2.2.1) i))
theorem zE.wc {σ μ : zSt} (h : zE σ μ) {k j : Nat} {v : Int32} (c : zNc k j = true) : zE (zsi σ k j v) μ := by
  intro s hs x hx
  unfold zNc at c
  rw [List.all_eq_true] at c
  have d := c s hs
  rw [Bool.or_eq_true, Bool.or_eq_true] at d
  rw [zsi_at, if_neg (fun z => ?_)]
  · exact h s hs x hx
  · rcases d with a | a | a
    · rw [z.1, Nat.beq_refl] at a
      exact absurd a (by decide)
    · have := Nat.le_of_ble_eq_true a
      have := z.2
      omega
    · have := Nat.le_of_ble_eq_true a
      have := z.2
      omega
theorem zE.wm {σ μ : zSt} (h : zE σ μ) {r i : Nat} {v : Int32} (c : zNmm r i = true) : zE σ (zsi μ r i v) := by
  intro s hs x hx
  unfold zNmm at c
  rw [List.all_eq_true] at c
  have d := c s hs
  rw [Bool.or_eq_true, Bool.or_eq_true] at d
  rw [zsi_at, if_neg (fun z => ?_)]
  · exact h s hs x hx
  · rcases d with a | a | a
    · rw [z.1, Nat.beq_refl] at a
      exact absurd a (by decide)
    · have := Nat.le_of_ble_eq_true a
      have := z.2
      omega
    · have := Nat.le_of_ble_eq_true a
      have := z.2
      omega
theorem zE.keep {σ μ σ' μ' : zSt} (h : zE σ μ) (c : ∀ t ∈ zTb, ∀ i : Nat, i < t.2.2.1 → σ'.1 t.1 (t.2.1 + i) = σ.1 t.1 (t.2.1 + i)) (d : ∀ t ∈ zTb, ∀ i : Nat, i < t.2.2.1 → μ'.1 t.2.2.2.1 (t.2.2.2.2.1 + i) = μ.1 t.2.2.2.1 (t.2.2.2.2.1 + i)) : zE σ' μ' := fun t ht i hi => by
  rw [c t ht i hi, d t ht i hi]
  exact h t ht i hi
theorem z_pn34_0 {d : Nat} (h : d < 1) : zPn 34 (0 + d) 3 (33 + d) (-1) := ⟨(34, 0, 1, 3, 33, (-1)), by decide +kernel, rfl, rfl, rfl, d, h, rfl, rfl⟩
theorem z_pn34_1 {d : Nat} (h : d < 5) : zPn 34 (1 + d) 3 (37 + d) (-1) := ⟨(34, 1, 5, 3, 37, (-1)), by decide +kernel, rfl, rfl, rfl, d, h, rfl, rfl⟩
theorem z_pn34_6 {d : Nat} (h : d < 1) : zPn 34 (6 + d) 3 (35 + d) (-1) := ⟨(34, 6, 1, 3, 35, (-1)), by decide +kernel, rfl, rfl, rfl, d, h, rfl, rfl⟩
theorem z_pn34_7 {d : Nat} (h : d < 5) : zPn 34 (7 + d) 3 (42 + d) (-1) := ⟨(34, 7, 5, 3, 42, (-1)), by decide +kernel, rfl, rfl, rfl, d, h, rfl, rfl⟩
theorem z_pn23_0 {d : Nat} (h : d < 17) : zPn 23 (0 + d) 3 (47 + d) (-1) := ⟨(23, 0, 17, 3, 47, (-1)), by decide +kernel, rfl, rfl, rfl, d, h, rfl, rfl⟩
theorem z_pn23_18 {d : Nat} (h : d < 4) : zPn 23 (18 + d) 3 (64 + d) (-1) := ⟨(23, 18, 4, 3, 64, (-1)), by decide +kernel, rfl, rfl, rfl, d, h, rfl, rfl⟩
theorem z_pn23_26 {d : Nat} (h : d < 1) : zPn 23 (26 + d) 3 (68 + d) (-1) := ⟨(23, 26, 1, 3, 68, (-1)), by decide +kernel, rfl, rfl, rfl, d, h, rfl, rfl⟩
theorem z_pn23_32 {d : Nat} (h : d < 64) : zPn 23 (32 + d) 8 (0 + d) 255 := ⟨(23, 32, 64, 8, 0, 255), by decide +kernel, rfl, rfl, rfl, d, h, rfl, rfl⟩
theorem z_pn21_0 {d : Nat} (h : d < 16384) : zPn 21 (0 + d) 7 (0 + d) 255 := ⟨(21, 0, 16384, 7, 0, 255), by decide +kernel, rfl, rfl, rfl, d, h, rfl, rfl⟩
theorem z_pn30_0 {d : Nat} (h : d < 3) : zPn 30 (0 + d) 3 (69 + d) (-1) := ⟨(30, 0, 3, 3, 69, (-1)), by decide +kernel, rfl, rfl, rfl, d, h, rfl, rfl⟩
theorem z_pn30_9 {d : Nat} (h : d < 5) : zPn 30 (9 + d) 3 (78 + d) (-1) := ⟨(30, 9, 5, 3, 78, (-1)), by decide +kernel, rfl, rfl, rfl, d, h, rfl, rfl⟩
theorem z_pn30_17 {d : Nat} (h : d < 1) : zPn 30 (17 + d) 3 (86 + d) (-1) := ⟨(30, 17, 1, 3, 86, (-1)), by decide +kernel, rfl, rfl, rfl, d, h, rfl, rfl⟩
theorem z_pn30_18 {d : Nat} (h : d < 1) : zPn 30 (18 + d) 3 (34 + d) (-1) := ⟨(30, 18, 1, 3, 34, (-1)), by decide +kernel, rfl, rfl, rfl, d, h, rfl, rfl⟩
theorem z_pn32_0 {d : Nat} (h : d < 64) : zPn 32 (0 + d) 3 (98 + d) (-1) := ⟨(32, 0, 64, 3, 98, (-1)), by decide +kernel, rfl, rfl, rfl, d, h, rfl, rfl⟩
theorem z_pn32_64 {d : Nat} (h : d < 1) : zPn 32 (64 + d) 3 (163 + d) (-1) := ⟨(32, 64, 1, 3, 163, (-1)), by decide +kernel, rfl, rfl, rfl, d, h, rfl, rfl⟩
theorem z_pn32_68 {d : Nat} (h : d < 1) : zPn 32 (68 + d) 3 (162 + d) (-1) := ⟨(32, 68, 1, 3, 162, (-1)), by decide +kernel, rfl, rfl, rfl, d, h, rfl, rfl⟩
theorem z_pn40_0 {d : Nat} (h : d < 8) : zPn 40 (0 + d) 3 (90 + d) (-1) := ⟨(40, 0, 8, 3, 90, (-1)), by decide +kernel, rfl, rfl, rfl, d, h, rfl, rfl⟩
theorem z_pn40_8 {d : Nat} (h : d < 1) : zPn 40 (8 + d) 3 (89 + d) (-1) := ⟨(40, 8, 1, 3, 89, (-1)), by decide +kernel, rfl, rfl, rfl, d, h, rfl, rfl⟩
theorem z_pn25_0 {d : Nat} (h : d < 61440) : zPn 25 (0 + d) 9 (0 + d) (-1) := ⟨(25, 0, 61440, 9, 0, (-1)), by decide +kernel, rfl, rfl, rfl, d, h, rfl, rfl⟩
