/-! WHAT IS LEFT ALONE -/
def zof (R : List Nat) (A : List (Nat × Nat × Nat)) (k a b : Nat) : Bool := !(R.any (Nat.beq k)) && A.all (fun e => !(Nat.beq e.1 k) || (Nat.blt e.2.2 a || Nat.blt b e.2.1))
def zrw (R : List Nat) (A : List (Nat × Nat × Nat)) (k : Nat) : Bool := !(R.any (Nat.beq k)) && A.all (fun e => !(Nat.beq e.1 k))
theorem zof_cv {R : List Nat} {A : List (Nat × Nat × Nat)} {k a b j : Nat} (c : zof R A k a b = true) (h1 : a ≤ j) (h2 : j ≤ b) : zcv R A k j = false := by
  unfold zof at c
  rw [Bool.and_eq_true, Bool.not_eq_true', List.all_eq_true] at c
  unfold zcv
  rw [Bool.or_eq_false_iff]
  refine ⟨c.1, ?_⟩
  rw [List.any_eq_false]
  intro e he q
  rw [Bool.and_eq_true, Bool.and_eq_true] at q
  obtain ⟨q1, q2, q3⟩ := q
  have a2 := Nat.le_of_ble_eq_true q2
  have a3 := Nat.le_of_ble_eq_true q3
  have d := c.2 e he
  rw [q1, Bool.not_true, Bool.false_or, Bool.or_eq_true] at d
  rcases d with d | d
  · have := Nat.le_of_ble_eq_true d
    omega
  · have := Nat.le_of_ble_eq_true d
    omega
theorem zrw_cv {R : List Nat} {A : List (Nat × Nat × Nat)} {k j : Nat} (c : zrw R A k = true) : zcv R A k j = false := by
  unfold zrw at c
  rw [Bool.and_eq_true, Bool.not_eq_true', List.all_eq_true] at c
  unfold zcv
  rw [Bool.or_eq_false_iff]
  refine ⟨c.1, ?_⟩
  rw [List.any_eq_false]
  intro e he q
  rw [Bool.and_eq_true] at q
  have d := c.2 e he
  rw [q.1] at d
  cases d
section ZKP
variable {R R' S S' : List Nat} {A A' B B' : List (Nat × Nat × Nat)} {σ μ σ' μ' : zSt}
theorem zQ.o (h : zQ R A S B σ σ') {k a b j : Nat} (c : zof R A k a b = true) (h1 : a ≤ j) (h2 : j ≤ b) : σ'.1 k j = σ.1 k j := h.1 k j (zof_cv c h1 h2)
theorem zQ.ro (h : zQ R A S B σ σ') {k : Nat} (c : zrw R A k = true) : σ'.1 k = σ.1 k := funext fun j => h.1 k j (zrw_cv c)
theorem zQ.lo (h : zQ R A S B σ σ') {k a b j : Nat} (c : zof S B k a b = true) (h1 : a ≤ j) (h2 : j ≤ b) : σ'.2 k j = σ.2 k j := h.2 k j (zof_cv c h1 h2)
theorem zQ.rlo (h : zQ R A S B σ σ') {k : Nat} (c : zrw S B k = true) : σ'.2 k = σ.2 k := funext fun j => h.2 k j (zrw_cv c)
def zmC (R : List Nat) (A : List (Nat × Nat × Nat)) : Bool := zrw R A 1 && (zrw R A 13 && (zrw R A 14 && (zrw R A 15 && (zrw R A 17 && zrw R A 19))))
def zmM (R : List Nat) (A : List (Nat × Nat × Nat)) : Bool := zrw R A 2 && (zrw R A 5 && (zrw R A 6 && (zof R A 0 5 9 && zof R A 3 29 32)))
theorem zM2.kp (h : zM2 σ μ) (a : zQ R A S B σ σ') (b : zQ R' A' S' B' μ μ') (c : zmC R A = true) (d : zmM R' A' = true) : zM2 σ' μ' := by
  obtain ⟨⟨h1, h2, h3, h4, h5, h6⟩, ⟨r1, r2, r3, r4, r5, r6⟩⟩ := h
  unfold zmC at c
  rw [Bool.and_eq_true, Bool.and_eq_true, Bool.and_eq_true, Bool.and_eq_true, Bool.and_eq_true] at c
  obtain ⟨k1, k13, k14, k15, k17, k19⟩ := c
  unfold zmM at d
  rw [Bool.and_eq_true, Bool.and_eq_true, Bool.and_eq_true, Bool.and_eq_true] at d
  obtain ⟨m2, m5, m6, m0, m3⟩ := d
  have c1 := a.ro k1
  have g2 := b.ro m2
  have g0 : ∀ j, 5 ≤ j → j ≤ 9 → μ'.1 0 j = μ.1 0 j := fun j p q => b.o m0 p q
  have g3 : ∀ j, 29 ≤ j → j ≤ 32 → μ'.1 3 j = μ.1 3 j := fun j p q => b.o m3 p q
  refine ⟨⟨fun j hj => ?_, fun j hj => ?_, fun j hj => ?_, ?_, ?_, ?_⟩, ⟨?_, ?_, ?_, ?_, ?_, fun j j1 j2 => ?_⟩⟩
  · rw [a.ro k15, b.ro m5]; exact h1 j hj
  · rw [a.ro k17, b.ro m6]; exact h2 j hj
  · rw [a.ro k19, g3 (29 + j) (by omega) (by omega)]; exact h3 j hj
  · rw [a.ro k19, g3 32 (by decide) (by decide)]; exact h4
  · refine h5.keep (fun j _ => by rw [c1]) ?_ (fun j hj => g0 j ?_ ?_) g2
    · rcases z_tp13 (σ.1 1 1) with e | e
      · rw [e]; exact a.ro k13
      · rw [e]; exact a.ro k14
    · revert hj
      simp only [List.mem_cons, List.not_mem_nil, or_false]
      omega
    · revert hj
      simp only [List.mem_cons, List.not_mem_nil, or_false]
      omega
  · unfold zFil
    rw [g0 5 (by decide) (by decide), g0 6 (by decide) (by decide), g2]
    exact h6
  · rw [c1]; exact r1
  · rw [c1]; exact r2
  · rw [g0 6 (by decide) (by decide)]; exact r3
  · rw [g0 7 (by decide) (by decide)]; exact r4
  · rw [g0 7 (by decide) (by decide), g0 6 (by decide) (by decide)]; exact r5
  · rw [g3 j j1 j2]; exact r6 j j1 j2
def zeC (R : List Nat) (A : List (Nat × Nat × Nat)) : Bool := zTb.all (fun t => zof R A t.1 t.2.1 (t.2.1 + t.2.2.1 - 1)) && (zGt.all (fun t => zof R A t.1 t.2.1 (t.2.1 + t.2.2.1 - 1)) && (zof R A 0 0 0 && (zof R A 2 0 1 && (zof R A 3 1 1 && zof R A 6 0 0))))
def zeM (R : List Nat) (A : List (Nat × Nat × Nat)) : Bool := zTb.all (fun t => zof R A t.2.2.2.1 t.2.2.2.2.1 (t.2.2.2.2.1 + t.2.2.1 - 1)) && zof R A 0 3 3
theorem zGf_mem {k j : Nat} {a b : Int} : ∀ {l : List (Nat × Nat × Nat × Int × Int)}, zGf k j l = some (a, b) → ∃ t ∈ l, t.1 = k ∧ t.2.1 ≤ j ∧ j < t.2.1 + t.2.2.1
  | [], h => by cases h
  | t :: l, h => by
    unfold zGf at h
    cases q : (Nat.beq t.1 k && (Nat.ble t.2.1 j && Nat.blt j (t.2.1 + t.2.2.1))) with
    | true =>
      rw [Bool.and_eq_true, Bool.and_eq_true] at q
      exact ⟨t, List.mem_cons_self, Nat.eq_of_beq_eq_true q.1, Nat.le_of_ble_eq_true q.2.1, Nat.le_of_ble_eq_true q.2.2⟩
    | false =>
      rw [q, cond_false] at h
      obtain ⟨x, x1, x2⟩ := zGf_mem h
      exact ⟨x, List.mem_cons_of_mem _ x1, x2⟩
theorem zVe.kp (h : zVe σ μ) (a : zQ R A S B σ σ') (b : zQ R' A' S' B' μ μ') (c : zeC R A = true) (d : zeM R' A' = true) : zVe σ' μ' := by
  unfold zeC at c
  rw [Bool.and_eq_true, Bool.and_eq_true, Bool.and_eq_true, Bool.and_eq_true, Bool.and_eq_true, List.all_eq_true, List.all_eq_true] at c
  obtain ⟨ct, cg, c0, c2, c3, c6⟩ := c
  unfold zeM at d
  rw [Bool.and_eq_true, List.all_eq_true] at d
  obtain ⟨dt, d0⟩ := d
  refine h.of (h.1.keep (fun t ht i hi => a.o (ct t ht) (by omega) (by omega)) (fun t ht i hi => b.o (dt t ht) (by omega) (by omega))) (fun k j x y e => ?_) ⟨a.o c0 (by decide) (by decide), a.o c2 (by decide) (by decide), a.o c3 (by decide) (by decide), a.o c6 (by decide) (by decide), a.o c2 (by decide) (by decide)⟩ (b.o d0 (by decide) (by decide)) ?_
  · obtain ⟨t, ht, e1, e2, e3⟩ := zGf_mem e
    have z := cg t ht
    rw [e1] at z
    rw [a.o z e2 (by omega)]
    exact h.2.1 k j x y e
  · exact a.o (ct (23, 18, 4, 3, 64, (-1)) (by decide +kernel)) (by decide) (by decide)
/-! THE WHOLE RELATION -/
/-- plans: a ring on the class's side, a row on the reference's -/
def zPlr (σ μ : zSt) : Prop := σ.1 42 769 = μ.1 3 171 ∧ zr 0 256 (μ.1 3 171) ∧ zr 0 255 (σ.1 42 768) ∧ (∀ k r : Nat, (k : Int) < (μ.1 3 171).toInt → r < 3 → σ.1 42 (3 * (((σ.1 42 768).toNatClampNeg + k) % 256) + r) = μ.1 3 (280 + 3 * k + r)) ∧ (∀ k : Nat, (k : Int) < (μ.1 3 171).toInt → zr 0 1 (μ.1 3 (280 + 3 * k + 1)) ∧ zr 0 63 (μ.1 3 (280 + 3 * k + 2)) ∧ 0 ≤ (μ.1 3 (280 + 3 * k + 0)).toInt)
/-- the last steps -/
def zSpt (B : Int) (σ μ : zSt) : Prop := 0 ≤ (μ.2 0 30).toInt ∧ (μ.2 0 30).toInt ≤ B ∧ zr 0 31 (σ.1 9 5) ∧ (σ.1 9 5).toInt = (μ.2 0 30).toInt % 32 ∧ (∀ j : Nat, j < 32 → ((j : Int) < (μ.2 0 30).toInt → σ.1 44 j = μ.1 21 j) ∧ ((μ.2 0 30).toInt ≤ (j : Int) → σ.1 44 j = -1))
def zCt (P : Int) (σ μ : zSt) : Prop := σ.2 38 0 = μ.2 4 0 ∧ σ.2 38 1 = μ.2 4 1 ∧ σ.2 38 2 = μ.2 4 2 ∧ 0 ≤ (μ.2 4 2).toInt ∧ (μ.2 4 2).toInt ≤ P
/-- how far the beam has come, at least -/
def zMt (μ : zSt) : Int := ((μ.2 4 2).toInt * (if μ.1 0 3 = 1 then 313 else 262) + (μ.1 3 66).toInt) * 228 + (μ.1 3 67).toInt
def zMs (C : Int) (μ : zSt) : Prop := C ≤ zMt μ
def zJj (B : Int × Int × Int) (σ μ : zSt) : Prop := zPlr σ μ ∧ zSpt B.1 σ μ ∧ zCt B.2.1 σ μ ∧ zMs B.2.2 μ
def zIa (B : Int × Int × Int) (σ μ : zSt) : Prop := zVe σ μ ∧ zJj B σ μ
def zjC (R : List Nat) (A : List (Nat × Nat × Nat)) (S : List Nat) (B : List (Nat × Nat × Nat)) : Bool := zrw R A 42 && (zrw R A 44 && (zof R A 9 5 5 && zof S B 38 0 2))
def zjM (R : List Nat) (A : List (Nat × Nat × Nat)) (S : List Nat) (B : List (Nat × Nat × Nat)) : Bool := zof R A 3 171 171 && (zof R A 3 280 1047 && (zrw R A 21 && (zof S B 0 30 30 && (zof S B 4 0 2 && (zof R A 3 66 67 && zof R A 0 3 3)))))
def zjlC (R : List Nat) (A : List (Nat × Nat × Nat)) : Bool := zrw R A 42
def zjlM (R : List Nat) (A : List (Nat × Nat × Nat)) : Bool := zof R A 3 171 171 && zof R A 3 280 1047
theorem zPlr.kp (h : zPlr σ μ) (a : zQ R A S B σ σ') (b : zQ R' A' S' B' μ μ') (c : zjlC R A = true) (d : zjlM R' A' = true) : zPlr σ' μ' := by
  unfold zjlC at c
  unfold zjlM at d
  rw [Bool.and_eq_true] at d
  obtain ⟨d171, d280⟩ := d
  have e42 := a.ro c
  have f171 : μ'.1 3 171 = μ.1 3 171 := b.o d171 (by decide) (by decide)
  have f280 : ∀ k r : Nat, (k : Int) < (μ.1 3 171).toInt → (μ.1 3 171).toInt ≤ 256 → r < 3 → μ'.1 3 (280 + 3 * k + r) = μ.1 3 (280 + 3 * k + r) := fun k r p q z => b.o d280 (by omega) (by omega)
  obtain ⟨p1, p2, p3, p4, p5⟩ := h
  refine ⟨?_, ?_, ?_, fun k r hk hr => ?_, fun k hk => ?_⟩
  · rw [e42, f171]; exact p1
  · rw [f171]; exact p2
  · rw [e42]; exact p3
  · rw [f171] at hk
    rw [e42, f280 k r hk p2.2 hr]
    exact p4 k r hk hr
  · rw [f171] at hk
    rw [f280 k 1 hk p2.2 (by decide), f280 k 2 hk p2.2 (by decide), f280 k 0 hk p2.2 (by decide)]
    exact p5 k hk
theorem zSpt.kp {K : Int} (h : zSpt K σ μ) (a : zQ R A S B σ σ') (b : zQ R' A' S' B' μ μ') (c44 : zrw R A 44 = true) (c9 : zof R A 9 5 5 = true) (d21 : zrw R' A' 21 = true) (d0 : zof S' B' 0 30 30 = true) : zSpt K σ' μ' := by
  have e44 := a.ro c44
  have e9 : σ'.1 9 5 = σ.1 9 5 := a.o c9 (by decide) (by decide)
  have f21 := b.ro d21
  have f30 : μ'.2 0 30 = μ.2 0 30 := b.lo d0 (by decide) (by decide)
  obtain ⟨s1, s2, s3, s4, s5⟩ := h
  refine ⟨?_, ?_, ?_, ?_, fun j hj => ?_⟩
  · rw [f30]; exact s1
  · rw [f30]; exact s2
  · rw [e9]; exact s3
  · rw [e9, f30]; exact s4
  · rw [f30, e44, f21]; exact s5 j hj
theorem zMs.kp {C : Int} (h : zMs C μ) (b : zQ R' A' S' B' μ μ') (d4 : zof S' B' 4 0 2 = true) (d66 : zof R' A' 3 66 67 = true) (d3 : zof R' A' 0 3 3 = true) : zMs C μ' := by
  unfold zMs zMt
  rw [b.lo d4 (j := 2) (by decide) (by decide), b.o d66 (j := 66) (by decide) (by decide), b.o d66 (j := 67) (by decide) (by decide), b.o d3 (j := 3) (by decide) (by decide)]
  exact h
theorem zJj.kp {K : Int × Int × Int} (h : zJj K σ μ) (a : zQ R A S B σ σ') (b : zQ R' A' S' B' μ μ') (c : zjC R A S B = true) (d : zjM R' A' S' B' = true) : zJj K σ' μ' := by
  unfold zjC at c
  rw [Bool.and_eq_true, Bool.and_eq_true, Bool.and_eq_true] at c
  obtain ⟨c42, c44, c9, c38⟩ := c
  unfold zjM at d
  rw [Bool.and_eq_true, Bool.and_eq_true, Bool.and_eq_true, Bool.and_eq_true, Bool.and_eq_true, Bool.and_eq_true] at d
  obtain ⟨d171, d280, d21, d0, d4, d66, d3⟩ := d
  obtain ⟨p, s, ⟨t1, t2, t3, t4, t5⟩, ms⟩ := h
  refine ⟨p.kp a b c42 (by unfold zjlM; rw [d171, d280]; rfl), s.kp a b c44 c9 d21 d0, ⟨?_, ?_, ?_, ?_, ?_⟩, ms.kp b d4 d66 d3⟩
  · rw [a.lo c38 (j := 0) (by decide) (by decide), b.lo d4 (j := 0) (by decide) (by decide)]; exact t1
  · rw [a.lo c38 (j := 1) (by decide) (by decide), b.lo d4 (j := 1) (by decide) (by decide)]; exact t2
  · rw [a.lo c38 (j := 2) (by decide) (by decide), b.lo d4 (j := 2) (by decide) (by decide)]; exact t3
  · rw [b.lo d4 (j := 2) (by decide) (by decide)]; exact t4
  · rw [b.lo d4 (j := 2) (by decide) (by decide)]; exact t5
theorem zIoK_a {K : Int × Int × Int} : zIoK (zIa K) := fun σ μ σ' μ' h a b => ⟨h.1.kp a b (by decide +kernel) (by decide +kernel), h.2.kp a b rfl rfl⟩
theorem zTT.kp {I J : zSt → zSt → Prop} (h : zTT I σ μ) (hI : J σ' μ') (a : zQ R A S B σ σ') (b : zQ R' A' S' B' μ μ') (c : (zmC R A && (zrw R A 36 && zof R A 7 4 5)) = true) (d : (zmM R' A' && (zof R' A' 3 0 28 && zof R' A' 0 31 32)) = true) : zTT J σ' μ' ∧ zPkk σ σ' μ μ' := by
  rw [Bool.and_eq_true, Bool.and_eq_true] at c d
  obtain ⟨c1, c2, c3⟩ := c
  obtain ⟨d1, d2, d3⟩ := d
  have e36 := a.ro c2
  have e3 : ∀ j, j ≤ 28 → μ'.1 3 j = μ.1 3 j := fun j hj => b.o d2 (by omega) hj
  have e74 : σ'.1 7 4 = σ.1 7 4 := a.o c3 (by decide) (by decide)
  have e31 : μ'.1 0 31 = μ.1 0 31 := b.o d3 (by decide) (by decide)
  obtain ⟨h1, ⟨q1, q2, q3, q4⟩, h3, h4⟩ := h
  refine ⟨⟨h1.kp a b c1 d1, ⟨fun j hj n1 n2 => ?_, ?_, ?_, fun j hj => ?_⟩, ?_, hI⟩, ⟨fun j => by rw [e36], e3, a.o c3 (by decide) (by decide), b.o d3 (by decide) (by decide)⟩⟩
  · rw [e36, e3 j (by omega)]; exact q1 j hj n1 n2
  · rw [e36, e3 28 (by decide)]; exact q2
  · rw [e36, e3 27 (by decide)]; exact q3
  · rw [e36]; exact q4 j hj
  · unfold zJp
    rw [e74, e31]
    exact h3
theorem zPorts_a {K : Int × Int × Int} : zPorts (zIa K) := by
  refine ⟨fun σ μ p v h hp hv => ?_, fun σ μ p h hp => ?_⟩
  · refine zp2_mono (t_out h.2.2.2.1 hp hv) (fun s t q => ?_)
    obtain ⟨q1, q2, q3, q4⟩ := q
    exact h.kp (J := zIa K) ⟨q1, h.2.2.2.2.kp q2 q3 rfl rfl⟩ q2 q3 rfl rfl
  · refine zp2_mono (t_in h.2.2.2.1 hp) (fun s t q => ?_)
    obtain ⟨⟨q1, q2, q3, q4⟩, q5, q6⟩ := q
    obtain ⟨k1, k2⟩ := h.kp (J := zIa K) ⟨q1, h.2.2.2.2.kp q2 q3 rfl rfl⟩ q2 q3 rfl rfl
    exact ⟨k1, q5, q6, k2⟩
/-- both chips ask the same -/
theorem t_asks (h : zVe σ μ) : ∃ a, zpc (fX9_asks σ ) (fun r => r = (σ, a)) ∧ zAsk a μ := by
  refine ⟨_, p_asksC, fun t ht => ?_⟩
  have q := p_asksM (μ := t) (by rw [ht 47 (by decide), h.e0]; exact h.r0) (by rw [ht 48 (by decide), h.e1]; exact h.r1) (by rw [ht 62 (by decide), h.e15]; exact h.2.1.at (k := 23) (j := 15) rfl)
  rw [ht 47 (by decide), ht 48 (by decide), ht 62 (by decide), ht 63 (by decide), h.e0, h.e1, h.e15, h.e16] at q
  exact q
end ZKP
