/-! the reference's own part of the invariant: banks, levels of operators, pads of plans -/
def zat (c : Int) (x : Int32) : Prop := ∃ i : Nat, i < 18 ∧ x.toInt = 172 + 6 * (i : Int) + c
def zpt (c : Int) (x : Int32) : Prop := ∃ i : Nat, i < 256 ∧ x.toInt = 280 + 3 * (i : Int) + c
theorem zat_add {c c1 : Int} {x : Int32} (h : zat c x) (n : Int32) (hc : c1 = c + n.toInt) (hb : -1000 ≤ n.toInt ∧ n.toInt ≤ 1000 ∧ -1000 ≤ c ∧ c ≤ 1000) : zat c1 (x + n) := by
  obtain ⟨i, hi, e⟩ := h
  have e1 := z_tadd (x := x) (y := n) (a := x.toInt) (b := x.toInt) (c := n.toInt) (d := n.toInt) ⟨Int.le_refl _, Int.le_refl _⟩ ⟨Int.le_refl _, Int.le_refl _⟩ (by omega)
  exact ⟨i, hi, by omega⟩
theorem zpt_add {c c1 : Int} {x : Int32} (h : zpt c x) (n : Int32) (hc : c1 = c + n.toInt) (hb : -1000 ≤ n.toInt ∧ n.toInt ≤ 1000 ∧ -1000 ≤ c ∧ c ≤ 1000) : zpt c1 (x + n) := by
  obtain ⟨i, hi, e⟩ := h
  have e1 := z_tadd (x := x) (y := n) (a := x.toInt) (b := x.toInt) (c := n.toInt) (d := n.toInt) ⟨Int.le_refl _, Int.le_refl _⟩ ⟨Int.le_refl _, Int.le_refl _⟩ (by omega)
  exact ⟨i, hi, by omega⟩
theorem z_at0 {v x1 x2 : Int32} {a b c d : Int} (e : v = 172 + (6 * ((2 * x1) + x2))) (h1 : zr a b x1) (h2 : zr c d x2) (h : 0 ≤ a ∧ b ≤ 8 ∧ 0 ≤ c ∧ d ≤ 1) : zat 0 v := by
  have h1 := zr_w (lo := 0) (hi := 8) h1 ⟨h.1, h.2.1⟩
  have h2 := zr_w (lo := 0) (hi := 1) h2 ⟨h.2.2.1, h.2.2.2⟩
  have k2 : zr 2 2 (2 : Int32) := zr_c (by decide)
  have k6 : zr 6 6 (6 : Int32) := zr_c (by decide)
  have k7 : zr 172 172 (172 : Int32) := zr_c (by decide)
  have e1 := z_tmul k2 h1 (by decide)
  have r1 := zr_mul (lo := 0) (hi := 16) k2 h1 (by decide)
  have e2 := z_tadd r1 h2 (by decide)
  have r2 := zr_add (lo := 0) (hi := 17) r1 h2 (by decide)
  have e3 := z_tmul k6 r2 (by decide)
  have r3 := zr_mul (lo := 0) (hi := 102) k6 r2 (by decide)
  have e4 := z_tadd k7 r3 (by decide)
  have c2 : (2 : Int32).toInt = 2 := rfl
  have c6 : (6 : Int32).toInt = 6 := rfl
  have c7 : (172 : Int32).toInt = 172 := rfl
  have b1 := r2.1
  have b2 := r2.2
  rw [c7, e3, c6] at e4
  refine ⟨((2 * x1) + x2).toInt.toNat, by omega, ?_⟩
  rw [e, e4]; omega
theorem z_pt0 {v x : Int32} {a b : Int} (e : v = 280 + (3 * x)) (h1 : zr a b x) (h : 0 ≤ a ∧ b ≤ 255) : zpt 0 v := by
  have h1 := zr_w (lo := 0) (hi := 255) h1 h
  have k3 : zr 3 3 (3 : Int32) := zr_c (by decide)
  have k7 : zr 280 280 (280 : Int32) := zr_c (by decide)
  have e1 := z_tmul k3 h1 (by decide)
  have r1 := zr_mul (lo := 0) (hi := 765) k3 h1 (by decide)
  have e4 := z_tadd k7 r1 (by decide)
  have c2 : (3 : Int32).toInt = 3 := rfl
  have c7 : (280 : Int32).toInt = 280 := rfl
  have b1 := h1.1
  have b2 := h1.2
  rw [c7, e1, c2] at e4
  refine ⟨x.toInt.toNat, by omega, ?_⟩
  rw [e, e4]; omega
def zLv (k : Nat) (σ : zSt) : Prop := ∀ i : Nat, i < 18 → zr 0 127 (σ.1 k (172 + 6 * i))
def zPd (k : Nat) (σ : zSt) : Prop := ∀ i : Nat, i < 256 → zr 0 1 (σ.1 k (281 + 3 * i))
def zYM (σ : zSt) : Prop := ((σ.1 0 7).toInt = 0 ∨ 1 ≤ (σ.1 0 6).toInt) ∧ (zLv 3 σ ∧ zLv 12 σ) ∧ zPd 3 σ ∧ zPd 12 σ
def zOM (k a b : Nat) : Bool := (!Nat.beq k 0 || (Nat.blt b 6 || Nat.blt 7 a)) && ((!Nat.beq k 3 && !Nat.beq k 12) || Nat.blt b 172)
theorem zsi_off {σ : zSt} {k j k1 j1 : Nat} {v : Int32} (h : ¬ (k1 = k ∧ j1 = j)) : (zsi σ k j v).1 k1 j1 = σ.1 k1 j1 := by rw [zsi_at, if_neg h]
theorem z_orb {k a : Nat} {x : Bool} (h : (!Nat.beq k a || x) = true) : ¬ k = a ∨ x = true := by
  rcases (Bool.or_eq_true _ _).mp h with h | h
  · exact Or.inl (z_nb h)
  · exact Or.inr h
theorem zYM.ww {σ : zSt} {k j : Nat} {v : Int32} (h : zYM σ) (c1 : ¬ k = 0 ∨ j < 6 ∨ 7 < j) (c2 : (¬ k = 3 ∧ ¬ k = 12) ∨ j < 172) : zYM (zsi σ k j v) := by
  obtain ⟨h1, ⟨h2, h3⟩, h4, h5⟩ := h
  refine ⟨?_, ⟨fun i hi => ?_, fun i hi => ?_⟩, fun i hi => ?_, fun i hi => ?_⟩
  · rw [zsi_off (by omega), zsi_off (by omega)]; exact h1
  · rw [zsi_off (by omega)]; exact h2 i hi
  · rw [zsi_off (by omega)]; exact h3 i hi
  · rw [zsi_off (by omega)]; exact h4 i hi
  · rw [zsi_off (by omega)]; exact h5 i hi
theorem zYM.w {σ : zSt} {k j a b : Nat} {v : Int32} (h : zYM σ) (hj : a ≤ j ∧ j ≤ b) (c : zOM k a b = true) : zYM (zsi σ k j v) := by
  rw [zOM, Bool.and_eq_true] at c
  obtain ⟨c1, c2⟩ := c
  refine h.ww ?_ ?_
  · rcases z_orb c1 with c | c
    · exact Or.inl c
    · simp only [Bool.or_eq_true, Nat.blt_eq] at c; omega
  · rcases (Bool.or_eq_true _ _).mp c2 with c | c
    · rw [Bool.and_eq_true] at c; exact Or.inl ⟨z_nb c.1, z_nb c.2⟩
    · have := Nat.blt_eq.mp c; omega
/-! frozen cells set to a value -/
def zset (G : Nat → Int) (i : Nat) (v : Int) : Nat → Int := fun j => if j = i then v else G j
theorem zset_eq {G : Nat → Int} {i : Nat} {v : Int} : zset G i v i = v := if_pos rfl
theorem zset_ne {G : Nat → Int} {i j : Nat} {v : Int} (h : ¬ j = i) : zset G i v j = G j := if_neg h
theorem zIV_g {S : List zSeg} {Z ZL : List (Nat × Nat)} {q : Nat × Nat × Int} {G : Nat → Int} {σ : zSt} {k j : Nat} {v : Int32} {lo hi : Int} (i : Nat) (h : zIV S Z ZL q G σ) (hi100 : i < 100) (hz : ∀ n, n < Z.length → (Z[n]? = some (k, j) ↔ n = i)) (hv : zr lo hi v) (c : zWi S [] q k j j lo hi = true) : zIV S Z ZL q (zset G i v.toInt) (zsi σ k j v) := by
  obtain ⟨h1, h2, h3, h4⟩ := h
  have base : zIV S [] ZL q G (zsi σ k j v) := zIV_i j j ⟨h1, fun i z hz => by simp at hz, h3, h4⟩ ⟨Nat.le_refl _, Nat.le_refl _⟩ hv c
  refine ⟨base.1, fun n z hn => ?_, fun n z hn => ?_, base.2.2.2⟩
  · have hl : n < Z.length := (List.getElem?_eq_some_iff.mp hn).1
    by_cases e : n = i
    · subst e
      have ez := (hz n hl).mpr rfl
      rw [hn] at ez
      cases Option.some.inj ez
      rw [zsi_ej, zset_eq]
    · rw [zset_ne e]
      have ne : ¬ (z.1 = k ∧ z.2 = j) := fun r => e ((hz n hl).mp (by rw [hn]; exact congrArg some (Prod.ext r.1 r.2)))
      rw [zsi_at, if_neg ne]; exact h2 n z hn
  · rw [zset_ne (by omega)]; exact h3 n z hn
theorem zIV_gl {S : List zSeg} {Z ZL : List (Nat × Nat)} {q : Nat × Nat × Int} {G : Nat → Int} {σ : zSt} {k j : Nat} {v : Int64} (i : Nat) (h : zIV S Z ZL q G σ) (hl : Z.length ≤ 100) (hz : ∀ n, n < ZL.length → (ZL[n]? = some (k, j) ↔ n = i)) : zIV S Z ZL q (zset G (100 + i) v.toInt) (zsl σ k j v) := by
  obtain ⟨h1, h2, h3, h4⟩ := h
  refine ⟨h1, fun n z hn => ?_, fun n z hn => ?_, h4⟩
  · have hl1 : n < Z.length := (List.getElem?_eq_some_iff.mp hn).1
    rw [zset_ne (by omega)]; exact h2 n z hn
  · have hl1 : n < ZL.length := (List.getElem?_eq_some_iff.mp hn).1
    by_cases e : n = i
    · subst e
      have ez := (hz n hl1).mpr rfl
      rw [hn] at ez
      cases Option.some.inj ez
      rw [zset_eq, zsl_at, if_pos ⟨rfl, rfl⟩]
    · rw [zset_ne (by omega)]
      have ne : ¬ (z.1 = k ∧ z.2 = j) := fun r => e ((hz n hl1).mp (by rw [hn]; exact congrArg some (Prod.ext r.1 r.2)))
      rw [zsl_at, if_neg ne]; exact h3 n z hn
def zWzl (ZL : List (Nat × Nat)) (l : List Nat) (k a b : Nat) : Bool := (List.range ZL.length).all (fun i => match ZL[i]? with | none => true | some z => (!Nat.beq z.1 k || (Nat.blt b z.2 || Nat.blt z.2 a)) || l.contains (100 + i))
theorem zIV_el {S : List zSeg} {Z ZL : List (Nat × Nat)} {q : Nat × Nat × Int} {G : Nat → Int} {σ : zSt} {l : List Nat} {k j : Nat} {v : Int64} (a b : Nat) (h : zIV S Z ZL q G σ) (hj : a ≤ j ∧ j ≤ b) (c : (zWzl ZL l k a b && Nat.ble Z.length 100) = true) : ∃ G', zIV S Z ZL q G' (zsl σ k j v) ∧ ∀ i, ¬ i ∈ l → G' i = G i := by
  obtain ⟨h1, h2, h3, h4⟩ := h
  rw [Bool.and_eq_true] at c
  obtain ⟨c2, c3⟩ := c
  have c3 := Nat.le_of_ble_eq_true c3
  refine ⟨fun i => if i < 100 then G i else (match ZL[i - 100]? with | none => G i | some z => ((zsl σ k j v).2 z.1 z.2).toInt), ⟨h1, fun i z hz => ?_, fun i z hz => ?_, h4⟩, fun i hi => ?_⟩
  · have hl : i < Z.length := (List.getElem?_eq_some_iff.mp hz).1
    show _ = if i < 100 then G i else _
    rw [if_pos (by omega)]
    exact h2 i z hz
  · show _ = if 100 + i < 100 then G (100 + i) else (match ZL[100 + i - 100]? with | none => G (100 + i) | some z => ((zsl σ k j v).2 z.1 z.2).toInt)
    rw [if_neg (by omega), show 100 + i - 100 = i by omega, hz]
  · show (if i < 100 then G i else (match ZL[i - 100]? with | none => G i | some z => ((zsl σ k j v).2 z.1 z.2).toInt)) = G i
    by_cases g : i < 100
    · rw [if_pos g]
    · rw [if_neg g]
      cases hz : ZL[i - 100]? with
      | none => rfl
      | some z =>
        have hl : i - 100 < ZL.length := (List.getElem?_eq_some_iff.mp hz).1
        rw [zWzl, List.all_eq_true] at c2
        have c4 := c2 (i - 100) (List.mem_range.mpr hl)
        rw [hz] at c4
        have c5 : (!Nat.beq z.1 k || (Nat.blt b z.2 || Nat.blt z.2 a)) = true := by
          have c6 := (Bool.or_eq_true _ _).mp c4
          rcases c6 with c6 | c6
          · exact c6
          · rw [show 100 + (i - 100) = i by omega] at c6
            exact absurd (List.contains_iff_mem.mp c6) hi
        show ((zsl σ k j v).2 z.1 z.2).toInt = G i
        rw [zsl_at, if_neg (z_out (x := true) hj c5)]
        have h9 := h3 (i - 100) z hz
        rw [show 100 + (i - 100) = i by omega] at h9
        exact h9
/-- one place of a row is copied into the same place of its twin -/
theorem zIV_c1 {S : List zSeg} {Z ZL : List (Nat × Nat)} {q : Nat × Nat × Int} {G : Nat → Int} {σ : zSt} {k0 k1 j : Nat} (h : zIV S Z ZL q G σ) (c : zWc S [] q k0 k1 = true) : zIV S [] ZL q G (zsi σ k1 j (σ.1 k0 j)) := by
  obtain ⟨h1, h2, h3, h4⟩ := h
  rw [zWc, Bool.and_eq_true, Bool.and_eq_true, List.all_eq_true] at c
  obtain ⟨⟨c1, _⟩, c3⟩ := c
  refine ⟨fun s hs j1 l1 l2 => ?_, fun i z hz => by simp at hz, h3, ?_⟩
  · rw [zsi_at]
    by_cases r : s.1 = k1 ∧ j1 = j
    · rw [if_pos r]
      obtain ⟨r1, r2⟩ := r
      subst r2
      have c4 := c1 s hs
      rw [r1, show Nat.beq k1 k1 = true from Nat.beq_refl k1] at c4
      simp only [Bool.not_true, Bool.false_or, List.any_eq_true, Bool.and_eq_true, decide_eq_true_eq] at c4
      obtain ⟨t, ht, t1, t2, t3, t4, t5⟩ := c4
      have t1 := Nat.eq_of_beq_eq_true t1
      have t2 := Nat.eq_of_beq_eq_true t2
      have t3 := Nat.eq_of_beq_eq_true t3
      have d2 := h1 t ht j1 (by omega) (by omega)
      rw [t1, t4, t5] at d2
      exact d2
    · rw [if_neg r]; exact h1 s hs j1 l1 l2
  · unfold zSp; rw [zsi_ne (z_nb c3)]; exact h4
theorem zIV_c1e {S : List zSeg} {Z ZL : List (Nat × Nat)} {q : Nat × Nat × Int} {G : Nat → Int} {σ : zSt} {l : List Nat} {k0 k1 j : Nat} (a b : Nat) (hj : a ≤ j ∧ j ≤ b) (h : zIV S Z ZL q G σ) (c : ((zWc S [] q k0 k1 && zWz Z l k1 a b) && Nat.ble Z.length 100) = true) : ∃ G', zIV S Z ZL q G' (zsi σ k1 j (σ.1 k0 j)) ∧ ∀ i, ¬ i ∈ l → G' i = G i := by
  rw [Bool.and_eq_true, Bool.and_eq_true] at c
  obtain ⟨⟨c1, c2⟩, c3⟩ := c
  have c3 := Nat.le_of_ble_eq_true c3
  have base : zIV S [] ZL q G (zsi σ k1 j (σ.1 k0 j)) := zIV_c1 h c1
  obtain ⟨h1, h2, h3, h4⟩ := h
  refine ⟨fun i => if i < 100 then (match Z[i]? with | none => G i | some z => ((zsi σ k1 j (σ.1 k0 j)).1 z.1 z.2).toInt) else G i, ⟨base.1, fun i z hz => ?_, fun i z hz => ?_, base.2.2.2⟩, fun i hi => ?_⟩
  · have hl : i < Z.length := (List.getElem?_eq_some_iff.mp hz).1
    show _ = if i < 100 then (match Z[i]? with | none => G i | some z => ((zsi σ k1 j (σ.1 k0 j)).1 z.1 z.2).toInt) else G i
    rw [if_pos (by omega), hz]
  · show _ = if 100 + i < 100 then _ else _
    rw [if_neg (by omega)]
    exact base.2.2.1 i z hz
  · show (if i < 100 then (match Z[i]? with | none => G i | some z => ((zsi σ k1 j (σ.1 k0 j)).1 z.1 z.2).toInt) else G i) = G i
    by_cases g : i < 100
    · rw [if_pos g]
      cases hz : Z[i]? with
      | none => rfl
      | some z =>
        have hl : i < Z.length := (List.getElem?_eq_some_iff.mp hz).1
        rw [zWz, List.all_eq_true] at c2
        have c4 := c2 i (List.mem_range.mpr hl)
        rw [hz] at c4
        have c5 : (!Nat.beq z.1 k1 || (Nat.blt b z.2 || Nat.blt z.2 a)) = true := by
          have c6 := (Bool.or_eq_true _ _).mp c4
          rcases c6 with c6 | c6
          · exact c6
          · exact absurd (List.contains_iff_mem.mp c6) hi
        show ((zsi σ k1 j (σ.1 k0 j)).1 z.1 z.2).toInt = G i
        rw [zsi_at, if_neg (z_out (x := true) hj c5)]
        exact h2 i z hz
    · rw [if_neg g]
