section ZJN0
/-! the reference's own part of the invariant: banks, levels of operators, pads of plans -/
def zat (c : Int) (x : Int32) : Prop := ∃ i : Nat, i < 18 ∧ x.toInt = 172 + 6 * (i : Int) + c
def zpt (c : Int) (x : Int32) : Prop := ∃ i : Nat, i < 256 ∧ x.toInt = 280 + 3 * (i : Int) + c
theorem zat_add {c c1 : Int} {x : Int32} (h : zat c x) (n : Int32) (hc : c1 = c + n.toInt) (hb : -1000 ≤ n.toInt ∧ n.toInt ≤ 1000 ∧ -1000 ≤ c ∧ c ≤ 1000) : zat c1 (x + n) := by
  obtain ⟨i, hi, e⟩ := h
  have e1 := z_tadd (x := x) (y := n) (a := x.toInt) (b := x.toInt) (c := n.toInt) (d := n.toInt) ⟨Int.le_refl _, Int.le_refl _⟩ ⟨Int.le_refl _, Int.le_refl _⟩ (by omega)
  exact ⟨i, hi, by omega⟩
theorem zpt_add {c c1 : Int} {x : Int32} (h : zpt c x) (n : Int32) (hc : c1 = c + n.toInt) (hb : -1000 ≤ n.toInt ∧ n.toInt ≤ 1000 ∧ -1000 ≤ c ∧ c ≤ 1000) : zpt c1 (x + n) := by
  obtain ⟨i, hi, e⟩ := h
  have e1 := z_tadd (x := x) (y := n) (a := x.toInt) (b := x.toInt) (c := n.toInt) (d := n.toInt) ⟨Int.le_refl _, Int.le_refl _⟩ ⟨Int.le_refl _, Int.le_refl _⟩ (by omega)
  exact ⟨i, hi, by omega⟩
theorem z_at0 {v x1 x2 : Int32} {a b c d : Int} (e : v = 172 + (6 * ((2 * x1) + x2))) (h1 : zr a b x1) (h2 : zr c d x2) (h : 0 ≤ a ∧ b ≤ 8 ∧ 0 ≤ c ∧ d ≤ 1) : zat 0 v := by
  have h1 := zr_w (lo := 0) (hi := 8) h1 ⟨h.1, h.2.1⟩
  have h2 := zr_w (lo := 0) (hi := 1) h2 ⟨h.2.2.1, h.2.2.2⟩
  have k2 : zr 2 2 (2 : Int32) := zr_c (by decide)
  have k6 : zr 6 6 (6 : Int32) := zr_c (by decide)
  have k7 : zr 172 172 (172 : Int32) := zr_c (by decide)
  have e1 := z_tmul k2 h1 (by decide)
  have r1 := zr_mul (lo := 0) (hi := 16) k2 h1 (by decide)
  have e2 := z_tadd r1 h2 (by decide)
  have r2 := zr_add (lo := 0) (hi := 17) r1 h2 (by decide)
  have e3 := z_tmul k6 r2 (by decide)
  have r3 := zr_mul (lo := 0) (hi := 102) k6 r2 (by decide)
  have e4 := z_tadd k7 r3 (by decide)
  have c2 : (2 : Int32).toInt = 2 := rfl
  have c6 : (6 : Int32).toInt = 6 := rfl
  have c7 : (172 : Int32).toInt = 172 := rfl
  have b1 := r2.1
  have b2 := r2.2
  rw [c7, e3, c6] at e4
  refine ⟨((2 * x1) + x2).toInt.toNat, by omega, ?_⟩
  rw [e, e4]; omega
theorem z_pt0 {v x : Int32} {a b : Int} (e : v = 280 + (3 * x)) (h1 : zr a b x) (h : 0 ≤ a ∧ b ≤ 255) : zpt 0 v := by
  have h1 := zr_w (lo := 0) (hi := 255) h1 h
  have k3 : zr 3 3 (3 : Int32) := zr_c (by decide)
  have k7 : zr 280 280 (280 : Int32) := zr_c (by decide)
  have e1 := z_tmul k3 h1 (by decide)
  have r1 := zr_mul (lo := 0) (hi := 765) k3 h1 (by decide)
  have e4 := z_tadd k7 r1 (by decide)
  have c2 : (3 : Int32).toInt = 3 := rfl
  have c7 : (280 : Int32).toInt = 280 := rfl
  have b1 := h1.1
  have b2 := h1.2
  rw [c7, e1, c2] at e4
  refine ⟨x.toInt.toNat, by omega, ?_⟩
  rw [e, e4]; omega
def zLv (k : Nat) (σ : zSt) : Prop := ∀ i : Nat, i < 18 → zr 0 127 (σ.1 k (172 + 6 * i))
def zPd (k : Nat) (σ : zSt) : Prop := ∀ i : Nat, i < 256 → zr 0 1 (σ.1 k (281 + 3 * i))
def zYM (σ : zSt) : Prop := ((σ.1 0 7).toInt = 0 ∨ 1 ≤ (σ.1 0 6).toInt) ∧ (zLv 3 σ ∧ zLv 12 σ) ∧ zPd 3 σ ∧ zPd 12 σ
def zOM (k a b : Nat) : Bool := (!Nat.beq k 0 || (Nat.blt b 6 || Nat.blt 7 a)) && ((!Nat.beq k 3 && !Nat.beq k 12) || Nat.blt b 172)
theorem zsi_off {σ : zSt} {k j k1 j1 : Nat} {v : Int32} (h : ¬ (k1 = k ∧ j1 = j)) : (zsi σ k j v).1 k1 j1 = σ.1 k1 j1 := by rw [zsi_at, if_neg h]
theorem z_orb {k a : Nat} {x : Bool} (h : (!Nat.beq k a || x) = true) : ¬ k = a ∨ x = true := by
  rcases (Bool.or_eq_true _ _).mp h with h | h
  · exact Or.inl (z_nb h)
  · exact Or.inr h
theorem zYM.ww {σ : zSt} {k j : Nat} {v : Int32} (h : zYM σ) (c1 : ¬ k = 0 ∨ j < 6 ∨ 7 < j) (c2 : (¬ k = 3 ∧ ¬ k = 12) ∨ j < 172) : zYM (zsi σ k j v) := by
  obtain ⟨h1, ⟨h2, h3⟩, h4, h5⟩ := h
  refine ⟨?_, ⟨fun i hi => ?_, fun i hi => ?_⟩, fun i hi => ?_, fun i hi => ?_⟩
  · rw [zsi_off (by omega), zsi_off (by omega)]; exact h1
  · rw [zsi_off (by omega)]; exact h2 i hi
  · rw [zsi_off (by omega)]; exact h3 i hi
  · rw [zsi_off (by omega)]; exact h4 i hi
  · rw [zsi_off (by omega)]; exact h5 i hi
theorem zYM.w {σ : zSt} {k j a b : Nat} {v : Int32} (h : zYM σ) (hj : a ≤ j ∧ j ≤ b) (c : zOM k a b = true) : zYM (zsi σ k j v) := by
  rw [zOM, Bool.and_eq_true] at c
  obtain ⟨c1, c2⟩ := c
  refine h.ww ?_ ?_
  · rcases z_orb c1 with c | c
    · exact Or.inl c
    · simp only [Bool.or_eq_true, Nat.blt_eq] at c; omega
  · rcases (Bool.or_eq_true _ _).mp c2 with c | c
    · rw [Bool.and_eq_true] at c; exact Or.inl ⟨z_nb c.1, z_nb c.2⟩
    · have := Nat.blt_eq.mp c; omega
/-! frozen cells set to a value -/
def zset (G : Nat → Int) (i : Nat) (v : Int) : Nat → Int := fun j => if j = i then v else G j
theorem zset_eq {G : Nat → Int} {i : Nat} {v : Int} : zset G i v i = v := if_pos rfl
theorem zset_ne {G : Nat → Int} {i j : Nat} {v : Int} (h : ¬ j = i) : zset G i v j = G j := if_neg h
theorem zIV_g {S : List zSeg} {Z ZL : List (Nat × Nat)} {q : Nat × Nat × Int} {G : Nat → Int} {σ : zSt} {k j : Nat} {v : Int32} {lo hi : Int} (i : Nat) (h : zIV S Z ZL q G σ) (hi100 : i < 100) (hz : ∀ n, n < Z.length → (Z[n]? = some (k, j) ↔ n = i)) (hv : zr lo hi v) (c : zWi S [] q k j j lo hi = true) : zIV S Z ZL q (zset G i v.toInt) (zsi σ k j v) := by
  obtain ⟨h1, h2, h3, h4⟩ := h
  have base : zIV S [] ZL q G (zsi σ k j v) := zIV_i j j ⟨h1, fun i z hz => by simp at hz, h3, h4⟩ ⟨Nat.le_refl _, Nat.le_refl _⟩ hv c
  refine ⟨base.1, fun n z hn => ?_, fun n z hn => ?_, base.2.2.2⟩
  · have hl : n < Z.length := (List.getElem?_eq_some_iff.mp hn).1
    by_cases e : n = i
    · subst e
      have ez := (hz n hl).mpr rfl
      rw [hn] at ez
      cases Option.some.inj ez
      rw [zsi_ej, zset_eq]
    · rw [zset_ne e]
      have ne : ¬ (z.1 = k ∧ z.2 = j) := fun r => e ((hz n hl).mp (by rw [hn]; exact congrArg some (Prod.ext r.1 r.2)))
      rw [zsi_at, if_neg ne]; exact h2 n z hn
  · rw [zset_ne (by omega)]; exact h3 n z hn
theorem zIV_gl {S : List zSeg} {Z ZL : List (Nat × Nat)} {q : Nat × Nat × Int} {G : Nat → Int} {σ : zSt} {k j : Nat} {v : Int64} (i : Nat) (h : zIV S Z ZL q G σ) (hl : Z.length ≤ 100) (hz : ∀ n, n < ZL.length → (ZL[n]? = some (k, j) ↔ n = i)) : zIV S Z ZL q (zset G (100 + i) v.toInt) (zsl σ k j v) := by
  obtain ⟨h1, h2, h3, h4⟩ := h
  refine ⟨h1, fun n z hn => ?_, fun n z hn => ?_, h4⟩
  · have hl1 : n < Z.length := (List.getElem?_eq_some_iff.mp hn).1
    rw [zset_ne (by omega)]; exact h2 n z hn
  · have hl1 : n < ZL.length := (List.getElem?_eq_some_iff.mp hn).1
    by_cases e : n = i
    · subst e
      have ez := (hz n hl1).mpr rfl
      rw [hn] at ez
      cases Option.some.inj ez
      rw [zset_eq, zsl_at, if_pos ⟨rfl, rfl⟩]
    · rw [zset_ne (by omega)]
      have ne : ¬ (z.1 = k ∧ z.2 = j) := fun r => e ((hz n hl1).mp (by rw [hn]; exact congrArg some (Prod.ext r.1 r.2)))
      rw [zsl_at, if_neg ne]; exact h3 n z hn
def zWzl (ZL : List (Nat × Nat)) (l : List Nat) (k a b : Nat) : Bool := (List.range ZL.length).all (fun i => match ZL[i]? with | none => true | some z => (!Nat.beq z.1 k || (Nat.blt b z.2 || Nat.blt z.2 a)) || l.contains (100 + i))
theorem zIV_el {S : List zSeg} {Z ZL : List (Nat × Nat)} {q : Nat × Nat × Int} {G : Nat → Int} {σ : zSt} {l : List Nat} {k j : Nat} {v : Int64} (a b : Nat) (h : zIV S Z ZL q G σ) (hj : a ≤ j ∧ j ≤ b) (c : (zWzl ZL l k a b && Nat.ble Z.length 100) = true) : ∃ G', zIV S Z ZL q G' (zsl σ k j v) ∧ ∀ i, ¬ i ∈ l → G' i = G i := by
  obtain ⟨h1, h2, h3, h4⟩ := h
  rw [Bool.and_eq_true] at c
  obtain ⟨c2, c3⟩ := c
  have c3 := Nat.le_of_ble_eq_true c3
  refine ⟨fun i => if i < 100 then G i else (match ZL[i - 100]? with | none => G i | some z => ((zsl σ k j v).2 z.1 z.2).toInt), ⟨h1, fun i z hz => ?_, fun i z hz => ?_, h4⟩, fun i hi => ?_⟩
  · have hl : i < Z.length := (List.getElem?_eq_some_iff.mp hz).1
    show _ = if i < 100 then G i else _
    rw [if_pos (by omega)]
    exact h2 i z hz
  · show _ = if 100 + i < 100 then G (100 + i) else (match ZL[100 + i - 100]? with | none => G (100 + i) | some z => ((zsl σ k j v).2 z.1 z.2).toInt)
    rw [if_neg (by omega), show 100 + i - 100 = i by omega, hz]
  · show (if i < 100 then G i else (match ZL[i - 100]? with | none => G i | some z => ((zsl σ k j v).2 z.1 z.2).toInt)) = G i
    by_cases g : i < 100
    · rw [if_pos g]
    · rw [if_neg g]
      cases hz : ZL[i - 100]? with
      | none => rfl
      | some z =>
        have hl : i - 100 < ZL.length := (List.getElem?_eq_some_iff.mp hz).1
        rw [zWzl, List.all_eq_true] at c2
        have c4 := c2 (i - 100) (List.mem_range.mpr hl)
        rw [hz] at c4
        have c5 : (!Nat.beq z.1 k || (Nat.blt b z.2 || Nat.blt z.2 a)) = true := by
          have c6 := (Bool.or_eq_true _ _).mp c4
          rcases c6 with c6 | c6
          · exact c6
          · rw [show 100 + (i - 100) = i by omega] at c6
            exact absurd (List.contains_iff_mem.mp c6) hi
        show ((zsl σ k j v).2 z.1 z.2).toInt = G i
        rw [zsl_at, if_neg (z_out (x := true) hj c5)]
        have h9 := h3 (i - 100) z hz
        rw [show 100 + (i - 100) = i by omega] at h9
        exact h9
/-- one place of a row is copied into the same place of its twin -/
theorem zIV_c1 {S : List zSeg} {Z ZL : List (Nat × Nat)} {q : Nat × Nat × Int} {G : Nat → Int} {σ : zSt} {k0 k1 j : Nat} (h : zIV S Z ZL q G σ) (c : zWc S [] q k0 k1 = true) : zIV S [] ZL q G (zsi σ k1 j (σ.1 k0 j)) := by
  obtain ⟨h1, h2, h3, h4⟩ := h
  rw [zWc, Bool.and_eq_true, Bool.and_eq_true, List.all_eq_true] at c
  obtain ⟨⟨c1, _⟩, c3⟩ := c
  refine ⟨fun s hs j1 l1 l2 => ?_, fun i z hz => by simp at hz, h3, ?_⟩
  · rw [zsi_at]
    by_cases r : s.1 = k1 ∧ j1 = j
    · rw [if_pos r]
      obtain ⟨r1, r2⟩ := r
      subst r2
      have c4 := c1 s hs
      rw [r1, show Nat.beq k1 k1 = true from Nat.beq_refl k1] at c4
      simp only [Bool.not_true, Bool.false_or, List.any_eq_true, Bool.and_eq_true, decide_eq_true_eq] at c4
      obtain ⟨t, ht, t1, t2, t3, t4, t5⟩ := c4
      have t1 := Nat.eq_of_beq_eq_true t1
      have t2 := Nat.eq_of_beq_eq_true t2
      have t3 := Nat.eq_of_beq_eq_true t3
      have d2 := h1 t ht j1 (by omega) (by omega)
      rw [t1, t4, t5] at d2
      exact d2
    · rw [if_neg r]; exact h1 s hs j1 l1 l2
  · unfold zSp; rw [zsi_ne (z_nb c3)]; exact h4
theorem zIV_c1e {S : List zSeg} {Z ZL : List (Nat × Nat)} {q : Nat × Nat × Int} {G : Nat → Int} {σ : zSt} {l : List Nat} {k0 k1 j : Nat} (a b : Nat) (hj : a ≤ j ∧ j ≤ b) (h : zIV S Z ZL q G σ) (c : ((zWc S [] q k0 k1 && zWz Z l k1 a b) && Nat.ble Z.length 100) = true) : ∃ G', zIV S Z ZL q G' (zsi σ k1 j (σ.1 k0 j)) ∧ ∀ i, ¬ i ∈ l → G' i = G i := by
  rw [Bool.and_eq_true, Bool.and_eq_true] at c
  obtain ⟨⟨c1, c2⟩, c3⟩ := c
  have c3 := Nat.le_of_ble_eq_true c3
  have base : zIV S [] ZL q G (zsi σ k1 j (σ.1 k0 j)) := zIV_c1 h c1
  obtain ⟨h1, h2, h3, h4⟩ := h
  refine ⟨fun i => if i < 100 then (match Z[i]? with | none => G i | some z => ((zsi σ k1 j (σ.1 k0 j)).1 z.1 z.2).toInt) else G i, ⟨base.1, fun i z hz => ?_, fun i z hz => ?_, base.2.2.2⟩, fun i hi => ?_⟩
  · have hl : i < Z.length := (List.getElem?_eq_some_iff.mp hz).1
    show _ = if i < 100 then (match Z[i]? with | none => G i | some z => ((zsi σ k1 j (σ.1 k0 j)).1 z.1 z.2).toInt) else G i
    rw [if_pos (by omega), hz]
  · show _ = if 100 + i < 100 then _ else _
    rw [if_neg (by omega)]
    exact base.2.2.1 i z hz
  · show (if i < 100 then (match Z[i]? with | none => G i | some z => ((zsi σ k1 j (σ.1 k0 j)).1 z.1 z.2).toInt) else G i) = G i
    by_cases g : i < 100
    · rw [if_pos g]
      cases hz : Z[i]? with
      | none => rfl
      | some z =>
        have hl : i < Z.length := (List.getElem?_eq_some_iff.mp hz).1
        rw [zWz, List.all_eq_true] at c2
        have c4 := c2 i (List.mem_range.mpr hl)
        rw [hz] at c4
        have c5 : (!Nat.beq z.1 k1 || (Nat.blt b z.2 || Nat.blt z.2 a)) = true := by
          have c6 := (Bool.or_eq_true _ _).mp c4
          rcases c6 with c6 | c6
          · exact c6
          · exact absurd (List.contains_iff_mem.mp c6) hi
        show ((zsi σ k1 j (σ.1 k0 j)).1 z.1 z.2).toInt = G i
        rw [zsi_at, if_neg (z_out (x := true) hj c5)]
        exact h2 i z hz
    · rw [if_neg g]
end ZJN0
section ZJN1
def sM : List zSeg := [(0, 2, 2, 0, 262656), (0, 3, 3, 0, 2), (0, 5, 5, 0, 262144), (0, 6, 6, 0, 16), (0, 7, 7, 0, 3), (0, 8, 8, -1, 32767), (0, 31, 31, 0, 17), (0, 32, 32, 0, 1), (0, 39, 39, 0, 40), (22, 0, 255, 0, 31), (24, 0, 255, 0, 31), (3, 0, 15, 0, 255), (3, 16, 20, 0, 65535), (3, 0, 20, 0, 65535), (3, 21, 22, 0, 255), (3, 23, 24, 0, 1), (3, 25, 25, 0, 2), (3, 26, 28, 0, 1), (3, 29, 35, 0, 255), (3, 36, 41, 0, 255), (3, 44, 46, 0, 1), (3, 47, 57, 0, 255), (3, 58, 58, 0, 16383), (3, 59, 59, 0, 3), (3, 60, 60, 0, 255), (3, 61, 61, 0, 1), (3, 62, 62, 0, 255), (3, 63, 63, 0, 1), (3, 65, 65, 0, 255), (3, 66, 66, 0, 313), (3, 67, 67, 0, 227), (3, 68, 68, 0, 255), (3, 69, 71, 0, 1023), (3, 78, 81, 0, 15), (3, 82, 82, 0, 7), (3, 85, 85, 0, 65535), (3, 86, 86, 0, 7), (3, 87, 87, 0, 4096), (3, 88, 88, 0, 4095), (3, 89, 89, 0, 8), (3, 98, 161, 0, 255), (3, 162, 162, 0, 63), (3, 163, 163, 0, 3), (3, 169, 169, 0, 4096), (3, 170, 170, 0, 4095), (3, 171, 171, 0, 256), (12, 0, 15, 0, 255), (12, 16, 20, 0, 65535), (12, 0, 20, 0, 65535), (12, 21, 22, 0, 255), (12, 23, 24, 0, 1), (12, 25, 25, 0, 2), (12, 26, 28, 0, 1), (12, 29, 35, 0, 255), (12, 36, 41, 0, 255), (12, 44, 46, 0, 1), (12, 47, 57, 0, 255), (12, 58, 58, 0, 16383), (12, 59, 59, 0, 3), (12, 60, 60, 0, 255), (12, 61, 61, 0, 1), (12, 62, 62, 0, 255), (12, 63, 63, 0, 1), (12, 65, 65, 0, 255), (12, 66, 66, 0, 313), (12, 67, 67, 0, 227), (12, 68, 68, 0, 255), (12, 69, 71, 0, 1023), (12, 78, 81, 0, 15), (12, 82, 82, 0, 7), (12, 85, 85, 0, 65535), (12, 86, 86, 0, 7), (12, 87, 87, 0, 4096), (12, 88, 88, 0, 4095), (12, 89, 89, 0, 8), (12, 98, 161, 0, 255), (12, 162, 162, 0, 63), (12, 163, 163, 0, 3), (12, 169, 169, 0, 4096), (12, 170, 170, 0, 4095), (12, 171, 171, 0, 256)]
def zZM : List (Nat × Nat) := [(0, 2), (0, 3), (0, 19), (3, 66), (3, 67), (3, 168), (12, 66), (12, 67), (12, 168), (0, 39)]
def zLM : List (Nat × Nat) := [(4, 0), (4, 2), (13, 0), (0, 30), (4, 4), (13, 4), (13, 2)]
def zQM : Nat × Nat × Int := (0, 31, 0)
def zIM (G : Nat → Int) (σ : zSt) : Prop := zIV sM zZM zLM zQM G σ ∧ zYM σ
def zPM (σ : zSt) : Prop := zSg sM σ ∧ zSp zQM σ ∧ zYM σ
def zEM (l : List Nat) (G : Nat → Int) (σ : zSt) : Prop := ∃ G1, zIM G1 σ ∧ ∀ i, ¬ i ∈ l → G1 i = G i
section ZSM
variable {G : Nat → Int} {σ : zSt} {l : List Nat}
theorem zIM.sg (h : zIM G σ) : zSg sM σ := h.1.1
theorem zIM.sp (h : zIM G σ) : zSp zQM σ := h.1.2.2.2
theorem zIM.fz (h : zIM G σ) : zFz zZM G σ := h.1.2.1
theorem zIM.fl (h : zIM G σ) : zFl zLM G σ := h.1.2.2.1
theorem zIM.Y (h : zIM G σ) : zYM σ := h.2
theorem zIM.P (h : zIM G σ) : zPM σ := ⟨h.sg, h.sp, h.2⟩
theorem zPM.sg (h : zPM σ) : zSg sM σ := h.1
theorem zPM.sp (h : zPM σ) : zSp zQM σ := h.2.1
theorem zPM.Y (h : zPM σ) : zYM σ := h.2.2
theorem zIM.E (h : zIM G σ) : zEM l G σ := ⟨G, h, fun _ _ => rfl⟩
theorem zEM.sg (h : zEM l G σ) : zSg sM σ := by obtain ⟨G1, h1, _⟩ := h; exact h1.sg
theorem zEM.sp (h : zEM l G σ) : zSp zQM σ := by obtain ⟨G1, h1, _⟩ := h; exact h1.sp
theorem zEM.Y (h : zEM l G σ) : zYM σ := by obtain ⟨G1, h1, _⟩ := h; exact h1.2
theorem zEM.P (h : zEM l G σ) : zPM σ := by obtain ⟨G1, h1, _⟩ := h; exact h1.P
theorem zIM.wi {k j : Nat} {v : Int32} {lo hi : Int} (h : zIM G σ) (a b : Nat) (hj : a ≤ j ∧ j ≤ b) (hv : zr lo hi v) (c : (zWi sM zZM zQM k a b lo hi && zOM k a b) = true) : zIM G (zsi σ k j v) := by
  rw [Bool.and_eq_true] at c
  exact ⟨zIV_i a b h.1 hj hv c.1, h.2.w hj c.2⟩
theorem zIM.wk {k j : Nat} {v : Int32} (h : zIM G σ) (c : (zWk sM zZM zQM k && (!Nat.beq k 0 && (!Nat.beq k 3 && !Nat.beq k 12))) = true) : zIM G (zsi σ k j v) := by
  rw [Bool.and_eq_true, Bool.and_eq_true, Bool.and_eq_true] at c
  exact ⟨zIV_k h.1 c.1, h.2.ww (Or.inl (z_nb c.2.1)) (Or.inl ⟨z_nb c.2.2.1, z_nb c.2.2.2⟩)⟩
theorem zIM.wl {k j : Nat} {v : Int64} (h : zIM G σ) (a b : Nat) (hj : a ≤ j ∧ j ≤ b) (c : zLM.all (fun z => !Nat.beq z.1 k || (Nat.blt b z.2 || Nat.blt z.2 a)) = true) : zIM G (zsl σ k j v) := ⟨zIV_l a b h.1 hj c, h.2⟩
theorem zIM.sp0 {v : Int32} {lo hi : Int} (h : zIM G σ) (hv : zr lo hi v) (c : (decide (lo = 0 ∧ hi = 0) && zWs sM zZM zQM lo hi) = true) : zIM G (zsi σ 0 31 v) := by
  rw [Bool.and_eq_true] at c
  have e := of_decide_eq_true c.1
  have h1 := hv.1
  have h2 := hv.2
  exact ⟨zIV_s h.1 hv c.2 (Or.inl (by show v.toInt = 0; omega)), h.2.ww (by omega) (by omega)⟩
theorem zIM.sp1 {v : Int32} {lo hi : Int} (h : zIM G σ) (hv : zr lo hi v) (c : (decide (16 ≤ lo) && zWs sM zZM zQM lo hi) = true) : zIM G (zsi σ 0 31 v) := by
  rw [Bool.and_eq_true] at c
  have e := of_decide_eq_true c.1
  have h1 := hv.1
  exact ⟨zIV_s h.1 hv c.2 (Or.inr (by omega)), h.2.ww (by omega) (by omega)⟩
theorem zIM.we {k j : Nat} {v : Int32} {lo hi : Int} (h : zIM G σ) (a b : Nat) (hj : a ≤ j ∧ j ≤ b) (hv : zr lo hi v) (c : (zWe sM zZM zQM l k a b lo hi && zOM k a b) = true) : zEM l G (zsi σ k j v) := by
  rw [Bool.and_eq_true] at c
  obtain ⟨G1, h1, g1⟩ := zIV_e a b h.1 hj hv c.1
  exact ⟨G1, ⟨h1, h.2.w hj c.2⟩, g1⟩
theorem zIM.lv {x v : Int32} {lo hi : Int} (h : zIM G σ) (t : zat 0 x) (hv : zr lo hi v) (c : 0 ≤ lo ∧ hi ≤ 127) : zIM G (zsi σ 3 x.toNatClampNeg v) := by
  obtain ⟨n, hn, e⟩ := t
  have ex : x.toNatClampNeg = 172 + 6 * n := by have : x.toNatClampNeg = x.toInt.toNat := rfl; omega
  obtain ⟨h1, ⟨h2, h3⟩, h4, h5⟩ := h.2
  refine ⟨zIV_i 172 279 h.1 (by omega) (zr_any (x := v)) (by decide +kernel), ?_, ⟨fun i hi => ?_, fun i hi => ?_⟩, fun i hi => ?_, fun i hi => ?_⟩
  · rw [zsi_off (by omega), zsi_off (by omega)]; exact h1
  · by_cases q : i = n
    · subst q; rw [ex, zsi_ej]; exact zr_w hv c
    · rw [zsi_off (by omega)]; exact h2 i hi
  · rw [zsi_off (by omega)]; exact h3 i hi
  · rw [zsi_off (by omega)]; exact h4 i hi
  · rw [zsi_off (by omega)]; exact h5 i hi
theorem zIM.op {c : Int} {x v : Int32} (h : zIM G σ) (t : zat c x) (q : 0 < c ∧ c < 6) : zIM G (zsi σ 3 x.toNatClampNeg v) := by
  obtain ⟨n, hn, e⟩ := t
  have ex : (x.toNatClampNeg : Int) = 172 + 6 * n + c := by have : x.toNatClampNeg = x.toInt.toNat := rfl; omega
  obtain ⟨h1, ⟨h2, h3⟩, h4, h5⟩ := h.2
  refine ⟨zIV_i 172 279 h.1 (by omega) (zr_any (x := v)) (by decide +kernel), ?_, ⟨fun i hi => ?_, fun i hi => ?_⟩, fun i hi => ?_, fun i hi => ?_⟩
  · rw [zsi_off (by omega), zsi_off (by omega)]; exact h1
  · rw [zsi_off (by omega)]; exact h2 i hi
  · rw [zsi_off (by omega)]; exact h3 i hi
  · rw [zsi_off (by omega)]; exact h4 i hi
  · rw [zsi_off (by omega)]; exact h5 i hi
theorem zIM.pl1 {x v : Int32} {lo hi : Int} (h : zIM G σ) (t : zpt 1 x) (hv : zr lo hi v) (c : 0 ≤ lo ∧ hi ≤ 1) : zIM G (zsi σ 3 x.toNatClampNeg v) := by
  obtain ⟨n, hn, e⟩ := t
  have ex : x.toNatClampNeg = 281 + 3 * n := by have : x.toNatClampNeg = x.toInt.toNat := rfl; omega
  obtain ⟨h1, ⟨h2, h3⟩, h4, h5⟩ := h.2
  refine ⟨zIV_i 280 1047 h.1 (by omega) (zr_any (x := v)) (by decide +kernel), ?_, ⟨fun i hi => ?_, fun i hi => ?_⟩, fun i hi => ?_, fun i hi => ?_⟩
  · rw [zsi_off (by omega), zsi_off (by omega)]; exact h1
  · rw [zsi_off (by omega)]; exact h2 i hi
  · rw [zsi_off (by omega)]; exact h3 i hi
  · by_cases q : i = n
    · subst q; rw [ex, zsi_ej]; exact zr_w hv c
    · rw [zsi_off (by omega)]; exact h4 i hi
  · rw [zsi_off (by omega)]; exact h5 i hi
theorem zIM.pl {c : Int} {x v : Int32} (h : zIM G σ) (t : zpt c x) (q : c = 0 ∨ c = 2) : zIM G (zsi σ 3 x.toNatClampNeg v) := by
  obtain ⟨n, hn, e⟩ := t
  have ex : (x.toNatClampNeg : Int) = 280 + 3 * n + c := by have : x.toNatClampNeg = x.toInt.toNat := rfl; omega
  obtain ⟨h1, ⟨h2, h3⟩, h4, h5⟩ := h.2
  refine ⟨zIV_i 280 1047 h.1 (by omega) (zr_any (x := v)) (by decide +kernel), ?_, ⟨fun i hi => ?_, fun i hi => ?_⟩, fun i hi => ?_, fun i hi => ?_⟩
  · rw [zsi_off (by omega), zsi_off (by omega)]; exact h1
  · rw [zsi_off (by omega)]; exact h2 i hi
  · rw [zsi_off (by omega)]; exact h3 i hi
  · rw [zsi_off (by omega)]; exact h4 i hi
  · rw [zsi_off (by omega)]; exact h5 i hi
theorem zIM.wb {v : Int32} {lo hi : Int} (h : zIM G σ) (hv : zr lo hi v) (c : 1 ≤ lo ∧ hi ≤ 16) : zIM G (zsi σ 0 6 v) := by
  obtain ⟨h1, ⟨h2, h3⟩, h4, h5⟩ := h.2
  have v1 := hv.1
  refine ⟨zIV_i 6 6 h.1 (by omega) (zr_w (lo := 0) (hi := 16) hv (by omega)) (by decide +kernel), Or.inr ?_, ⟨fun i hi => ?_, fun i hi => ?_⟩, fun i hi => ?_, fun i hi => ?_⟩
  · rw [zsi_ej]; omega
  · rw [zsi_off (by omega)]; exact h2 i hi
  · rw [zsi_off (by omega)]; exact h3 i hi
  · rw [zsi_off (by omega)]; exact h4 i hi
  · rw [zsi_off (by omega)]; exact h5 i hi
theorem zIM.wp {v : Int32} {lo hi a b : Int} (h : zIM G σ) (hv : zr lo hi v) (hb : zr a b (zgi σ 0 6)) (c : 0 ≤ lo ∧ hi ≤ 3 ∧ 1 ≤ a) : zIM G (zsi σ 0 7 v) := by
  obtain ⟨h1, ⟨h2, h3⟩, h4, h5⟩ := h.2
  have b1 : a ≤ (σ.1 0 6).toInt := hb.1
  refine ⟨zIV_i 7 7 h.1 (by omega) (zr_w (lo := 0) (hi := 3) hv (by omega)) (by decide +kernel), Or.inr ?_, ⟨fun i hi => ?_, fun i hi => ?_⟩, fun i hi => ?_, fun i hi => ?_⟩
  · rw [zsi_off (by omega)]; omega
  · rw [zsi_off (by omega)]; exact h2 i hi
  · rw [zsi_off (by omega)]; exact h3 i hi
  · rw [zsi_off (by omega)]; exact h4 i hi
  · rw [zsi_off (by omega)]; exact h5 i hi
theorem zEM.lift {σ1 : zSt} (h : zEM l G σ) (k : ∀ G1, zIM G1 σ → zIM G1 σ1) : zEM l G σ1 := by obtain ⟨G1, h1, g1⟩ := h; exact ⟨G1, k G1 h1, g1⟩
theorem zEM.wi {k j : Nat} {v : Int32} {lo hi : Int} (h : zEM l G σ) (a b : Nat) (hj : a ≤ j ∧ j ≤ b) (hv : zr lo hi v) (c : (zWe sM zZM zQM l k a b lo hi && zOM k a b) = true) : zEM l G (zsi σ k j v) := by
  obtain ⟨G1, h1, g1⟩ := h
  obtain ⟨G2, h2, g2⟩ := h1.we a b hj hv c
  exact ⟨G2, h2, fun i hi => (g2 i hi).trans (g1 i hi)⟩
theorem zEM.wk {k j : Nat} {v : Int32} (h : zEM l G σ) (c : (zWk sM zZM zQM k && (!Nat.beq k 0 && (!Nat.beq k 3 && !Nat.beq k 12))) = true) : zEM l G (zsi σ k j v) := h.lift (fun _ h1 => h1.wk c)
theorem zEM.wl {k j : Nat} {v : Int64} (h : zEM l G σ) (a b : Nat) (hj : a ≤ j ∧ j ≤ b) (c : zLM.all (fun z => !Nat.beq z.1 k || (Nat.blt b z.2 || Nat.blt z.2 a)) = true) : zEM l G (zsl σ k j v) := h.lift (fun _ h1 => h1.wl a b hj c)
theorem zEM.sub {l1 : List Nat} (h : zEM l1 G σ) (c : l1.all (fun i => l.contains i) = true) : zEM l G σ := by
  obtain ⟨G1, h1, g1⟩ := h
  rw [List.all_eq_true] at c
  exact ⟨G1, h1, fun i hi => g1 i (fun r => hi (List.contains_iff_mem.mp (c i r)))⟩
theorem zEM.upi {o : Option (zSt × Int32)} {Q : Int32 → Prop} (h : zEM l G σ) (k : ∀ G1, zIM G1 σ → zok o (zAi (zIM G1) Q)) : zok o (zAi (zEM l G) Q) := by
  obtain ⟨G1, h1, g1⟩ := h
  exact zok_mono (k G1 h1) (fun r q => ⟨⟨G1, q.1, g1⟩, q.2⟩)
theorem zEM.uEi {o : Option (zSt × Int32)} {Q : Int32 → Prop} {l1 : List Nat} (h : zEM l G σ) (c : l1.all (fun i => l.contains i) = true) (k : ∀ G1, zEM l1 G1 σ → zok o (zAi (zEM l1 G1) Q)) : zok o (zAi (zEM l G) Q) := by
  obtain ⟨G1, h1, g1⟩ := h
  rw [List.all_eq_true] at c
  have k1 : ∀ x, zEM l1 G1 x → zEM l G x := fun x hx => by
    obtain ⟨G2, h2, g2⟩ := hx
    exact ⟨G2, h2, fun i hi => (g2 i (fun r => hi (List.contains_iff_mem.mp (c i r)))).trans (g1 i hi)⟩
  exact zok_mono (k G1 h1.E) (fun r q => ⟨k1 _ q.1, q.2⟩)
theorem zEM.upl {o : Option (zSt × Int64)} {Q : Int64 → Prop} (h : zEM l G σ) (k : ∀ G1, zIM G1 σ → zok o (zAL (zIM G1) Q)) : zok o (zAL (zEM l G) Q) := by
  obtain ⟨G1, h1, g1⟩ := h
  exact zok_mono (k G1 h1) (fun r q => ⟨⟨G1, q.1, g1⟩, q.2⟩)
theorem zEM.uEl {o : Option (zSt × Int64)} {Q : Int64 → Prop} {l1 : List Nat} (h : zEM l G σ) (c : l1.all (fun i => l.contains i) = true) (k : ∀ G1, zEM l1 G1 σ → zok o (zAL (zEM l1 G1) Q)) : zok o (zAL (zEM l G) Q) := by
  obtain ⟨G1, h1, g1⟩ := h
  rw [List.all_eq_true] at c
  have k1 : ∀ x, zEM l1 G1 x → zEM l G x := fun x hx => by
    obtain ⟨G2, h2, g2⟩ := hx
    exact ⟨G2, h2, fun i hi => (g2 i (fun r => hi (List.contains_iff_mem.mp (c i r)))).trans (g1 i hi)⟩
  exact zok_mono (k G1 h1.E) (fun r q => ⟨k1 _ q.1, q.2⟩)
theorem zEM.upu {o : Option zSt} (h : zEM l G σ) (k : ∀ G1, zIM G1 σ → zok o (zIM G1)) : zok o (zEM l G) := by
  obtain ⟨G1, h1, g1⟩ := h
  exact zok_mono (k G1 h1) (fun r q => ⟨G1, q, g1⟩)
theorem zEM.uEu {o : Option zSt} {l1 : List Nat} (h : zEM l G σ) (c : l1.all (fun i => l.contains i) = true) (k : ∀ G1, zEM l1 G1 σ → zok o (zEM l1 G1)) : zok o (zEM l G) := by
  obtain ⟨G1, h1, g1⟩ := h
  rw [List.all_eq_true] at c
  have k1 : ∀ x, zEM l1 G1 x → zEM l G x := fun x hx => by
    obtain ⟨G2, h2, g2⟩ := hx
    exact ⟨G2, h2, fun i hi => (g2 i (fun r => hi (List.contains_iff_mem.mp (c i r)))).trans (g1 i hi)⟩
  exact zok_mono (k G1 h1.E) (fun r q => k1 _ q)
theorem zEM.upR {α : Type} {g : α → zSt} {o : Option α} (h : zEM l G σ) (k : ∀ G1, zIM G1 σ → zok o (fun r => zIM G1 (g r))) : zok o (fun r => zEM l G (g r)) := by
  obtain ⟨G1, h1, g1⟩ := h
  exact zok_mono (k G1 h1) (fun r q => ⟨G1, q, g1⟩)
theorem zEM.upTi {o : Option zRi} {ks : List Nat} (h : zEM l G σ) (k : ∀ G1, zIM G1 σ → zok o (zTi (zIM G1) ks)) : zok o (zTi (zEM l G) ks) := by
  obtain ⟨G1, h1, g1⟩ := h
  exact zok_mono (k G1 h1) (fun r q => ⟨⟨G1, q.1, g1⟩, q.2⟩)
theorem zEM.upTl {o : Option zRl} {ks : List Nat} (h : zEM l G σ) (k : ∀ G1, zIM G1 σ → zok o (zTl (zIM G1) ks)) : zok o (zTl (zEM l G) ks) := by
  obtain ⟨G1, h1, g1⟩ := h
  exact zok_mono (k G1 h1) (fun r q => ⟨⟨G1, q.1, g1⟩, q.2⟩)
theorem zEM.upTu {o : Option zRu} {ks : List Nat} (h : zEM l G σ) (k : ∀ G1, zIM G1 σ → zok o (zTu (zIM G1) ks)) : zok o (zTu (zEM l G) ks) := by
  obtain ⟨G1, h1, g1⟩ := h
  exact zok_mono (k G1 h1) (fun r q => ⟨⟨G1, q.1, g1⟩, q.2⟩)
theorem rM_0 (h : zSg sM σ) (j : Nat) (hj : 2 ≤ j ∧ j ≤ 2) : zr (0) (262656) (zgi σ 0 j) := h _ (List.mem_of_getElem? (i := 0) rfl) j hj.1 hj.2
theorem rM_1 (h : zSg sM σ) (j : Nat) (hj : 3 ≤ j ∧ j ≤ 3) : zr (0) (2) (zgi σ 0 j) := h _ (List.mem_of_getElem? (i := 1) rfl) j hj.1 hj.2
theorem rM_2 (h : zSg sM σ) (j : Nat) (hj : 5 ≤ j ∧ j ≤ 5) : zr (0) (262144) (zgi σ 0 j) := h _ (List.mem_of_getElem? (i := 2) rfl) j hj.1 hj.2
theorem rM_3 (h : zSg sM σ) (j : Nat) (hj : 6 ≤ j ∧ j ≤ 6) : zr (0) (16) (zgi σ 0 j) := h _ (List.mem_of_getElem? (i := 3) rfl) j hj.1 hj.2
theorem rM_4 (h : zSg sM σ) (j : Nat) (hj : 7 ≤ j ∧ j ≤ 7) : zr (0) (3) (zgi σ 0 j) := h _ (List.mem_of_getElem? (i := 4) rfl) j hj.1 hj.2
theorem rM_5 (h : zSg sM σ) (j : Nat) (hj : 8 ≤ j ∧ j ≤ 8) : zr (-1) (32767) (zgi σ 0 j) := h _ (List.mem_of_getElem? (i := 5) rfl) j hj.1 hj.2
theorem rM_6 (h : zSg sM σ) (j : Nat) (hj : 31 ≤ j ∧ j ≤ 31) : zr (0) (17) (zgi σ 0 j) := h _ (List.mem_of_getElem? (i := 6) rfl) j hj.1 hj.2
theorem rM_7 (h : zSg sM σ) (j : Nat) (hj : 32 ≤ j ∧ j ≤ 32) : zr (0) (1) (zgi σ 0 j) := h _ (List.mem_of_getElem? (i := 7) rfl) j hj.1 hj.2
theorem rM_8 (h : zSg sM σ) (j : Nat) (hj : 39 ≤ j ∧ j ≤ 39) : zr (0) (40) (zgi σ 0 j) := h _ (List.mem_of_getElem? (i := 8) rfl) j hj.1 hj.2
theorem rM_9 (h : zSg sM σ) (j : Nat) (hj : 0 ≤ j ∧ j ≤ 255) : zr (0) (31) (zgi σ 22 j) := h _ (List.mem_of_getElem? (i := 9) rfl) j hj.1 hj.2
theorem rM_10 (h : zSg sM σ) (j : Nat) (hj : 0 ≤ j ∧ j ≤ 255) : zr (0) (31) (zgi σ 24 j) := h _ (List.mem_of_getElem? (i := 10) rfl) j hj.1 hj.2
theorem rM_11 (h : zSg sM σ) (j : Nat) (hj : 0 ≤ j ∧ j ≤ 15) : zr (0) (255) (zgi σ 3 j) := h _ (List.mem_of_getElem? (i := 11) rfl) j hj.1 hj.2
theorem rM_12 (h : zSg sM σ) (j : Nat) (hj : 16 ≤ j ∧ j ≤ 20) : zr (0) (65535) (zgi σ 3 j) := h _ (List.mem_of_getElem? (i := 12) rfl) j hj.1 hj.2
theorem rM_13 (h : zSg sM σ) (j : Nat) (hj : 0 ≤ j ∧ j ≤ 20) : zr (0) (65535) (zgi σ 3 j) := h _ (List.mem_of_getElem? (i := 13) rfl) j hj.1 hj.2
theorem rM_14 (h : zSg sM σ) (j : Nat) (hj : 21 ≤ j ∧ j ≤ 22) : zr (0) (255) (zgi σ 3 j) := h _ (List.mem_of_getElem? (i := 14) rfl) j hj.1 hj.2
theorem rM_15 (h : zSg sM σ) (j : Nat) (hj : 23 ≤ j ∧ j ≤ 24) : zr (0) (1) (zgi σ 3 j) := h _ (List.mem_of_getElem? (i := 15) rfl) j hj.1 hj.2
theorem rM_16 (h : zSg sM σ) (j : Nat) (hj : 25 ≤ j ∧ j ≤ 25) : zr (0) (2) (zgi σ 3 j) := h _ (List.mem_of_getElem? (i := 16) rfl) j hj.1 hj.2
theorem rM_17 (h : zSg sM σ) (j : Nat) (hj : 26 ≤ j ∧ j ≤ 28) : zr (0) (1) (zgi σ 3 j) := h _ (List.mem_of_getElem? (i := 17) rfl) j hj.1 hj.2
theorem rM_18 (h : zSg sM σ) (j : Nat) (hj : 29 ≤ j ∧ j ≤ 35) : zr (0) (255) (zgi σ 3 j) := h _ (List.mem_of_getElem? (i := 18) rfl) j hj.1 hj.2
theorem rM_19 (h : zSg sM σ) (j : Nat) (hj : 36 ≤ j ∧ j ≤ 41) : zr (0) (255) (zgi σ 3 j) := h _ (List.mem_of_getElem? (i := 19) rfl) j hj.1 hj.2
theorem rM_20 (h : zSg sM σ) (j : Nat) (hj : 44 ≤ j ∧ j ≤ 46) : zr (0) (1) (zgi σ 3 j) := h _ (List.mem_of_getElem? (i := 20) rfl) j hj.1 hj.2
theorem rM_21 (h : zSg sM σ) (j : Nat) (hj : 47 ≤ j ∧ j ≤ 57) : zr (0) (255) (zgi σ 3 j) := h _ (List.mem_of_getElem? (i := 21) rfl) j hj.1 hj.2
theorem rM_22 (h : zSg sM σ) (j : Nat) (hj : 58 ≤ j ∧ j ≤ 58) : zr (0) (16383) (zgi σ 3 j) := h _ (List.mem_of_getElem? (i := 22) rfl) j hj.1 hj.2
theorem rM_23 (h : zSg sM σ) (j : Nat) (hj : 59 ≤ j ∧ j ≤ 59) : zr (0) (3) (zgi σ 3 j) := h _ (List.mem_of_getElem? (i := 23) rfl) j hj.1 hj.2
theorem rM_24 (h : zSg sM σ) (j : Nat) (hj : 60 ≤ j ∧ j ≤ 60) : zr (0) (255) (zgi σ 3 j) := h _ (List.mem_of_getElem? (i := 24) rfl) j hj.1 hj.2
theorem rM_25 (h : zSg sM σ) (j : Nat) (hj : 61 ≤ j ∧ j ≤ 61) : zr (0) (1) (zgi σ 3 j) := h _ (List.mem_of_getElem? (i := 25) rfl) j hj.1 hj.2
theorem rM_26 (h : zSg sM σ) (j : Nat) (hj : 62 ≤ j ∧ j ≤ 62) : zr (0) (255) (zgi σ 3 j) := h _ (List.mem_of_getElem? (i := 26) rfl) j hj.1 hj.2
theorem rM_27 (h : zSg sM σ) (j : Nat) (hj : 63 ≤ j ∧ j ≤ 63) : zr (0) (1) (zgi σ 3 j) := h _ (List.mem_of_getElem? (i := 27) rfl) j hj.1 hj.2
theorem rM_28 (h : zSg sM σ) (j : Nat) (hj : 65 ≤ j ∧ j ≤ 65) : zr (0) (255) (zgi σ 3 j) := h _ (List.mem_of_getElem? (i := 28) rfl) j hj.1 hj.2
theorem rM_29 (h : zSg sM σ) (j : Nat) (hj : 66 ≤ j ∧ j ≤ 66) : zr (0) (313) (zgi σ 3 j) := h _ (List.mem_of_getElem? (i := 29) rfl) j hj.1 hj.2
theorem rM_30 (h : zSg sM σ) (j : Nat) (hj : 67 ≤ j ∧ j ≤ 67) : zr (0) (227) (zgi σ 3 j) := h _ (List.mem_of_getElem? (i := 30) rfl) j hj.1 hj.2
theorem rM_31 (h : zSg sM σ) (j : Nat) (hj : 68 ≤ j ∧ j ≤ 68) : zr (0) (255) (zgi σ 3 j) := h _ (List.mem_of_getElem? (i := 31) rfl) j hj.1 hj.2
theorem rM_32 (h : zSg sM σ) (j : Nat) (hj : 69 ≤ j ∧ j ≤ 71) : zr (0) (1023) (zgi σ 3 j) := h _ (List.mem_of_getElem? (i := 32) rfl) j hj.1 hj.2
theorem rM_33 (h : zSg sM σ) (j : Nat) (hj : 78 ≤ j ∧ j ≤ 81) : zr (0) (15) (zgi σ 3 j) := h _ (List.mem_of_getElem? (i := 33) rfl) j hj.1 hj.2
theorem rM_34 (h : zSg sM σ) (j : Nat) (hj : 82 ≤ j ∧ j ≤ 82) : zr (0) (7) (zgi σ 3 j) := h _ (List.mem_of_getElem? (i := 34) rfl) j hj.1 hj.2
theorem rM_35 (h : zSg sM σ) (j : Nat) (hj : 85 ≤ j ∧ j ≤ 85) : zr (0) (65535) (zgi σ 3 j) := h _ (List.mem_of_getElem? (i := 35) rfl) j hj.1 hj.2
theorem rM_36 (h : zSg sM σ) (j : Nat) (hj : 86 ≤ j ∧ j ≤ 86) : zr (0) (7) (zgi σ 3 j) := h _ (List.mem_of_getElem? (i := 36) rfl) j hj.1 hj.2
theorem rM_37 (h : zSg sM σ) (j : Nat) (hj : 87 ≤ j ∧ j ≤ 87) : zr (0) (4096) (zgi σ 3 j) := h _ (List.mem_of_getElem? (i := 37) rfl) j hj.1 hj.2
theorem rM_38 (h : zSg sM σ) (j : Nat) (hj : 88 ≤ j ∧ j ≤ 88) : zr (0) (4095) (zgi σ 3 j) := h _ (List.mem_of_getElem? (i := 38) rfl) j hj.1 hj.2
theorem rM_39 (h : zSg sM σ) (j : Nat) (hj : 89 ≤ j ∧ j ≤ 89) : zr (0) (8) (zgi σ 3 j) := h _ (List.mem_of_getElem? (i := 39) rfl) j hj.1 hj.2
theorem rM_40 (h : zSg sM σ) (j : Nat) (hj : 98 ≤ j ∧ j ≤ 161) : zr (0) (255) (zgi σ 3 j) := h _ (List.mem_of_getElem? (i := 40) rfl) j hj.1 hj.2
theorem rM_41 (h : zSg sM σ) (j : Nat) (hj : 162 ≤ j ∧ j ≤ 162) : zr (0) (63) (zgi σ 3 j) := h _ (List.mem_of_getElem? (i := 41) rfl) j hj.1 hj.2
theorem rM_42 (h : zSg sM σ) (j : Nat) (hj : 163 ≤ j ∧ j ≤ 163) : zr (0) (3) (zgi σ 3 j) := h _ (List.mem_of_getElem? (i := 42) rfl) j hj.1 hj.2
theorem rM_43 (h : zSg sM σ) (j : Nat) (hj : 169 ≤ j ∧ j ≤ 169) : zr (0) (4096) (zgi σ 3 j) := h _ (List.mem_of_getElem? (i := 43) rfl) j hj.1 hj.2
theorem rM_44 (h : zSg sM σ) (j : Nat) (hj : 170 ≤ j ∧ j ≤ 170) : zr (0) (4095) (zgi σ 3 j) := h _ (List.mem_of_getElem? (i := 44) rfl) j hj.1 hj.2
theorem rM_45 (h : zSg sM σ) (j : Nat) (hj : 171 ≤ j ∧ j ≤ 171) : zr (0) (256) (zgi σ 3 j) := h _ (List.mem_of_getElem? (i := 45) rfl) j hj.1 hj.2
theorem rM_46 (h : zSg sM σ) (j : Nat) (hj : 0 ≤ j ∧ j ≤ 15) : zr (0) (255) (zgi σ 12 j) := h _ (List.mem_of_getElem? (i := 46) rfl) j hj.1 hj.2
theorem rM_47 (h : zSg sM σ) (j : Nat) (hj : 16 ≤ j ∧ j ≤ 20) : zr (0) (65535) (zgi σ 12 j) := h _ (List.mem_of_getElem? (i := 47) rfl) j hj.1 hj.2
theorem rM_48 (h : zSg sM σ) (j : Nat) (hj : 0 ≤ j ∧ j ≤ 20) : zr (0) (65535) (zgi σ 12 j) := h _ (List.mem_of_getElem? (i := 48) rfl) j hj.1 hj.2
theorem rM_49 (h : zSg sM σ) (j : Nat) (hj : 21 ≤ j ∧ j ≤ 22) : zr (0) (255) (zgi σ 12 j) := h _ (List.mem_of_getElem? (i := 49) rfl) j hj.1 hj.2
theorem rM_50 (h : zSg sM σ) (j : Nat) (hj : 23 ≤ j ∧ j ≤ 24) : zr (0) (1) (zgi σ 12 j) := h _ (List.mem_of_getElem? (i := 50) rfl) j hj.1 hj.2
theorem rM_51 (h : zSg sM σ) (j : Nat) (hj : 25 ≤ j ∧ j ≤ 25) : zr (0) (2) (zgi σ 12 j) := h _ (List.mem_of_getElem? (i := 51) rfl) j hj.1 hj.2
theorem rM_52 (h : zSg sM σ) (j : Nat) (hj : 26 ≤ j ∧ j ≤ 28) : zr (0) (1) (zgi σ 12 j) := h _ (List.mem_of_getElem? (i := 52) rfl) j hj.1 hj.2
theorem rM_53 (h : zSg sM σ) (j : Nat) (hj : 29 ≤ j ∧ j ≤ 35) : zr (0) (255) (zgi σ 12 j) := h _ (List.mem_of_getElem? (i := 53) rfl) j hj.1 hj.2
theorem rM_54 (h : zSg sM σ) (j : Nat) (hj : 36 ≤ j ∧ j ≤ 41) : zr (0) (255) (zgi σ 12 j) := h _ (List.mem_of_getElem? (i := 54) rfl) j hj.1 hj.2
theorem rM_55 (h : zSg sM σ) (j : Nat) (hj : 44 ≤ j ∧ j ≤ 46) : zr (0) (1) (zgi σ 12 j) := h _ (List.mem_of_getElem? (i := 55) rfl) j hj.1 hj.2
theorem rM_56 (h : zSg sM σ) (j : Nat) (hj : 47 ≤ j ∧ j ≤ 57) : zr (0) (255) (zgi σ 12 j) := h _ (List.mem_of_getElem? (i := 56) rfl) j hj.1 hj.2
theorem rM_57 (h : zSg sM σ) (j : Nat) (hj : 58 ≤ j ∧ j ≤ 58) : zr (0) (16383) (zgi σ 12 j) := h _ (List.mem_of_getElem? (i := 57) rfl) j hj.1 hj.2
theorem rM_58 (h : zSg sM σ) (j : Nat) (hj : 59 ≤ j ∧ j ≤ 59) : zr (0) (3) (zgi σ 12 j) := h _ (List.mem_of_getElem? (i := 58) rfl) j hj.1 hj.2
theorem rM_59 (h : zSg sM σ) (j : Nat) (hj : 60 ≤ j ∧ j ≤ 60) : zr (0) (255) (zgi σ 12 j) := h _ (List.mem_of_getElem? (i := 59) rfl) j hj.1 hj.2
theorem rM_60 (h : zSg sM σ) (j : Nat) (hj : 61 ≤ j ∧ j ≤ 61) : zr (0) (1) (zgi σ 12 j) := h _ (List.mem_of_getElem? (i := 60) rfl) j hj.1 hj.2
theorem rM_61 (h : zSg sM σ) (j : Nat) (hj : 62 ≤ j ∧ j ≤ 62) : zr (0) (255) (zgi σ 12 j) := h _ (List.mem_of_getElem? (i := 61) rfl) j hj.1 hj.2
theorem rM_62 (h : zSg sM σ) (j : Nat) (hj : 63 ≤ j ∧ j ≤ 63) : zr (0) (1) (zgi σ 12 j) := h _ (List.mem_of_getElem? (i := 62) rfl) j hj.1 hj.2
theorem rM_63 (h : zSg sM σ) (j : Nat) (hj : 65 ≤ j ∧ j ≤ 65) : zr (0) (255) (zgi σ 12 j) := h _ (List.mem_of_getElem? (i := 63) rfl) j hj.1 hj.2
theorem rM_64 (h : zSg sM σ) (j : Nat) (hj : 66 ≤ j ∧ j ≤ 66) : zr (0) (313) (zgi σ 12 j) := h _ (List.mem_of_getElem? (i := 64) rfl) j hj.1 hj.2
theorem rM_65 (h : zSg sM σ) (j : Nat) (hj : 67 ≤ j ∧ j ≤ 67) : zr (0) (227) (zgi σ 12 j) := h _ (List.mem_of_getElem? (i := 65) rfl) j hj.1 hj.2
theorem rM_66 (h : zSg sM σ) (j : Nat) (hj : 68 ≤ j ∧ j ≤ 68) : zr (0) (255) (zgi σ 12 j) := h _ (List.mem_of_getElem? (i := 66) rfl) j hj.1 hj.2
theorem rM_67 (h : zSg sM σ) (j : Nat) (hj : 69 ≤ j ∧ j ≤ 71) : zr (0) (1023) (zgi σ 12 j) := h _ (List.mem_of_getElem? (i := 67) rfl) j hj.1 hj.2
theorem rM_68 (h : zSg sM σ) (j : Nat) (hj : 78 ≤ j ∧ j ≤ 81) : zr (0) (15) (zgi σ 12 j) := h _ (List.mem_of_getElem? (i := 68) rfl) j hj.1 hj.2
theorem rM_69 (h : zSg sM σ) (j : Nat) (hj : 82 ≤ j ∧ j ≤ 82) : zr (0) (7) (zgi σ 12 j) := h _ (List.mem_of_getElem? (i := 69) rfl) j hj.1 hj.2
theorem rM_70 (h : zSg sM σ) (j : Nat) (hj : 85 ≤ j ∧ j ≤ 85) : zr (0) (65535) (zgi σ 12 j) := h _ (List.mem_of_getElem? (i := 70) rfl) j hj.1 hj.2
theorem rM_71 (h : zSg sM σ) (j : Nat) (hj : 86 ≤ j ∧ j ≤ 86) : zr (0) (7) (zgi σ 12 j) := h _ (List.mem_of_getElem? (i := 71) rfl) j hj.1 hj.2
theorem rM_72 (h : zSg sM σ) (j : Nat) (hj : 87 ≤ j ∧ j ≤ 87) : zr (0) (4096) (zgi σ 12 j) := h _ (List.mem_of_getElem? (i := 72) rfl) j hj.1 hj.2
theorem rM_73 (h : zSg sM σ) (j : Nat) (hj : 88 ≤ j ∧ j ≤ 88) : zr (0) (4095) (zgi σ 12 j) := h _ (List.mem_of_getElem? (i := 73) rfl) j hj.1 hj.2
theorem rM_74 (h : zSg sM σ) (j : Nat) (hj : 89 ≤ j ∧ j ≤ 89) : zr (0) (8) (zgi σ 12 j) := h _ (List.mem_of_getElem? (i := 74) rfl) j hj.1 hj.2
theorem rM_75 (h : zSg sM σ) (j : Nat) (hj : 98 ≤ j ∧ j ≤ 161) : zr (0) (255) (zgi σ 12 j) := h _ (List.mem_of_getElem? (i := 75) rfl) j hj.1 hj.2
theorem rM_76 (h : zSg sM σ) (j : Nat) (hj : 162 ≤ j ∧ j ≤ 162) : zr (0) (63) (zgi σ 12 j) := h _ (List.mem_of_getElem? (i := 76) rfl) j hj.1 hj.2
theorem rM_77 (h : zSg sM σ) (j : Nat) (hj : 163 ≤ j ∧ j ≤ 163) : zr (0) (3) (zgi σ 12 j) := h _ (List.mem_of_getElem? (i := 77) rfl) j hj.1 hj.2
theorem rM_78 (h : zSg sM σ) (j : Nat) (hj : 169 ≤ j ∧ j ≤ 169) : zr (0) (4096) (zgi σ 12 j) := h _ (List.mem_of_getElem? (i := 78) rfl) j hj.1 hj.2
theorem rM_79 (h : zSg sM σ) (j : Nat) (hj : 170 ≤ j ∧ j ≤ 170) : zr (0) (4095) (zgi σ 12 j) := h _ (List.mem_of_getElem? (i := 79) rfl) j hj.1 hj.2
theorem rM_80 (h : zSg sM σ) (j : Nat) (hj : 171 ≤ j ∧ j ≤ 171) : zr (0) (256) (zgi σ 12 j) := h _ (List.mem_of_getElem? (i := 80) rfl) j hj.1 hj.2
theorem xM_sp {lo hi : Int} (h : zSp zQM σ) (hr : zr lo hi (zgi σ 0 31)) (c : 0 < lo ∧ hi ≤ 17) : zr 16 17 (zgi σ 0 31) := by
  obtain ⟨r1, r2⟩ := hr
  unfold zgi at r1 r2 ⊢
  rcases h with h | h
  · have h : (σ.1 0 31).toInt = 0 := h
    exfalso; omega
  · have h : 16 ≤ (σ.1 0 31).toInt := h
    exact ⟨h, by omega⟩
theorem zEM.lv {x v : Int32} {lo hi : Int} (h : zEM l G σ) (t : zat 0 x) (hv : zr lo hi v) (c : 0 ≤ lo ∧ hi ≤ 127) : zEM l G (zsi σ 3 x.toNatClampNeg v) := h.lift (fun _ h1 => h1.lv t hv c)
theorem zEM.op {c : Int} {x v : Int32} (h : zEM l G σ) (t : zat c x) (q : 0 < c ∧ c < 6) : zEM l G (zsi σ 3 x.toNatClampNeg v) := h.lift (fun _ h1 => h1.op t q)
theorem zEM.wb {v : Int32} {lo hi : Int} (h : zEM l G σ) (hv : zr lo hi v) (c : 1 ≤ lo ∧ hi ≤ 16) : zEM l G (zsi σ 0 6 v) := h.lift (fun _ h1 => h1.wb hv c)
theorem zEM.wp {v : Int32} {lo hi a b : Int} (h : zEM l G σ) (hv : zr lo hi v) (hb : zr a b (zgi σ 0 6)) (c : 0 ≤ lo ∧ hi ≤ 3 ∧ 1 ≤ a) : zEM l G (zsi σ 0 7 v) := h.lift (fun _ h1 => h1.wp hv hb c)
theorem zEM.sp0 {v : Int32} {lo hi : Int} (h : zEM l G σ) (hv : zr lo hi v) (c : (decide (lo = 0 ∧ hi = 0) && zWs sM zZM zQM lo hi) = true) : zEM l G (zsi σ 0 31 v) := h.lift (fun _ h1 => h1.sp0 hv c)
theorem zEM.wle {k j : Nat} {v : Int64} (h : zEM l G σ) (a b : Nat) (hj : a ≤ j ∧ j ≤ b) (c : (zWzl zLM l k a b && Nat.ble zZM.length 100) = true) : zEM l G (zsl σ k j v) := by
  obtain ⟨G1, h1, g1⟩ := h
  obtain ⟨G2, h2, g2⟩ := zIV_el a b h1.1 hj c
  exact ⟨G2, ⟨h2, h1.2⟩, fun i hi => (g2 i hi).trans (g1 i hi)⟩
theorem zEM.c12 {j : Nat} (h : zEM l G σ) (hj : 0 ≤ j ∧ j ≤ 1047) (c : ((zWc sM [] zQM 3 12 && zWz zZM l 12 0 1047) && Nat.ble zZM.length 100) = true) : zEM l G (zsi σ 12 j (zgi σ 3 j)) := by
  obtain ⟨G1, h1, g1⟩ := h
  obtain ⟨G2, h2, g2⟩ := zIV_c1e 0 1047 hj h1.1 c
  obtain ⟨y1, ⟨y2, y3⟩, y4, y5⟩ := h1.2
  refine ⟨G2, ⟨h2, ?_, ⟨fun i hi => ?_, fun i hi => ?_⟩, fun i hi => ?_, fun i hi => ?_⟩, fun i hi => (g2 i hi).trans (g1 i hi)⟩
  · rw [zsi_off (by omega), zsi_off (by omega)]; exact y1
  · rw [zsi_off (by omega)]; exact y2 i hi
  · by_cases q : 172 + 6 * i = j
    · subst q; rw [zsi_ej]; exact y2 i hi
    · rw [zsi_off (by omega)]; exact y3 i hi
  · rw [zsi_off (by omega)]; exact y4 i hi
  · by_cases q : 281 + 3 * i = j
    · subst q; rw [zsi_ej]; exact y4 i hi
    · rw [zsi_off (by omega)]; exact y5 i hi
theorem zEM.c3 {j : Nat} (h : zEM l G σ) (hj : 0 ≤ j ∧ j ≤ 1047) (c : ((zWc sM [] zQM 12 3 && zWz zZM l 3 0 1047) && Nat.ble zZM.length 100) = true) : zEM l G (zsi σ 3 j (zgi σ 12 j)) := by
  obtain ⟨G1, h1, g1⟩ := h
  obtain ⟨G2, h2, g2⟩ := zIV_c1e 0 1047 hj h1.1 c
  obtain ⟨y1, ⟨y2, y3⟩, y4, y5⟩ := h1.2
  refine ⟨G2, ⟨h2, ?_, ⟨fun i hi => ?_, fun i hi => ?_⟩, fun i hi => ?_, fun i hi => ?_⟩, fun i hi => (g2 i hi).trans (g1 i hi)⟩
  · rw [zsi_off (by omega), zsi_off (by omega)]; exact y1
  · by_cases q : 172 + 6 * i = j
    · subst q; rw [zsi_ej]; exact y3 i hi
    · rw [zsi_off (by omega)]; exact y2 i hi
  · rw [zsi_off (by omega)]; exact y3 i hi
  · by_cases q : 281 + 3 * i = j
    · subst q; rw [zsi_ej]; exact y5 i hi
    · rw [zsi_off (by omega)]; exact y4 i hi
  · rw [zsi_off (by omega)]; exact y5 i hi
theorem zIM.lva {j : Nat} {v : Int32} {lo hi : Int} (h : zIM G σ) (hj : 172 ≤ j ∧ j ≤ 279) (hv : zr lo hi v) (c : 0 ≤ lo ∧ hi ≤ 127) : zIM G (zsi σ 3 j v) := by
  obtain ⟨y1, ⟨y2, y3⟩, y4, y5⟩ := h.2
  refine ⟨zIV_i 172 279 h.1 hj (zr_any (x := v)) (by decide +kernel), ?_, ⟨fun i hi => ?_, fun i hi => ?_⟩, fun i hi => ?_, fun i hi => ?_⟩
  · rw [zsi_off (by omega), zsi_off (by omega)]; exact y1
  · by_cases q : 172 + 6 * i = j
    · rw [q, zsi_ej]; exact zr_w hv c
    · rw [zsi_off (by omega)]; exact y2 i hi
  · rw [zsi_off (by omega)]; exact y3 i hi
  · rw [zsi_off (by omega)]; exact y4 i hi
  · rw [zsi_off (by omega)]; exact y5 i hi
theorem zIM.pla {j : Nat} {v : Int32} {lo hi : Int} (h : zIM G σ) (hj : 280 ≤ j ∧ j ≤ 1047) (hv : zr lo hi v) (c : 0 ≤ lo ∧ hi ≤ 1) : zIM G (zsi σ 3 j v) := by
  obtain ⟨y1, ⟨y2, y3⟩, y4, y5⟩ := h.2
  refine ⟨zIV_i 280 1047 h.1 hj (zr_any (x := v)) (by decide +kernel), ?_, ⟨fun i hi => ?_, fun i hi => ?_⟩, fun i hi => ?_, fun i hi => ?_⟩
  · rw [zsi_off (by omega), zsi_off (by omega)]; exact y1
  · rw [zsi_off (by omega)]; exact y2 i hi
  · rw [zsi_off (by omega)]; exact y3 i hi
  · by_cases q : 281 + 3 * i = j
    · rw [q, zsi_ej]; exact zr_w hv c
    · rw [zsi_off (by omega)]; exact y4 i hi
  · rw [zsi_off (by omega)]; exact y5 i hi
theorem zEM.lva {j : Nat} {v : Int32} {lo hi : Int} (h : zEM l G σ) (hj : 172 ≤ j ∧ j ≤ 279) (hv : zr lo hi v) (c : 0 ≤ lo ∧ hi ≤ 127) : zEM l G (zsi σ 3 j v) := h.lift (fun _ h1 => h1.lva hj hv c)
theorem zEM.pla {j : Nat} {v : Int32} {lo hi : Int} (h : zEM l G σ) (hj : 280 ≤ j ∧ j ≤ 1047) (hv : zr lo hi v) (c : 0 ≤ lo ∧ hi ≤ 1) : zEM l G (zsi σ 3 j v) := h.lift (fun _ h1 => h1.pla hj hv c)
theorem zIM.sh {j j3 : Nat} (h : zIM G σ) (hj : 280 ≤ j ∧ j3 = j + 3 ∧ j3 ≤ 1047) : zIM G (zsi σ 3 j (zgi σ 3 j3)) := by
  obtain ⟨y1, ⟨y2, y3⟩, y4, y5⟩ := h.2
  refine ⟨zIV_i 280 1047 h.1 (by omega) zr_any (by decide +kernel), ?_, ⟨fun i hi => ?_, fun i hi => ?_⟩, fun i hi => ?_, fun i hi => ?_⟩
  · rw [zsi_off (by omega), zsi_off (by omega)]; exact y1
  · rw [zsi_off (by omega)]; exact y2 i hi
  · rw [zsi_off (by omega)]; exact y3 i hi
  · by_cases q : 281 + 3 * i = j
    · have e := y4 (i + 1) (by omega)
      rw [show 281 + 3 * (i + 1) = j3 by omega] at e
      rw [q, zsi_ej]; exact e
    · rw [zsi_off (by omega)]; exact y4 i hi
  · rw [zsi_off (by omega)]; exact y5 i hi
end ZSM
theorem rM_lv {σ : zSt} {x : Int32} (h : zYM σ) (t : zat 0 x) : zr 0 127 (zgi σ 3 x.toNatClampNeg) := by
  obtain ⟨n, hn, e⟩ := t
  have ex : x.toNatClampNeg = 172 + 6 * n := by have : x.toNatClampNeg = x.toInt.toNat := rfl; omega
  rw [ex]; exact h.2.1.1 n hn
theorem rM_bk {σ : zSt} {lo hi : Int} (h : zYM σ) (hs : zSg sM σ) (hp : zr lo hi (zgi σ 0 7)) (c : 1 ≤ lo) : zr 1 16 (zgi σ 0 6) := by
  have hb := rM_3 hs 6 (by decide)
  obtain ⟨p1, p2⟩ := hp
  rcases h.1 with q | q
  · exfalso
    have : (zgi σ 0 7).toInt = 0 := q
    omega
  · exact ⟨q, hb.2⟩
theorem rM_g4 {G : Nat → Int} {σ : zSt} (h : zIM G σ) (g : 0 ≤ G 104 ∧ G 104 ≤ 1152921504606846976) : zrl 0 1152921504606846976 (zgl σ 4 4) := by
  have e : (σ.2 4 4).toInt = G 104 := h.fl 4 (4, 4) rfl
  exact ⟨by show 0 ≤ (σ.2 4 4).toInt; omega, by show (σ.2 4 4).toInt ≤ _; omega⟩
theorem z_odd64 {x : Int32} {a b : Int} (h : zr a b x) (q : zr 1 1 (zrem x 2)) (c : 0 ≤ a) : zr 1 63 (zrem x 64) := by
  have e2 := z_trem (y := 2) 2 (by decide) h ⟨c, by decide⟩
  have e6 := z_trem (y := 64) 64 (by decide) h ⟨c, by decide⟩
  have q1 := q.1
  rw [e2] at q1
  unfold zr; rw [e6]; omega
theorem zt11_r (j : Nat) : zr (0) (2137) (zt11 j) := by
  unfold zt11
  exact z_getD (P := fun x : Int32 => 0 ≤ x.toInt ∧ x.toInt ≤ 2137) (by decide +kernel) (by decide) j
theorem z_nat {x : Int32} {b : Int} (h : zr 0 b x) : x = Int32.ofNat x.toInt.toNat := by
  have h1 := h.1
  have h2 := (zr_any (x := x)).2
  apply Int32.toInt_inj.mp
  rw [Int32.toInt_ofNat_of_lt (by omega)]; omega
theorem z_m3 {x1 x2 v4 : Int32} (h1 : zr 0 7 x1) (h2 : zr 4 7 x2) (e : v4 = x1 >>> ((1 : Int32) &&& 31)) (q4 : ¬ x2 = 4) (q6 : ¬ x2 = 6) (q7 : ¬ x2 = 7) (q0 : ¬ zrem x1 2 = 0) (qa : ¬ v4 = 0) (qb : ¬ v4 = 2) : x2 = 5 ∧ (x1 = 3 ∨ x1 = 7) := by
  have k : ∀ i j : Fin 8, 4 ≤ j.val → ¬ Int32.ofNat j.val = 4 → ¬ Int32.ofNat j.val = 6 → ¬ Int32.ofNat j.val = 7 → ¬ zrem (Int32.ofNat i.val) 2 = 0 → ¬ (Int32.ofNat i.val) >>> ((1 : Int32) &&& 31) = 0 → ¬ (Int32.ofNat i.val) >>> ((1 : Int32) &&& 31) = 2 → Int32.ofNat j.val = 5 ∧ (Int32.ofNat i.val = 3 ∨ Int32.ofNat i.val = 7) := by decide +kernel
  have a1 := h1.2
  have a2 := h2.1
  have a3 := h2.2
  have a0 := h1.1
  have e1 := z_nat h1
  have e2 := z_nat (zr_w (lo := 0) (hi := 7) h2 (by decide))
  rw [e] at qa qb
  rw [e1] at q0 qa qb ⊢
  rw [e2] at q4 q6 q7 ⊢
  exact k ⟨x1.toInt.toNat, by omega⟩ ⟨x2.toInt.toNat, by omega⟩ (by show 4 ≤ x2.toInt.toNat; omega) q4 q6 q7 q0 qa qb
theorem z_m3b {x1 v1 v2 : Int32} (h : zr 0 255 x1) (e1 : v1 = (x1 >>> ((3 : Int32) &&& 31)) &&& 7) (e2 : v2 = x1 &&& 7) (q0 : ¬ x1 >>> ((6 : Int32) &&& 31) = 0) (q1 : ¬ x1 >>> ((6 : Int32) &&& 31) = 1) (q2 : ¬ x1 >>> ((6 : Int32) &&& 31) = 2) (n : ¬ x1 = 221 ∧ ¬ x1 = 253) : ¬ (v2 = 5 ∧ (v1 = 3 ∨ v1 = 7)) := by
  have k : ∀ i : Fin 256, ¬ (Int32.ofNat i.val) >>> ((6 : Int32) &&& 31) = 0 → ¬ (Int32.ofNat i.val) >>> ((6 : Int32) &&& 31) = 1 → ¬ (Int32.ofNat i.val) >>> ((6 : Int32) &&& 31) = 2 → (¬ Int32.ofNat i.val = 221 ∧ ¬ Int32.ofNat i.val = 253) → ¬ ((Int32.ofNat i.val) &&& 7 = 5 ∧ (((Int32.ofNat i.val) >>> ((3 : Int32) &&& 31)) &&& 7 = 3 ∨ ((Int32.ofNat i.val) >>> ((3 : Int32) &&& 31)) &&& 7 = 7)) := by decide +kernel
  have a1 := h.2
  have a0 := h.1
  have e := z_nat h
  rw [e1, e2]
  rw [e] at q0 q1 q2 n ⊢
  exact k ⟨x1.toInt.toNat, by omega⟩ q0 q1 q2 n
theorem z_l142 {v x : Int32} {M a b : Int} (e : v = 2 * x + 16) (h : zr a b x) (c : 8176 ≤ a ∧ b ≤ 32767) (hM : 65550 - x.toInt ≤ M) : 65550 - v.toInt < M := by
  have h := zr_w (lo := 8176) (hi := 32767) h c
  have k2 : zr 2 2 (2 : Int32) := zr_c (by decide)
  have k16 : zr 16 16 (16 : Int32) := zr_c (by decide)
  have e1 := z_tmul k2 h (by decide)
  have r1 := zr_mul (lo := 16352) (hi := 65534) k2 h (by decide)
  have e2 := z_tadd r1 k16 (by decide)
  rw [e1, show (2 : Int32).toInt = 2 from rfl, show (16 : Int32).toInt = 16 from rfl] at e2
  have b1 := h.1
  rw [e, e2]; omega
theorem zkC70_r (j : Nat) (h : j < 288) : zr (48) (102) (zkC 70 j) := by
  have k : ∀ i : Fin 288, 48 ≤ (zkC 70 i.val).toInt ∧ (zkC 70 i.val).toInt ≤ 102 := by decide +kernel
  exact k ⟨j, h⟩
theorem zok_within {α : Type} {σ : zSt} {a l h : Int64} {f : zSt → Int32 → Option α} {P : α → Prop} (k1 : l.toInt ≤ a.toInt → a.toInt ≤ h.toInt → zok (f σ 1) P) (k0 : (a.toInt < l.toInt ∨ h.toInt < a.toInt) → zok (f σ 0) P) : zok (zbi (fX12_within σ a l h) f) P := by
  unfold fX12_within
  by_cases q1 : lg_cmp a l < 0
  · rw [if_pos q1]; exact k0 (Or.inl (z_cmp_lt.mp q1))
  · rw [if_neg q1]
    by_cases q2 : 0 < lg_cmp a h
    · rw [if_pos q2]; exact k0 (Or.inr (z_cmp_gt.mp q2))
    · rw [if_neg q2]
      exact k1 (Int.not_lt.mp (fun r => q1 (z_cmp_lt.mpr r))) (Int.not_lt.mp (fun r => q2 (z_cmp_gt.mpr r)))
theorem z_wir {x : Int32} {l h : Int64} {a b c d : Int} (w1 : l.toInt ≤ x.toInt64.toInt) (w2 : x.toInt64.toInt ≤ h.toInt) (pl : zrl a b l) (ph : zrl c d h) : zr a d x := by
  rw [Int32.toInt_toInt64] at w1 w2
  exact ⟨Int.le_trans pl.1 w1, Int.le_trans w2 ph.2⟩
theorem zok_fails0 {α : Type} {σ : zSt} {c : Int32} {f : zSt → Int32 → Option α} {P : α → Prop} {I : zSt → Prop} (hi : I (zsi σ 0 0 0)) (k : ∀ σ1, σ1 = zsi σ 0 0 0 → I σ1 → zok (f σ1 0) P) : zok (zbi (fX12_fails σ 0 c) f) P := by
  unfold fX12_fails
  rw [if_pos rfl]
  exact k _ rfl hi
theorem zok_fails1 {α : Type} {σ : zSt} {c : Int32} {f : zSt → Int32 → Option α} {P : α → Prop} {I : zSt → Prop} (hi : I (zsi σ 0 0 c)) (k : ∀ σ1, σ1 = zsi σ 0 0 c → I σ1 → zok (f σ1 1) P) : zok (zbi (fX12_fails σ 1 c) f) P := by
  unfold fX12_fails
  rw [if_neg (by decide)]
  exact k _ rfl hi
theorem zok_isBat {α : Type} {σ : zSt} {x : Int32} {f : zSt → Int32 → Option α} {P : α → Prop} (k1 : zr 32768 49151 x → zok (f σ 1) P) (k0 : zok (f σ 0) P) : zok (zbi (fX12_isBattery σ x) f) P := by
  unfold fX12_isBattery
  have c1 : (32768 : Int32).toInt = 32768 := rfl
  have c2 : (49152 : Int32).toInt = 49152 := rfl
  by_cases q1 : zgi σ 0 7 = 1
  · rw [if_pos q1]
    show zok (zbi (if ((zgi σ 3 (32 : Int32).toNatClampNeg) &&& 8) = 0 then fX12_isBattery_37 σ else if x < 32768 then fX12_isBattery_37 σ else if 49152 ≤ x then fX12_isBattery_37 σ else fX12_isBattery_38 σ 1) f) P
    by_cases q2 : ((zgi σ 3 (32 : Int32).toNatClampNeg) &&& 8) = 0
    · rw [if_pos q2]; exact k0
    · rw [if_neg q2]
      by_cases q3 : x < 32768
      · rw [if_pos q3]; exact k0
      · rw [if_neg q3]
        by_cases q4 : 49152 ≤ x
        · rw [if_pos q4]; exact k0
        · rw [if_neg q4]
          have a1 := Int32.le_iff_toInt_le.mp (z_nlt q3)
          have a2 := Int32.lt_iff_toInt_lt.mp (z_nle q4)
          exact k1 ⟨by omega, by omega⟩
  · rw [if_neg q1]; exact k0
def zMtu (I : zSt → Prop) (b : Int) (r : zSt) : Prop := I r ∧ (zgi r 0 39).toInt ≤ b
def zMti (I : zSt → Prop) (b : Int) (Q : Int32 → Prop) (r : zSt × Int32) : Prop := I r.1 ∧ (zgi r.1 0 39).toInt ≤ b ∧ Q r.2
theorem zok_mu {α : Type} {o : Option zSt} {f : zSt → Option α} {I : zSt → Prop} {b : Int} {P : α → Prop} (h : zok o (zMtu I b)) (k : ∀ σ, I σ → (zgi σ 0 39).toInt ≤ b → zok (f σ) P) : zok (zbu o f) P := zok_bu h (fun σ q => k σ q.1 q.2)
theorem zok_mi {α : Type} {o : Option (zSt × Int32)} {f : zSt → Int32 → Option α} {I : zSt → Prop} {b : Int} {Q : Int32 → Prop} {P : α → Prop} (h : zok o (zMti I b Q)) (k : ∀ σ v, I σ → (zgi σ 0 39).toInt ≤ b → Q v → zok (f σ v) P) : zok (zbi o f) P := zok_bi h (fun σ v q => k σ v q.1 q.2.1 q.2.2)
theorem zok_smu {I : zSt → Prop} {b : Int} {σ : zSt} (hi : I σ) (h : (zgi σ 0 39).toInt ≤ b) : zok (some σ) (zMtu I b) := ⟨_, rfl, hi, h⟩
theorem zok_smi {I : zSt → Prop} {b : Int} {Q : Int32 → Prop} {σ : zSt} {v : Int32} (hi : I σ) (h : (zgi σ 0 39).toInt ≤ b) (hq : Q v) : zok (some (σ, v)) (zMti I b Q) := ⟨_, rfl, hi, h, hq⟩
theorem zok_wmu {o : Option zSt} {I : zSt → Prop} {b b1 : Int} (h : zok o (zMtu I b)) (c : b ≤ b1) : zok o (zMtu I b1) := zok_mono h (fun r q => ⟨q.1, Int.le_trans q.2 c⟩)
theorem zok_wmi {o : Option (zSt × Int32)} {I : zSt → Prop} {b b1 : Int} {Q : Int32 → Prop} (h : zok o (zMti I b Q)) (c : b ≤ b1) : zok o (zMti I b1 Q) := zok_mono h (fun r q => ⟨q.1, Int.le_trans q.2.1 c, q.2.2⟩)
theorem zok_pmu {o : Option zSt} {I : zSt → Prop} {b : Int} {σ : zSt} (hi : I σ) (c : (zgi σ 0 39).toInt ≤ b) (h : zok o (zPu σ)) : zok o (zMtu I b) := zok_mono h (fun r q => by cases q; exact ⟨hi, c⟩)
theorem zok_pmi {o : Option (zSt × Int32)} {I : zSt → Prop} {b : Int} {Q : Int32 → Prop} {σ : zSt} (hi : I σ) (c : (zgi σ 0 39).toInt ≤ b) (h : zok o (zPi σ Q)) : zok o (zMti I b Q) := zok_mono h (fun r q => by obtain ⟨q1, q2⟩ := q; cases q1; exact ⟨hi, c, q2⟩)
theorem z_k39 {σ σ1 : zSt} {k j : Nat} {v : Int32} (e : σ1 = zsi σ k j v) (c : ¬ (0 = k ∧ 39 = j)) : (zgi σ1 0 39).toInt = (zgi σ 0 39).toInt := by
  subst e
  unfold zgi
  rw [zsi_off c]
theorem z_kd {n : Nat} {l : List Nat} {d : Nat} (h : n ∈ l) (c : l.all (fun i => Nat.ble (zkL i) d) = true) : ((zkL n : Nat) : Int) ≤ (d : Int) := by
  rw [List.all_eq_true] at c
  exact Int.ofNat_le.mpr (Nat.le_of_ble_eq_true (c n h))
theorem zIM.wg {G : Nat → Int} {σ : zSt} {k j : Nat} {v : Int32} {lo hi : Int} (i : Nat) (h : zIM G σ) (hi100 : i < 100) (hz : ∀ n, n < zZM.length → (zZM[n]? = some (k, j) ↔ n = i)) (hv : zr lo hi v) (c : (zWi sM [] zQM k j j lo hi && zOM k j j) = true) : zIM (zset G i v.toInt) (zsi σ k j v) := by
  rw [Bool.and_eq_true] at c
  exact ⟨zIV_g i h.1 hi100 hz hv c.1, h.2.w ⟨Nat.le_refl _, Nat.le_refl _⟩ c.2⟩
theorem zIM.wgl {G : Nat → Int} {σ : zSt} {k j : Nat} {v : Int64} (i : Nat) (h : zIM G σ) (hz : ∀ n, n < zLM.length → (zLM[n]? = some (k, j) ↔ n = i)) : zIM (zset G (100 + i) v.toInt) (zsl σ k j v) := ⟨zIV_gl i h.1 (by decide) hz, h.2⟩
theorem zIM.g {G G1 : Nat → Int} {σ : zSt} (h : zIM G σ) (e : ∀ i, G1 i = G i) : zIM G1 σ := by
  have : G1 = G := funext e
  rw [this]; exact h
/-- the cell of a number of Z, of ZL -/
theorem zIM.at {G : Nat → Int} {σ : zSt} (h : zIM G σ) (i : Nat) {k j : Nat} (hz : zZM[i]? = some (k, j)) : (zgi σ k j).toInt = G i := h.fz i (k, j) hz
theorem zIM.atl {G : Nat → Int} {σ : zSt} (h : zIM G σ) (i : Nat) {k j : Nat} (hz : zLM[i]? = some (k, j)) : (zgl σ k j).toInt = G (100 + i) := h.fl i (k, j) hz
theorem rM_g5 {G : Nat → Int} {σ : zSt} (h : zIM G σ) (g : 1 ≤ G 5 ∧ G 5 ≤ 536870912) : zr 1 536870912 (zgi σ 3 (168 : Int32).toNatClampNeg) := by
  have e : (zgi σ 3 168).toInt = G 5 := h.at 5 rfl
  exact ⟨by show 1 ≤ (zgi σ 3 168).toInt; omega, by show (zgi σ 3 168).toInt ≤ _; omega⟩
def zln (G : Nat → Int) : Int := if G 1 = 1 then 313 else 262
theorem zln_b (G : Nat → Int) : 262 ≤ zln G ∧ zln G ≤ 313 := by unfold zln; split <;> omega
theorem zln_c {G G1 : Nat → Int} (h : G1 1 = G 1) : zln G1 = zln G := by unfold zln; rw [h]
theorem zset_id {G : Nat → Int} {i : Nat} : zset G i (G i) = G := by
  funext j
  unfold zset
  by_cases h : j = i
  · rw [if_pos h, h]
  · rw [if_neg h]
theorem zset_set {G : Nat → Int} {i : Nat} {a b : Int} : zset (zset G i a) i b = zset G i b := by
  funext j
  unfold zset
  by_cases h : j = i
  · rw [if_pos h, if_pos h]
  · rw [if_neg h, if_neg h, if_neg h]
theorem zset_com {G : Nat → Int} {i k : Nat} {a b : Int} (n : ¬ i = k) : zset (zset G i a) k b = zset (zset G k b) i a := by
  funext j
  unfold zset
  by_cases h : j = k
  · rw [if_pos h, if_neg (fun r => n (r.symm.trans h)), if_pos h]
  · rw [if_neg h]
    by_cases h1 : j = i
    · rw [if_pos h1, if_pos h1]
    · rw [if_neg h1, if_neg h1, if_neg h]
def zJ (b c : Int) : Prop := 16 * (b / 16) - 81 * (b / 81) ≤ 16 * c + 34
theorem zsi_two {σ σ1 : zSt} {k j : Nat} {a b : Int32} (e : σ1 = zsi σ k j a) : zsi σ1 k j b = zsi σ k j b := by
  subst e
  refine Prod.ext (funext fun k1 => funext fun j1 => ?_) rfl
  rw [zsi_at, zsi_at, zsi_at]
  by_cases h : k1 = k ∧ j1 = j
  · rw [if_pos h, if_pos h]
  · rw [if_neg h, if_neg h, if_neg h]
def zEnd (G : Nat → Int) : Nat → Int := if G 3 + 1 = zln G then zset (zset (zset G 3 (G 3 + 1)) 3 0) 101 (G 101 + 1) else zset G 3 (G 3 + 1)
def zEh (G : Nat → Int) : Prop := (0 ≤ G 3 ∧ G 3 < zln G) ∧ (0 ≤ G 101 ∧ G 101 ≤ 1125899906842624)
def zGJ (G : Nat → Int) : Prop := (0 ≤ G 100 ∧ G 100 ≤ 1125899906842624) ∧ (0 ≤ G 103 ∧ G 103 ≤ 1125899906842624) ∧ (0 ≤ G 104 ∧ G 104 ≤ 1125899906842624) ∧ (0 ≤ G 101 ∧ G 101 ≤ 1125899906842624) ∧ (0 ≤ G 3 ∧ G 3 < zln G) ∧ (0 ≤ G 4 ∧ G 4 ≤ 227) ∧ (0 ≤ G 5 ∧ G 5 ≤ 268435456) ∧ zJ (G 100) (G 5)
def zph (G : Nat → Int) : Int := 228 * ((if G 1 = 1 then 313 * G 101 else 262 * G 101) + G 3) + G 4
def zRel (G G1 : Nat → Int) (b : Int) : Prop := (4 ≤ b ∧ b ≤ 35) ∧ G1 100 = G 100 + b ∧ (G 104 ≤ G1 104 ∧ G1 104 ≤ G 104 + 1) ∧ (0 ≤ G1 5 ∧ G1 5 ≤ G 5 + 3) ∧ zJ (G1 100) (G1 5) ∧ (0 ≤ G1 3 ∧ G1 3 < zln G1) ∧ (0 ≤ G1 4 ∧ G1 4 ≤ 227) ∧ zph G1 = zph G + b ∧ (G 101 ≤ G1 101 ∧ G1 101 ≤ G 101 + 1) ∧ (∀ i, i ∈ [0, 1, 2, 6, 7, 8, 9, 102, 103, 105, 106] → G1 i = G i)
def zOnce (G : Nat → Int) (r : zSt) : Prop := ∃ G1 b, zIM G1 r ∧ zRel G G1 b
theorem z_s168 {G : Nat → Int} {σ : zSt} (h : zIM G σ) (g : 0 ≤ G 5 ∧ G 5 ≤ 536870912) : zIM (zset G 5 (G 5 + 1)) (zsi σ 3 (168 : Int32).toNatClampNeg ((zgi σ 3 (168 : Int32).toNatClampNeg) + 1)) := by
  have e : (zgi σ 3 (168 : Int32).toNatClampNeg).toInt = G 5 := h.at 5 (by decide)
  have c1 : (1 : Int32).toInt = 1 := rfl
  have t : (zgi σ 3 (168 : Int32).toNatClampNeg + 1).toInt = G 5 + 1 := by
    rw [z_tadd (a := 0) (b := 536870912) (x := zgi σ 3 (168 : Int32).toNatClampNeg) (y := 1) ⟨by omega, by omega⟩ (zr_c (lo := 1) (hi := 1) (x := 1) (by decide)) (by decide), e, c1]
  rw [← t]
  exact h.wg 5 (by decide) (by decide) zr_any (by decide +kernel)
theorem z_w44 {G : Nat → Int} {σ : zSt} (h : zIM G σ) (g : 0 ≤ G 104 ∧ G 104 ≤ 1125899906842624) : zIM (zset G 104 (G 104 + 1)) (zsl σ 4 (4 : Int32).toNatClampNeg ((zgl σ 4 (4 : Int32).toNatClampNeg) + 1)) := by
  have e : (zgl σ 4 (4 : Int32).toNatClampNeg).toInt = G 104 := h.atl 4 (by decide)
  have c1 : (1 : Int64).toInt = 1 := rfl
  have t : (zgl σ 4 (4 : Int32).toNatClampNeg + 1).toInt = G 104 + 1 := by
    rw [z_tladd (a := 0) (b := 1125899906842624) (x := zgl σ 4 (4 : Int32).toNatClampNeg) (y := 1) ⟨by omega, by omega⟩ (zrl_c (lo := 1) (hi := 1) (x := 1) (by decide)) (by decide), e, c1]
  rw [← t]
  exact h.wgl 4 (by decide)
theorem z_beat {G : Nat → Int} {σ : zSt} (h : zIM G σ) (g : 0 ≤ G 100 ∧ G 100 ≤ 2251799813685248) (c : Int64) (d : Int) (hc : c.toInt = d) (hd : 0 < d) : ((zgl σ 4 (0 : Int32).toNatClampNeg) / c).toInt = G 100 / d := by
  have e : (zgl σ 4 (0 : Int32).toNatClampNeg).toInt = G 100 := h.atl 0 (by decide)
  rw [z_tldiv (a := 0) (b := 2251799813685248) d hc (x := zgl σ 4 (0 : Int32).toNatClampNeg) ⟨by omega, by omega⟩ ⟨by decide, hd⟩, e]
def zMix (G : Nat → Int) (x5 : Int64) (r : zSt) : Prop := (x5.toInt = G 100 / 81 ∧ zIM G r) ∨ (x5.toInt + 1 = G 100 / 81 ∧ zIM (zset G 5 0) r)
def zWvs (G : Nat → Int) (x3 : Int64) (r : zSt) : Prop := ∃ w, (w = G 104 ∨ w = G 104 + 1) ∧ ((x3.toInt / 81 = G 100 / 81 ∧ zIM (zset G 104 w) r) ∨ (x3.toInt / 81 + 1 = G 100 / 81 ∧ zIM (zset (zset G 104 w) 5 0) r))
def zEnT (G : Nat → Int) (r : zSt) : Prop := ∃ w c, (w = G 104 ∨ w = G 104 + 1) ∧ (0 ≤ c ∧ c ≤ G 5 + 3) ∧ zJ (G 100) c ∧ zIM (zset (zset G 104 w) 5 c) r
end ZJN1
section ZJN2
theorem s_X12_fails_10 {G : Nat → Int} {σ : zSt} (hσ : zIM G σ) {x1 : Int32} (h_x1 : zr (0) (1) x1) {s0 : Int32} (h_s0 : zr (0) (2) s0) : zok (fX12_fails_10 σ x1 s0) (zAi (zIM G) (fun v : Int32 => zr (0) (1) v)) := by
  unfold fX12_fails_10
  refine zok_bs (hσ.wi 0 0 (by decide) h_s0 (by decide +kernel)) (fun σ1 e2 i1 => ?_)
  refine zok_ck (zbo_ok h_x1 (by decide)) ?_
  exact zok_sai i1 h_x1
theorem s_X12_fails {G : Nat → Int} {σ : zSt} (hσ : zIM G σ) {x1 : Int32} (h_x1 : zr (0) (1) x1) {x2 : Int32} (h_x2 : zr (1) (2) x2) : zok (fX12_fails σ x1 x2) (zAi (zIM G) (fun v : Int32 => zr (0) (1) v)) := by
  unfold fX12_fails
  refine zok_if (fun q1 => ?_) (fun q1 => ?_)
  · have h2 := zc_eql (0) (0) q1 h_x1 (zr_c (lo := 0) (hi := 0) (by decide)) (by decide)
    exact (s_X12_fails_10 hσ (zr_w h2 (by decide)) (zr_w (zr_c (lo := 0) (hi := 0) (by decide)) (by decide)))
  have h3 := zc_nel (1) (1) q1 h_x1 (zr_c (lo := 0) (hi := 0) (by decide)) (by decide)
  exact (s_X12_fails_10 hσ (zr_w h3 (by decide)) (zr_w h_x2 (by decide)))
theorem s_feed_h {G : Nat → Int} {x1 : Int32} {x2 x4 x6 : Int64} (h1 : zr 1 24 x1) : ∀ (n : Nat) {σ : zSt} (hσ : zEM [0] G σ) {x8 : Int32} (h8 : zr 0 24 x8) (ht : (zgi σ 0 2).toInt + (x1.toInt - x8.toInt) ≤ 262656) (hm : 24 - x8.toInt < n), zok (fX12_feed_54 n σ x1 x2 x4 x6 x8) (zAi (zEM [0] G) (fun v : Int32 => zr (0) (262656) v)) := by
  intro n
  induction n with
  | zero => intro σ hσ x8 h8 ht hm; have := h8.2; exfalso; omega
  | succ n ih =>
    intro σ hσ x8 h8 ht hm
    show zok (fX12_feed_54_body (fX12_feed_54 n) σ x1 x2 x4 x6 x8) _
    unfold fX12_feed_54_body
    have hT : zr 0 262656 (zgi σ 0 2) := rM_0 hσ.sg 2 (by decide)
    refine zok_if (fun q => zok_sai hσ hT) (fun q => ?_)
    have q1 := Int32.lt_iff_toInt_lt.mp (z_nle q)
    have a1 : zr 1 1 (1 : Int32) := zr_c (by decide)
    have c1 : (1 : Int32).toInt = 1 := rfl
    have k : ∀ s0 : Int64, zok (fX12_feed_93 (fX12_feed_54 n) σ x1 x2 x4 x6 x8 s0 (zgi σ 0 2)) (zAi (zEM [0] G) (fun v : Int32 => zr (0) (262656) v)) := fun s0 => by
      unfold fX12_feed_93
      have t1 : zr 0 262655 (zgi σ 0 2) := ⟨hT.1, by omega⟩
      refine zok_ck rfl (zok_ck (zin_ok t1 (by decide)) ?_)
      refine zok_bs (I := zEM [0] G) (hσ.wk (by decide +kernel)) (fun σ1 e1 i1 => ?_)
      have k1 : zgi σ1 0 2 = zgi σ 0 2 := by subst e1; unfold zgi; rw [zsi_off (fun h => absurd h.1 (by decide))]
      have t2 : zr 0 262655 (zgi σ1 0 2) := by rw [k1]; exact t1
      have t4 : (zgi σ1 0 2 + 1).toInt = (zgi σ1 0 2).toInt + (1 : Int32).toInt := z_tadd t2 a1 (by decide)
      refine zok_bs (I := zEM [0] G) (i1.wi 2 2 (by decide) (zr_add (lo := 1) (hi := 262656) t2 a1 (by decide)) (by decide +kernel)) (fun σ2 e2 i2 => ?_)
      have k2 : (zgi σ2 0 2).toInt = (zgi σ 0 2).toInt + 1 := by
        rw [← k1, ← c1, ← t4, e2]; unfold zgi; rw [zsi_ej]
      have t3 : (x8 + 1).toInt = x8.toInt + (1 : Int32).toInt := z_tadd h8 a1 (by decide)
      have b8 := h8.1
      have b9 := h1.2
      refine zok_bv (fun v3 e3 => ?_)
      subst e3
      exact ih i2 ⟨by omega, by omega⟩ (by omega) (by omega)
    exact zok_if (fun _ => zok_if (fun _ => k _) (fun _ => k _)) (fun _ => k _)
theorem s_X12_feed {G : Nat → Int} {σ : zSt} (hσ : zEM [0] G σ) {x1 : Int32} {x2 : Int64} {x4 : Int64} {x6 : Int64} : zok (fX12_feed σ x1 x2 x4 x6) (zAi (zEM [0] G) (fun v : Int32 => zr (0) (262656) v)) := by
  have z9 : ∀ σ1, zEM [0] G σ1 → zok (fX12_feed_49 σ1) (zAi (zEM [0] G) (fun v : Int32 => zr (0) (262656) v)) := fun σ1 i1 => zok_sai i1 (zr_c (by decide))
  unfold fX12_feed
  refine zok_within (fun w1 w2 => ?_) (fun w3 => ?_)
  · have h1 := z_wir w1 w2 (zrl_c (lo := 1) (hi := 1) (by decide)) (zrl_c (lo := 24) (hi := 24) (by decide))
    refine zok_if (fun q => absurd q (by decide)) (fun _ => ?_)
    unfold fX12_feed_18
    refine zok_fails0 (I := zEM [0] G) (hσ.wi 0 0 (by decide) zr_any (by decide +kernel)) (fun σ1 e1 i1 => ?_)
    refine zok_if (fun _ => ?_) (fun q => absurd rfl q)
    have hT : zr 0 262656 (zgi σ1 0 2) := rM_0 i1.sg 2 (by decide)
    refine zok_if (fun q => ?_) (fun q => ?_)
    · unfold fX12_feed_42
      refine zok_fails0 (I := zEM [0] G) (i1.wi 0 0 (by decide) zr_any (by decide +kernel)) (fun σ2 e2 i2 => ?_)
      refine zok_if (fun _ => ?_) (fun q => absurd rfl q)
      have q1 := Int32.le_iff_toInt_le.mp q
      have t : (zgi σ1 0 2 + x1).toInt = (zgi σ1 0 2).toInt + x1.toInt := z_tadd hT h1 (by decide)
      have k2 : zgi σ2 0 2 = zgi σ1 0 2 := by subst e2; unfold zgi; rw [zsi_off (by decide)]
      have c2 : (262656 : Int32).toInt = 262656 := rfl
      have c0 : (0 : Int32).toInt = 0 := rfl
      exact s_feed_h h1 zfuel i2 (zr_c (by decide)) (by rw [k2, c0]; omega) (by decide)
    · unfold fX12_feed_42
      refine zok_fails1 (I := zEM [0] G) (i1.wi 0 0 (by decide) zr_any (by decide +kernel)) (fun σ2 e2 i2 => ?_)
      exact zok_if (fun q => absurd q (by decide)) (fun _ => z9 _ i2)
  · refine zok_if (fun _ => ?_) (fun q => absurd rfl q)
    unfold fX12_feed_18
    refine zok_fails1 (I := zEM [0] G) (hσ.wi 0 0 (by decide) zr_any (by decide +kernel)) (fun σ1 e1 i1 => ?_)
    exact zok_if (fun q => absurd q (by decide)) (fun _ => z9 _ i1)
theorem s_grow_h {G : Nat → Int} {x1 x2 : Int32} (h1 : zr 0 262656 x1) (h2 : zr 1 262656 x2) : ∀ (n : Nat) {σ : zSt} (hσ : zEM [0] G σ) (hm : 262656 - (zgi σ 0 2).toInt < n), zok (fX12_grow_54 n σ x1 x2) (zAi (zEM [0] G) (fun v : Int32 => zr (0) (262656) v)) := by
  intro n
  induction n with
  | zero =>
    intro σ hσ hm
    have hT : zr 0 262656 (zgi σ 0 2) := rM_0 hσ.sg 2 (by decide)
    have := hT.2
    exfalso; omega
  | succ n ih =>
    intro σ hσ hm
    show zok (fX12_grow_54_body (fX12_grow_54 n) σ x1 x2) _
    unfold fX12_grow_54_body
    have hT : zr 0 262656 (zgi σ 0 2) := rM_0 hσ.sg 2 (by decide)
    refine zok_if (fun q => zok_sai hσ (zr_w h2 (by decide))) (fun q => ?_)
    · have q1 := Int32.lt_iff_toInt_lt.mp (z_nle q)
      have a1 : zr 1 1 (1 : Int32) := zr_c (by decide)
      have c1 : (1 : Int32).toInt = 1 := rfl
      have b1 := h1.2
      have t1 : zr 0 262655 (zgi σ 0 2) := ⟨hT.1, by omega⟩
      refine zok_ck (zdv_ok h2 (by decide)) (zok_ck (zin_ok (zr_remv (lo := 0) (hi := 262655) t1 h2 (by decide)) (by decide)) (zok_ck (zin_ok t1 (by decide)) ?_))
      refine zok_bs (I := zEM [0] G) (hσ.wk (by decide +kernel)) (fun σ1 e1 i1 => ?_)
      have k1 : zgi σ1 0 2 = zgi σ 0 2 := by subst e1; unfold zgi; rw [zsi_off (fun h => absurd h.1 (by decide))]
      have t2 : zr 0 262655 (zgi σ1 0 2) := by rw [k1]; exact t1
      have t4 : (zgi σ1 0 2 + 1).toInt = (zgi σ1 0 2).toInt + (1 : Int32).toInt := z_tadd t2 a1 (by decide)
      refine zok_bs (I := zEM [0] G) (i1.wi 2 2 (by decide) (zr_add (lo := 1) (hi := 262656) t2 a1 (by decide)) (by decide +kernel)) (fun σ2 e2 i2 => ?_)
      have k2 : (zgi σ2 0 2).toInt = (zgi σ 0 2).toInt + 1 := by
        rw [← k1, ← c1, ← t4, e2]; unfold zgi; rw [zsi_ej]
      exact ih i2 (by omega)
theorem s_X12_grow {G : Nat → Int} {σ : zSt} (hσ : zEM [0] G σ) {x1 : Int32} : zok (fX12_grow σ x1) (zAi (zEM [0] G) (fun v : Int32 => zr (0) (262656) v)) := by
  have z9 : ∀ σ1, zEM [0] G σ1 → zok (fX12_grow_47 σ1) (zAi (zEM [0] G) (fun v : Int32 => zr (0) (262656) v)) := fun σ1 i1 => zok_sai i1 (zr_c (by decide))
  have z15 : zok (fX12_grow_15 σ x1) (zAi (zEM [0] G) (fun v : Int32 => zr (0) (262656) v)) := by
    unfold fX12_grow_15 fX12_grow_20
    refine zok_fails1 (I := zEM [0] G) (hσ.wi 0 0 (by decide) zr_any (by decide +kernel)) (fun σ1 e1 i1 => ?_)
    exact zok_if (fun q => absurd q (by decide)) (fun _ => z9 _ i1)
  unfold fX12_grow
  refine zok_if (fun _ => z15) (fun q => ?_)
  refine zok_if (fun q2 => ?_) (fun _ => z15)
  have hT0 : zr 0 262656 (zgi σ 0 2) := rM_0 hσ.sg 2 (by decide)
  have q1 := Int32.le_iff_toInt_le.mp (z_nlt q)
  have q3 := Int32.le_iff_toInt_le.mp q2
  have c2 : (262656 : Int32).toInt = 262656 := rfl
  have b0 := hT0.1
  have h1 : zr 0 262656 x1 := ⟨by omega, by omega⟩
  unfold fX12_grow_20
  refine zok_fails0 (I := zEM [0] G) (hσ.wi 0 0 (by decide) zr_any (by decide +kernel)) (fun σ1 e1 i1 => ?_)
  refine zok_if (fun _ => ?_) (fun q => absurd rfl q)
  refine zok_if (fun q4 => ?_) (fun q4 => ?_)
  · unfold fX12_grow_40
    refine zok_fails1 (I := zEM [0] G) (i1.wi 0 0 (by decide) zr_any (by decide +kernel)) (fun σ2 e2 i2 => ?_)
    exact zok_if (fun q => absurd q (by decide)) (fun _ => z9 _ i2)
  · unfold fX12_grow_40
    refine zok_fails0 (I := zEM [0] G) (i1.wi 0 0 (by decide) zr_any (by decide +kernel)) (fun σ2 e2 i2 => ?_)
    refine zok_if (fun _ => ?_) (fun q => absurd rfl q)
    have k2 : zgi σ2 0 2 = zgi σ1 0 2 := by subst e2; unfold zgi; rw [zsi_off (by decide)]
    have hT : zr 0 262656 (zgi σ1 0 2) := rM_0 i1.sg 2 (by decide)
    have h2 := zc_nel (1) (262656) q4 hT (zr_c (lo := 0) (hi := 0) (by decide)) (by decide)
    have b2 := h2.1
    refine zok_bv (fun v5 e5 => ?_)
    subst e5
    exact s_grow_h h1 (by rw [k2]; exact h2) zfuel i2 (by rw [k2]; unfold zfuel; omega)
theorem s_X12_patch_32_body {G : Nat → Int} {σ : zSt} {k32 : zSt → Int32 → Int64 → Int32 → Option (zSt)} {Mk32 : Int} (hk32 : ∀ (σ : zSt) (x1 : Int32) (x2 : Int64) (x4 : Int32), zIM G σ → zr (0) (262648) x1 → zr (0) (8) x4 → (8) - x4.toInt < Mk32 → zok (k32 σ x1 x2 x4) (zIM G)) (hσ : zIM G σ) {x1 : Int32} (h_x1 : zr (0) (262648) x1) {x2 : Int64} {x4 : Int32} (h_x4 : zr (0) (8) x4) (hMk32 : (8) - x4.toInt ≤ Mk32) : zok (fX12_patch_32_body k32 σ x1 x2 x4) (zIM G) := by
  unfold fX12_patch_32_body
  refine zok_if (fun q1 => ?_) (fun q1 => ?_)
  · have h2 := zc_ler (8) q1 (zr_c (lo := 8) (hi := 8) (by decide)) h_x4 (by decide)
    exact zok_some hσ
  have h3 := zc_ltl (7) (z_nle q1) h_x4 (zr_c (lo := 8) (hi := 8) (by decide)) (by decide)
  refine zok_ck (zin_ok (zr_add (lo := 0) (hi := 262655) h_x1 h3 (by decide)) (by decide)) ?_
  refine zok_bs (hσ.wk (by decide)) (fun σ1 e5 i4 => ?_)
  refine zok_br (zr_add (lo := 1) (hi := 8) h3 (zr_c (lo := 1) (hi := 1) (by decide)) (by decide)) (fun v2 e7 h6 => ?_)
  exact hk32 _ _ _ _ i4 h_x1 (zr_w h6 (by decide)) (by rw [e7]; have := z_tadd (y := (1 : Int32)) h3 (zr_c (lo := 1) (hi := 1) (by decide)) (by decide); have e9 : (1 : Int32).toInt = 1 := rfl; omega) 
theorem s_X12_patch_32 {G : Nat → Int} : ∀ (n : Nat) {σ : zSt} (hσ : zIM G σ) {x1 : Int32} (h_x1 : zr (0) (262648) x1) {x2 : Int64} {x4 : Int32} (h_x4 : zr (0) (8) x4) (hm : (8) - x4.toInt < n), zok (fX12_patch_32 n σ x1 x2 x4) (zIM G) := by
  intro n
  induction n with
  | zero => intro σ hσ x1 h_x1 x2 x4 h_x4 hm ; have h9 := h_x4.1; have h8 := h_x4.2; exfalso; omega
  | succ n ih => intro σ hσ x1 h_x1 x2 x4 h_x4 hm ; exact s_X12_patch_32_body (fun σ x1 x2 x4 hσ h_x1 h_x4 hm1 => ih hσ h_x1 h_x4 (by omega)) hσ h_x1 h_x4 (Int.le_refl _)
theorem s_X12_patch {G : Nat → Int} {σ : zSt} (hσ : zIM G σ) {x1 : Int32} {x2 : Int64} : zok (fX12_patch σ x1 x2) (zIM G) := by
  unfold fX12_patch
  refine zok_if (fun q1 => ?_) (fun q1 => ?_)
  · have h2 := zc_ltl (-1) q1 zr_any (zr_c (lo := 0) (hi := 0) (by decide)) (by decide)
    unfold fX12_patch_16
    unfold fX12_patch_21
    refine zok_fails1 (hσ.wi 0 0 (by decide) zr_any (by decide +kernel)) (fun σ3 e3 i4 => ?_)
    refine zok_if (fun q5 => ?_) (fun q5 => ?_)
    · exact zr_no (zc_eql (1) (0) q5 (zr_c (lo := 1) (hi := 1) (by decide)) (zr_c (lo := 0) (hi := 0) (by decide)) (by decide)) (by decide)
    exact zok_some i4
  have h6 := zc_ler (0) (z_nlt q1) (zr_c (lo := 0) (hi := 0) (by decide)) zr_any (by decide)
  refine zok_if (fun q7 => ?_) (fun q7 => ?_)
  · have h8 := zc_lel (262648) q7 h6 (zr_sub (lo := -8) (hi := 262648) (rM_0 hσ.sg _ (by decide)) (zr_c (lo := 8) (hi := 8) (by decide)) (by decide)) (by decide)
    have h9 := zc_ler (0) q7 h6 (zr_sub (lo := -8) (hi := 262648) (rM_0 hσ.sg _ (by decide)) (zr_c (lo := 8) (hi := 8) (by decide)) (by decide)) (by decide)
    unfold fX12_patch_21
    refine zok_fails0 (hσ.wi 0 0 (by decide) zr_any (by decide +kernel)) (fun σ3 e10 i11 => ?_)
    refine zok_if (fun q12 => ?_) (fun q12 => ?_)
    · exact (s_X12_patch_32 zfuel i11 h8 (zr_w (zr_c (lo := 0) (hi := 0) (by decide)) (by decide)) (by decide))
    exact zr_no (zc_nel (1) (0) q12 (zr_c (lo := 0) (hi := 0) (by decide)) (zr_c (lo := 0) (hi := 0) (by decide)) (by decide)) (by decide)
  unfold fX12_patch_16
  unfold fX12_patch_21
  refine zok_fails1 (hσ.wi 0 0 (by decide) zr_any (by decide +kernel)) (fun σ3 e13 i14 => ?_)
  refine zok_if (fun q15 => ?_) (fun q15 => ?_)
  · exact zr_no (zc_eql (1) (0) q15 (zr_c (lo := 1) (hi := 1) (by decide)) (zr_c (lo := 0) (hi := 0) (by decide)) (by decide)) (by decide)
  exact zok_some i14
theorem s_X12_bytesAt_7_body {σ : zSt} {k7 : zSt → Int32 → Int32 → Int32 → Option (zSt × Int32)} {Mk7 : Int} (hk7 : ∀ (x1 : Int32) (x3 : Int32) (x4 : Int32), zr (10) (32777) x1 → zr (-1) (1) x4 → x4.toInt - (-1) < Mk7 → zok (k7 σ x1 x3 x4) (zPi σ (fun v : Int32 => True))) (hσ : zPM σ) {x1 : Int32} (h_x1 : zr (10) (32777) x1) {x3 : Int32} {x4 : Int32} (h_x4 : zr (-1) (1) x4) (hMk7 : x4.toInt - (-1) ≤ Mk7) : zok (fX12_bytesAt_7_body k7 σ x1 x3 x4) (zPi σ (fun v : Int32 => True)) := by
  unfold fX12_bytesAt_7_body
  refine zok_if (fun q1 => ?_) (fun q1 => ?_)
  · have h2 := zc_ltl (-1) q1 h_x4 (zr_c (lo := 0) (hi := 0) (by decide)) (by decide)
    exact zok_spi trivial
  have h3 := zc_ler (0) (z_nlt q1) (zr_c (lo := 0) (hi := 0) (by decide)) h_x4 (by decide)
  refine zok_ck (zin_ok (zr_add (lo := 10) (hi := 32778) h_x1 h3 (by decide)) (by decide)) ?_
  refine zok_bv (fun v1 e5 => ?_)
  refine zok_br (zr_add (lo := -1) (hi := 0) h3 (zr_c (lo := -1) (hi := -1) (by decide)) (by decide)) (fun v2 e7 h6 => ?_)
  exact hk7 _ _ _  h_x1 (zr_w h6 (by decide)) (by rw [e7]; have := z_tadd (y := (-1 : Int32)) h3 (zr_c (lo := -1) (hi := -1) (by decide)) (by decide); have e9 : (-1 : Int32).toInt = -1 := rfl; omega) 
theorem s_X12_bytesAt_7 {σ : zSt} (hσ : zPM σ) : ∀ (n : Nat) {x1 : Int32} (h_x1 : zr (10) (32777) x1) {x3 : Int32} {x4 : Int32} (h_x4 : zr (-1) (1) x4) (hm : x4.toInt - (-1) < n), zok (fX12_bytesAt_7 n σ x1 x3 x4) (zPi σ (fun v : Int32 => True)) := by
  intro n
  induction n with
  | zero => intro x1 h_x1 x3 x4 h_x4 hm ; have h9 := h_x4.1; have h8 := h_x4.2; exfalso; omega
  | succ n ih => intro x1 h_x1 x3 x4 h_x4 hm ; exact s_X12_bytesAt_7_body (fun x1 x3 x4 h_x1 h_x4 hm1 => ih h_x1 h_x4 (by omega)) hσ h_x1 h_x4 (Int.le_refl _)
theorem s_X12_bytesAt {σ : zSt} (hσ : zPM σ) {x1 : Int32} (h_x1 : zr (10) (32777) x1) {x2 : Int32} (h_x2 : zr (2) (2) x2) : zok (fX12_bytesAt σ x1 x2) (zPi σ (fun v : Int32 => True)) := by
  unfold fX12_bytesAt
  refine zok_br (zr_sub (lo := 1) (hi := 1) h_x2 (zr_c (lo := 1) (hi := 1) (by decide)) (by decide)) (fun v3 e2 h1 => ?_)
  exact (s_X12_bytesAt_7 hσ zfuel h_x1 (zr_w h1 (by decide)) (z_sd h1 (by decide)))
theorem s_X12_isHeader_125 {σ : zSt} (hσ : zPM σ) {s0 : Int32} (h_s0 : zr (0) (1) s0) : zok (fX12_isHeader_125 σ s0) (zPi σ (fun v : Int32 => zr (0) (1) v)) := by
  unfold fX12_isHeader_125
  refine zok_ck (zbo_ok h_s0 (by decide)) ?_
  exact zok_spi h_s0
theorem s_X12_isHeader_114 {σ : zSt} (hσ : zPM σ) {x2 : Int32} (h_x2 : zr (0) (8) x2) : zok (fX12_isHeader_114 σ x2) (zPi σ (fun v : Int32 => zr (0) (1) v)) := by
  unfold fX12_isHeader_114
  refine zok_if (fun q1 => ?_) (fun q1 => ?_)
  · have h2 := zc_eql (8) (8) q1 h_x2 (zr_c (lo := 8) (hi := 8) (by decide)) (by decide)
    exact (s_X12_isHeader_125 hσ (zr_w (zr_c (lo := 1) (hi := 1) (by decide)) (by decide)))
  have h3 := zc_nel (0) (7) q1 h_x2 (zr_c (lo := 8) (hi := 8) (by decide)) (by decide)
  exact (s_X12_isHeader_125 hσ (zr_w (zr_c (lo := 0) (hi := 0) (by decide)) (by decide)))
theorem s_X12_isHeader_105 {σ : zSt} {k15 : zSt → Int32 → Int32 → Option (zSt × Int32)} {Mk15 : Int} (hk15 : ∀ (x1 : Int32) (x2 : Int32), zr (8176) (32767) x1 → zr (0) (8) x2 → (8) - x2.toInt < Mk15 → zok (k15 σ x1 x2) (zPi σ (fun v : Int32 => zr (0) (1) v))) (hσ : zPM σ) {x1 : Int32} (h_x1 : zr (8176) (32767) x1) {x2 : Int32} (h_x2 : zr (0) (7) x2) {s0 : Int32} (h_s0 : zr (32) (84) s0) {s1 : Int32} (h_s1 : zr (0) (255) s1) (hMk15 : (8) - x2.toInt ≤ Mk15) : zok (fX12_isHeader_105 k15 σ x1 x2 s0 s1) (zPi σ (fun v : Int32 => zr (0) (1) v)) := by
  unfold fX12_isHeader_105
  refine zok_if (fun q1 => ?_) (fun q1 => ?_)
  · have h2 := zc_eql (32) (84) q1 h_s1 h_s0 (by decide)
    refine zok_br (zr_add (lo := 1) (hi := 8) h_x2 (zr_c (lo := 1) (hi := 1) (by decide)) (by decide)) (fun v1 e4 h3 => ?_)
    exact hk15 _ _  h_x1 (zr_w h3 (by decide)) (by rw [e4]; have := z_tadd (y := (1 : Int32)) h_x2 (zr_c (lo := 1) (hi := 1) (by decide)) (by decide); have e9 : (1 : Int32).toInt = 1 := rfl; omega) 
  exact (s_X12_isHeader_114 hσ (zr_w h_x2 (by decide)))
theorem s_X12_isHeader_15_body {σ : zSt} {k15 : zSt → Int32 → Int32 → Option (zSt × Int32)} {Mk15 : Int} (hk15 : ∀ (x1 : Int32) (x2 : Int32), zr (8176) (32767) x1 → zr (0) (8) x2 → (8) - x2.toInt < Mk15 → zok (k15 σ x1 x2) (zPi σ (fun v : Int32 => zr (0) (1) v))) (hσ : zPM σ) {x1 : Int32} (h_x1 : zr (8176) (32767) x1) {x2 : Int32} (h_x2 : zr (0) (8) x2) (hMk15 : (8) - x2.toInt ≤ Mk15) : zok (fX12_isHeader_15_body k15 σ x1 x2) (zPi σ (fun v : Int32 => zr (0) (1) v)) := by
  unfold fX12_isHeader_15_body
  refine zok_if (fun q1 => ?_) (fun q1 => ?_)
  · have h2 := zc_ler (8) q1 (zr_c (lo := 8) (hi := 8) (by decide)) h_x2 (by decide)
    exact (s_X12_isHeader_114 hσ (zr_w h2 (by decide)))
  have h3 := zc_ltl (7) (z_nle q1) h_x2 (zr_c (lo := 8) (hi := 8) (by decide)) (by decide)
  refine zok_ck (zin_ok (zr_add (lo := 8176) (hi := 32774) h_x1 h3 (by decide)) (by decide)) ?_
  refine zok_if (fun q4 => ?_) (fun q4 => ?_)
  · have h5 := zc_eql (0) (0) q4 h3 (zr_c (lo := 0) (hi := 0) (by decide)) (by decide)
    exact (s_X12_isHeader_105 hk15 hσ h_x1 (zr_w h5 (by decide)) (zr_w (zr_c (lo := 84) (hi := 84) (by decide)) (by decide)) (zr_andr (lo := 0) (hi := 255) (zr_c (lo := 255) (hi := 255) (by decide)) (by decide)) hMk15)
  have h6 := zc_nel (1) (7) q4 h3 (zr_c (lo := 0) (hi := 0) (by decide)) (by decide)
  refine zok_if (fun q7 => ?_) (fun q7 => ?_)
  · have h8 := zc_eql (1) (1) q7 h6 (zr_c (lo := 1) (hi := 1) (by decide)) (by decide)
    exact (s_X12_isHeader_105 hk15 hσ h_x1 (zr_w h8 (by decide)) (zr_w (zr_c (lo := 77) (hi := 77) (by decide)) (by decide)) (zr_andr (lo := 0) (hi := 255) (zr_c (lo := 255) (hi := 255) (by decide)) (by decide)) hMk15)
  have h9 := zc_nel (2) (7) q7 h6 (zr_c (lo := 1) (hi := 1) (by decide)) (by decide)
  refine zok_if (fun q10 => ?_) (fun q10 => ?_)
  · have h11 := zc_eql (2) (2) q10 h9 (zr_c (lo := 2) (hi := 2) (by decide)) (by decide)
    exact (s_X12_isHeader_105 hk15 hσ h_x1 (zr_w h11 (by decide)) (zr_w (zr_c (lo := 82) (hi := 82) (by decide)) (by decide)) (zr_andr (lo := 0) (hi := 255) (zr_c (lo := 255) (hi := 255) (by decide)) (by decide)) hMk15)
  have h12 := zc_nel (3) (7) q10 h9 (zr_c (lo := 2) (hi := 2) (by decide)) (by decide)
  refine zok_if (fun q13 => ?_) (fun q13 => ?_)
  · have h14 := zc_eql (3) (3) q13 h12 (zr_c (lo := 3) (hi := 3) (by decide)) (by decide)
    exact (s_X12_isHeader_105 hk15 hσ h_x1 (zr_w h14 (by decide)) (zr_w (zr_c (lo := 32) (hi := 32) (by decide)) (by decide)) (zr_andr (lo := 0) (hi := 255) (zr_c (lo := 255) (hi := 255) (by decide)) (by decide)) hMk15)
  have h15 := zc_nel (4) (7) q13 h12 (zr_c (lo := 3) (hi := 3) (by decide)) (by decide)
  refine zok_if (fun q16 => ?_) (fun q16 => ?_)
  · have h17 := zc_eql (4) (4) q16 h15 (zr_c (lo := 4) (hi := 4) (by decide)) (by decide)
    exact (s_X12_isHeader_105 hk15 hσ h_x1 (zr_w h17 (by decide)) (zr_w (zr_c (lo := 83) (hi := 83) (by decide)) (by decide)) (zr_andr (lo := 0) (hi := 255) (zr_c (lo := 255) (hi := 255) (by decide)) (by decide)) hMk15)
  have h18 := zc_nel (5) (7) q16 h15 (zr_c (lo := 4) (hi := 4) (by decide)) (by decide)
  refine zok_if (fun q19 => ?_) (fun q19 => ?_)
  · have h20 := zc_eql (5) (5) q19 h18 (zr_c (lo := 5) (hi := 5) (by decide)) (by decide)
    exact (s_X12_isHeader_105 hk15 hσ h_x1 (zr_w h20 (by decide)) (zr_w (zr_c (lo := 69) (hi := 69) (by decide)) (by decide)) (zr_andr (lo := 0) (hi := 255) (zr_c (lo := 255) (hi := 255) (by decide)) (by decide)) hMk15)
  have h21 := zc_nel (6) (7) q19 h18 (zr_c (lo := 5) (hi := 5) (by decide)) (by decide)
  refine zok_if (fun q22 => ?_) (fun q22 => ?_)
  · have h23 := zc_eql (6) (6) q22 h21 (zr_c (lo := 6) (hi := 6) (by decide)) (by decide)
    exact (s_X12_isHeader_105 hk15 hσ h_x1 (zr_w h23 (by decide)) (zr_w (zr_c (lo := 71) (hi := 71) (by decide)) (by decide)) (zr_andr (lo := 0) (hi := 255) (zr_c (lo := 255) (hi := 255) (by decide)) (by decide)) hMk15)
  have h24 := zc_nel (7) (7) q22 h21 (zr_c (lo := 6) (hi := 6) (by decide)) (by decide)
  exact (s_X12_isHeader_105 hk15 hσ h_x1 (zr_w h24 (by decide)) (zr_w (zr_c (lo := 65) (hi := 65) (by decide)) (by decide)) (zr_andr (lo := 0) (hi := 255) (zr_c (lo := 255) (hi := 255) (by decide)) (by decide)) hMk15)
theorem s_X12_isHeader_15 {σ : zSt} (hσ : zPM σ) : ∀ (n : Nat) {x1 : Int32} (h_x1 : zr (8176) (32767) x1) {x2 : Int32} (h_x2 : zr (0) (8) x2) (hm : (8) - x2.toInt < n), zok (fX12_isHeader_15 n σ x1 x2) (zPi σ (fun v : Int32 => zr (0) (1) v)) := by
  intro n
  induction n with
  | zero => intro x1 h_x1 x2 h_x2 hm ; have h9 := h_x2.1; have h8 := h_x2.2; exfalso; omega
  | succ n ih => intro x1 h_x1 x2 h_x2 hm ; exact s_X12_isHeader_15_body (fun x1 x2 h_x1 h_x2 hm1 => ih h_x1 h_x2 (by omega)) hσ h_x1 h_x2 (Int.le_refl _)
theorem s_X12_isHeader {σ : zSt} (hσ : zPM σ) {x1 : Int32} (h_x1 : zr (8176) (32767) x1) : zok (fX12_isHeader σ x1) (zPi σ (fun v : Int32 => zr (0) (1) v)) := by
  unfold fX12_isHeader
  refine zok_if (fun q1 => ?_) (fun q1 => ?_)
  · have h2 := zc_ler (8192) q1 (zr_add (lo := 8192) (hi := 32783) h_x1 (zr_c (lo := 16) (hi := 16) (by decide)) (by decide)) (rM_2 hσ.sg _ (by decide)) (by decide)
    exact (s_X12_isHeader_15 hσ zfuel h_x1 (zr_w (zr_c (lo := 0) (hi := 0) (by decide)) (by decide)) (by decide))
  have h3 := zc_ltl (32782) (z_nle q1) (rM_2 hσ.sg _ (by decide)) (zr_add (lo := 8192) (hi := 32783) h_x1 (zr_c (lo := 16) (hi := 16) (by decide)) (by decide)) (by decide)
  refine zok_ck rfl ?_
  exact zok_spi (zr_w (zr_c (lo := 0) (hi := 0) (by decide)) (by decide))
theorem s_X12_anew_236 {G : Nat → Int} {σ : zSt} {k196 : zSt → Int32 → Option (zSt)} {Mk196 : Int} (hk196 : ∀ (σ : zSt) (x1 : Int32), zIM G σ → zr (0) (108) x1 → (108) - x1.toInt < Mk196 → zok (k196 σ x1) (zIM G)) (hσ : zIM G σ) {x1 : Int32} (h_x1 : zr (0) (107) x1) {s0 : Int32} (h_s0 : zr (0) (127) s0) {s1 : Int32} (h_s1 : zr (172) (279) s1) (hMk196 : (108) - x1.toInt ≤ Mk196) : zok (fX12_anew_236 k196 σ x1 s0 s1) (zIM G) := by
  unfold fX12_anew_236
  refine zok_ck (zin_ok h_s1 (by decide)) ?_
  refine zok_bs (hσ.lva (z_ix h_s1 (by decide)) h_s0 (by decide)) (fun σ1 e2 i1 => ?_)
  refine zok_br (zr_add (lo := 1) (hi := 108) h_x1 (zr_c (lo := 1) (hi := 1) (by decide)) (by decide)) (fun v2 e4 h3 => ?_)
  exact hk196 _ _ i1 (zr_w h3 (by decide)) (by rw [e4]; have := z_tadd (y := (1 : Int32)) h_x1 (zr_c (lo := 1) (hi := 1) (by decide)) (by decide); have e9 : (1 : Int32).toInt = 1 := rfl; omega) 
theorem s_X12_anew_267_body {G : Nat → Int} {σ : zSt} {k267 : zSt → Int32 → Option (zSt)} {Mk267 : Int} (hk267 : ∀ (σ : zSt) (x1 : Int32), zIM G σ → zr (0) (64) x1 → (64) - x1.toInt < Mk267 → zok (k267 σ x1) (zIM G)) (hσ : zIM G σ) {x1 : Int32} (h_x1 : zr (0) (64) x1) (hMk267 : (64) - x1.toInt ≤ Mk267) : zok (fX12_anew_267_body k267 σ x1) (zIM G) := by
  unfold fX12_anew_267_body
  refine zok_if (fun q1 => ?_) (fun q1 => ?_)
  · have h2 := zc_ler (64) q1 (zr_c (lo := 64) (hi := 64) (by decide)) h_x1 (by decide)
    exact zok_some hσ
  have h3 := zc_ltl (63) (z_nle q1) h_x1 (zr_c (lo := 64) (hi := 64) (by decide)) (by decide)
  refine zok_ck (zin_ok h3 (by decide)) ?_
  refine zok_bs (hσ.wk (by decide)) (fun σ3 e5 i4 => ?_)
  refine zok_br (zr_add (lo := 1) (hi := 64) h3 (zr_c (lo := 1) (hi := 1) (by decide)) (by decide)) (fun v4 e7 h6 => ?_)
  exact hk267 _ _ i4 (zr_w h6 (by decide)) (by rw [e7]; have := z_tadd (y := (1 : Int32)) h3 (zr_c (lo := 1) (hi := 1) (by decide)) (by decide); have e9 : (1 : Int32).toInt = 1 := rfl; omega) 
theorem s_X12_anew_267 {G : Nat → Int} : ∀ (n : Nat) {σ : zSt} (hσ : zIM G σ) {x1 : Int32} (h_x1 : zr (0) (64) x1) (hm : (64) - x1.toInt < n), zok (fX12_anew_267 n σ x1) (zIM G) := by
  intro n
  induction n with
  | zero => intro σ hσ x1 h_x1 hm ; have h9 := h_x1.1; have h8 := h_x1.2; exfalso; omega
  | succ n ih => intro σ hσ x1 h_x1 hm ; exact s_X12_anew_267_body (fun σ x1 hσ h_x1 hm1 => ih hσ h_x1 (by omega)) hσ h_x1 (Int.le_refl _)
theorem s_X12_anew_245_body {G : Nat → Int} {σ : zSt} {k245 : zSt → Int32 → Option (zSt)} {Mk245 : Int} (hk245 : ∀ (σ : zSt) (x1 : Int32), zIM G σ → zr (0) (16384) x1 → (16384) - x1.toInt < Mk245 → zok (k245 σ x1) (zIM G)) (hσ : zIM G σ) {x1 : Int32} (h_x1 : zr (0) (16384) x1) (hMk245 : (16384) - x1.toInt ≤ Mk245) : zok (fX12_anew_245_body k245 σ x1) (zIM G) := by
  unfold fX12_anew_245_body
  refine zok_if (fun q1 => ?_) (fun q1 => ?_)
  · have h2 := zc_ler (16384) q1 (zr_c (lo := 16384) (hi := 16384) (by decide)) h_x1 (by decide)
    exact (s_X12_anew_267 zfuel hσ (zr_w (zr_c (lo := 0) (hi := 0) (by decide)) (by decide)) (by decide))
  have h3 := zc_ltl (16383) (z_nle q1) h_x1 (zr_c (lo := 16384) (hi := 16384) (by decide)) (by decide)
  refine zok_ck (zin_ok h3 (by decide)) ?_
  refine zok_bs (hσ.wk (by decide)) (fun σ5 e5 i4 => ?_)
  refine zok_br (zr_add (lo := 1) (hi := 16384) h3 (zr_c (lo := 1) (hi := 1) (by decide)) (by decide)) (fun v6 e7 h6 => ?_)
  exact hk245 _ _ i4 (zr_w h6 (by decide)) (by rw [e7]; have := z_tadd (y := (1 : Int32)) h3 (zr_c (lo := 1) (hi := 1) (by decide)) (by decide); have e9 : (1 : Int32).toInt = 1 := rfl; omega) 
theorem s_X12_anew_245 {G : Nat → Int} : ∀ (n : Nat) {σ : zSt} (hσ : zIM G σ) {x1 : Int32} (h_x1 : zr (0) (16384) x1) (hm : (16384) - x1.toInt < n), zok (fX12_anew_245 n σ x1) (zIM G) := by
  intro n
  induction n with
  | zero => intro σ hσ x1 h_x1 hm ; have h9 := h_x1.1; have h8 := h_x1.2; exfalso; omega
  | succ n ih => intro σ hσ x1 h_x1 hm ; exact s_X12_anew_245_body (fun σ x1 hσ h_x1 hm1 => ih hσ h_x1 (by omega)) hσ h_x1 (Int.le_refl _)
theorem s_X12_anew_196_body {G : Nat → Int} {σ : zSt} {k196 : zSt → Int32 → Option (zSt)} {Mk196 : Int} (hk196 : ∀ (σ : zSt) (x1 : Int32), zIM G σ → zr (0) (108) x1 → (108) - x1.toInt < Mk196 → zok (k196 σ x1) (zIM G)) (hσ : zIM G σ) {x1 : Int32} (h_x1 : zr (0) (108) x1) (hMk196 : (108) - x1.toInt ≤ Mk196) : zok (fX12_anew_196_body k196 σ x1) (zIM G) := by
  unfold fX12_anew_196_body
  refine zok_if (fun q1 => ?_) (fun q1 => ?_)
  · have h2 := zc_ler (108) q1 (zr_c (lo := 108) (hi := 108) (by decide)) h_x1 (by decide)
    exact (s_X12_anew_245 zfuel hσ (zr_w (zr_c (lo := 0) (hi := 0) (by decide)) (by decide)) (by decide))
  have h3 := zc_ltl (107) (z_nle q1) h_x1 (zr_c (lo := 108) (hi := 108) (by decide)) (by decide)
  refine zok_ck (by decide) ?_
  refine zok_if (fun q4 => ?_) (fun q4 => ?_)
  · have h5 := zc_eql (0) (0) q4 (zr_rem (lo := 0) (hi := 5) 6 (by decide) h3 (by decide)) (zr_c (lo := 0) (hi := 0) (by decide)) (by decide)
    exact (s_X12_anew_236 hk196 hσ h3 (zr_w (zr_c (lo := 127) (hi := 127) (by decide)) (by decide)) (zr_add (lo := 172) (hi := 279) (zr_c (lo := 172) (hi := 172) (by decide)) h3 (by decide)) hMk196)
  have h6 := zc_nel (1) (5) q4 (zr_rem (lo := 0) (hi := 5) 6 (by decide) h3 (by decide)) (zr_c (lo := 0) (hi := 0) (by decide)) (by decide)
  refine zok_ck (by decide) ?_
  refine zok_if (fun q7 => ?_) (fun q7 => ?_)
  · have h8 := zc_eql (1) (1) q7 h6 (zr_c (lo := 1) (hi := 1) (by decide)) (by decide)
    exact (s_X12_anew_236 hk196 hσ h3 (zr_w (zr_c (lo := 4) (hi := 4) (by decide)) (by decide)) (zr_add (lo := 172) (hi := 279) (zr_c (lo := 172) (hi := 172) (by decide)) h3 (by decide)) hMk196)
  have h9 := zc_nel (2) (5) q7 h6 (zr_c (lo := 1) (hi := 1) (by decide)) (by decide)
  exact (s_X12_anew_236 hk196 hσ h3 (zr_w (zr_c (lo := 0) (hi := 0) (by decide)) (by decide)) (zr_add (lo := 172) (hi := 279) (zr_c (lo := 172) (hi := 172) (by decide)) h3 (by decide)) hMk196)
theorem s_X12_anew_196 {G : Nat → Int} : ∀ (n : Nat) {σ : zSt} (hσ : zIM G σ) {x1 : Int32} (h_x1 : zr (0) (108) x1) (hm : (108) - x1.toInt < n), zok (fX12_anew_196 n σ x1) (zIM G) := by
  intro n
  induction n with
  | zero => intro σ hσ x1 h_x1 hm ; have h9 := h_x1.1; have h8 := h_x1.2; exfalso; omega
  | succ n ih => intro σ hσ x1 h_x1 hm ; exact s_X12_anew_196_body (fun σ x1 hσ h_x1 hm1 => ih hσ h_x1 (by omega)) hσ h_x1 (Int.le_refl _)
theorem s_X12_anew_165_body {G : Nat → Int} {σ : zSt} {k165 : zSt → Int32 → Option (zSt)} {Mk165 : Int} (hk165 : ∀ (σ : zSt) (x1 : Int32), zIM G σ → zr (98) (166) x1 → (166) - x1.toInt < Mk165 → zok (k165 σ x1) (zIM G)) (hσ : zIM G σ) {x1 : Int32} (h_x1 : zr (98) (166) x1) (hMk165 : (166) - x1.toInt ≤ Mk165) : zok (fX12_anew_165_body k165 σ x1) (zIM G) := by
  unfold fX12_anew_165_body
  refine zok_if (fun q1 => ?_) (fun q1 => ?_)
  · have h2 := zc_ler (166) q1 (zr_c (lo := 166) (hi := 166) (by decide)) h_x1 (by decide)
    refine zok_ck rfl ?_
    refine zok_bs (hσ.wi 164 164 (by decide) (zr_c (lo := 1) (hi := 1) (by decide)) (by decide +kernel)) (fun σ7 e4 i3 => ?_)
    exact (s_X12_anew_196 zfuel i3 (zr_w (zr_c (lo := 0) (hi := 0) (by decide)) (by decide)) (by decide))
  have h5 := zc_ltl (165) (z_nle q1) h_x1 (zr_c (lo := 166) (hi := 166) (by decide)) (by decide)
  refine zok_ck (zin_ok h5 (by decide)) ?_
  refine zok_bs (hσ.wi 98 165 (z_ix h5 (by decide)) (zr_c (lo := 0) (hi := 0) (by decide)) (by decide +kernel)) (fun σ8 e7 i6 => ?_)
  refine zok_br (zr_add (lo := 99) (hi := 166) h5 (zr_c (lo := 1) (hi := 1) (by decide)) (by decide)) (fun v9 e9 h8 => ?_)
  exact hk165 _ _ i6 (zr_w h8 (by decide)) (by rw [e9]; have := z_tadd (y := (1 : Int32)) h5 (zr_c (lo := 1) (hi := 1) (by decide)) (by decide); have e9 : (1 : Int32).toInt = 1 := rfl; omega) 
theorem s_X12_anew_165 {G : Nat → Int} : ∀ (n : Nat) {σ : zSt} (hσ : zIM G σ) {x1 : Int32} (h_x1 : zr (98) (166) x1) (hm : (166) - x1.toInt < n), zok (fX12_anew_165 n σ x1) (zIM G) := by
  intro n
  induction n with
  | zero => intro σ hσ x1 h_x1 hm ; have h9 := h_x1.1; have h8 := h_x1.2; exfalso; omega
  | succ n ih => intro σ hσ x1 h_x1 hm ; exact s_X12_anew_165_body (fun σ x1 hσ h_x1 hm1 => ih hσ h_x1 (by omega)) hσ h_x1 (Int.le_refl _)
theorem s_X12_anew_131_body {G : Nat → Int} {σ : zSt} {k131 : zSt → Int32 → Option (zSt)} {Mk131 : Int} (hk131 : ∀ (σ : zSt) (x1 : Int32), zIM G σ → zr (0) (4) x1 → (4) - x1.toInt < Mk131 → zok (k131 σ x1) (zIM G)) (hσ : zIM G σ) {x1 : Int32} (h_x1 : zr (0) (4) x1) (hMk131 : (4) - x1.toInt ≤ Mk131) : zok (fX12_anew_131_body k131 σ x1) (zIM G) := by
  unfold fX12_anew_131_body
  refine zok_if (fun q1 => ?_) (fun q1 => ?_)
  · have h2 := zc_ler (4) q1 (zr_c (lo := 4) (hi := 4) (by decide)) h_x1 (by decide)
    refine zok_ck rfl ?_
    refine zok_bs (hσ.wi 85 85 (by decide) (zr_c (lo := 32768) (hi := 32768) (by decide)) (by decide +kernel)) (fun σ10 e4 i3 => ?_)
    exact (s_X12_anew_165 zfuel i3 (zr_w (zr_c (lo := 98) (hi := 98) (by decide)) (by decide)) (by decide))
  have h5 := zc_ltl (3) (z_nle q1) h_x1 (zr_c (lo := 4) (hi := 4) (by decide)) (by decide)
  refine zok_ck (zin_ok (zr_add (lo := 78) (hi := 81) (zr_c (lo := 78) (hi := 78) (by decide)) h5 (by decide)) (by decide)) ?_
  refine zok_bs (hσ.wi 78 81 (z_ix (zr_add (lo := 78) (hi := 81) (zr_c (lo := 78) (hi := 78) (by decide)) h5 (by decide)) (by decide)) (zr_c (lo := 15) (hi := 15) (by decide)) (by decide +kernel)) (fun σ11 e7 i6 => ?_)
  refine zok_br (zr_add (lo := 1) (hi := 4) h5 (zr_c (lo := 1) (hi := 1) (by decide)) (by decide)) (fun v12 e9 h8 => ?_)
  exact hk131 _ _ i6 (zr_w h8 (by decide)) (by rw [e9]; have := z_tadd (y := (1 : Int32)) h5 (zr_c (lo := 1) (hi := 1) (by decide)) (by decide); have e9 : (1 : Int32).toInt = 1 := rfl; omega) 
theorem s_X12_anew_131 {G : Nat → Int} : ∀ (n : Nat) {σ : zSt} (hσ : zIM G σ) {x1 : Int32} (h_x1 : zr (0) (4) x1) (hm : (4) - x1.toInt < n), zok (fX12_anew_131 n σ x1) (zIM G) := by
  intro n
  induction n with
  | zero => intro σ hσ x1 h_x1 hm ; have h9 := h_x1.1; have h8 := h_x1.2; exfalso; omega
  | succ n ih => intro σ hσ x1 h_x1 hm ; exact s_X12_anew_131_body (fun σ x1 hσ h_x1 hm1 => ih hσ h_x1 (by omega)) hσ h_x1 (Int.le_refl _)
theorem s_X12_anew_79 {G : Nat → Int} {σ : zSt} (hσ : zIM G σ) {s0 : Int32} (h_s0 : zr (0) (2) s0) {s1 : Int32} (h_s1 : zr (31) (31) s1) : zok (fX12_anew_79 σ s0 s1) (zIM G) := by
  unfold fX12_anew_79
  refine zok_ck (zin_ok h_s1 (by decide)) ?_
  refine zok_bs (hσ.wi 31 31 (z_ix h_s1 (by decide)) h_s0 (by decide +kernel)) (fun σ13 e2 i1 => ?_)
  refine zok_ck rfl ?_
  refine zok_bs (i1.wi 33 33 (by decide) (zr_c (lo := 255) (hi := 255) (by decide)) (by decide +kernel)) (fun σ14 e4 i3 => ?_)
  refine zok_ck rfl ?_
  refine zok_bs (i3.wi 34 34 (by decide) (zr_c (lo := 255) (hi := 255) (by decide)) (by decide +kernel)) (fun σ15 e6 i5 => ?_)
  refine zok_ck rfl ?_
  refine zok_bs (i5.wi 37 37 (by decide) (zr_c (lo := 127) (hi := 127) (by decide)) (by decide +kernel)) (fun σ16 e8 i7 => ?_)
  refine zok_ck rfl ?_
  refine zok_bs (i7.wi 38 38 (by decide) (zr_c (lo := 255) (hi := 255) (by decide)) (by decide +kernel)) (fun σ17 e10 i9 => ?_)
  refine zok_ck rfl ?_
  refine zok_bs (i9.wi 40 40 (by decide) (zr_c (lo := 255) (hi := 255) (by decide)) (by decide +kernel)) (fun σ18 e12 i11 => ?_)
  exact (s_X12_anew_131 zfuel i11 (zr_w (zr_c (lo := 0) (hi := 0) (by decide)) (by decide)) (by decide))
theorem s_X12_anew_24_body {G : Nat → Int} {σ : zSt} {k24 : zSt → Int32 → Option (zSt)} {Mk24 : Int} (hk24 : ∀ (σ : zSt) (x1 : Int32), zEM [3, 4] G σ → zr (47) (87) x1 → (87) - x1.toInt < Mk24 → zok (k24 σ x1) (zEM [3, 4] G)) (hσ : zEM [3, 4] G σ) {x1 : Int32} (h_x1 : zr (47) (87) x1) (hMk24 : (87) - x1.toInt ≤ Mk24) : zok (fX12_anew_24_body k24 σ x1) (zEM [3, 4] G) := by
  unfold fX12_anew_24_body
  refine zok_if (fun q1 => ?_) (fun q1 => ?_)
  · have h2 := zc_ler (87) q1 (zr_c (lo := 87) (hi := 87) (by decide)) h_x1 (by decide)
    refine zok_ck rfl ?_
    refine zok_bs (hσ.wi 18 18 (by decide) (zr_c (lo := 57328) (hi := 57328) (by decide)) (by decide +kernel)) (fun σ19 e4 i3 => ?_)
    refine zok_ck rfl ?_
    refine zok_bs (i3.wi 30 30 (by decide) (zr_c (lo := 1) (hi := 1) (by decide)) (by decide +kernel)) (fun σ20 e6 i5 => ?_)
    refine zok_if (fun q7 => ?_) (fun q7 => ?_)
    · have h8 := zc_eql (2) (2) q7 (rM_4 i5.sg _ (by decide)) (zr_c (lo := 2) (hi := 2) (by decide)) (by decide)
      have h9 := rM_bk i5.Y i5.sg h8 (by decide)
      exact (i5.upu (fun G1 hG => s_X12_anew_79 hG (zr_w (zr_c (lo := 0) (hi := 0) (by decide)) (by decide)) (zr_c (lo := 31) (hi := 31) (by decide))))
    exact (i5.upu (fun G1 hG => s_X12_anew_79 hG (zr_w (zr_c (lo := 2) (hi := 2) (by decide)) (by decide)) (zr_c (lo := 31) (hi := 31) (by decide))))
  have h10 := zc_ltl (86) (z_nle q1) h_x1 (zr_c (lo := 87) (hi := 87) (by decide)) (by decide)
  refine zok_ck (zin_ok h10 (by decide)) ?_
  refine zok_bs (hσ.wi 47 86 (z_ix h10 (by decide)) (zr_c (lo := 0) (hi := 0) (by decide)) (by decide +kernel)) (fun σ21 e12 i11 => ?_)
  refine zok_br (zr_add (lo := 48) (hi := 87) h10 (zr_c (lo := 1) (hi := 1) (by decide)) (by decide)) (fun v22 e14 h13 => ?_)
  exact hk24 _ _ i11 (zr_w h13 (by decide)) (by rw [e14]; have := z_tadd (y := (1 : Int32)) h10 (zr_c (lo := 1) (hi := 1) (by decide)) (by decide); have e9 : (1 : Int32).toInt = 1 := rfl; omega) 
theorem s_X12_anew_24 {G : Nat → Int} : ∀ (n : Nat) {σ : zSt} (hσ : zEM [3, 4] G σ) {x1 : Int32} (h_x1 : zr (47) (87) x1) (hm : (87) - x1.toInt < n), zok (fX12_anew_24 n σ x1) (zEM [3, 4] G) := by
  intro n
  induction n with
  | zero => intro σ hσ x1 h_x1 hm ; have h9 := h_x1.1; have h8 := h_x1.2; exfalso; omega
  | succ n ih => intro σ hσ x1 h_x1 hm ; exact s_X12_anew_24_body (fun σ x1 hσ h_x1 hm1 => ih hσ h_x1 (by omega)) hσ h_x1 (Int.le_refl _)
theorem s_X12_anew_2_body {G : Nat → Int} {σ : zSt} {k2 : zSt → Int32 → Option (zSt)} {Mk2 : Int} (hk2 : ∀ (σ : zSt) (x1 : Int32), zEM [3, 4] G σ → zr (0) (42) x1 → (42) - x1.toInt < Mk2 → zok (k2 σ x1) (zEM [3, 4] G)) (hσ : zEM [3, 4] G σ) {x1 : Int32} (h_x1 : zr (0) (42) x1) (hMk2 : (42) - x1.toInt ≤ Mk2) : zok (fX12_anew_2_body k2 σ x1) (zEM [3, 4] G) := by
  unfold fX12_anew_2_body
  refine zok_if (fun q1 => ?_) (fun q1 => ?_)
  · have h2 := zc_ler (42) q1 (zr_c (lo := 42) (hi := 42) (by decide)) h_x1 (by decide)
    exact (s_X12_anew_24 zfuel hσ (zr_w (zr_c (lo := 47) (hi := 47) (by decide)) (by decide)) (by decide))
  have h3 := zc_ltl (41) (z_nle q1) h_x1 (zr_c (lo := 42) (hi := 42) (by decide)) (by decide)
  refine zok_ck (zin_ok h3 (by decide)) ?_
  refine zok_bs (hσ.wi 0 41 (z_ix h3 (by decide)) (zr_c (lo := 0) (hi := 0) (by decide)) (by decide +kernel)) (fun σ23 e5 i4 => ?_)
  refine zok_br (zr_add (lo := 1) (hi := 42) h3 (zr_c (lo := 1) (hi := 1) (by decide)) (by decide)) (fun v24 e7 h6 => ?_)
  exact hk2 _ _ i4 (zr_w h6 (by decide)) (by rw [e7]; have := z_tadd (y := (1 : Int32)) h3 (zr_c (lo := 1) (hi := 1) (by decide)) (by decide); have e9 : (1 : Int32).toInt = 1 := rfl; omega) 
theorem s_X12_anew_2 {G : Nat → Int} : ∀ (n : Nat) {σ : zSt} (hσ : zEM [3, 4] G σ) {x1 : Int32} (h_x1 : zr (0) (42) x1) (hm : (42) - x1.toInt < n), zok (fX12_anew_2 n σ x1) (zEM [3, 4] G) := by
  intro n
  induction n with
  | zero => intro σ hσ x1 h_x1 hm ; have h9 := h_x1.1; have h8 := h_x1.2; exfalso; omega
  | succ n ih => intro σ hσ x1 h_x1 hm ; exact s_X12_anew_2_body (fun σ x1 hσ h_x1 hm1 => ih hσ h_x1 (by omega)) hσ h_x1 (Int.le_refl _)
theorem s_X12_anew {G : Nat → Int} {σ : zSt} (hσ : zEM [3, 4] G σ) : zok (fX12_anew σ ) (zEM [3, 4] G) := by
  unfold fX12_anew
  exact (s_X12_anew_2 zfuel hσ (zr_w (zr_c (lo := 0) (hi := 0) (by decide)) (by decide)) (by decide))
theorem s_X12_load_126 {G : Nat → Int} {σ : zSt} {k89 : zSt → Int32 → Int32 → Option (zSt × Int32)} {Mk89 : Int} (hk89 : ∀ (σ : zSt) (x1 : Int32) (x3 : Int32), zEM [2, 3, 4] G σ → zr (0) (512) x1 → zr (0) (262144) x3 → zr (1) (16) (zgi σ 0 6) → (262144) - x3.toInt < Mk89 → zok (k89 σ x1 x3) (zAi (zEM [2, 3, 4] G) (fun v : Int32 => zr (0) (3) v))) (hσ : zEM [2, 3, 4] G σ) {x1 : Int32} (h_x1 : zr (0) (512) x1) {x3 : Int32} (h_x3 : zr (0) (262143) x3) {s0 : Int32} {s1 : Int32} (h_s1 : zr (0) (262143) s1) (c_0_6 : zr (1) (16) (zgi σ 0 6)) (hMk89 : (262144) - x3.toInt ≤ Mk89) : zok (fX12_load_126 k89 σ x1 x3 s0 s1) (zAi (zEM [2, 3, 4] G) (fun v : Int32 => zr (0) (3) v)) := by
  unfold fX12_load_126
  refine zok_ck (zin_ok h_s1 (by decide)) ?_
  refine zok_bs (hσ.wk (by decide)) (fun σ1 e2 i1 => ?_)
  refine zok_br (zr_add (lo := 1) (hi := 262144) h_x3 (zr_c (lo := 1) (hi := 1) (by decide)) (by decide)) (fun v2 e4 h3 => ?_)
  exact hk89 _ _ _ i1 h_x1 (zr_w h3 (by decide)) (z_tr e2 rfl c_0_6) (by rw [e4]; have := z_tadd (y := (1 : Int32)) h_x3 (zr_c (lo := 1) (hi := 1) (by decide)) (by decide); have e9 : (1 : Int32).toInt = 1 := rfl; omega) 
theorem s_X12_load_161 {G : Nat → Int} {σ : zSt} {k142 : zSt → Int32 → Option (zSt × Int32)} {Mk142 : Int} (hk142 : ∀ (σ : zSt) (x3 : Int32), zEM [2, 3, 4] G σ → zr (8176) (65550) x3 → zr (1) (16) (zgi σ 0 6) → (65550) - x3.toInt < Mk142 → zok (k142 σ x3) (zAi (zEM [2, 3, 4] G) (fun v : Int32 => zr (0) (3) v))) (hσ : zEM [2, 3, 4] G σ) {x3 : Int32} (h_x3 : zr (8176) (32767) x3) (c_0_6 : zr (1) (16) (zgi σ 0 6)) (hMk142 : (65550) - x3.toInt ≤ Mk142) : zok (fX12_load_161 k142 σ x3) (zAi (zEM [2, 3, 4] G) (fun v : Int32 => zr (0) (3) v)) := by
  unfold fX12_load_161
  refine zok_br (zr_add (lo := 16368) (hi := 65550) (zr_mul (lo := 16352) (hi := 65534) (zr_c (lo := 2) (hi := 2) (by decide)) h_x3 (by decide)) (zr_c (lo := 16) (hi := 16) (by decide)) (by decide)) (fun v3 e2 h1 => ?_)
  exact hk142 _ _ hσ (zr_w h1 (by decide)) c_0_6 (z_l142 e2 h_x3 (by decide) hMk142) 
theorem s_X12_load_414_body {G : Nat → Int} {σ : zSt} {k414 : zSt → Int32 → Option (zSt × Int32)} {Mk414 : Int} (hk414 : ∀ (σ : zSt) (x6 : Int32), zEM [2] G σ → zr (0) (8192) x6 → (8192) - x6.toInt < Mk414 → zok (k414 σ x6) (zAi (zEM [2] G) (fun v : Int32 => zr (0) (3) v))) (hσ : zEM [2] G σ) {x6 : Int32} (h_x6 : zr (0) (8192) x6) (hMk414 : (8192) - x6.toInt ≤ Mk414) : zok (fX12_load_414_body k414 σ x6) (zAi (zEM [2] G) (fun v : Int32 => zr (0) (3) v)) := by
  unfold fX12_load_414_body
  refine zok_if (fun q1 => ?_) (fun q1 => ?_)
  · have h2 := zc_ler (8192) q1 (zr_c (lo := 8192) (hi := 8192) (by decide)) h_x6 (by decide)
    refine zok_ck rfl ?_
    refine zok_bs (hσ.wi 19 19 (by decide) (zr_c (lo := 0) (hi := 0) (by decide)) (by decide +kernel)) (fun σ4 e4 i3 => ?_)
    exact zok_sai i3 (zr_w (zr_c (lo := 0) (hi := 0) (by decide)) (by decide))
  have h5 := zc_ltl (8191) (z_nle q1) h_x6 (zr_c (lo := 8192) (hi := 8192) (by decide)) (by decide)
  refine zok_ck (zin_ok h5 (by decide)) ?_
  refine zok_bs (hσ.wk (by decide)) (fun σ5 e7 i6 => ?_)
  refine zok_br (zr_add (lo := 1) (hi := 8192) h5 (zr_c (lo := 1) (hi := 1) (by decide)) (by decide)) (fun v6 e9 h8 => ?_)
  exact hk414 _ _ i6 (zr_w h8 (by decide)) (by rw [e9]; have := z_tadd (y := (1 : Int32)) h5 (zr_c (lo := 1) (hi := 1) (by decide)) (by decide); have e9 : (1 : Int32).toInt = 1 := rfl; omega) 
theorem s_X12_load_414 {G : Nat → Int} : ∀ (n : Nat) {σ : zSt} (hσ : zEM [2] G σ) {x6 : Int32} (h_x6 : zr (0) (8192) x6) (hm : (8192) - x6.toInt < n), zok (fX12_load_414 n σ x6) (zAi (zEM [2] G) (fun v : Int32 => zr (0) (3) v)) := by
  intro n
  induction n with
  | zero => intro σ hσ x6 h_x6 hm ; have h9 := h_x6.1; have h8 := h_x6.2; exfalso; omega
  | succ n ih => intro σ hσ x6 h_x6 hm ; exact s_X12_load_414_body (fun σ x6 hσ h_x6 hm1 => ih hσ h_x6 (by omega)) hσ h_x6 (Int.le_refl _)
theorem s_X12_load_404 {G : Nat → Int} {σ : zSt} (hσ : zEM [2, 3, 4] G σ) {s0 : Int32} (h_s0 : zr (0) (65535) s0) : zok (fX12_load_404 σ s0) (zAi (zEM [2, 3, 4] G) (fun v : Int32 => zr (0) (3) v)) := by
  unfold fX12_load_404
  refine zok_bs (hσ.wi 9 9 (by decide) h_s0 (by decide +kernel)) (fun σ7 e2 i1 => ?_)
  refine zok_bu (i1.uEu (by decide) (fun G1 hG => s_X12_anew hG)) (fun σ8 i3 => ?_)
  exact (i3.uEi (by decide) (fun G1 hG => s_X12_load_414 zfuel hG (zr_w (zr_c (lo := 0) (hi := 0) (by decide)) (by decide)) (by decide)))
theorem s_X12_load_385 {G : Nat → Int} {σ : zSt} (hσ : zEM [2, 3, 4] G σ) : zok (fX12_load_385 σ ) (zAi (zEM [2, 3, 4] G) (fun v : Int32 => zr (0) (3) v)) := by
  unfold fX12_load_385
  refine zok_if (fun q1 => ?_) (fun q1 => ?_)
  · have h2 := zc_ler (0) q1 (zr_c (lo := 0) (hi := 0) (by decide)) (rM_5 hσ.sg _ (by decide)) (by decide)
    exact (s_X12_load_404 hσ (zr_andr (lo := 0) (hi := 65535) (zr_c (lo := 65535) (hi := 65535) (by decide)) (by decide)))
  have h3 := zc_ltl (-1) (z_nle q1) (rM_5 hσ.sg _ (by decide)) (zr_c (lo := 0) (hi := 0) (by decide)) (by decide)
  exact (s_X12_load_404 hσ (zr_w (zr_c (lo := 0) (hi := 0) (by decide)) (by decide)))
theorem s_X12_load_359 {G : Nat → Int} {σ : zSt} {k337 : zSt → Int32 → Int32 → Option (zSt × Int32)} {Mk337 : Int} (hk337 : ∀ (σ : zSt) (x5 : Int32) (x6 : Int32), zEM [2, 3, 4] G σ → zr (0) (15) x5 → zr (32768) (262144) x6 → (262144) - x6.toInt < Mk337 → zok (k337 σ x5 x6) (zAi (zEM [2, 3, 4] G) (fun v : Int32 => zr (0) (3) v))) (hσ : zEM [2, 3, 4] G σ) {x5 : Int32} (h_x5 : zr (0) (15) x5) {x6 : Int32} (h_x6 : zr (32768) (262143) x6) (hMk337 : (262144) - x6.toInt ≤ Mk337) : zok (fX12_load_359 k337 σ x5 x6) (zAi (zEM [2, 3, 4] G) (fun v : Int32 => zr (0) (3) v)) := by
  unfold fX12_load_359
  refine zok_ck (zin_ok h_x6 (by decide)) ?_
  refine zok_bs (hσ.wi 9 9 (by decide) zr_any (by decide +kernel)) (fun σ9 e2 i1 => ?_)
  refine zok_br (zr_add (lo := 32769) (hi := 262144) h_x6 (zr_c (lo := 1) (hi := 1) (by decide)) (by decide)) (fun v10 e4 h3 => ?_)
  exact hk337 _ _ _ i1 h_x5 (zr_w h3 (by decide)) (by rw [e4]; have := z_tadd (y := (1 : Int32)) h_x6 (zr_c (lo := 1) (hi := 1) (by decide)) (by decide); have e9 : (1 : Int32).toInt = 1 := rfl; omega) 
theorem s_X12_load_337_body {G : Nat → Int} {σ : zSt} {k337 : zSt → Int32 → Int32 → Option (zSt × Int32)} {Mk337 : Int} (hk337 : ∀ (σ : zSt) (x5 : Int32) (x6 : Int32), zEM [2, 3, 4] G σ → zr (0) (15) x5 → zr (32768) (262144) x6 → (262144) - x6.toInt < Mk337 → zok (k337 σ x5 x6) (zAi (zEM [2, 3, 4] G) (fun v : Int32 => zr (0) (3) v))) (hσ : zEM [2, 3, 4] G σ) {x5 : Int32} (h_x5 : zr (0) (15) x5) {x6 : Int32} (h_x6 : zr (32768) (262144) x6) (hMk337 : (262144) - x6.toInt ≤ Mk337) : zok (fX12_load_337_body k337 σ x5 x6) (zAi (zEM [2, 3, 4] G) (fun v : Int32 => zr (0) (3) v)) := by
  unfold fX12_load_337_body
  refine zok_if (fun q1 => ?_) (fun q1 => ?_)
  · exact (s_X12_load_385 hσ)
  have h2 := zc_ltl (262143) (z_nle q1) h_x6 (rM_2 hσ.sg _ (by decide)) (by decide)
  have h3 := zc_ltr (32769) (z_nle q1) h_x6 (rM_2 hσ.sg _ (by decide)) (by decide)
  refine zok_if (fun q4 => ?_) (fun q4 => ?_)
  · have h5 := zc_ltr (14) q4 (zr_c (lo := 13) (hi := 13) (by decide)) h_x5 (by decide)
    exact (s_X12_load_359 hk337 hσ (zr_w h5 (by decide)) h2 hMk337)
  have h6 := zc_lel (13) (z_nlt q4) h_x5 (zr_c (lo := 13) (hi := 13) (by decide)) (by decide)
  refine zok_if (fun q7 => ?_) (fun q7 => ?_)
  · have h8 := zc_ler (3) q7 (zr_c (lo := 3) (hi := 3) (by decide)) h6 (by decide)
    exact (s_X12_load_385 hσ)
  have h9 := zc_ltl (2) (z_nle q7) h6 (zr_c (lo := 3) (hi := 3) (by decide)) (by decide)
  exact (s_X12_load_359 hk337 hσ (zr_w h9 (by decide)) h2 hMk337)
theorem s_X12_load_337 {G : Nat → Int} : ∀ (n : Nat) {σ : zSt} (hσ : zEM [2, 3, 4] G σ) {x5 : Int32} (h_x5 : zr (0) (15) x5) {x6 : Int32} (h_x6 : zr (32768) (262144) x6) (hm : (262144) - x6.toInt < n), zok (fX12_load_337 n σ x5 x6) (zAi (zEM [2, 3, 4] G) (fun v : Int32 => zr (0) (3) v)) := by
  intro n
  induction n with
  | zero => intro σ hσ x5 h_x5 x6 h_x6 hm ; have h9 := h_x6.1; have h8 := h_x6.2; exfalso; omega
  | succ n ih => intro σ hσ x5 h_x5 x6 h_x6 hm ; exact s_X12_load_337_body (fun σ x5 x6 hσ h_x5 h_x6 hm1 => ih hσ h_x5 h_x6 (by omega)) hσ h_x5 h_x6 (Int.le_refl _)
theorem s_X12_load_298_body {G : Nat → Int} {σ : zSt} {k298 : zSt → Int32 → Int32 → Option (zSt × Int32)} {Mk298 : Int} (hk298 : ∀ (σ : zSt) (x5 : Int32) (x6 : Int32), zEM [2, 3, 4] G σ → zr (0) (15) x5 → zr (0) (32767) x6 → (32767) - x6.toInt < Mk298 → zok (k298 σ x5 x6) (zAi (zEM [2, 3, 4] G) (fun v : Int32 => zr (0) (3) v))) (hσ : zEM [2, 3, 4] G σ) {x5 : Int32} (h_x5 : zr (0) (15) x5) {x6 : Int32} (h_x6 : zr (0) (32767) x6) (hMk298 : (32767) - x6.toInt ≤ Mk298) : zok (fX12_load_298_body k298 σ x5 x6) (zAi (zEM [2, 3, 4] G) (fun v : Int32 => zr (0) (3) v)) := by
  unfold fX12_load_298_body
  refine zok_if (fun q1 => ?_) (fun q1 => ?_)
  · exact (s_X12_load_337 zfuel hσ h_x5 (zr_w (zr_c (lo := 32768) (hi := 32768) (by decide)) (by decide)) (by decide))
  have h2 := zc_ltl (32766) (z_nle q1) h_x6 (rM_5 hσ.sg _ (by decide)) (by decide)
  have h3 := zc_ltr (1) (z_nle q1) h_x6 (rM_5 hσ.sg _ (by decide)) (by decide)
  refine zok_ck (zin_ok h2 (by decide)) ?_
  refine zok_bs (hσ.wi 9 9 (by decide) zr_any (by decide +kernel)) (fun σ11 e5 i4 => ?_)
  refine zok_br (zr_add (lo := 1) (hi := 32767) h2 (zr_c (lo := 1) (hi := 1) (by decide)) (by decide)) (fun v12 e7 h6 => ?_)
  exact hk298 _ _ _ i4 h_x5 (zr_w h6 (by decide)) (by rw [e7]; have := z_tadd (y := (1 : Int32)) h2 (zr_c (lo := 1) (hi := 1) (by decide)) (by decide); have e9 : (1 : Int32).toInt = 1 := rfl; omega) 
theorem s_X12_load_298 {G : Nat → Int} : ∀ (n : Nat) {σ : zSt} (hσ : zEM [2, 3, 4] G σ) {x5 : Int32} (h_x5 : zr (0) (15) x5) {x6 : Int32} (h_x6 : zr (0) (32767) x6) (hm : (32767) - x6.toInt < n), zok (fX12_load_298 n σ x5 x6) (zAi (zEM [2, 3, 4] G) (fun v : Int32 => zr (0) (3) v)) := by
  intro n
  induction n with
  | zero => intro σ hσ x5 h_x5 x6 h_x6 hm ; have h9 := h_x6.1; have h8 := h_x6.2; exfalso; omega
  | succ n ih => intro σ hσ x5 h_x5 x6 h_x6 hm ; exact s_X12_load_298_body (fun σ x5 x6 hσ h_x5 h_x6 hm1 => ih hσ h_x5 h_x6 (by omega)) hσ h_x5 h_x6 (Int.le_refl _)
theorem s_X12_load_293 {G : Nat → Int} {σ : zSt} (hσ : zEM [2, 3, 4] G σ) {s0 : Int32} (h_s0 : zr (0) (15) s0) : zok (fX12_load_293 σ s0) (zAi (zEM [2, 3, 4] G) (fun v : Int32 => zr (0) (3) v)) := by
  unfold fX12_load_293
  exact (s_X12_load_298 zfuel hσ h_s0 (zr_w (zr_c (lo := 0) (hi := 0) (by decide)) (by decide)) (by decide))
theorem s_X12_load_259 {G : Nat → Int} {σ : zSt} (hσ : zEM [2, 3, 4] G σ) {s0 : Int32} (h_s0 : zr (0) (3) s0) (c_0_6 : zr (1) (16) (zgi σ 0 6)) : zok (fX12_load_259 σ s0) (zAi (zEM [2, 3, 4] G) (fun v : Int32 => zr (0) (3) v)) := by
  unfold fX12_load_259
  refine zok_bs (hσ.wp h_s0 c_0_6 (by decide)) (fun σ13 e2 i1 => ?_)
  refine zok_bs (i1.wi 9 9 (by decide) (zr_c (lo := 0) (hi := 0) (by decide)) (by decide +kernel)) (fun σ14 e4 i3 => ?_)
  refine zok_if (fun q5 => ?_) (fun q5 => ?_)
  · have h6 := zc_ler (0) q5 (zr_c (lo := 0) (hi := 0) (by decide)) (rM_5 i3.sg _ (by decide)) (by decide)
    refine zok_ck (zin_ok (zr_add (lo := 15) (hi := 32782) h6 (zr_c (lo := 15) (hi := 15) (by decide)) (by decide)) (by decide)) ?_
    exact (s_X12_load_293 i3 (zr_andr (lo := 0) (hi := 15) (zr_c (lo := 15) (hi := 15) (by decide)) (by decide)))
  have h7 := zc_ltl (-1) (z_nle q5) (rM_5 i3.sg _ (by decide)) (zr_c (lo := 0) (hi := 0) (by decide)) (by decide)
  exact (s_X12_load_293 i3 (zr_w (zr_c (lo := 3) (hi := 3) (by decide)) (by decide)))
theorem s_X12_load_247 {G : Nat → Int} {σ : zSt} (hσ : zEM [2, 3, 4] G σ) (c_0_6 : zr (1) (16) (zgi σ 0 6)) : zok (fX12_load_247 σ ) (zAi (zEM [2, 3, 4] G) (fun v : Int32 => zr (0) (3) v)) := by
  unfold fX12_load_247
  refine zok_if (fun q1 => ?_) (fun q1 => ?_)
  · have h2 := zc_ler (0) q1 (zr_c (lo := 0) (hi := 0) (by decide)) (rM_5 hσ.sg _ (by decide)) (by decide)
    exact (s_X12_load_259 hσ (zr_w (zr_c (lo := 1) (hi := 1) (by decide)) (by decide)) c_0_6)
  have h3 := zc_ltl (-1) (z_nle q1) (rM_5 hσ.sg _ (by decide)) (zr_c (lo := 0) (hi := 0) (by decide)) (by decide)
  exact (s_X12_load_259 hσ (zr_w (zr_c (lo := 3) (hi := 3) (by decide)) (by decide)) c_0_6)
theorem s_X12_load_214 {G : Nat → Int} {σ : zSt} (hσ : zEM [2, 3, 4] G σ) {x3 : Int32} {s0 : Int32} (c_0_6 : zr (1) (16) (zgi σ 0 6)) : zok (fX12_load_214 σ x3 s0) (zAi (zEM [2, 3, 4] G) (fun v : Int32 => zr (0) (3) v)) := by
  unfold fX12_load_214
  refine zok_if (fun q1 => ?_) (fun q1 => ?_)
  · have h2 := zc_ltr (49153) q1 (zr_c (lo := 49152) (hi := 49152) (by decide)) (rM_2 hσ.sg _ (by decide)) (by decide)
    refine zok_if (fun q3 => ?_) (fun q3 => ?_)
    · have h4 := zc_lel (0) q3 zr_any (zr_c (lo := 0) (hi := 0) (by decide)) (by decide)
      exact (s_X12_load_247 hσ c_0_6)
    have h5 := zc_ltr (1) (z_nle q3) (zr_c (lo := 0) (hi := 0) (by decide)) zr_any (by decide)
    refine zok_if (fun q6 => ?_) (fun q6 => ?_)
    · have h7 := zc_eql (65536) (65536) q6 zr_any (zr_c (lo := 65536) (hi := 65536) (by decide)) (by decide)
      exact (s_X12_load_259 hσ (zr_w (zr_c (lo := 2) (hi := 2) (by decide)) (by decide)) c_0_6)
    exact (s_X12_load_247 hσ c_0_6)
  have h8 := zc_lel (49152) (z_nlt q1) (rM_2 hσ.sg _ (by decide)) (zr_c (lo := 49152) (hi := 49152) (by decide)) (by decide)
  exact (s_X12_load_259 hσ (zr_w (zr_c (lo := 0) (hi := 0) (by decide)) (by decide)) c_0_6)
theorem s_X12_load_192 {G : Nat → Int} {σ : zSt} (hσ : zEM [2, 3, 4] G σ) {s0 : Int32} (c_0_6 : zr (1) (16) (zgi σ 0 6)) : zok (fX12_load_192 σ s0) (zAi (zEM [2, 3, 4] G) (fun v : Int32 => zr (0) (3) v)) := by
  unfold fX12_load_192
  refine zok_if (fun q1 => ?_) (fun q1 => ?_)
  · have h2 := zc_lel (49152) q1 (rM_2 hσ.sg _ (by decide)) (zr_c (lo := 49152) (hi := 49152) (by decide)) (by decide)
    exact (s_X12_load_214 hσ c_0_6)
  have h3 := zc_ltr (49153) (z_nle q1) (zr_c (lo := 49152) (hi := 49152) (by decide)) (rM_2 hσ.sg _ (by decide)) (by decide)
  refine zok_pi (s_X12_bytesAt hσ.P (zr_w (zr_c (lo := 32744) (hi := 32744) (by decide)) (by decide)) (zr_c (lo := 2) (hi := 2) (by decide))) (fun v16 h4 => ?_)
  exact (s_X12_load_214 hσ c_0_6)
theorem s_X12_load_142_body {G : Nat → Int} {σ : zSt} {k142 : zSt → Int32 → Option (zSt × Int32)} {Mk142 : Int} (hk142 : ∀ (σ : zSt) (x3 : Int32), zEM [2, 3, 4] G σ → zr (8176) (65550) x3 → zr (1) (16) (zgi σ 0 6) → (65550) - x3.toInt < Mk142 → zok (k142 σ x3) (zAi (zEM [2, 3, 4] G) (fun v : Int32 => zr (0) (3) v))) (hσ : zEM [2, 3, 4] G σ) {x3 : Int32} (h_x3 : zr (8176) (65550) x3) (c_0_6 : zr (1) (16) (zgi σ 0 6)) (hMk142 : (65550) - x3.toInt ≤ Mk142) : zok (fX12_load_142_body k142 σ x3) (zAi (zEM [2, 3, 4] G) (fun v : Int32 => zr (0) (3) v)) := by
  unfold fX12_load_142_body
  refine zok_if (fun q1 => ?_) (fun q1 => ?_)
  · have h2 := zc_ler (32768) q1 (zr_c (lo := 32768) (hi := 32768) (by decide)) h_x3 (by decide)
    refine zok_if (fun q3 => ?_) (fun q3 => ?_)
    · have h4 := zc_lel (49152) q3 (rM_2 hσ.sg _ (by decide)) (zr_c (lo := 49152) (hi := 49152) (by decide)) (by decide)
      exact (s_X12_load_192 hσ c_0_6)
    have h5 := zc_ltr (49153) (z_nle q3) (zr_c (lo := 49152) (hi := 49152) (by decide)) (rM_2 hσ.sg _ (by decide)) (by decide)
    refine zok_pi (s_X12_bytesAt hσ.P (zr_w (zr_c (lo := 32742) (hi := 32742) (by decide)) (by decide)) (zr_c (lo := 2) (hi := 2) (by decide))) (fun v18 h6 => ?_)
    exact (s_X12_load_192 hσ c_0_6)
  have h7 := zc_ltl (32767) (z_nle q1) h_x3 (zr_c (lo := 32768) (hi := 32768) (by decide)) (by decide)
  refine zok_pi (s_X12_isHeader hσ.P h7) (fun v20 h8 => ?_)
  refine zok_if (fun q9 => ?_) (fun q9 => ?_)
  · have h10 := zc_eql (0) (0) q9 h8 (zr_c (lo := 0) (hi := 0) (by decide)) (by decide)
    exact (s_X12_load_161 hk142 hσ h7 c_0_6 hMk142)
  have h11 := zc_nel (1) (1) q9 h8 (zr_c (lo := 0) (hi := 0) (by decide)) (by decide)
  refine zok_bs (hσ.wi 8 8 (by decide) h7 (by decide +kernel)) (fun σ21 e13 i12 => ?_)
  exact (s_X12_load_161 hk142 i12 h7 (z_trj e13 (by decide) c_0_6) hMk142)
theorem s_X12_load_142 {G : Nat → Int} : ∀ (n : Nat) {σ : zSt} (hσ : zEM [2, 3, 4] G σ) {x3 : Int32} (h_x3 : zr (8176) (65550) x3) (c_0_6 : zr (1) (16) (zgi σ 0 6)) (hm : (65550) - x3.toInt < n), zok (fX12_load_142 n σ x3) (zAi (zEM [2, 3, 4] G) (fun v : Int32 => zr (0) (3) v)) := by
  intro n
  induction n with
  | zero => intro σ hσ x3 h_x3 c_0_6 hm ; have h9 := h_x3.1; have h8 := h_x3.2; exfalso; omega
  | succ n ih => intro σ hσ x3 h_x3 c_0_6 hm ; exact s_X12_load_142_body (fun σ x3 hσ h_x3 c_0_6 hm1 => ih hσ h_x3 c_0_6 (by omega)) hσ h_x3 c_0_6 (Int.le_refl _)
theorem s_X12_load_89_body {G : Nat → Int} {σ : zSt} {k89 : zSt → Int32 → Int32 → Option (zSt × Int32)} {Mk89 : Int} (hk89 : ∀ (σ : zSt) (x1 : Int32) (x3 : Int32), zEM [2, 3, 4] G σ → zr (0) (512) x1 → zr (0) (262144) x3 → zr (1) (16) (zgi σ 0 6) → (262144) - x3.toInt < Mk89 → zok (k89 σ x1 x3) (zAi (zEM [2, 3, 4] G) (fun v : Int32 => zr (0) (3) v))) (hσ : zEM [2, 3, 4] G σ) {x1 : Int32} (h_x1 : zr (0) (512) x1) {x3 : Int32} (h_x3 : zr (0) (262144) x3) (c_0_6 : zr (1) (16) (zgi σ 0 6)) (hMk89 : (262144) - x3.toInt ≤ Mk89) : zok (fX12_load_89_body k89 σ x1 x3) (zAi (zEM [2, 3, 4] G) (fun v : Int32 => zr (0) (3) v)) := by
  unfold fX12_load_89_body
  refine zok_if (fun q1 => ?_) (fun q1 => ?_)
  · have h2 := zc_ler (16384) q1 (zr_mul (lo := 16384) (hi := 262144) (zr_c (lo := 16384) (hi := 16384) (by decide)) c_0_6 (by decide)) h_x3 (by decide)
    refine zok_bs (hσ.wi 8 8 (by decide) (zr_c (lo := -1) (hi := -1) (by decide)) (by decide +kernel)) (fun σ22 e4 i3 => ?_)
    exact (s_X12_load_142 zfuel i3 (zr_w (zr_c (lo := 8176) (hi := 8176) (by decide)) (by decide)) (z_trj e4 (by decide) c_0_6) (by decide))
  have h5 := zc_ltl (262143) (z_nle q1) h_x3 (zr_mul (lo := 16384) (hi := 262144) (zr_c (lo := 16384) (hi := 16384) (by decide)) c_0_6 (by decide)) (by decide)
  refine zok_if (fun q6 => ?_) (fun q6 => ?_)
  · have h7 := zc_lel (262143) q6 (rM_2 hσ.sg _ (by decide)) h5 (by decide)
    exact (s_X12_load_126 hk89 hσ h_x1 h5 h5 c_0_6 hMk89)
  have h8 := zc_ltr (1) (z_nle q6) h5 (rM_2 hσ.sg _ (by decide)) (by decide)
  refine zok_ck (zin_ok (zr_add (lo := 0) (hi := 262655) h_x1 h5 (by decide)) (by decide)) ?_
  exact (s_X12_load_126 hk89 hσ h_x1 h5 h5 c_0_6 hMk89)
theorem s_X12_load_89 {G : Nat → Int} : ∀ (n : Nat) {σ : zSt} (hσ : zEM [2, 3, 4] G σ) {x1 : Int32} (h_x1 : zr (0) (512) x1) {x3 : Int32} (h_x3 : zr (0) (262144) x3) (c_0_6 : zr (1) (16) (zgi σ 0 6)) (hm : (262144) - x3.toInt < n), zok (fX12_load_89 n σ x1 x3) (zAi (zEM [2, 3, 4] G) (fun v : Int32 => zr (0) (3) v)) := by
  intro n
  induction n with
  | zero => intro σ hσ x1 h_x1 x3 h_x3 c_0_6 hm ; have h9 := h_x3.1; have h8 := h_x3.2; exfalso; omega
  | succ n ih => intro σ hσ x1 h_x1 x3 h_x3 c_0_6 hm ; exact s_X12_load_89_body (fun σ x1 x3 hσ h_x1 h_x3 c_0_6 hm1 => ih hσ h_x1 h_x3 c_0_6 (by omega)) hσ h_x1 h_x3 c_0_6 (Int.le_refl _)
theorem s_X12_load_26 {G : Nat → Int} {σ : zSt} (hσ : zEM [0, 2, 3, 4] G σ) {s0 : Int32} (h_s0 : zr (0) (512) s0) : zok (fX12_load_26 σ s0) (zAi (zEM [0, 2, 3, 4] G) (fun v : Int32 => zr (0) (3) v)) := by
  unfold fX12_load_26
  refine zok_br (zr_sub (lo := -512) (hi := 262656) (rM_0 hσ.sg _ (by decide)) h_s0 (by decide)) (fun v23 e2 h1 => ?_)
  refine zok_bs (hσ.wi 2 2 (by decide) (zr_c (lo := 0) (hi := 0) (by decide)) (by decide +kernel)) (fun σ24 e4 i3 => ?_)
  refine zok_if (fun q5 => ?_) (fun q5 => ?_)
  · have h6 := zc_ler (8192) q5 (zr_c (lo := 8192) (hi := 8192) (by decide)) h1 (by decide)
    refine zok_ck (by decide) ?_
    refine zok_if (fun q7 => ?_) (fun q7 => ?_)
    · have h8 := zc_eql (0) (0) q7 (zr_rem (lo := 0) (hi := 8191) 8192 (by decide) h6 (by decide)) (zr_c (lo := 0) (hi := 0) (by decide)) (by decide)
      refine zok_if (fun q9 => ?_) (fun q9 => ?_)
      · have h10 := zc_lel (262144) q9 h6 (zr_c (lo := 262144) (hi := 262144) (by decide)) (by decide)
        refine zok_bs (i3.wi 5 5 (by decide) h10 (by decide +kernel)) (fun σ25 e12 i11 => ?_)
        refine zok_ck (by decide) ?_
        refine zok_bs (i11.wb (zr_div (lo := 1) (hi := 16) 16384 (by decide) (zr_add (lo := 24575) (hi := 278527) (z_own e12 h10) (zr_c (lo := 16383) (hi := 16383) (by decide)) (by decide)) (by decide)) (by decide)) (fun σ26 e14 i13 => ?_)
        exact (i13.uEi (by decide) (fun G1 hG => s_X12_load_89 zfuel hG h_s0 (zr_w (zr_c (lo := 0) (hi := 0) (by decide)) (by decide)) (z_own e14 (zr_div (lo := 1) (hi := 16) 16384 (by decide) (zr_add (lo := 24575) (hi := 278527) (z_own e12 h10) (zr_c (lo := 16383) (hi := 16383) (by decide)) (by decide)) (by decide))) (by decide)))
      have h15 := zc_ltr (262145) (z_nle q9) (zr_c (lo := 262144) (hi := 262144) (by decide)) h6 (by decide)
      exact zok_sai i3 (zr_w (zr_c (lo := 3) (hi := 3) (by decide)) (by decide))
    have h16 := zc_nel (1) (8191) q7 (zr_rem (lo := 0) (hi := 8191) 8192 (by decide) h6 (by decide)) (zr_c (lo := 0) (hi := 0) (by decide)) (by decide)
    exact zok_sai i3 (zr_w (zr_c (lo := 2) (hi := 2) (by decide)) (by decide))
  have h17 := zc_ltl (8191) (z_nle q5) h1 (zr_c (lo := 8192) (hi := 8192) (by decide)) (by decide)
  exact zok_sai i3 (zr_w (zr_c (lo := 1) (hi := 1) (by decide)) (by decide))
theorem s_X12_load {G : Nat → Int} {σ : zSt} (hσ : zEM [0, 2, 3, 4] G σ) : zok (fX12_load σ ) (zAi (zEM [0, 2, 3, 4] G) (fun v : Int32 => zr (0) (3) v)) := by
  unfold fX12_load
  refine zok_bs (hσ.wi 0 0 (by decide) (zr_c (lo := 0) (hi := 0) (by decide)) (by decide +kernel)) (fun σ27 e2 i1 => ?_)
  refine zok_ck (by decide) ?_
  refine zok_if (fun q3 => ?_) (fun q3 => ?_)
  · have h4 := zc_eql (512) (512) q3 (zr_rem (lo := 0) (hi := 16383) 16384 (by decide) (rM_0 i1.sg _ (by decide)) (by decide)) (zr_c (lo := 512) (hi := 512) (by decide)) (by decide)
    exact (s_X12_load_26 i1 (zr_w (zr_c (lo := 512) (hi := 512) (by decide)) (by decide)))
  exact (s_X12_load_26 i1 (zr_w (zr_c (lo := 0) (hi := 0) (by decide)) (by decide)))
theorem s_X12_tens {σ : zSt} (hσ : zPM σ) {x1 : Int32} (h_x1 : zr (12) (32780) x1) : zok (fX12_tens σ x1) (zPi σ (fun v : Int32 => zr (0) (165) v)) := by
  unfold fX12_tens
  refine zok_ck (zin_ok h_x1 (by decide)) ?_
  refine zok_ck (zin_ok h_x1 (by decide)) ?_
  exact zok_spi (zr_add (lo := 0) (hi := 165) (zr_mul (lo := 0) (hi := 150) (zr_c (lo := 10) (hi := 10) (by decide)) (zr_andr (lo := 0) (hi := 15) (zr_c (lo := 15) (hi := 15) (by decide)) (by decide)) (by decide)) (zr_andr (lo := 0) (hi := 15) (zr_c (lo := 15) (hi := 15) (by decide)) (by decide)) (by decide))
theorem s_X12_card {G : Nat → Int} {σ : zSt} (hσ : zIM G σ) {x1 : Int32} : zok (fX12_card σ x1) (zAi (zIM G) (fun v : Int32 => True)) := by
  unfold fX12_card
  refine zok_within (fun w1 w2 => ?_) (fun w3 => ?_)
  · have h4 := z_wir w1 w2 (zrl_c (lo := 0) (hi := 0) (by decide)) (zrl_c (lo := 7) (hi := 7) (by decide))
    refine zok_if (fun q5 => ?_) (fun q5 => ?_)
    · exact zr_no (zc_eql (1) (0) q5 (zr_c (lo := 1) (hi := 1) (by decide)) (zr_c (lo := 0) (hi := 0) (by decide)) (by decide)) (by decide)
    unfold fX12_card_18
    refine zok_fails0 (hσ.wi 0 0 (by decide) zr_any (by decide +kernel)) (fun σ1 e6 i7 => ?_)
    refine zok_if (fun q8 => ?_) (fun q8 => ?_)
    · refine zok_if (fun q9 => ?_) (fun q9 => ?_)
      · have h10 := zc_ler (3) q9 (zr_c (lo := 3) (hi := 3) (by decide)) h4 (by decide)
        refine zok_if (fun q11 => ?_) (fun q11 => ?_)
        · have h12 := zc_ler (0) q11 (zr_c (lo := 0) (hi := 0) (by decide)) (rM_5 i7.sg _ (by decide)) (by decide)
          refine zok_if (fun q13 => ?_) (fun q13 => ?_)
          · have h14 := zc_eql (3) (3) q13 h10 (zr_c (lo := 3) (hi := 3) (by decide)) (by decide)
            refine zok_pi (s_X12_tens i7.P (zr_w (zr_add (lo := 12) (hi := 32779) h12 (zr_c (lo := 12) (hi := 12) (by decide)) (by decide)) (by decide))) (fun v4 h15 => ?_)
            refine zok_pi (s_X12_tens i7.P (zr_w (zr_add (lo := 13) (hi := 32780) h12 (zr_c (lo := 13) (hi := 13) (by decide)) (by decide)) (by decide))) (fun v6 h16 => ?_)
            refine zok_ck (zin_ok (zr_add (lo := 14) (hi := 32781) h12 (zr_c (lo := 14) (hi := 14) (by decide)) (by decide)) (by decide)) ?_
            exact zok_sai i7 trivial
          have h17 := zc_nel (4) (7) q13 h10 (zr_c (lo := 3) (hi := 3) (by decide)) (by decide)
          refine zok_if (fun q18 => ?_) (fun q18 => ?_)
          · have h19 := zc_eql (4) (4) q18 h17 (zr_c (lo := 4) (hi := 4) (by decide)) (by decide)
            refine zok_ck (zin_ok (zr_add (lo := 15) (hi := 32782) h12 (zr_c (lo := 15) (hi := 15) (by decide)) (by decide)) (by decide)) ?_
            exact zok_sai i7 trivial
          have h20 := zc_nel (5) (7) q18 h17 (zr_c (lo := 4) (hi := 4) (by decide)) (by decide)
          refine zok_if (fun q21 => ?_) (fun q21 => ?_)
          · have h22 := zc_eql (5) (5) q21 h20 (zr_c (lo := 5) (hi := 5) (by decide)) (by decide)
            refine zok_ck (zin_ok (zr_add (lo := 15) (hi := 32782) h12 (zr_c (lo := 15) (hi := 15) (by decide)) (by decide)) (by decide)) ?_
            exact zok_sai i7 trivial
          have h23 := zc_nel (6) (7) q21 h20 (zr_c (lo := 5) (hi := 5) (by decide)) (by decide)
          refine zok_if (fun q24 => ?_) (fun q24 => ?_)
          · have h25 := zc_eql (6) (6) q24 h23 (zr_c (lo := 6) (hi := 6) (by decide)) (by decide)
            refine zok_pi (s_X12_bytesAt i7.P (zr_add (lo := 10) (hi := 32777) h12 (zr_c (lo := 10) (hi := 10) (by decide)) (by decide)) (zr_c (lo := 2) (hi := 2) (by decide))) (fun v8 h26 => ?_)
            exact zok_sai i7 trivial
          have h27 := zc_nel (7) (7) q24 h23 (zr_c (lo := 6) (hi := 6) (by decide)) (by decide)
          exact zok_sai i7 trivial
        have h28 := zc_ltl (-1) (z_nle q11) (rM_5 i7.sg _ (by decide)) (zr_c (lo := 0) (hi := 0) (by decide)) (by decide)
        exact zok_sai i7 trivial
      have h29 := zc_ltl (2) (z_nle q9) h4 (zr_c (lo := 3) (hi := 3) (by decide)) (by decide)
      refine zok_if (fun q30 => ?_) (fun q30 => ?_)
      · have h31 := zc_eql (0) (0) q30 h29 (zr_c (lo := 0) (hi := 0) (by decide)) (by decide)
        unfold fX12_card_59
        exact zok_sai i7 trivial
      have h32 := zc_nel (1) (2) q30 h29 (zr_c (lo := 0) (hi := 0) (by decide)) (by decide)
      refine zok_if (fun q33 => ?_) (fun q33 => ?_)
      · have h34 := zc_eql (1) (1) q33 h32 (zr_c (lo := 1) (hi := 1) (by decide)) (by decide)
        unfold fX12_card_59
        exact zok_sai i7 trivial
      have h35 := zc_nel (2) (2) q33 h32 (zr_c (lo := 1) (hi := 1) (by decide)) (by decide)
      unfold fX12_card_59
      exact zok_sai i7 trivial
    exact zr_no (zc_nel (1) (0) q8 (zr_c (lo := 0) (hi := 0) (by decide)) (zr_c (lo := 0) (hi := 0) (by decide)) (by decide)) (by decide)
  refine zok_if (fun q36 => ?_) (fun q36 => ?_)
  · unfold fX12_card_18
    refine zok_fails1 (hσ.wi 0 0 (by decide) zr_any (by decide +kernel)) (fun σ1 e37 i38 => ?_)
    refine zok_if (fun q39 => ?_) (fun q39 => ?_)
    · exact zr_no (zc_eql (1) (0) q39 (zr_c (lo := 1) (hi := 1) (by decide)) (zr_c (lo := 0) (hi := 0) (by decide)) (by decide)) (by decide)
    exact zok_sai i38 trivial
  exact zr_no (zc_nel (1) (0) q36 (zr_c (lo := 0) (hi := 0) (by decide)) (zr_c (lo := 0) (hi := 0) (by decide)) (by decide)) (by decide)
theorem s_X12_ofBank {σ : zSt} (hσ : zPM σ) {x1 : Int32} (h_x1 : zr (0) (255) x1) {x2 : Int32} (h_x2 : zr (0) (49151) x2) (c_0_6 : zr (1) (16) (zgi σ 0 6)) : zok (fX12_ofBank σ x1 x2) (zPi σ (fun v : Int32 => zr (0) (255) v)) := by
  unfold fX12_ofBank
  refine zok_ck (zdv_ok c_0_6 (by decide)) ?_
  refine zok_ck (by decide) ?_
  refine zok_ck (zin_ok (zr_add (lo := 0) (hi := 262143) (zr_mul (lo := 0) (hi := 245760) (zr_c (lo := 16384) (hi := 16384) (by decide)) (zr_remv (lo := 0) (hi := 15) h_x1 c_0_6 (by decide)) (by decide)) (zr_rem (lo := 0) (hi := 16383) 16384 (by decide) h_x2 (by decide)) (by decide)) (by decide)) ?_
  exact zok_spi (zr_andr (lo := 0) (hi := 255) (zr_c (lo := 255) (hi := 255) (by decide)) (by decide))
theorem s_X12_batteryAt_23 {σ : zSt} (hσ : zPM σ) {s0 : Int32} (h_s0 : zr (0) (16384) s0) {s1 : Int32} (h_s1 : zr (0) (16383) s1) : zok (fX12_batteryAt_23 σ s0 s1) (zPi σ (fun v : Int32 => zr (0) (32767) v)) := by
  unfold fX12_batteryAt_23
  exact zok_spi (zr_add (lo := 0) (hi := 32767) h_s1 h_s0 (by decide))
theorem s_X12_batteryAt {σ : zSt} (hσ : zPM σ) {x1 : Int32} (h_x1 : zr (32768) (49151) x1) : zok (fX12_batteryAt σ x1) (zPi σ (fun v : Int32 => zr (0) (32767) v)) := by
  unfold fX12_batteryAt
  refine zok_ck rfl ?_
  refine zok_if (fun q1 => ?_) (fun q1 => ?_)
  · have h2 := zc_eql (0) (0) q1 (zr_andr (lo := 0) (hi := 4) (zr_c (lo := 4) (hi := 4) (by decide)) (by decide)) (zr_c (lo := 0) (hi := 0) (by decide)) (by decide)
    exact (s_X12_batteryAt_23 hσ (zr_w (zr_c (lo := 0) (hi := 0) (by decide)) (by decide)) (zr_sub (lo := 0) (hi := 16383) h_x1 (zr_c (lo := 32768) (hi := 32768) (by decide)) (by decide)))
  have h3 := zc_nel (1) (4) q1 (zr_andr (lo := 0) (hi := 4) (zr_c (lo := 4) (hi := 4) (by decide)) (by decide)) (zr_c (lo := 0) (hi := 0) (by decide)) (by decide)
  exact (s_X12_batteryAt_23 hσ (zr_w (zr_c (lo := 16384) (hi := 16384) (by decide)) (by decide)) (zr_sub (lo := 0) (hi := 16383) h_x1 (zr_c (lo := 32768) (hi := 32768) (by decide)) (by decide)))
theorem s_X12_read_80 {σ : zSt} (hσ : zPM σ) {s0 : Int32} (h_s0 : zr (0) (255) s0) : zok (fX12_read_80 σ s0) (zPi σ (fun v : Int32 => zr (0) (255) v)) := by
  unfold fX12_read_80
  exact zok_spi h_s0
theorem s_X12_read_111 {σ : zSt} (hσ : zPM σ) {x2 : Int32} (h_x2 : zr (0) (49151) x2) {s0 : Int32} (h_s0 : zr (0) (255) s0) (c_0_6 : zr (1) (16) (zgi σ 0 6)) : zok (fX12_read_111 σ x2 s0) (zPi σ (fun v : Int32 => zr (0) (255) v)) := by
  unfold fX12_read_111
  refine zok_pi (s_X12_ofBank hσ h_s0 h_x2 c_0_6) (fun v2 h1 => ?_)
  exact zok_spi h1
theorem s_X12_read_138 {σ : zSt} (hσ : zPM σ) {x2 : Int32} (h_x2 : zr (0) (49151) x2) (c_0_6 : zr (1) (16) (zgi σ 0 6)) : zok (fX12_read_138 σ x2) (zPi σ (fun v : Int32 => zr (0) (255) v)) := by
  unfold fX12_read_138
  refine zok_ck (by decide) ?_
  refine zok_ck (zin_ok (zr_add (lo := 29) (hi := 31) (zr_c (lo := 29) (hi := 29) (by decide)) (zr_div (lo := 0) (hi := 2) 16384 (by decide) h_x2 (by decide)) (by decide)) (by decide)) ?_
  refine zok_pi (s_X12_ofBank hσ (rM_18 hσ.sg _ (z_ix (zr_add (lo := 29) (hi := 31) (zr_c (lo := 29) (hi := 29) (by decide)) (zr_div (lo := 0) (hi := 2) 16384 (by decide) h_x2 (by decide)) (by decide)) (by decide))) h_x2 c_0_6) (fun v4 h1 => ?_)
  exact zok_spi h1
theorem s_X12_read {σ : zSt} (hσ : zPM σ) {x1 : Int32} : zok (fX12_read σ x1) (zPi σ (fun v : Int32 => zr (0) (255) v)) := by
  unfold fX12_read
  refine zok_br (zr_andr (lo := 0) (hi := 65535) (zr_c (lo := 65535) (hi := 65535) (by decide)) (by decide)) (fun v5 e2 h1 => ?_)
  refine zok_if (fun q3 => ?_) (fun q3 => ?_)
  · have h4 := zc_ltl (49151) q3 h1 (zr_c (lo := 49152) (hi := 49152) (by decide)) (by decide)
    refine zok_isBat (fun h5 => ?_) ?_
    · have h6 := h5
      refine zok_if (fun q7 => ?_) (fun q7 => ?_)
      · exact zr_no (zc_eql (1) (0) q7 (zr_c (lo := 1) (hi := 1) (by decide)) (zr_c (lo := 0) (hi := 0) (by decide)) (by decide)) (by decide)
      refine zok_pi (s_X12_batteryAt hσ h6) (fun v11 h8 => ?_)
      refine zok_ck (zin_ok h8 (by decide)) ?_
      exact zok_spi (zr_andr (lo := 0) (hi := 255) (zr_c (lo := 255) (hi := 255) (by decide)) (by decide))
    refine zok_if (fun q9 => ?_) (fun q9 => ?_)
    · refine zok_if (fun q10 => ?_) (fun q10 => ?_)
      · have h11 := zc_eql (0) (0) q10 (rM_4 hσ.sg _ (by decide)) (zr_c (lo := 0) (hi := 0) (by decide)) (by decide)
        refine zok_if (fun q12 => ?_) (fun q12 => ?_)
        · have h13 := zc_lel (49151) q12 (rM_2 hσ.sg _ (by decide)) h4 (by decide)
          exact (s_X12_read_80 hσ (zr_w (zr_c (lo := 255) (hi := 255) (by decide)) (by decide)))
        have h14 := zc_ltr (1) (z_nle q12) h4 (rM_2 hσ.sg _ (by decide)) (by decide)
        refine zok_ck (zin_ok h4 (by decide)) ?_
        exact (s_X12_read_80 hσ (zr_andr (lo := 0) (hi := 255) (zr_c (lo := 255) (hi := 255) (by decide)) (by decide)))
      have h15 := zc_nel (1) (3) q10 (rM_4 hσ.sg _ (by decide)) (zr_c (lo := 0) (hi := 0) (by decide)) (by decide)
      have h16 := rM_bk hσ.Y hσ.sg h15 (by decide)
      refine zok_if (fun q17 => ?_) (fun q17 => ?_)
      · have h18 := zc_eql (3) (3) q17 h15 (zr_c (lo := 3) (hi := 3) (by decide)) (by decide)
        have h19 := rM_bk hσ.Y hσ.sg h18 (by decide)
        refine zok_if (fun q20 => ?_) (fun q20 => ?_)
        · have h21 := zc_ler (32768) q20 (zr_c (lo := 32768) (hi := 32768) (by decide)) h4 (by decide)
          refine zok_ck rfl ?_
          exact (s_X12_read_111 hσ (zr_w h21 (by decide)) (rM_18 hσ.sg _ (by decide)) h19)
        have h22 := zc_ltl (32767) (z_nle q20) h4 (zr_c (lo := 32768) (hi := 32768) (by decide)) (by decide)
        refine zok_ck (by decide) ?_
        exact (s_X12_read_111 hσ (zr_w h22 (by decide)) (zr_w (zr_div (lo := 0) (hi := 1) 16384 (by decide) h22 (by decide)) (by decide)) h19)
      have h23 := zc_nel (1) (2) q17 h15 (zr_c (lo := 3) (hi := 3) (by decide)) (by decide)
      have h24 := rM_bk hσ.Y hσ.sg h23 (by decide)
      refine zok_if (fun q25 => ?_) (fun q25 => ?_)
      · have h26 := zc_eql (1) (1) q25 h23 (zr_c (lo := 1) (hi := 1) (by decide)) (by decide)
        have h27 := rM_bk hσ.Y hσ.sg h26 (by decide)
        refine zok_if (fun q28 => ?_) (fun q28 => ?_)
        · have h29 := zc_ler (1024) q28 (zr_c (lo := 1024) (hi := 1024) (by decide)) h4 (by decide)
          exact (s_X12_read_138 hσ (zr_w h29 (by decide)) h27)
        have h30 := zc_ltl (1023) (z_nle q28) h4 (zr_c (lo := 1024) (hi := 1024) (by decide)) (by decide)
        refine zok_pi (s_X12_ofBank hσ (zr_w (zr_c (lo := 0) (hi := 0) (by decide)) (by decide)) (zr_w h30 (by decide)) h27) (fun v9 h31 => ?_)
        exact zok_spi h31
      have h32 := zc_nel (2) (2) q25 h23 (zr_c (lo := 1) (hi := 1) (by decide)) (by decide)
      have h33 := rM_bk hσ.Y hσ.sg h32 (by decide)
      exact (s_X12_read_138 hσ h4 h33)
    exact zr_no (zc_nel (1) (0) q9 (zr_c (lo := 0) (hi := 0) (by decide)) (zr_c (lo := 0) (hi := 0) (by decide)) (by decide)) (by decide)
  have h34 := zc_ler (49152) (z_nlt q3) (zr_c (lo := 49152) (hi := 49152) (by decide)) h1 (by decide)
  refine zok_ck (by decide) ?_
  refine zok_ck (zin_ok (zr_rem (lo := 0) (hi := 8191) 8192 (by decide) h34 (by decide)) (by decide)) ?_
  exact zok_spi (zr_andr (lo := 0) (hi := 255) (zr_c (lo := 255) (hi := 255) (by decide)) (by decide))
theorem s_X12_write_163 {σ : zSt} (hσ : zPM σ) : zok (fX12_write_163 σ ) (zPu σ) := by
  unfold fX12_write_163
  exact zok_spu
theorem s_X12_write_140 {G : Nat → Int} {σ : zSt} (hσ : zIM G σ) {x3 : Int32} (h_x3 : zr (0) (65535) x3) {x4 : Int32} (h_x4 : zr (0) (255) x4) : zok (fX12_write_140 σ x3 x4) (zIM G) := by
  unfold fX12_write_140
  refine zok_if (fun q1 => ?_) (fun q1 => ?_)
  · have h2 := zc_eql (3) (3) q1 (rM_4 hσ.sg _ (by decide)) (zr_c (lo := 3) (hi := 3) (by decide)) (by decide)
    have h3 := rM_bk hσ.Y hσ.sg h2 (by decide)
    refine zok_if (fun q4 => ?_) (fun q4 => ?_)
    · have h5 := zc_eql (40960) (40960) q4 h_x3 (zr_c (lo := 40960) (hi := 40960) (by decide)) (by decide)
      refine zok_ck rfl ?_
      refine zok_bs (hσ.wi 31 31 (by decide) h_x4 (by decide +kernel)) (fun σ1 e7 i6 => ?_)
      exact zok_pau i6 (s_X12_write_163 i6.P)
    exact zok_pau hσ (s_X12_write_163 hσ.P)
  have h8 := zc_nel (0) (2) q1 (rM_4 hσ.sg _ (by decide)) (zr_c (lo := 3) (hi := 3) (by decide)) (by decide)
  exact zok_pau hσ (s_X12_write_163 hσ.P)
theorem s_X12_write_103 {G : Nat → Int} {σ : zSt} (hσ : zIM G σ) {x3 : Int32} (h_x3 : zr (0) (65535) x3) {x4 : Int32} (h_x4 : zr (0) (255) x4) : zok (fX12_write_103 σ x3 x4) (zIM G) := by
  unfold fX12_write_103
  refine zok_if (fun q1 => ?_) (fun q1 => ?_)
  · have h2 := zc_eql (2) (2) q1 (rM_4 hσ.sg _ (by decide)) (zr_c (lo := 2) (hi := 2) (by decide)) (by decide)
    have h3 := rM_bk hσ.Y hσ.sg h2 (by decide)
    refine zok_if (fun q4 => ?_) (fun q4 => ?_)
    · have h5 := zc_ler (49152) q4 (zr_c (lo := 49152) (hi := 49152) (by decide)) h_x3 (by decide)
      exact (s_X12_write_140 hσ (zr_w h5 (by decide)) h_x4)
    have h6 := zc_ltl (49151) (z_nle q4) h_x3 (zr_c (lo := 49152) (hi := 49152) (by decide)) (by decide)
    refine zok_ck (by decide) ?_
    refine zok_if (fun q7 => ?_) (fun q7 => ?_)
    · have h8 := zc_eql (0) (0) q7 (zr_rem (lo := 0) (hi := 16383) 16384 (by decide) h6 (by decide)) (zr_c (lo := 0) (hi := 0) (by decide)) (by decide)
      refine zok_ck (by decide) ?_
      refine zok_ck (zin_ok (zr_add (lo := 29) (hi := 31) (zr_c (lo := 29) (hi := 29) (by decide)) (zr_div (lo := 0) (hi := 2) 16384 (by decide) h6 (by decide)) (by decide)) (by decide)) ?_
      refine zok_bs (hσ.wi 29 31 (z_ix (zr_add (lo := 29) (hi := 31) (zr_c (lo := 29) (hi := 29) (by decide)) (zr_div (lo := 0) (hi := 2) 16384 (by decide) h6 (by decide)) (by decide)) (by decide)) h_x4 (by decide +kernel)) (fun σ2 e10 i9 => ?_)
      exact (s_X12_write_140 i9 (zr_w h6 (by decide)) h_x4)
    have h11 := zc_nel (1) (16383) q7 (zr_rem (lo := 0) (hi := 16383) 16384 (by decide) h6 (by decide)) (zr_c (lo := 0) (hi := 0) (by decide)) (by decide)
    exact (s_X12_write_140 hσ (zr_w h6 (by decide)) h_x4)
  exact (s_X12_write_140 hσ h_x3 h_x4)
theorem s_X12_write_75 {G : Nat → Int} {σ : zSt} (hσ : zIM G σ) {x3 : Int32} (h_x3 : zr (0) (65535) x3) {x4 : Int32} (h_x4 : zr (0) (255) x4) : zok (fX12_write_75 σ x3 x4) (zIM G) := by
  unfold fX12_write_75
  refine zok_if (fun q1 => ?_) (fun q1 => ?_)
  · have h2 := zc_eql (1) (1) q1 (rM_4 hσ.sg _ (by decide)) (zr_c (lo := 1) (hi := 1) (by decide)) (by decide)
    have h3 := rM_bk hσ.Y hσ.sg h2 (by decide)
    refine zok_if (fun q4 => ?_) (fun q4 => ?_)
    · have h5 := zc_lel (65532) q4 h_x3 (zr_c (lo := 65532) (hi := 65532) (by decide)) (by decide)
      exact (s_X12_write_103 hσ (zr_w h5 (by decide)) h_x4)
    have h6 := zc_ltr (65533) (z_nle q4) (zr_c (lo := 65532) (hi := 65532) (by decide)) h_x3 (by decide)
    refine zok_ck (zin_ok (zr_sub (lo := 29) (hi := 31) (zr_add (lo := 65562) (hi := 65564) (zr_c (lo := 29) (hi := 29) (by decide)) h6 (by decide)) (zr_c (lo := 65533) (hi := 65533) (by decide)) (by decide)) (by decide)) ?_
    refine zok_bs (hσ.wi 29 31 (z_ix (zr_sub (lo := 29) (hi := 31) (zr_add (lo := 65562) (hi := 65564) (zr_c (lo := 29) (hi := 29) (by decide)) h6 (by decide)) (zr_c (lo := 65533) (hi := 65533) (by decide)) (by decide)) (by decide)) h_x4 (by decide +kernel)) (fun σ3 e8 i7 => ?_)
    exact (s_X12_write_103 i7 (zr_w h6 (by decide)) h_x4)
  exact (s_X12_write_103 hσ h_x3 h_x4)
theorem s_X12_write_52 {G : Nat → Int} {σ : zSt} (hσ : zIM G σ) {x3 : Int32} (h_x3 : zr (0) (65535) x3) {x4 : Int32} (h_x4 : zr (0) (255) x4) : zok (fX12_write_52 σ x3 x4) (zIM G) := by
  unfold fX12_write_52
  refine zok_if (fun q1 => ?_) (fun q1 => ?_)
  · have h2 := zc_eql (1) (1) q1 (rM_4 hσ.sg _ (by decide)) (zr_c (lo := 1) (hi := 1) (by decide)) (by decide)
    have h3 := rM_bk hσ.Y hσ.sg h2 (by decide)
    refine zok_if (fun q4 => ?_) (fun q4 => ?_)
    · have h5 := zc_eql (65532) (65532) q4 h_x3 (zr_c (lo := 65532) (hi := 65532) (by decide)) (by decide)
      refine zok_ck rfl ?_
      refine zok_bs (hσ.wi 32 32 (by decide) h_x4 (by decide +kernel)) (fun σ4 e7 i6 => ?_)
      exact (s_X12_write_75 i6 (zr_w h5 (by decide)) h_x4)
    exact (s_X12_write_75 hσ h_x3 h_x4)
  exact (s_X12_write_75 hσ h_x3 h_x4)
theorem s_X12_write_31 {G : Nat → Int} {σ : zSt} (hσ : zIM G σ) {x3 : Int32} (h_x3 : zr (0) (65535) x3) {x4 : Int32} (h_x4 : zr (0) (255) x4) : zok (fX12_write_31 σ x3 x4) (zIM G) := by
  unfold fX12_write_31
  refine zok_isBat (fun h1 => ?_) ?_
  · have h2 := h1
    refine zok_if (fun q3 => ?_) (fun q3 => ?_)
    · exact zr_no (zc_eql (1) (0) q3 (zr_c (lo := 1) (hi := 1) (by decide)) (zr_c (lo := 0) (hi := 0) (by decide)) (by decide)) (by decide)
    refine zok_pi (s_X12_batteryAt hσ.P h2) (fun v8 h4 => ?_)
    refine zok_ck (zin_ok h4 (by decide)) ?_
    refine zok_bs (hσ.wk (by decide)) (fun σ9 e6 i5 => ?_)
    exact (s_X12_write_52 i5 (zr_w h2 (by decide)) h_x4)
  refine zok_if (fun q7 => ?_) (fun q7 => ?_)
  · exact (s_X12_write_52 hσ h_x3 h_x4)
  exact zr_no (zc_nel (1) (0) q7 (zr_c (lo := 0) (hi := 0) (by decide)) (zr_c (lo := 0) (hi := 0) (by decide)) (by decide)) (by decide)
theorem s_X12_write {G : Nat → Int} {σ : zSt} (hσ : zIM G σ) {x1 : Int32} {x2 : Int32} : zok (fX12_write σ x1 x2) (zIM G) := by
  unfold fX12_write
  refine zok_br (zr_andr (lo := 0) (hi := 65535) (zr_c (lo := 65535) (hi := 65535) (by decide)) (by decide)) (fun v10 e2 h1 => ?_)
  refine zok_br (zr_andr (lo := 0) (hi := 255) (zr_c (lo := 255) (hi := 255) (by decide)) (by decide)) (fun v11 e4 h3 => ?_)
  refine zok_if (fun q5 => ?_) (fun q5 => ?_)
  · have h6 := zc_ltl (49151) q5 h1 (zr_c (lo := 49152) (hi := 49152) (by decide)) (by decide)
    exact (s_X12_write_31 hσ (zr_w h6 (by decide)) h3)
  have h7 := zc_ler (49152) (z_nlt q5) (zr_c (lo := 49152) (hi := 49152) (by decide)) h1 (by decide)
  refine zok_ck (by decide) ?_
  refine zok_ck (zin_ok (zr_rem (lo := 0) (hi := 8191) 8192 (by decide) h7 (by decide)) (by decide)) ?_
  refine zok_bs (hσ.wk (by decide)) (fun σ12 e9 i8 => ?_)
  exact (s_X12_write_31 i8 (zr_w h7 (by decide)) h3)
theorem s_X12_word {σ : zSt} (hσ : zPM σ) {x1 : Int32} (h_x1 : zr (0) (65535) x1) : zok (fX12_word σ x1) (zPi σ (fun v : Int32 => zr (0) (65535) v)) := by
  unfold fX12_word
  refine zok_pi (s_X12_read hσ) (fun v2 h1 => ?_)
  refine zok_pi (s_X12_read hσ) (fun v4 h2 => ?_)
  exact zok_spi (zr_or (lo := 0) (hi := 65535) 16 h1 (zr_shl (lo := 0) (hi := 65280) 8 (by decide) h2 (by decide)) (by decide))
theorem s_X12_wordTo {G : Nat → Int} {σ : zSt} (hσ : zIM G σ) {x1 : Int32} (h_x1 : zr (0) (65535) x1) {x2 : Int32} (h_x2 : zr (0) (65535) x2) : zok (fX12_wordTo σ x1 x2) (zIM G) := by
  unfold fX12_wordTo
  refine zok_bu (s_X12_write hσ) (fun σ1 i1 => ?_)
  refine zok_bu (s_X12_write i1) (fun σ2 i2 => ?_)
  exact zok_some i2
theorem s_X12_pair {σ : zSt} (hσ : zPM σ) {x1 : Int32} (h_x1 : zr (0) (6) x1) : zok (fX12_pair σ x1) (zPi σ (fun v : Int32 => zr (0) (65535) v)) := by
  unfold fX12_pair
  refine zok_ck (zin_ok h_x1 (by decide)) ?_
  refine zok_ck (zin_ok (zr_add (lo := 1) (hi := 7) h_x1 (zr_c (lo := 1) (hi := 1) (by decide)) (by decide)) (by decide)) ?_
  exact zok_spi (zr_or (lo := 0) (hi := 65535) 16 (zr_shl (lo := 0) (hi := 65280) 8 (by decide) (rM_11 hσ.sg _ (z_ix h_x1 (by decide))) (by decide)) (rM_11 hσ.sg _ (z_ix (zr_add (lo := 1) (hi := 7) h_x1 (zr_c (lo := 1) (hi := 1) (by decide)) (by decide)) (by decide))) (by decide))
theorem s_X12_pairTo {G : Nat → Int} {σ : zSt} (hσ : zIM G σ) {x1 : Int32} (h_x1 : zr (0) (6) x1) {x2 : Int32} (h_x2 : zr (-65536) (131071) x2) : zok (fX12_pairTo σ x1 x2) (zIM G) := by
  unfold fX12_pairTo
  refine zok_ck (zin_ok h_x1 (by decide)) ?_
  refine zok_bs (hσ.wi 0 6 (z_ix h_x1 (by decide)) (zr_andr (lo := 0) (hi := 255) (zr_c (lo := 255) (hi := 255) (by decide)) (by decide)) (by decide +kernel)) (fun σ1 e2 i1 => ?_)
  refine zok_ck (zin_ok (zr_add (lo := 1) (hi := 7) h_x1 (zr_c (lo := 1) (hi := 1) (by decide)) (by decide)) (by decide)) ?_
  refine zok_bs (i1.wi 1 7 (z_ix (zr_add (lo := 1) (hi := 7) h_x1 (zr_c (lo := 1) (hi := 1) (by decide)) (by decide)) (by decide)) (zr_andr (lo := 0) (hi := 255) (zr_c (lo := 255) (hi := 255) (by decide)) (by decide)) (by decide +kernel)) (fun σ2 e4 i3 => ?_)
  exact zok_some i3
theorem s_X12_hl_25 {σ : zSt} (hσ : zPM σ) {s0 : Int32} (h_s0 : zr (0) (65535) s0) : zok (fX12_hl_25 σ s0) (zPi σ (fun v : Int32 => zr (0) (65535) v)) := by
  unfold fX12_hl_25
  exact zok_spi h_s0
theorem s_X12_hl {σ : zSt} (hσ : zPM σ) : zok (fX12_hl σ ) (zPi σ (fun v : Int32 => zr (0) (65535) v)) := by
  unfold fX12_hl
  refine zok_if (fun q1 => ?_) (fun q1 => ?_)
  · have h2 := zc_eql (0) (0) q1 (rM_6 hσ.sg _ (by decide)) (zr_c (lo := 0) (hi := 0) (by decide)) (by decide)
    refine zok_pi (s_X12_pair hσ (zr_w (zr_c (lo := 6) (hi := 6) (by decide)) (by decide))) (fun v2 h3 => ?_)
    exact (s_X12_hl_25 hσ h3)
  have h4 := zc_nel (1) (17) q1 (rM_6 hσ.sg _ (by decide)) (zr_c (lo := 0) (hi := 0) (by decide)) (by decide)
  have h5 := xM_sp hσ.sp h4 (by decide)
  refine zok_ck (zin_ok h5 (by decide)) ?_
  exact (s_X12_hl_25 hσ (rM_12 hσ.sg _ (z_ix h5 (by decide))))
theorem s_X12_hlTo_30 {σ : zSt} (hσ : zPM σ) : zok (fX12_hlTo_30 σ ) (zPu σ) := by
  unfold fX12_hlTo_30
  exact zok_spu
theorem s_X12_hlTo {G : Nat → Int} {σ : zSt} (hσ : zIM G σ) {x1 : Int32} (h_x1 : zr (-65536) (131071) x1) : zok (fX12_hlTo σ x1) (zIM G) := by
  unfold fX12_hlTo
  refine zok_if (fun q1 => ?_) (fun q1 => ?_)
  · have h2 := zc_eql (0) (0) q1 (rM_6 hσ.sg _ (by decide)) (zr_c (lo := 0) (hi := 0) (by decide)) (by decide)
    refine zok_bu (s_X12_pairTo hσ (zr_w (zr_c (lo := 6) (hi := 6) (by decide)) (by decide)) h_x1) (fun σ2 i3 => ?_)
    exact zok_pau i3 (s_X12_hlTo_30 i3.P)
  have h4 := zc_nel (1) (17) q1 (rM_6 hσ.sg _ (by decide)) (zr_c (lo := 0) (hi := 0) (by decide)) (by decide)
  have h5 := xM_sp hσ.sp h4 (by decide)
  refine zok_ck (zin_ok h5 (by decide)) ?_
  refine zok_bs (hσ.wi 16 17 (z_ix h5 (by decide)) (zr_andr (lo := 0) (hi := 65535) (zr_c (lo := 65535) (hi := 65535) (by decide)) (by decide)) (by decide +kernel)) (fun σ1 e7 i6 => ?_)
  exact zok_pau i6 (s_X12_hlTo_30 i6.P)
theorem s_X12_rp_44 {σ : zSt} (hσ : zPM σ) {s0 : Int32} (h_s0 : zr (0) (65535) s0) : zok (fX12_rp_44 σ s0) (zPi σ (fun v : Int32 => zr (0) (65535) v)) := by
  unfold fX12_rp_44
  exact zok_spi h_s0
theorem s_X12_rp {σ : zSt} (hσ : zPM σ) {x1 : Int32} (h_x1 : zr (0) (3) x1) : zok (fX12_rp σ x1) (zPi σ (fun v : Int32 => zr (0) (65535) v)) := by
  unfold fX12_rp
  refine zok_if (fun q1 => ?_) (fun q1 => ?_)
  · have h2 := zc_eql (0) (0) q1 h_x1 (zr_c (lo := 0) (hi := 0) (by decide)) (by decide)
    refine zok_pi (s_X12_pair hσ (zr_w (zr_c (lo := 2) (hi := 2) (by decide)) (by decide))) (fun v6 h3 => ?_)
    exact (s_X12_rp_44 hσ h3)
  have h4 := zc_nel (1) (3) q1 h_x1 (zr_c (lo := 0) (hi := 0) (by decide)) (by decide)
  refine zok_if (fun q5 => ?_) (fun q5 => ?_)
  · have h6 := zc_eql (1) (1) q5 h4 (zr_c (lo := 1) (hi := 1) (by decide)) (by decide)
    refine zok_pi (s_X12_pair hσ (zr_w (zr_c (lo := 4) (hi := 4) (by decide)) (by decide))) (fun v4 h7 => ?_)
    exact (s_X12_rp_44 hσ h7)
  have h8 := zc_nel (2) (3) q5 h4 (zr_c (lo := 1) (hi := 1) (by decide)) (by decide)
  refine zok_if (fun q9 => ?_) (fun q9 => ?_)
  · have h10 := zc_eql (2) (2) q9 h8 (zr_c (lo := 2) (hi := 2) (by decide)) (by decide)
    refine zok_pi (s_X12_hl hσ) (fun v2 h11 => ?_)
    exact (s_X12_rp_44 hσ h11)
  have h12 := zc_nel (3) (3) q9 h8 (zr_c (lo := 2) (hi := 2) (by decide)) (by decide)
  refine zok_ck rfl ?_
  exact (s_X12_rp_44 hσ (rM_12 hσ.sg _ (by decide)))
theorem s_X12_rpTo_51 {σ : zSt} (hσ : zPM σ) : zok (fX12_rpTo_51 σ ) (zPu σ) := by
  unfold fX12_rpTo_51
  exact zok_spu
theorem s_X12_rpTo {G : Nat → Int} {σ : zSt} (hσ : zIM G σ) {x1 : Int32} (h_x1 : zr (0) (3) x1) {x2 : Int32} (h_x2 : zr (-1) (65536) x2) : zok (fX12_rpTo σ x1 x2) (zIM G) := by
  unfold fX12_rpTo
  refine zok_if (fun q1 => ?_) (fun q1 => ?_)
  · have h2 := zc_eql (0) (0) q1 h_x1 (zr_c (lo := 0) (hi := 0) (by decide)) (by decide)
    refine zok_bu (s_X12_pairTo hσ (zr_w (zr_c (lo := 2) (hi := 2) (by decide)) (by decide)) (zr_w h_x2 (by decide))) (fun σ4 i3 => ?_)
    exact zok_pau i3 (s_X12_rpTo_51 i3.P)
  have h4 := zc_nel (1) (3) q1 h_x1 (zr_c (lo := 0) (hi := 0) (by decide)) (by decide)
  refine zok_if (fun q5 => ?_) (fun q5 => ?_)
  · have h6 := zc_eql (1) (1) q5 h4 (zr_c (lo := 1) (hi := 1) (by decide)) (by decide)
    refine zok_bu (s_X12_pairTo hσ (zr_w (zr_c (lo := 4) (hi := 4) (by decide)) (by decide)) (zr_w h_x2 (by decide))) (fun σ3 i7 => ?_)
    exact zok_pau i7 (s_X12_rpTo_51 i7.P)
  have h8 := zc_nel (2) (3) q5 h4 (zr_c (lo := 1) (hi := 1) (by decide)) (by decide)
  refine zok_if (fun q9 => ?_) (fun q9 => ?_)
  · have h10 := zc_eql (2) (2) q9 h8 (zr_c (lo := 2) (hi := 2) (by decide)) (by decide)
    refine zok_bu (s_X12_hlTo hσ (zr_w h_x2 (by decide))) (fun σ2 i11 => ?_)
    exact zok_pau i11 (s_X12_rpTo_51 i11.P)
  have h12 := zc_nel (3) (3) q9 h8 (zr_c (lo := 2) (hi := 2) (by decide)) (by decide)
  refine zok_ck rfl ?_
  refine zok_bs (hσ.wi 18 18 (by decide) (zr_andr (lo := 0) (hi := 65535) (zr_c (lo := 65535) (hi := 65535) (by decide)) (by decide)) (by decide +kernel)) (fun σ1 e14 i13 => ?_)
  exact zok_pau i13 (s_X12_rpTo_51 i13.P)
theorem s_X12_m_23 {σ : zSt} (hσ : zPM σ) {s0 : Int32} (h_s0 : zr (0) (65535) s0) : zok (fX12_m_23 σ s0) (zPi σ (fun v : Int32 => zr (0) (65535) v)) := by
  unfold fX12_m_23
  exact zok_spi h_s0
theorem s_X12_m {σ : zSt} (hσ : zPM σ) : zok (fX12_m σ ) (zPi σ (fun v : Int32 => zr (0) (65535) v)) := by
  unfold fX12_m
  refine zok_if (fun q1 => ?_) (fun q1 => ?_)
  · have h2 := zc_eql (0) (0) q1 (rM_7 hσ.sg _ (by decide)) (zr_c (lo := 0) (hi := 0) (by decide)) (by decide)
    refine zok_pi (s_X12_pair hσ (zr_w (zr_c (lo := 6) (hi := 6) (by decide)) (by decide))) (fun v2 h3 => ?_)
    exact (s_X12_m_23 hσ h3)
  have h4 := zc_nel (1) (1) q1 (rM_7 hσ.sg _ (by decide)) (zr_c (lo := 0) (hi := 0) (by decide)) (by decide)
  refine zok_ck rfl ?_
  exact (s_X12_m_23 hσ (rM_12 hσ.sg _ (by decide)))
theorem s_X12_r_74 {σ : zSt} (hσ : zPM σ) {x1 : Int32} (h_x1 : zr (0) (6) x1) : zok (fX12_r_74 σ x1) (zPi σ (fun v : Int32 => zr (0) (255) v)) := by
  unfold fX12_r_74
  refine zok_ck (zin_ok (zr_add (lo := 2) (hi := 8) (zr_c (lo := 2) (hi := 2) (by decide)) h_x1 (by decide)) (by decide)) ?_
  exact zok_spi (rM_11 hσ.sg _ (z_ix (zr_add (lo := 2) (hi := 8) (zr_c (lo := 2) (hi := 2) (by decide)) h_x1 (by decide)) (by decide)))
theorem s_X12_r_73 {σ : zSt} (hσ : zPM σ) {s0 : Int32} (h_s0 : zr (0) (255) s0) : zok (fX12_r_73 σ s0) (zPi σ (fun v : Int32 => zr (0) (255) v)) := by
  unfold fX12_r_73
  exact zok_spi h_s0
theorem s_X12_r {σ : zSt} (hσ : zPM σ) {x1 : Int32} (h_x1 : zr (0) (7) x1) : zok (fX12_r σ x1) (zPi σ (fun v : Int32 => zr (0) (255) v)) := by
  unfold fX12_r
  refine zok_if (fun q1 => ?_) (fun q1 => ?_)
  · have h2 := zc_eql (6) (6) q1 h_x1 (zr_c (lo := 6) (hi := 6) (by decide)) (by decide)
    refine zok_pi (s_X12_m hσ) (fun v2 h3 => ?_)
    refine zok_pi (s_X12_read hσ) (fun v4 h4 => ?_)
    exact zok_spi h4
  refine zok_if (fun q5 => ?_) (fun q5 => ?_)
  · have h6 := zc_eql (7) (7) q5 h_x1 (zr_c (lo := 7) (hi := 7) (by decide)) (by decide)
    refine zok_ck rfl ?_
    exact zok_spi (rM_11 hσ.sg _ (by decide))
  have h7 := zc_nel (0) (6) q5 h_x1 (zr_c (lo := 7) (hi := 7) (by decide)) (by decide)
  refine zok_if (fun q8 => ?_) (fun q8 => ?_)
  · have h9 := zc_lel (0) q8 (rM_6 hσ.sg _ (by decide)) (zr_c (lo := 0) (hi := 0) (by decide)) (by decide)
    exact (s_X12_r_74 hσ h7)
  have h10 := zc_ltr (1) (z_nle q8) (zr_c (lo := 0) (hi := 0) (by decide)) (rM_6 hσ.sg _ (by decide)) (by decide)
  have h11 := xM_sp hσ.sp h10 (by decide)
  refine zok_if (fun q12 => ?_) (fun q12 => ?_)
  · have h13 := zc_lel (3) q12 h7 (zr_c (lo := 3) (hi := 3) (by decide)) (by decide)
    exact (s_X12_r_74 hσ (zr_w h13 (by decide)))
  have h14 := zc_ltr (4) (z_nle q12) (zr_c (lo := 3) (hi := 3) (by decide)) h7 (by decide)
  refine zok_if (fun q15 => ?_) (fun q15 => ?_)
  · have h16 := zc_eql (4) (4) q15 h14 (zr_c (lo := 4) (hi := 4) (by decide)) (by decide)
    refine zok_ck (zin_ok h11 (by decide)) ?_
    exact (s_X12_r_73 hσ (zr_shr (lo := 0) (hi := 255) 8 (by decide) (rM_12 hσ.sg _ (z_ix h11 (by decide))) (by decide)))
  have h17 := zc_nel (5) (6) q15 h14 (zr_c (lo := 4) (hi := 4) (by decide)) (by decide)
  refine zok_ck (zin_ok h11 (by decide)) ?_
  exact (s_X12_r_73 hσ (zr_andr (lo := 0) (hi := 255) (zr_c (lo := 255) (hi := 255) (by decide)) (by decide)))
theorem s_X12_rTo_113 {σ : zSt} (hσ : zPM σ) : zok (fX12_rTo_113 σ ) (zPu σ) := by
  unfold fX12_rTo_113
  exact zok_spu
end ZJN2
