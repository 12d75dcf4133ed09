section ZJN0
/-! BOTH PROCESSORS: what belongs together within an instruction -/
noncomputable def zsub (R : List Nat) (A : List (Nat × Nat × Nat)) (R' : List Nat) (A' : List (Nat × Nat × Nat)) : Bool := R.all (fun k => R'.any (Nat.beq k)) && A.all (fun e => R'.any (Nat.beq e.1) || A'.any (fun d => Nat.beq d.1 e.1 && (Nat.ble d.2.1 e.2.1 && Nat.ble e.2.2 d.2.2)))
theorem zcv_sub {R R' : List Nat} {A A' : List (Nat × Nat × Nat)} (c : zsub R A R' A' = true) {k j : Nat} (h : zcv R' A' k j = false) : zcv R A k j = false := by
  unfold zsub at c
  rw [Bool.and_eq_true, List.all_eq_true, List.all_eq_true] at c
  unfold zcv at h ⊢
  rw [Bool.or_eq_false_iff] at h
  rw [Bool.or_eq_false_iff]
  refine ⟨?_, ?_⟩
  · rw [List.any_eq_false] at *
    intro x hx q
    have a := c.1 x hx
    rw [List.any_eq_true] at a
    obtain ⟨y, y1, y2⟩ := a
    have e1 : k = x := Nat.eq_of_beq_eq_true q
    have e2 : x = y := Nat.eq_of_beq_eq_true y2
    exact h.1 y y1 (by rw [e1, e2]; exact Nat.beq_refl y)
  · rw [List.any_eq_false]
    intro e he q
    rw [Bool.and_eq_true, Bool.and_eq_true] at q
    obtain ⟨q1, q2, q3⟩ := q
    have e1 : e.1 = k := Nat.eq_of_beq_eq_true q1
    have a := c.2 e he
    rw [Bool.or_eq_true, List.any_eq_true, List.any_eq_true] at a
    rcases a with ⟨y, y1, y2⟩ | ⟨d, d1, d2⟩
    · have e2 : e.1 = y := Nat.eq_of_beq_eq_true y2
      have h1 := h.1
      rw [List.any_eq_false] at h1
      exact h1 y y1 (by rw [← e1, e2]; exact Nat.beq_refl y)
    · rw [Bool.and_eq_true, Bool.and_eq_true] at d2
      obtain ⟨r1, r2, r3⟩ := d2
      have h2 := h.2
      rw [List.any_eq_false] at h2
      refine h2 d d1 ?_
      rw [Bool.and_eq_true, Bool.and_eq_true]
      have a1 := Nat.le_of_ble_eq_true q2
      have a2 := Nat.le_of_ble_eq_true q3
      have a3 := Nat.le_of_ble_eq_true r2
      have a4 := Nat.le_of_ble_eq_true r3
      refine ⟨?_, Nat.ble_eq.mpr (by omega), Nat.ble_eq.mpr (by omega)⟩
      rw [← e1]
      exact r1
theorem zQ.mono {R R' S S' : List Nat} {A A' B B' : List (Nat × Nat × Nat)} {σ σ' : zSt} (h : zQ R A S B σ σ') (c : zsub R A R' A' = true) (d : zsub S B S' B' = true) : zQ R' A' S' B' σ σ' := ⟨fun k j q => h.1 k j (zcv_sub c q), fun k j q => h.2 k j (zcv_sub d q)⟩
theorem zp2_bll {α β : Type} {o : Option (zSt × Int64)} {p : Option β} {f : zSt → Int64 → Option α} {P : zSt × Int64 → Prop} {Q : α → β → Prop} (h : zpc o P) (k : ∀ σ v, P (σ, v) → zp2 (f σ v) p Q) : zp2 (zbl o f) p Q := by
  cases o with
  | none => exact zp2_nl
  | some a => exact k a.1 a.2 (h a rfl)
theorem zp2_bur {α β : Type} {o : Option α} {p : Option zSt} {f : zSt → Option β} {P : zSt → Prop} {Q : α → β → Prop} (h : zpc p P) (k : ∀ σ, P σ → zp2 o (f σ) Q) : zp2 o (zbu p f) Q := by
  cases p with
  | none => exact zp2_nr
  | some a => exact k a (h a rfl)
theorem zp2_bilp {α β : Type} {o : Option (zSt × Int32)} {p : Option β} {f : zSt → Int32 → Option α} {P : zSt × Int32 → β → Prop} {Q : α → β → Prop} (h : zp2 o p P) (k : ∀ s v b, P (s, v) b → zp2 (f s v) (some b) Q) : zp2 (zbi o f) p Q := by
  intro a b ea eb
  cases e : o with
  | none => rw [e] at ea; cases ea
  | some r =>
    rw [e] at ea
    exact k r.1 r.2 b (h r b e eb) a b ea rfl
/-! registers -/
noncomputable def zrg (j : Nat) (v : Int32) : Prop := (j < 16 → zr 0 255 v) ∧ (16 ≤ j → j ≤ 20 → zr 0 65535 v) ∧ (21 ≤ j → j ≤ 22 → zr 0 255 v) ∧ (23 ≤ j → j ≤ 24 → zr 0 1 v) ∧ (j = 25 → zr 0 2 v) ∧ (26 ≤ j → j ≤ 28 → zr 0 1 v)
/-- all registers but F and WZ: those may differ in between -/
noncomputable def zCq (σ μ : zSt) : Prop := (∀ j : Nat, j ≤ 26 → ¬ j = 1 → ¬ j = 20 → μ.1 3 j = σ.1 36 j) ∧ μ.1 3 28 = σ.1 36 27 ∧ μ.1 3 27 = σ.1 36 28 ∧ (∀ j : Nat, j ≤ 28 → zrg j (σ.1 36 j))
noncomputable def zM2 (σ μ : zSt) : Prop := zMe σ μ ∧ zMr σ μ
noncomputable def zJp (σ μ : zSt) : Prop := (σ.1 7 4 = 6 ∧ μ.1 0 31 = 0) ∨ (σ.1 7 4 = 16 ∧ μ.1 0 31 = 16) ∨ (σ.1 7 4 = 17 ∧ μ.1 0 31 = 17)
/-- what lies beside the processor and is left alone by it -/
noncomputable def zIoK (I : zSt → zSt → Prop) : Prop := ∀ σ μ σ' μ', I σ μ → zQ [36, 7, 15, 17, 19] [] [] [] σ σ' → zQ [5, 6] [(3, 0, 32), (0, 31, 33)] [] [] μ μ' → I σ' μ'
noncomputable def zTT (I : zSt → zSt → Prop) (σ μ : zSt) : Prop := zM2 σ μ ∧ zCq σ μ ∧ zJp σ μ ∧ I σ μ
noncomputable def zall : List Nat → (Nat → Prop) → Prop
  | [], _ => True
  | a :: t, P => P a ∧ zall t P
theorem zall_of {P : Nat → Prop} : ∀ {A : List Nat}, zall A P → ∀ j ∈ A, P j
  | [], _, j, h => by cases h
  | a :: t, h, j, m => by
    rcases List.mem_cons.mp m with e | e
    · rw [e]; exact h.1
    · exact zall_of h.2 j e
theorem zAl0 {P : Nat → Prop} : zall [] P := trivial
theorem zAlc {P : Nat → Prop} {a : Nat} {t : List Nat} (p : P a) (q : zall t P) : zall (a :: t) P := ⟨p, q⟩
theorem zAl1 {P : Nat → Prop} {a : Nat} (p : P a) : zall [a] P := zAlc p zAl0
theorem zAl2 {P : Nat → Prop} {a b : Nat} (p : P a) (q : P b) : zall [a, b] P := zAlc p (zAl1 q)
theorem zAl3 {P : Nat → Prop} {a b c : Nat} (p : P a) (q : P b) (r : P c) : zall [a, b, c] P := zAlc p (zAl2 q r)
theorem zM2.keep {σ μ σ' μ' : zSt} (h : zM2 σ μ) (a : zQ [36, 7] [] [] [] σ σ') (b : zQ [] [(3, 0, 28), (0, 31, 33)] [] [] μ μ') : zM2 σ' μ' := by
  obtain ⟨⟨h1, h2, h3, h4, h5, h6⟩, ⟨r1, r2, r3, r4, r5, r6⟩⟩ := h
  have c : ∀ k j, ¬ k = 36 → ¬ k = 7 → σ'.1 k j = σ.1 k j := fun k j n1 n2 => a.1 k j (by
    unfold zcv
    rw [Bool.or_eq_false_iff]
    refine ⟨?_, rfl⟩
    rw [List.any_eq_false]
    intro x hx q
    have e : k = x := Nat.eq_of_beq_eq_true q
    rcases List.mem_cons.mp hx with r | r
    · exact n1 (e.trans r)
    · rcases List.mem_cons.mp r with r | r
      · exact n2 (e.trans r)
      · cases r)
  have m : ∀ k j, (¬ k = 3 ∧ ¬ k = 0) ∨ (k = 3 ∧ 28 < j) ∨ (k = 0 ∧ j < 31) → μ'.1 k j = μ.1 k j := fun k j n => b.1 k j (by
    unfold zcv
    rw [Bool.or_eq_false_iff]
    refine ⟨rfl, ?_⟩
    rw [List.any_eq_false]
    intro x hx q
    rw [Bool.and_eq_true, Bool.and_eq_true] at q
    obtain ⟨q1, q2, q3⟩ := q
    have e : x.1 = k := Nat.eq_of_beq_eq_true q1
    have a2 := Nat.le_of_ble_eq_true q2
    have a3 := Nat.le_of_ble_eq_true q3
    rcases List.mem_cons.mp hx with r | r
    · subst r
      have e : 3 = k := e
      have a3 : j ≤ 28 := a3
      omega
    · rcases List.mem_cons.mp r with r | r
      · subst r
        have e : 0 = k := e
        have a2 : 31 ≤ j := a2
        omega
      · cases r)
  have c1 : σ'.1 1 = σ.1 1 := funext fun j => c 1 j (by decide) (by decide)
  have m0 : ∀ j, j < 31 → μ'.1 0 j = μ.1 0 j := fun j hj => m 0 j (Or.inr (Or.inr ⟨rfl, hj⟩))
  refine ⟨⟨fun j hj => ?_, fun j hj => ?_, fun j hj => ?_, ?_, ?_, ?_⟩, ⟨?_, ?_, ?_, ?_, ?_, fun j j1 j2 => ?_⟩⟩
  · rw [c 15 j (by decide) (by decide), m 5 j (Or.inl (by decide))]; exact h1 j hj
  · rw [c 17 j (by decide) (by decide), m 6 j (Or.inl (by decide))]; exact h2 j hj
  · rw [c 19 j (by decide) (by decide), m 3 (29 + j) (Or.inr (Or.inl ⟨rfl, by omega⟩))]; exact h3 j hj
  · rw [c 19 3 (by decide) (by decide), m 3 32 (Or.inr (Or.inl ⟨rfl, by decide⟩))]; exact h4
  · refine h5.keep (fun j _ => by rw [c1]) (funext fun j => c _ j ?_ ?_) (fun j hj => m0 j ?_) (funext fun j => m 2 j (Or.inl (by decide)))
    · rcases z_tp13 (σ.1 1 1) with e | e <;> rw [e] <;> decide
    · rcases z_tp13 (σ.1 1 1) with e | e <;> rw [e] <;> decide
    · revert hj
      simp only [List.mem_cons, List.not_mem_nil, or_false]
      omega
  · unfold zFil
    rw [m0 5 (by decide), m0 6 (by decide), show μ'.1 2 = μ.1 2 from funext fun j => m 2 j (Or.inl (by decide))]
    exact h6
  · rw [c1]; exact r1
  · rw [c1]; exact r2
  · rw [m0 6 (by decide)]; exact r3
  · rw [m0 7 (by decide)]; exact r4
  · rw [m0 7 (by decide), m0 6 (by decide)]; exact r5
  · rw [m 3 j (Or.inr (Or.inl ⟨rfl, by omega⟩))]; exact r6 j j1 j2
section ZT1
variable {I : zSt → zSt → Prop} {σ μ σ1 μ1 : zSt}
theorem zTT.eq (h : zTT I σ μ) {j : Nat} (hj : j ≤ 26) (hn : ¬ j = 1 := by decide) (hw : ¬ j = 20 := by decide) : μ.1 3 j = σ.1 36 j := h.2.1.1 j hj hn hw
noncomputable def zWzz (σ μ : zSt) : Prop := μ.1 3 20 = σ.1 36 20
theorem zWzz.of {σ2 μ2 : zSt} (h : zWzz σ μ) (a : σ2.1 36 20 = σ.1 36 20) (b : μ2.1 3 20 = μ.1 3 20) : zWzz σ2 μ2 := by
  unfold zWzz
  rw [a, b]
  exact h
noncomputable def zF (σ μ : zSt) : Prop := μ.1 3 1 = σ.1 36 1
theorem zF.of {σ2 μ2 : zSt} (h : zF σ μ) (a : σ2.1 36 1 = σ.1 36 1) (b : μ2.1 3 1 = μ.1 3 1) : zF σ2 μ2 := by
  unfold zF
  rw [a, b]
  exact h
theorem zTT.g (h : zTT I σ μ) {j : Nat} (hj : j ≤ 28) : zrg j (σ.1 36 j) := h.2.1.2.2.2 j hj
theorem zTT.b (h : zTT I σ μ) {j : Nat} (hj : j < 16) : zr 0 255 (σ.1 36 j) := (h.g (by omega)).1 hj
theorem zTT.w (h : zTT I σ μ) {j : Nat} (h1 : 16 ≤ j) (h2 : j ≤ 20) : zr 0 65535 (σ.1 36 j) := (h.g (by omega)).2.1 h1 h2
theorem zrg_b {j : Nat} {v : Int32} (hj : j < 16 ∨ j = 21 ∨ j = 22) (h : zr 0 255 v) : zrg j v := ⟨fun _ => h, fun _ _ => zr_w h (by decide), fun _ _ => h, fun _ _ => by omega, fun _ => by omega, fun _ _ => by omega⟩
theorem zrg_w {j : Nat} {v : Int32} (h1 : 16 ≤ j) (h2 : j ≤ 20) (h : zr 0 65535 v) : zrg j v := ⟨fun _ => by omega, fun _ _ => h, fun _ _ => by omega, fun _ _ => by omega, fun _ => by omega, fun _ _ => by omega⟩
theorem zrg_1 {j : Nat} {v : Int32} (h1 : 23 ≤ j) (h2 : j ≤ 28) (h : zr 0 1 v) : zrg j v := ⟨fun _ => by omega, fun _ _ => by omega, fun _ _ => by omega, fun _ _ => h, fun _ => zr_w h (by decide), fun _ _ => h⟩
/-- the end of a stretch: the registers in A are the same, all others are as they were -/
theorem zTT.fin (hI : zIoK I) (h : zTT I σ μ) (A : List Nat) (hm : zM2 σ1 μ1) (qc : zQ [7, 15, 17, 19] (A.map (fun j => (36, j, j))) [] [] σ σ1) (qm : zQ [5, 6] ((0, 31, 33) :: (3, 29, 32) :: A.map (fun j => (3, j, j))) [] [] μ μ1) (hA : A.all (fun j => Nat.ble j 26) = true) (e : zall A (fun j => μ1.1 3 j = σ1.1 36 j ∧ zrg j (σ1.1 36 j))) (hj : zJp σ1 μ1) : zTT I σ1 μ1 := by
  have ea := zall_of e
  rw [List.all_eq_true] at hA
  have nc : ∀ j, ¬ j ∈ A → σ1.1 36 j = σ.1 36 j := fun j hj => qc.1 36 j (by
    unfold zcv
    rw [Bool.or_eq_false_iff]
    refine ⟨rfl, ?_⟩
    rw [List.any_eq_false]
    intro x hx q
    obtain ⟨i, i1, i2⟩ := List.mem_map.mp hx
    subst i2
    rw [Bool.and_eq_true, Bool.and_eq_true] at q
    have a2 := Nat.le_of_ble_eq_true q.2.1
    have a3 := Nat.le_of_ble_eq_true q.2.2
    have e : i = j := by
      have a2 : i ≤ j := a2
      have a3 : j ≤ i := a3
      omega
    exact hj (e ▸ i1))
  have nm : ∀ j, j ≤ 28 → ¬ j ∈ A → μ1.1 3 j = μ.1 3 j := fun j h28 hj => qm.1 3 j (by
    unfold zcv
    rw [Bool.or_eq_false_iff]
    refine ⟨rfl, ?_⟩
    rw [List.any_eq_false]
    intro x hx q
    rw [Bool.and_eq_true, Bool.and_eq_true] at q
    have a1 := Nat.eq_of_beq_eq_true q.1
    have a2 := Nat.le_of_ble_eq_true q.2.1
    have a3 := Nat.le_of_ble_eq_true q.2.2
    rcases List.mem_cons.mp hx with r | r
    · subst r; exact absurd a1 (by decide)
    · rcases List.mem_cons.mp r with r | r
      · subst r
        have a2 : 29 ≤ j := a2
        omega
      · obtain ⟨i, i1, i2⟩ := List.mem_map.mp r
        subst i2
        have a2 : i ≤ j := a2
        have a3 : j ≤ i := a3
        have e : i = j := by omega
        exact hj (e ▸ i1))
  have n27 : ∀ j, 26 < j → ¬ j ∈ A := fun j hj m => by
    have := Nat.le_of_ble_eq_true (hA j m)
    omega
  refine ⟨hm, ⟨fun j hj hn hw => ?_, ?_, ?_, fun j hj => ?_⟩, hj, hI σ μ σ1 μ1 h.2.2.2 ?_ ?_⟩
  · by_cases q : j ∈ A
    · exact (ea j q).1
    · rw [nm j (by omega) q, nc j q]; exact h.2.1.1 j hj hn hw
  · rw [nm 28 (by decide) (n27 28 (by decide)), nc 27 (n27 27 (by decide))]; exact h.2.1.2.1
  · rw [nm 27 (by decide) (n27 27 (by decide)), nc 28 (n27 28 (by decide))]; exact h.2.1.2.2.1
  · by_cases q : j ∈ A
    · exact (ea j q).2
    · rw [nc j q]; exact h.2.1.2.2.2 j hj
  · refine ⟨fun k j q => qc.1 k j ?_, qc.2⟩
    unfold zcv at q ⊢
    rw [Bool.or_eq_false_iff] at q ⊢
    have q1 := q.1
    rw [List.any_eq_false] at q1
    refine ⟨?_, ?_⟩
    · rw [List.any_eq_false]
      intro x hx
      exact q1 x (List.mem_cons_of_mem _ hx)
    · rw [List.any_eq_false]
      intro x hx r
      obtain ⟨i, i1, i2⟩ := List.mem_map.mp hx
      subst i2
      rw [Bool.and_eq_true] at r
      exact q1 36 (List.mem_cons_self) (by rw [← Nat.eq_of_beq_eq_true r.1]; exact Nat.beq_refl 36)
  · refine ⟨fun k j q => qm.1 k j ?_, qm.2⟩
    unfold zcv at q ⊢
    rw [Bool.or_eq_false_iff] at q ⊢
    refine ⟨q.1, ?_⟩
    have q2 := q.2
    rw [List.any_eq_false] at q2
    rw [List.any_eq_false]
    intro x hx r
    rw [Bool.and_eq_true, Bool.and_eq_true] at r
    obtain ⟨r1, r2, r3⟩ := r
    rcases List.mem_cons.mp hx with s | s
    · subst s
      exact q2 (0, 31, 33) (List.mem_cons_of_mem _ List.mem_cons_self) (by rw [r1, r2, r3]; rfl)
    · have a2 := Nat.le_of_ble_eq_true r2
      have a3 := Nat.le_of_ble_eq_true r3
      have k3 : Nat.beq 3 k = true ∧ j ≤ 32 := by
        rcases List.mem_cons.mp s with s | s
        · subst s; exact ⟨r1, a3⟩
        · obtain ⟨i, i1, i2⟩ := List.mem_map.mp s
          subst i2
          have b := Nat.le_of_ble_eq_true (hA i i1)
          have a3 : j ≤ i := a3
          exact ⟨r1, by omega⟩
      exact q2 (3, 0, 32) List.mem_cons_self (by rw [Bool.and_eq_true, Bool.and_eq_true]; exact ⟨k3.1, rfl, Nat.ble_eq.mpr k3.2⟩)
/-- the same where the memory was not written -/
theorem zTT.upd (hI : zIoK I) (h : zTT I σ μ) (A : List Nat) (qc : zQ [] (A.map (fun j => (36, j, j))) [] [] σ σ1) (qm : zQ [] (A.map (fun j => (3, j, j))) [] [] μ μ1) (hA : A.all (fun j => Nat.ble j 26) = true) (e : zall A (fun j => μ1.1 3 j = σ1.1 36 j ∧ zrg j (σ1.1 36 j))) : zTT I σ1 μ1 := by
  have hA' := hA
  rw [List.all_eq_true] at hA'
  have c1 : zsub [] (A.map (fun j => (36, j, j))) [36, 7] [] = true := by
    unfold zsub
    rw [Bool.and_eq_true]
    refine ⟨rfl, ?_⟩
    rw [List.all_eq_true]
    intro x hx
    obtain ⟨i, i1, i2⟩ := List.mem_map.mp hx
    subst i2
    rfl
  have c2 : zsub [] (A.map (fun j => (3, j, j))) [] [(3, 0, 28), (0, 31, 33)] = true := by
    unfold zsub
    rw [Bool.and_eq_true]
    refine ⟨rfl, ?_⟩
    rw [List.all_eq_true]
    intro x hx
    obtain ⟨i, i1, i2⟩ := List.mem_map.mp hx
    subst i2
    have b := Nat.le_of_ble_eq_true (hA' i i1)
    rw [Bool.or_eq_true]
    right
    rw [List.any_eq_true]
    refine ⟨(3, 0, 28), List.mem_cons_self, ?_⟩
    rw [Bool.and_eq_true, Bool.and_eq_true]
    exact ⟨rfl, rfl, Nat.ble_eq.mpr (by show i ≤ 28; omega)⟩
  have c3 : ∀ B : List (Nat × Nat × Nat), zsub [] B [7, 15, 17, 19] B = true := fun B => by
    unfold zsub
    rw [Bool.and_eq_true]
    refine ⟨rfl, ?_⟩
    rw [List.all_eq_true]
    intro x hx
    rw [Bool.or_eq_true]
    right
    rw [List.any_eq_true]
    exact ⟨x, hx, by rw [Bool.and_eq_true, Bool.and_eq_true]; exact ⟨Nat.beq_refl _, Nat.ble_eq.mpr (Nat.le_refl _), Nat.ble_eq.mpr (Nat.le_refl _)⟩⟩
  have c4 : ∀ B : List (Nat × Nat × Nat), zsub [] B [5, 6] ((0, 31, 33) :: (3, 29, 32) :: B) = true := fun B => by
    unfold zsub
    rw [Bool.and_eq_true]
    refine ⟨rfl, ?_⟩
    rw [List.all_eq_true]
    intro x hx
    rw [Bool.or_eq_true]
    right
    rw [List.any_eq_true]
    exact ⟨x, List.mem_cons_of_mem _ (List.mem_cons_of_mem _ hx), by rw [Bool.and_eq_true, Bool.and_eq_true]; exact ⟨Nat.beq_refl _, Nat.ble_eq.mpr (Nat.le_refl _), Nat.ble_eq.mpr (Nat.le_refl _)⟩⟩
  have e7 : ∀ i, σ1.1 7 i = σ.1 7 i := fun i => qc.1 7 i (by
    unfold zcv
    rw [Bool.or_eq_false_iff]
    refine ⟨rfl, ?_⟩
    rw [List.any_eq_false]
    intro x hx q
    obtain ⟨i, i1, i2⟩ := List.mem_map.mp hx
    subst i2
    rw [Bool.and_eq_true] at q
    exact absurd (show (36 : Nat) = 7 from Nat.eq_of_beq_eq_true q.1) (by decide))
  have e0 : ∀ i, μ1.1 0 i = μ.1 0 i := fun i => qm.1 0 i (by
    unfold zcv
    rw [Bool.or_eq_false_iff]
    refine ⟨rfl, ?_⟩
    rw [List.any_eq_false]
    intro x hx q
    obtain ⟨i, i1, i2⟩ := List.mem_map.mp hx
    subst i2
    rw [Bool.and_eq_true] at q
    exact absurd (show (3 : Nat) = 0 from Nat.eq_of_beq_eq_true q.1) (by decide))
  refine h.fin hI A (h.1.keep (qc.mono c1 rfl) (qm.mono c2 rfl)) (qc.mono (c3 _) rfl) (qm.mono (c4 _) rfl) hA e ?_
  have hj := h.2.2.1
  unfold zJp at hj ⊢
  rw [e7, e0]
  exact hj
/-- F or WZ on one side alone -/
theorem zTT.onC (hI : zIoK I) (h : zTT I σ μ) {i : Nat} {v : Int32} (hi : i = 1 ∨ i = 20) (hv : zrg i v) : zTT I (zsi σ 36 i v) μ := by
  refine ⟨h.1.keep (zQ.wi zQ.rf rfl) zQ.rf, ⟨fun j hj hn hw => ?_, ?_, ?_, fun j hj => ?_⟩, h.2.2.1.imp (fun x => x) (fun x => x), hI _ _ _ _ h.2.2.2 (zQ.wi zQ.rf rfl) zQ.rf⟩
  · rw [zsi_nj (by omega)]; exact h.2.1.1 j hj hn hw
  · rw [zsi_nj (by omega)]; exact h.2.1.2.1
  · rw [zsi_nj (by omega)]; exact h.2.1.2.2.1
  · by_cases q : j = i
    · rw [q, zsi_ej]; exact hv
    · rw [zsi_nj q]; exact h.2.1.2.2.2 j hj
theorem zTT.onM (hI : zIoK I) (h : zTT I σ μ) {i : Nat} {w : Int32} (hi : i = 1 ∨ i = 20) : zTT I σ (zsi μ 3 i w) := by
  have qm : zQ [] [(3, 0, 28), (0, 31, 33)] [] [] μ (zsi μ 3 i w) := by
    rcases hi with e | e <;> subst e <;> exact zQ.wi zQ.rf rfl
  refine ⟨h.1.keep zQ.rf qm, ⟨fun j hj hn hw => ?_, ?_, ?_, h.2.1.2.2.2⟩, h.2.2.1.imp (fun x => x) (fun x => x), hI _ _ _ _ h.2.2.2 zQ.rf (qm.mono rfl rfl)⟩
  · rw [zsi_nj (by omega)]; exact h.2.1.1 j hj hn hw
  · rw [zsi_nj (by omega)]; exact h.2.1.2.1
  · rw [zsi_nj (by omega)]; exact h.2.1.2.2.1
end ZT1
end ZJN0
section ZJN1
/-! HELPERS OF BOTH PROCESSORS -/
theorem zFw.q {σ σ' : zSt} (h : zFw σ σ') : zQ [15, 17, 19] [] [] [] σ σ' := by
  refine ⟨fun k j c => ?_, fun k j _ => by rw [h.2]⟩
  have n : ∀ i, i ∈ [15, 17, 19] → ¬ k = i := fun i hi e => by
    unfold zcv at c
    rw [Bool.or_eq_false_iff, List.any_eq_false] at c
    exact c.1 i hi (by rw [e]; exact Nat.beq_refl i)
  rw [h.1 k (n 15 (by decide)) (n 17 (by decide)) (n 19 (by decide))]
theorem zFv.q {μ μ' : zSt} (h : zFv μ μ') : zQ [5, 6] [(3, 29, 32)] [] [] μ μ' := by
  refine ⟨fun k j c => ?_, fun k j _ => by rw [h.2.2]⟩
  unfold zcv at c
  rw [Bool.or_eq_false_iff, List.any_eq_false, List.any_eq_false] at c
  have n : ∀ i, i ∈ [5, 6] → ¬ k = i := fun i hi e => c.1 i hi (by rw [e]; exact Nat.beq_refl i)
  by_cases e : k = 3
  · subst e
    refine h.2.1 j ?_
    by_cases q : j < 29
    · exact Or.inl q
    · by_cases r : 32 < j
      · exact Or.inr r
      · exact absurd (show (Nat.beq 3 3 && (Nat.ble 29 j && Nat.ble j 32)) = true by rw [Bool.and_eq_true, Bool.and_eq_true]; exact ⟨rfl, Nat.ble_eq.mpr (by omega), Nat.ble_eq.mpr (by omega)⟩) (c.2 (3, 29, 32) List.mem_cons_self)
  · rw [h.1 k e (n 5 (by decide)) (n 6 (by decide))]
section ZT3
variable {I : zSt → zSt → Prop} {σ μ : zSt} {α β : Type} {Q : α → β → Prop}
theorem zM2.rd (h : zM2 σ μ) {x y : Int32} (e : y &&& 65535 = x &&& 65535) : zp2 (fX2_read σ x) (fX12_read μ y) (fun r r' => r.1 = σ ∧ r'.1 = μ ∧ r'.2 = r.2 ∧ zr 0 255 r.2) := by
  rw [← z_rdc (a := x), ← z_rdm (a := y), e]
  exact zp2_mono (zp2_andr (z2_read h.1 h.2) p_readr) (fun a b q => ⟨q.1.1, q.1.2.1, q.1.2.2.symm, by rw [q.1.2.2]; exact q.2⟩)
/-- both read, and go on -/
theorem zp2_rd (h : zM2 σ μ) {x y : Int32} (e : y &&& 65535 = x &&& 65535) {f : zSt → Int32 → Option α} {g : zSt → Int32 → Option β} (k : ∀ v, zr 0 255 v → zp2 (f σ v) (g μ v) Q) : zp2 (zbi (fX2_read σ x) f) (zbi (fX12_read μ y) g) Q := by
  refine zp2_bii (h.rd e) (fun s v t w q => ?_)
  obtain ⟨q1, q2, q3, q4⟩ := q
  have q1 : s = σ := q1
  have q2 : t = μ := q2
  have q3 : w = v := q3
  subst q1
  subst q2
  subst q3
  exact k w q4
theorem zM2.wr (h : zM2 σ μ) {x y v w : Int32} (e : y &&& 65535 = x &&& 65535) (f : w &&& 255 = v) (hv : zr 0 255 v) : zp2 (fX2_write σ x v) (fX12_write μ y w) (fun r r' => zM2 r r' ∧ zQ [15, 17, 19] [] [] [] σ r ∧ zQ [5, 6] [(3, 29, 32)] [] [] μ r') := by
  have e1 : fX2_write σ x v = fX2_write σ (x &&& 65535) v := by unfold fX2_write; rw [z_mm]
  rw [e1, ← z_wrm (a := y), ← z_wrb (v := w), e, f]
  refine zp2_mono (zp2_andr (z2_write h.1 h.2 hv) (p_writer h.2.2.2.2.2.2)) (fun r r' q => ?_)
  obtain ⟨⟨q1, q2, q3⟩, q4⟩ := q
  exact ⟨⟨q1, h.2.of q2 q3 q4⟩, q2.q, q3.q⟩
/-- both write, and go on -/
theorem zp2_wr (h : zM2 σ μ) {x y v w : Int32} (e : y &&& 65535 = x &&& 65535) (f : w &&& 255 = v) (hv : zr 0 255 v) {F : zSt → Option α} {G : zSt → Option β} (k : ∀ s t, zM2 s t → zQ [15, 17, 19] [] [] [] σ s → zQ [5, 6] [(3, 29, 32)] [] [] μ t → zp2 (F s) (G t) Q) : zp2 (zbu (fX2_write σ x v) F) (zbu (fX12_write μ y w) G) Q := zp2_buu (h.wr e f hv) (fun s t q => k s t q.1 q.2.1 q.2.2)
theorem z_r8 (x : Int32) : zr 0 255 (x &&& 255) := zr_andr (lo := 0) (hi := 255) (zr_c (lo := 255) (hi := 255) (by decide)) (by decide)
theorem z_r16 (x : Int32) : zr 0 65535 (x &&& 65535) := zr_andr (lo := 0) (hi := 65535) (zr_c (lo := 65535) (hi := 65535) (by decide)) (by decide)
theorem z_rw {a b : Int32} (ha : zr 0 255 a) (hb : zr 0 255 b) : zr 0 65535 (a ||| (b <<< ((8 : Int32) &&& 31))) := zr_or (lo := 0) (hi := 65535) 16 ha (zr_shl (lo := 0) (hi := 65280) 8 (by decide) hb (by decide)) (by decide)
theorem z_rw' {a b : Int32} (ha : zr 0 255 a) (hb : zr 0 255 b) : zr 0 65535 ((a <<< ((8 : Int32) &&& 31)) ||| b) := zr_or (lo := 0) (hi := 65535) 16 (zr_shl (lo := 0) (hi := 65280) 8 (by decide) ha (by decide)) hb (by decide)
theorem z_m255 {v : Int32} (h : zr 0 255 v) : v &&& 255 = v := Int32.toInt_inj.mp (by rw [z_mask (k := 8) h.1 rfl (by decide)]; have := h.1; have := h.2; show v.toInt % 256 = _; omega)
theorem z_hi {w : Int32} (h : zr 0 65535 w) : zr 0 255 (w >>> ((8 : Int32) &&& 31)) := by
  have e := z_quo (k := 8) (s := (8 : Int32) &&& 31) h.1 rfl
  have h1 := h.1
  have h2 := h.2
  exact ⟨by rw [e]; show 0 ≤ w.toInt / 256; omega, by rw [e]; show w.toInt / 256 ≤ 255; omega⟩
theorem z_hi8 {w : Int32} (h : zr 0 65535 w) : (w >>> ((8 : Int32) &&& 31)) &&& 255 = w >>> ((8 : Int32) &&& 31) := z_m255 (z_hi h)
/-- fetching -/
theorem t_next (hI : zIoK I) (h : zTT I σ μ) : zp2 (fX5_fetch σ ) (fX12_next μ ) (fun r r' => zTT I r.1 r'.1 ∧ r'.2 = r.2 ∧ zr 0 255 r.2 ∧ zQ [] [(36, 19, 19)] [] [] σ r.1 ∧ zQ [] [(3, 19, 19)] [] [] μ r'.1) := by
  unfold fX5_fetch fX12_next
  have e : zgi μ 3 (19 : Int32).toNatClampNeg = zgi σ 36 (19 : Int32).toNatClampNeg := h.eq (j := 19) (by decide)
  refine zp2_ckl (zp2_ckr (zp2_rd h.1 (by rw [e]) (fun v hv => ?_)))
  refine zp2_ckl (zp2_ckl (zp2_bvl (fun s es => zp2_ckr (zp2_ckr (zp2_bvr (fun t et => zp2_some ⟨?_, rfl, hv, ?_, ?_⟩))))))
  · subst es
    subst et
    refine h.upd hI [19] (zQ.wi zQ.rf rfl) (zQ.wi zQ.rf rfl) rfl (zAl1 ⟨?_, zrg_w (by decide) (by decide) (z_r16 _)⟩)
    show (μ.1 3 19 + 1) &&& 65535 = (σ.1 36 19 + 1) &&& 65535
    rw [h.eq (by decide)]
  · subst es; exact zQ.wi zQ.rf rfl
  · subst et; exact zQ.wi zQ.rf rfl
theorem t_op (hI : zIoK I) (h : zTT I σ μ) : zp2 (fX5_fetchOp σ ) (fX12_fetch μ ) (fun r r' => zTT I r.1 r'.1 ∧ r'.2 = r.2 ∧ zr 0 255 r.2 ∧ zQ [] [(36, 19, 19), (36, 22, 22)] [] [] σ r.1 ∧ zQ [] [(3, 19, 19), (3, 22, 22)] [] [] μ r'.1) := by
  unfold fX5_fetchOp fX12_fetch fX5_growR fX5_fetch fX12_next fX12_grows
  have e : μ.1 3 19 = σ.1 36 19 := h.eq (j := 19) (by decide)
  refine zp2_bul (P := fun r => r = zsi σ 36 22 (((zgi σ 36 (22 : Int32).toNatClampNeg) &&& 128) ||| (((zgi σ 36 (22 : Int32).toNatClampNeg) + 1) &&& 127))) (zpc_ck (zpc_ck (zpc_ck (zpc_bv (fun s es => zpc_some es))))) (fun s es => ?_)
  have hm : zM2 s μ := h.1.keep (by subst es; exact zQ.wi zQ.rf rfl) zQ.rf
  have e19 : s.1 36 19 = σ.1 36 19 := by subst es; rfl
  refine zp2_bilp (P := fun r r' => r'.2 = r.2 ∧ zr 0 255 r.2 ∧ r.1 = zsi s 36 19 ((s.1 36 19 + 1) &&& 65535) ∧ r'.1 = zsi (zsi μ 3 19 ((μ.1 3 19 + 1) &&& 65535)) 3 22 ((μ.1 3 22 &&& 128) ||| ((μ.1 3 22 + 1) &&& 127))) ?_ (fun s1 v r' q => zp2_some ?_)
  · -- the reference's fetch, as one
    refine zp2_ckl ?_
    have d : zp2 (fX2_read s (zgi s 36 (19 : Int32).toNatClampNeg)) (fX12_read μ (zgi μ 3 (19 : Int32).toNatClampNeg)) _ := hm.rd (by rw [show zgi s 36 (19 : Int32).toNatClampNeg = σ.1 36 19 from e19, show zgi μ 3 (19 : Int32).toNatClampNeg = σ.1 36 19 from e])
    intro a b ea eb
    cases qa : fX2_read s (zgi s 36 (19 : Int32).toNatClampNeg) with
    | none => rw [qa] at ea; cases ea
    | some x =>
      cases qb : fX12_read μ (zgi μ 3 (19 : Int32).toNatClampNeg) with
      | none => rw [qb] at eb; cases eb
      | some y =>
        obtain ⟨x1, x2⟩ := x
        obtain ⟨y1, y2⟩ := y
        obtain ⟨q1, q2, q3, q4⟩ := d _ _ qa qb
        have q1 : x1 = s := q1
        have q2 : y1 = μ := q2
        have q3 : y2 = x2 := q3
        have q4 : zr 0 255 x2 := q4
        subst q1
        subst q2
        subst q3
        rw [qa] at ea
        rw [qb] at eb
        have ea : some (zsi x1 36 19 ((x1.1 36 19 + 1) &&& 65535), y2) = some a := ea
        have eb : some (zsi (zsi y1 3 19 ((y1.1 3 19 + 1) &&& 65535)) 3 22 ((y1.1 3 22 &&& 128) ||| ((y1.1 3 22 + 1) &&& 127)), y2) = some b := eb
        cases ea
        cases eb
        exact ⟨rfl, q4, rfl, rfl⟩
  · obtain ⟨q1, q2, q3, q4⟩ := q
    have q3 : s1 = zsi s 36 19 ((s.1 36 19 + 1) &&& 65535) := q3
    refine ⟨?_, q1, q2, ?_, ?_⟩
    · show zTT I s1 r'.1
      rw [q3, q4, es]
      refine h.upd hI [19, 22] (zQ.wi (zQ.wi zQ.rf rfl) rfl) (zQ.wi (zQ.wi zQ.rf rfl) rfl) rfl (zAl2 ⟨?_, zrg_w (by decide) (by decide) (z_r16 _)⟩ ⟨?_, zrg_b (Or.inr (Or.inr rfl)) (zr_or (lo := 0) (hi := 255) 8 (zr_andr (lo := 0) (hi := 128) (zr_c (lo := 128) (hi := 128) (by decide)) (by decide)) (zr_andr (lo := 0) (hi := 127) (zr_c (lo := 127) (hi := 127) (by decide)) (by decide)) (by decide))⟩)
      · show (μ.1 3 19 + 1) &&& 65535 = (σ.1 36 19 + 1) &&& 65535
        rw [e]
      · show (μ.1 3 22 &&& 128) ||| ((μ.1 3 22 + 1) &&& 127) = (σ.1 36 22 &&& 128) ||| ((σ.1 36 22 + 1) &&& 127)
        rw [h.eq (by decide)]
    · show zQ _ _ _ _ σ s1
      rw [q3, es]
      exact zQ.wi (zQ.wi zQ.rf rfl) rfl
    · rw [q4]
      exact zQ.wi (zQ.wi zQ.rf rfl) rfl
theorem t_word (hI : zIoK I) (h : zTT I σ μ) : zp2 (fX5_fetchWord σ ) (fX12_nextWord μ ) (fun r r' => zTT I r.1 r'.1 ∧ r'.2 = r.2 ∧ zr 0 65535 r.2 ∧ zQ [] [(36, 19, 19)] [] [] σ r.1 ∧ zQ [] [(3, 19, 19)] [] [] μ r'.1) := by
  unfold fX5_fetchWord fX12_nextWord fX12_next
  have e : μ.1 3 19 = σ.1 36 19 := h.eq (j := 19) (by decide)
  intro a b ea eb
  have d1 := h.1.rd (x := zgi σ 36 (19 : Int32).toNatClampNeg) (y := zgi μ 3 (19 : Int32).toNatClampNeg) (by rw [show zgi μ 3 (19 : Int32).toNatClampNeg = zgi σ 36 (19 : Int32).toNatClampNeg from e])
  cases qa : fX2_read σ (zgi σ 36 (19 : Int32).toNatClampNeg) with
  | none => rw [qa] at ea; cases ea
  | some x =>
    cases qb : fX12_read μ (zgi μ 3 (19 : Int32).toNatClampNeg) with
    | none => rw [qb] at eb; cases eb
    | some y =>
      obtain ⟨x1, x2⟩ := x
      obtain ⟨y1, y2⟩ := y
      obtain ⟨q1, q2, q3, q4⟩ := d1 _ _ qa qb
      have q1 : x1 = σ := q1
      have q2 : y1 = μ := q2
      have q3 : y2 = x2 := q3
      have q4 : zr 0 255 x2 := q4
      subst q1
      subst q2
      subst q3
      rw [qa] at ea
      rw [qb] at eb
      have hm : zM2 x1 (zsi y1 3 19 ((y1.1 3 19 + 1) &&& 65535)) := h.1.keep zQ.rf (zQ.wi zQ.rf rfl)
      have d2 := hm.rd (x := zgi x1 36 (19 : Int32).toNatClampNeg + 1) (y := (y1.1 3 19 + 1) &&& 65535) (by rw [z_mm, e]; rfl)
      cases ra : fX2_read x1 (zgi x1 36 (19 : Int32).toNatClampNeg + 1) with
      | none => 
        have ea : zbi (fX2_read x1 (zgi x1 36 (19 : Int32).toNatClampNeg + 1)) (fun σ3 v4 => some (zsi σ3 36 19 (((zgi σ3 36 19) + 2) &&& 65535), y2 ||| (v4 <<< ((8 : Int32) &&& 31)))) = some a := ea
        rw [ra] at ea; cases ea
      | some u =>
        have ea : zbi (fX2_read x1 (zgi x1 36 (19 : Int32).toNatClampNeg + 1)) (fun σ3 v4 => some (zsi σ3 36 19 (((zgi σ3 36 19) + 2) &&& 65535), y2 ||| (v4 <<< ((8 : Int32) &&& 31)))) = some a := ea
        have eb : zbi (zbi (fX12_read (zsi y1 3 19 ((y1.1 3 19 + 1) &&& 65535)) ((y1.1 3 19 + 1) &&& 65535)) (fun σ3 v4 => some (zsi σ3 3 19 (((zgi σ3 3 19) + 1) &&& 65535), v4))) (fun σ3 v4 => some (σ3, y2 ||| (v4 <<< ((8 : Int32) &&& 31)))) = some b := eb
        cases rb : fX12_read (zsi y1 3 19 ((y1.1 3 19 + 1) &&& 65535)) ((y1.1 3 19 + 1) &&& 65535) with
        | none => rw [rb] at eb; cases eb
        | some w =>
          obtain ⟨u1, u2⟩ := u
          obtain ⟨w1, w2⟩ := w
          obtain ⟨p1, p2, p3, p4⟩ := d2 _ _ ra rb
          have p1 : u1 = x1 := p1
          have p2 : w1 = zsi y1 3 19 ((y1.1 3 19 + 1) &&& 65535) := p2
          have p3 : w2 = u2 := p3
          have p4 : zr 0 255 u2 := p4
          rw [ra] at ea
          rw [rb] at eb
          have ea : some (zsi u1 36 19 ((u1.1 36 19 + 2) &&& 65535), y2 ||| (u2 <<< ((8 : Int32) &&& 31))) = some a := ea
          have eb : some (zsi w1 3 19 ((w1.1 3 19 + 1) &&& 65535), y2 ||| (w2 <<< ((8 : Int32) &&& 31))) = some b := eb
          subst p1
          subst p2
          subst p3
          cases ea
          cases eb
          refine ⟨?_, rfl, z_rw q4 p4, zQ.wi zQ.rf rfl, zQ.wi (zQ.wi zQ.rf rfl) rfl⟩
          refine h.upd hI [19] (zQ.wi zQ.rf rfl) (zQ.wi (zQ.wi zQ.rf rfl) rfl) rfl (zAl1 ⟨?_, zrg_w (by decide) (by decide) (z_r16 _)⟩)
          show (((y1.1 3 19 + 1) &&& 65535) + 1) &&& 65535 = (u1.1 36 19 + 2) &&& 65535
          rw [z_p1, e]
/-- words of the memory -/
theorem t_rword (h : zM2 σ μ) {x y : Int32} (e : y = x) : zp2 (fX5_readWord σ x) (fX12_word μ y) (fun r r' => r.1 = σ ∧ r'.1 = μ ∧ r'.2 = r.2 ∧ zr 0 65535 r.2) := by
  subst e
  unfold fX5_readWord fX12_word
  exact zp2_rd h rfl (fun v hv => zp2_rd h rfl (fun w hw => zp2_some ⟨rfl, rfl, rfl, z_rw hv hw⟩))
theorem t_wword (h : zM2 σ μ) {x y v w : Int32} (e : y = x) (f : w = v) (hv : zr 0 65535 v) : zp2 (fX5_writeWord σ x v) (fX12_wordTo μ y w) (fun r r' => zM2 r r' ∧ zQ [15, 17, 19] [] [] [] σ r ∧ zQ [5, 6] [(3, 29, 32)] [] [] μ r') := by
  subst e
  subst f
  unfold fX5_writeWord fX12_wordTo
  exact zp2_wr h rfl rfl (z_r8 _) (fun s t hm q1 q2 => zp2_wr hm rfl (z_hi8 hv) (z_hi hv) (fun s1 t1 hm1 p1 p2 => zp2_some ⟨hm1, q1.tr p1, q2.tr p2⟩))
end ZT3
end ZJN1
section ZJN2
/-! HELPERS, PART 2: stack, pairs, single registers -/
theorem z_m2 (a : Int32) : (((a - 1) &&& 65535) - 1) &&& 65535 = (a - 2) &&& 65535 := by
  refine Int32.toBitVec_inj.1 ?_
  rw [Int32.toBitVec_and, Int32.toBitVec_and, Int32.toBitVec_sub, Int32.toBitVec_and, Int32.toBitVec_sub, Int32.toBitVec_sub]
  refine BitVec.eq_of_toNat_eq ?_
  rw [BitVec.toNat_and, BitVec.toNat_and, BitVec.toNat_sub, BitVec.toNat_and, BitVec.toNat_sub, BitVec.toNat_sub]
  rw [show (65535 : Int32).toBitVec.toNat = 2 ^ 16 - 1 from rfl, show (1 : Int32).toBitVec.toNat = 1 from rfl, show (2 : Int32).toBitVec.toNat = 2 from rfl, Nat.and_two_pow_sub_one_eq_mod, Nat.and_two_pow_sub_one_eq_mod, Nat.and_two_pow_sub_one_eq_mod]
  have := a.toBitVec.isLt
  omega
theorem zJp.of {σ μ σ1 μ1 : zSt} (h : zJp σ μ) (e7 : σ1.1 7 4 = σ.1 7 4) (e0 : μ1.1 0 31 = μ.1 0 31) : zJp σ1 μ1 := by
  unfold zJp
  rw [e7, e0]
  exact h
/-- where M is -/
noncomputable def zPlc (σ μ : zSt) : Prop := (μ.1 0 32 = 0 ∧ σ.1 7 5 = ((σ.1 36 6 <<< ((8 : Int32) &&& 31)) ||| σ.1 36 7)) ∨ (¬ μ.1 0 32 = 0 ∧ σ.1 7 5 = μ.1 3 20)
theorem zPlc.of {σ μ σ1 μ1 : zSt} (h : zPlc σ μ) (a : σ1.1 7 5 = σ.1 7 5) (b : σ1.1 36 6 = σ.1 36 6) (c : σ1.1 36 7 = σ.1 36 7) (d : μ1.1 3 20 = μ.1 3 20) (e : μ1.1 0 32 = μ.1 0 32) : zPlc σ1 μ1 := by
  unfold zPlc
  rw [a, b, c, d, e]
  exact h
section ZT4
variable {I : zSt → zSt → Prop} {σ μ : zSt}
theorem t_push (hI : zIoK I) (h : zTT I σ μ) {v w : Int32} (e : w = v) (hv : zr 0 65535 v) : zp2 (fX5_push σ v) (fX12_push μ w) (fun r r' => zTT I r r' ∧ zQ [15, 17, 19] [(36, 18, 18)] [] [] σ r ∧ zQ [5, 6] [(3, 18, 18), (3, 29, 32)] [] [] μ r') := by
  subst e
  unfold fX5_push fX12_push
  have e18 : μ.1 3 18 = σ.1 36 18 := h.eq (by decide)
  refine zp2_ckl (zp2_ckr (zp2_ckr (zp2_bvr (fun t1 f1 => zp2_ckr ?_))))
  have q0 : zQ [5, 6] [(3, 18, 18), (3, 29, 32)] [] [] μ t1 := by subst f1; exact zQ.wi zQ.rf rfl
  have hm1 : zM2 σ t1 := h.1.keep zQ.rf (by subst f1; exact zQ.wi zQ.rf rfl)
  have g1 : t1.1 3 18 = (σ.1 36 18 - 1) &&& 65535 := by subst f1; show (μ.1 3 18 - 1) &&& 65535 = _; rw [e18]
  refine zp2_wr hm1 (by rw [show zgi t1 3 (18 : Int32).toNatClampNeg = (σ.1 36 18 - 1) &&& 65535 from g1, z_mm]; rfl) (z_hi8 hv) (z_hi hv) (fun s1 t2 hm2 q1 q2 => ?_)
  have g2 : t2.1 3 18 = (σ.1 36 18 - 1) &&& 65535 := (q2.1 3 18 rfl).trans g1
  have c2 : s1.1 36 18 = σ.1 36 18 := q1.1 36 18 rfl
  refine zp2_ckl (zp2_ckr (zp2_ckr (zp2_bvr (fun t3 f3 => zp2_ckr ?_))))
  have hm3 : zM2 s1 t3 := hm2.keep zQ.rf (by subst f3; exact zQ.wi zQ.rf rfl)
  have q3 : zQ [5, 6] [(3, 18, 18), (3, 29, 32)] [] [] μ t3 := by subst f3; exact zQ.wi (q0.tr (q2.mono rfl rfl)) rfl
  have g3 : t3.1 3 18 = (σ.1 36 18 - 2) &&& 65535 := by subst f3; show (t2.1 3 18 - 1) &&& 65535 = _; rw [g2, z_m2]
  refine zp2_wr hm3 (by rw [show zgi t3 3 (18 : Int32).toNatClampNeg = (σ.1 36 18 - 2) &&& 65535 from g3, z_mm, show zgi s1 36 (18 : Int32).toNatClampNeg = σ.1 36 18 from c2]) rfl (z_r8 _) (fun s2 t4 hm4 q4 q5 => ?_)
  have c4 : s2.1 36 18 = σ.1 36 18 := (q4.1 36 18 rfl).trans c2
  refine zp2_ckl (zp2_ckl (zp2_bvl (fun s3 f4 => zp2_some ?_)))
  have qc : zQ [15, 17, 19] [(36, 18, 18)] [] [] σ s3 := by subst f4; exact zQ.wi ((q1.tr q4).mono rfl rfl) rfl
  have qm : zQ [5, 6] [(3, 18, 18), (3, 29, 32)] [] [] μ t4 := q3.tr (q5.mono rfl rfl)
  refine ⟨h.fin hI [18] (hm4.keep (by subst f4; exact zQ.wi zQ.rf rfl) zQ.rf) (qc.mono rfl rfl) (qm.mono rfl rfl) rfl (zAl1 ⟨?_, ?_⟩) (h.2.2.1.of (qc.1 7 4 rfl) (qm.1 0 31 rfl)), qc, qm⟩
  · rw [(q5.1 3 18 rfl).trans g3]
    subst f4
    show _ = (s2.1 36 18 - 2) &&& 65535
    rw [c4]
  · subst f4
    exact zrg_w (by decide) (by decide) (z_r16 _)
theorem t_pop (hI : zIoK I) (h : zTT I σ μ) : zp2 (fX5_pop σ ) (fX12_pop μ ) (fun r r' => zTT I r.1 r'.1 ∧ r'.2 = r.2 ∧ zr 0 65535 r.2 ∧ zQ [] [(36, 18, 18)] [] [] σ r.1 ∧ zQ [] [(3, 18, 18)] [] [] μ r'.1) := by
  unfold fX5_pop fX12_pop
  have e18 : μ.1 3 18 = σ.1 36 18 := h.eq (by decide)
  refine zp2_ckl (zp2_ckr (zp2_rd h.1 (by rw [show zgi μ 3 (18 : Int32).toNatClampNeg = zgi σ 36 (18 : Int32).toNatClampNeg from e18]) (fun v hv => ?_)))
  refine zp2_ckl (zp2_ckr (zp2_ckr (zp2_bvr (fun t1 f1 => zp2_ckr ?_))))
  have hm1 : zM2 σ t1 := h.1.keep zQ.rf (by subst f1; exact zQ.wi zQ.rf rfl)
  have g1 : t1.1 3 18 = (σ.1 36 18 + 1) &&& 65535 := by subst f1; show (μ.1 3 18 + 1) &&& 65535 = _; rw [e18]
  refine zp2_rd hm1 (by rw [show zgi t1 3 (18 : Int32).toNatClampNeg = (σ.1 36 18 + 1) &&& 65535 from g1, z_mm]; rfl) (fun w hw => ?_)
  refine zp2_bvl (fun y ey => zp2_bvr (fun z ez => ?_))
  refine zp2_ckl (zp2_ckl (zp2_bvl (fun s2 f2 => zp2_ckr (zp2_ckr (zp2_bvr (fun t2 f3 => zp2_some ?_))))))
  have qc : zQ [] [(36, 18, 18)] [] [] σ s2 := by subst f2; exact zQ.wi zQ.rf rfl
  have qm : zQ [] [(3, 18, 18)] [] [] μ t2 := by subst f3; subst f1; exact zQ.wi (zQ.wi zQ.rf rfl) rfl
  refine ⟨h.upd hI [18] qc qm rfl (zAl1 ⟨?_, ?_⟩), ez.trans ey.symm, by rw [ey]; exact z_rw hv hw, qc, qm⟩
  · subst f2
    subst f3
    show (t1.1 3 18 + 1) &&& 65535 = (σ.1 36 18 + 2) &&& 65535
    rw [g1, z_p1]
  · subst f2
    exact zrg_w (by decide) (by decide) (z_r16 _)
theorem t_pair0 (h : zTT I σ μ) (hF : zF σ μ) : zp2 (fX5_pairAt σ 0) (fX12_pair μ 0) (fun r r' => r.1 = σ ∧ r'.1 = μ ∧ r'.2 = r.2 ∧ zr 0 65535 r.2) := by
  unfold fX5_pairAt fX12_pair
  refine zp2_ckl (zp2_ckl (zp2_ckr (zp2_ckr (zp2_some ⟨rfl, rfl, ?_, z_rw' (h.b (j := 0) (by decide)) (h.b (j := 1) (by decide))⟩))))
  show (μ.1 3 0 <<< ((8 : Int32) &&& 31)) ||| μ.1 3 1 = (σ.1 36 0 <<< ((8 : Int32) &&& 31)) ||| σ.1 36 1
  rw [h.eq (by decide), show μ.1 3 1 = σ.1 36 1 from hF]
theorem t_pairTo0 (hI : zIoK I) (h : zTT I σ μ) {v w : Int32} (e : w = v) : zp2 (fX5_putPairAt σ 0 v) (fX12_pairTo μ 0 w) (fun r r' => zTT I r r' ∧ zF r r' ∧ zQ [] [(36, 0, 0), (36, 1, 1)] [] [] σ r ∧ zQ [] [(3, 0, 0), (3, 1, 1)] [] [] μ r') := by
  subst e
  unfold fX5_putPairAt fX12_pairTo
  refine zp2_ckl (zp2_bvl (fun s1 f1 => zp2_ckl (zp2_bvl (fun s2 f2 => zp2_ckr (zp2_bvr (fun t1 g1 => zp2_ckr (zp2_bvr (fun t2 g2 => zp2_some ?_))))))))
  subst f2
  subst f1
  subst g2
  subst g1
  exact ⟨h.upd hI [0, 1] (zQ.wi (zQ.wi zQ.rf rfl) rfl) (zQ.wi (zQ.wi zQ.rf rfl) rfl) rfl (zAl2 ⟨rfl, zrg_b (Or.inl (by decide)) (z_r8 _)⟩ ⟨rfl, zrg_b (Or.inl (by decide)) (z_r8 _)⟩), rfl, zQ.wi (zQ.wi zQ.rf rfl) rfl, zQ.wi (zQ.wi zQ.rf rfl) rfl⟩
theorem t_pair2 (h : zTT I σ μ) : zp2 (fX5_pairAt σ 2) (fX12_pair μ 2) (fun r r' => r.1 = σ ∧ r'.1 = μ ∧ r'.2 = r.2 ∧ zr 0 65535 r.2) := by
  unfold fX5_pairAt fX12_pair
  refine zp2_ckl (zp2_ckl (zp2_ckr (zp2_ckr (zp2_some ⟨rfl, rfl, ?_, z_rw' (h.b (j := 2) (by decide)) (h.b (j := 3) (by decide))⟩))))
  show (μ.1 3 2 <<< ((8 : Int32) &&& 31)) ||| μ.1 3 3 = (σ.1 36 2 <<< ((8 : Int32) &&& 31)) ||| σ.1 36 3
  rw [h.eq (by decide), h.eq (by decide)]
theorem t_pairTo2 (hI : zIoK I) (h : zTT I σ μ) {v w : Int32} (e : w = v) : zp2 (fX5_putPairAt σ 2 v) (fX12_pairTo μ 2 w) (fun r r' => zTT I r r' ∧ zQ [] [(36, 2, 2), (36, 3, 3)] [] [] σ r ∧ zQ [] [(3, 2, 2), (3, 3, 3)] [] [] μ r') := by
  subst e
  unfold fX5_putPairAt fX12_pairTo
  refine zp2_ckl (zp2_bvl (fun s1 f1 => zp2_ckl (zp2_bvl (fun s2 f2 => zp2_ckr (zp2_bvr (fun t1 g1 => zp2_ckr (zp2_bvr (fun t2 g2 => zp2_some ?_))))))))
  subst f2
  subst f1
  subst g2
  subst g1
  exact ⟨h.upd hI [2, 3] (zQ.wi (zQ.wi zQ.rf rfl) rfl) (zQ.wi (zQ.wi zQ.rf rfl) rfl) rfl (zAl2 ⟨rfl, zrg_b (Or.inl (by decide)) (z_r8 _)⟩ ⟨rfl, zrg_b (Or.inl (by decide)) (z_r8 _)⟩), zQ.wi (zQ.wi zQ.rf rfl) rfl, zQ.wi (zQ.wi zQ.rf rfl) rfl⟩
theorem t_pair4 (h : zTT I σ μ) : zp2 (fX5_pairAt σ 4) (fX12_pair μ 4) (fun r r' => r.1 = σ ∧ r'.1 = μ ∧ r'.2 = r.2 ∧ zr 0 65535 r.2) := by
  unfold fX5_pairAt fX12_pair
  refine zp2_ckl (zp2_ckl (zp2_ckr (zp2_ckr (zp2_some ⟨rfl, rfl, ?_, z_rw' (h.b (j := 4) (by decide)) (h.b (j := 5) (by decide))⟩))))
  show (μ.1 3 4 <<< ((8 : Int32) &&& 31)) ||| μ.1 3 5 = (σ.1 36 4 <<< ((8 : Int32) &&& 31)) ||| σ.1 36 5
  rw [h.eq (by decide), h.eq (by decide)]
theorem t_pairTo4 (hI : zIoK I) (h : zTT I σ μ) {v w : Int32} (e : w = v) : zp2 (fX5_putPairAt σ 4 v) (fX12_pairTo μ 4 w) (fun r r' => zTT I r r' ∧ zQ [] [(36, 4, 4), (36, 5, 5)] [] [] σ r ∧ zQ [] [(3, 4, 4), (3, 5, 5)] [] [] μ r') := by
  subst e
  unfold fX5_putPairAt fX12_pairTo
  refine zp2_ckl (zp2_bvl (fun s1 f1 => zp2_ckl (zp2_bvl (fun s2 f2 => zp2_ckr (zp2_bvr (fun t1 g1 => zp2_ckr (zp2_bvr (fun t2 g2 => zp2_some ?_))))))))
  subst f2
  subst f1
  subst g2
  subst g1
  exact ⟨h.upd hI [4, 5] (zQ.wi (zQ.wi zQ.rf rfl) rfl) (zQ.wi (zQ.wi zQ.rf rfl) rfl) rfl (zAl2 ⟨rfl, zrg_b (Or.inl (by decide)) (z_r8 _)⟩ ⟨rfl, zrg_b (Or.inl (by decide)) (z_r8 _)⟩), zQ.wi (zQ.wi zQ.rf rfl) rfl, zQ.wi (zQ.wi zQ.rf rfl) rfl⟩
theorem t_pair6 (h : zTT I σ μ) : zp2 (fX5_pairAt σ 6) (fX12_pair μ 6) (fun r r' => r.1 = σ ∧ r'.1 = μ ∧ r'.2 = r.2 ∧ zr 0 65535 r.2) := by
  unfold fX5_pairAt fX12_pair
  refine zp2_ckl (zp2_ckl (zp2_ckr (zp2_ckr (zp2_some ⟨rfl, rfl, ?_, z_rw' (h.b (j := 6) (by decide)) (h.b (j := 7) (by decide))⟩))))
  show (μ.1 3 6 <<< ((8 : Int32) &&& 31)) ||| μ.1 3 7 = (σ.1 36 6 <<< ((8 : Int32) &&& 31)) ||| σ.1 36 7
  rw [h.eq (by decide), h.eq (by decide)]
theorem t_pairTo6 (hI : zIoK I) (h : zTT I σ μ) {v w : Int32} (e : w = v) : zp2 (fX5_putPairAt σ 6 v) (fX12_pairTo μ 6 w) (fun r r' => zTT I r r' ∧ zQ [] [(36, 6, 6), (36, 7, 7)] [] [] σ r ∧ zQ [] [(3, 6, 6), (3, 7, 7)] [] [] μ r') := by
  subst e
  unfold fX5_putPairAt fX12_pairTo
  refine zp2_ckl (zp2_bvl (fun s1 f1 => zp2_ckl (zp2_bvl (fun s2 f2 => zp2_ckr (zp2_bvr (fun t1 g1 => zp2_ckr (zp2_bvr (fun t2 g2 => zp2_some ?_))))))))
  subst f2
  subst f1
  subst g2
  subst g1
  exact ⟨h.upd hI [6, 7] (zQ.wi (zQ.wi zQ.rf rfl) rfl) (zQ.wi (zQ.wi zQ.rf rfl) rfl) rfl (zAl2 ⟨rfl, zrg_b (Or.inl (by decide)) (z_r8 _)⟩ ⟨rfl, zrg_b (Or.inl (by decide)) (z_r8 _)⟩), zQ.wi (zQ.wi zQ.rf rfl) rfl, zQ.wi (zQ.wi zQ.rf rfl) rfl⟩
theorem t_hl (h : zTT I σ μ) : zp2 (fX5_hl σ ) (fX12_hl μ ) (fun r r' => r.1 = σ ∧ r'.1 = μ ∧ r'.2 = r.2 ∧ zr 0 65535 r.2) := by
  unfold fX5_hl fX12_hl fX5_hl_27 fX12_hl_25
  rcases h.2.2.1 with ⟨a, b⟩ | ⟨a, b⟩ | ⟨a, b⟩
  · exact zp2_ifl (fun _ => zp2_ifr (fun _ => zp2_bii (t_pair6 h) (fun s v t w q => zp2_some q)) (fun q => absurd b q)) (fun q => absurd a q)
  · refine zp2_ifl (fun q => absurd (a.symm.trans q) (by decide)) (fun _ => zp2_ifr (fun q => absurd (b.symm.trans q) (by decide)) (fun _ => ?_))
    rw [show zgi σ 7 4 = 16 from a, show zgi μ 0 31 = 16 from b]
    exact zp2_ckl (zp2_ckr (zp2_some ⟨rfl, rfl, h.eq (j := 16) (by decide), h.w (j := 16) (by decide) (by decide)⟩))
  · refine zp2_ifl (fun q => absurd (a.symm.trans q) (by decide)) (fun _ => zp2_ifr (fun q => absurd (b.symm.trans q) (by decide)) (fun _ => ?_))
    rw [show zgi σ 7 4 = 17 from a, show zgi μ 0 31 = 17 from b]
    exact zp2_ckl (zp2_ckr (zp2_some ⟨rfl, rfl, h.eq (j := 17) (by decide), h.w (j := 17) (by decide) (by decide)⟩))
theorem t_hlTo (hI : zIoK I) (h : zTT I σ μ) {v w : Int32} (e : w = v) : zp2 (fX5_putHl σ v) (fX12_hlTo μ w) (fun r r' => zTT I r r' ∧ zQ [] [(36, 6, 7), (36, 16, 17)] [] [] σ r ∧ zQ [] [(3, 6, 7), (3, 16, 17)] [] [] μ r') := by
  unfold fX5_putHl fX12_hlTo fX5_putHl_32 fX12_hlTo_30
  rcases h.2.2.1 with ⟨a, b⟩ | ⟨a, b⟩ | ⟨a, b⟩
  · exact zp2_ifl (fun _ => zp2_ifr (fun _ => zp2_buu (t_pairTo6 hI h e) (fun s t q => zp2_some ⟨q.1, q.2.1.mono rfl rfl, q.2.2.mono rfl rfl⟩)) (fun q => absurd b q)) (fun q => absurd a q)
  · refine zp2_ifl (fun q => absurd (a.symm.trans q) (by decide)) (fun _ => zp2_ifr (fun q => absurd (b.symm.trans q) (by decide)) (fun _ => ?_))
    rw [show zgi σ 7 4 = 16 from a, show zgi μ 0 31 = 16 from b]
    refine zp2_ckl (zp2_bvl (fun s f => zp2_ckr (zp2_bvr (fun t g => zp2_some ?_))))
    subst f
    subst g
    subst e
    exact ⟨h.upd hI [16] (zQ.wi zQ.rf rfl) (zQ.wi zQ.rf rfl) rfl (zAl1 ⟨rfl, zrg_w (by decide) (by decide) (z_r16 _)⟩), zQ.wi zQ.rf rfl, zQ.wi zQ.rf rfl⟩
  · refine zp2_ifl (fun q => absurd (a.symm.trans q) (by decide)) (fun _ => zp2_ifr (fun q => absurd (b.symm.trans q) (by decide)) (fun _ => ?_))
    rw [show zgi σ 7 4 = 17 from a, show zgi μ 0 31 = 17 from b]
    refine zp2_ckl (zp2_bvl (fun s f => zp2_ckr (zp2_bvr (fun t g => zp2_some ?_))))
    subst f
    subst g
    subst e
    exact ⟨h.upd hI [17] (zQ.wi zQ.rf rfl) (zQ.wi zQ.rf rfl) rfl (zAl1 ⟨rfl, zrg_w (by decide) (by decide) (z_r16 _)⟩), zQ.wi zQ.rf rfl, zQ.wi zQ.rf rfl⟩
theorem t_rp (h : zTT I σ μ) {p : Int32} (hp : zr 0 3 p) : zp2 (fX5_pair σ p) (fX12_rp μ p) (fun r r' => r.1 = σ ∧ r'.1 = μ ∧ r'.2 = r.2 ∧ zr 0 65535 r.2) := by
  unfold fX5_pair fX12_rp fX12_rp_44
  refine zp2_if (fun _ => zp2_bii (t_pair2 h) (fun s v t w q => zp2_some q)) (fun _ => zp2_if (fun _ => zp2_bii (t_pair4 h) (fun s v t w q => zp2_some q)) (fun _ => zp2_if (fun _ => zp2_bii (t_hl h) (fun s v t w q => zp2_some q)) (fun _ => ?_)))
  exact zp2_ckl (zp2_ckr (zp2_some ⟨rfl, rfl, h.eq (j := 18) (by decide), h.w (j := 18) (by decide) (by decide)⟩))
theorem t_rpTo (hI : zIoK I) (h : zTT I σ μ) {p v w : Int32} (e : w = v) : zp2 (fX5_putPair σ p v) (fX12_rpTo μ p w) (fun r r' => zTT I r r' ∧ zQ [] [(36, 2, 7), (36, 16, 18)] [] [] σ r ∧ zQ [] [(3, 2, 7), (3, 16, 18)] [] [] μ r') := by
  unfold fX5_putPair fX12_rpTo fX5_putPair_65 fX12_rpTo_51
  refine zp2_if (fun _ => zp2_buu (t_pairTo2 hI h e) (fun s t q => zp2_some ⟨q.1, q.2.1.mono rfl rfl, q.2.2.mono rfl rfl⟩)) (fun _ => zp2_if (fun _ => zp2_buu (t_pairTo4 hI h e) (fun s t q => zp2_some ⟨q.1, q.2.1.mono rfl rfl, q.2.2.mono rfl rfl⟩)) (fun _ => zp2_if (fun _ => zp2_buu (t_hlTo hI h e) (fun s t q => zp2_some ⟨q.1, q.2.1.mono rfl rfl, q.2.2.mono rfl rfl⟩)) (fun _ => ?_)))
  refine zp2_ckl (zp2_bvl (fun s f => zp2_ckr (zp2_bvr (fun t g => zp2_some ?_))))
  subst f
  subst g
  subst e
  exact ⟨h.upd hI [18] (zQ.wi zQ.rf rfl) (zQ.wi zQ.rf rfl) rfl (zAl1 ⟨rfl, zrg_w (by decide) (by decide) (z_r16 _)⟩), zQ.wi zQ.rf rfl, zQ.wi zQ.rf rfl⟩
theorem p_m (h : zTT I σ μ) (hp : zPlc σ μ) : zpc (fX12_m μ ) (fun r => r = (μ, σ.1 7 5)) := by
  unfold fX12_m fX12_m_23
  rcases hp with ⟨a, b⟩ | ⟨a, b⟩
  · refine zpc_if (fun _ => zpc_bi (P := fun r => r = (μ, σ.1 7 5)) ?_ (fun s v e => zpc_some e)) (fun q => absurd a q)
    unfold fX12_pair
    refine zpc_ck (zpc_ck (zpc_some ?_))
    show (μ, (μ.1 3 6 <<< ((8 : Int32) &&& 31)) ||| μ.1 3 7) = _
    rw [b, h.eq (by decide), h.eq (by decide)]
  · refine zpc_if (fun q => absurd q a) (fun _ => zpc_ck (zpc_some ?_))
    show (μ, μ.1 3 20) = _
    rw [b]
theorem zr_hd {x c : Int32} {a b : Int} (h : zr a b x) (hc : c.toInt = a) : x = c ∨ zr (a + 1) b x := by
  by_cases q : x.toInt = a
  · exact Or.inl (Int32.toInt_inj.mp (by omega))
  · exact Or.inr ⟨by have := h.1; omega, h.2⟩
theorem zr_no9 {x : Int32} {a b : Int} {P : Prop} (h : zr a b x) (c : b < a) : P := by have := h.1; have := h.2; exfalso; omega
theorem z_shr8 {w : Int32} (h : zr 0 65535 w) : zr 0 255 (w >>> ((8 : Int32) &&& 31)) := z_hi h
theorem t_one (h : zTT I σ μ) (hp : zPlc σ μ) {k : Int32} (hk : zr 0 7 k) : zp2 (fX5_one σ k) (fX12_r μ k) (fun r r' => r.1 = σ ∧ r'.1 = μ ∧ r'.2 = r.2 ∧ zr 0 255 r.2) := by
  unfold fX5_one fX12_r fX5_one_63 fX5_one_96 fX12_r_73 fX12_r_74
  rcases zr_hd (c := 0) hk rfl with e | hk
  · subst e
    refine zp2_ifl (fun q => absurd q (by decide)) (fun _ => zp2_ifl (fun q => absurd q (by decide)) (fun _ => zp2_ifl (fun q => absurd q (by decide)) (fun _ => zp2_ifl (fun q => absurd q (by decide)) (fun _ => zp2_ckl ?_))))
    exact zp2_ifr (fun q => absurd q (by decide)) (fun _ => zp2_ifr (fun q => absurd q (by decide)) (fun _ => zp2_ifr (fun _ => zp2_ckr (zp2_some ⟨rfl, rfl, h.eq (j := 2) (by decide), h.b (j := 2) (by decide)⟩)) (fun _ => zp2_ifr (fun _ => zp2_ckr (zp2_some ⟨rfl, rfl, h.eq (j := 2) (by decide), h.b (j := 2) (by decide)⟩)) (fun q => absurd (by decide) q))))
  rcases zr_hd (c := 1) hk rfl with e | hk
  · subst e
    refine zp2_ifl (fun q => absurd q (by decide)) (fun _ => zp2_ifl (fun q => absurd q (by decide)) (fun _ => zp2_ifl (fun q => absurd q (by decide)) (fun _ => zp2_ifl (fun q => absurd q (by decide)) (fun _ => zp2_ckl ?_))))
    exact zp2_ifr (fun q => absurd q (by decide)) (fun _ => zp2_ifr (fun q => absurd q (by decide)) (fun _ => zp2_ifr (fun _ => zp2_ckr (zp2_some ⟨rfl, rfl, h.eq (j := 3) (by decide), h.b (j := 3) (by decide)⟩)) (fun _ => zp2_ifr (fun _ => zp2_ckr (zp2_some ⟨rfl, rfl, h.eq (j := 3) (by decide), h.b (j := 3) (by decide)⟩)) (fun q => absurd (by decide) q))))
  rcases zr_hd (c := 2) hk rfl with e | hk
  · subst e
    refine zp2_ifl (fun q => absurd q (by decide)) (fun _ => zp2_ifl (fun q => absurd q (by decide)) (fun _ => zp2_ifl (fun q => absurd q (by decide)) (fun _ => zp2_ifl (fun q => absurd q (by decide)) (fun _ => zp2_ckl ?_))))
    exact zp2_ifr (fun q => absurd q (by decide)) (fun _ => zp2_ifr (fun q => absurd q (by decide)) (fun _ => zp2_ifr (fun _ => zp2_ckr (zp2_some ⟨rfl, rfl, h.eq (j := 4) (by decide), h.b (j := 4) (by decide)⟩)) (fun _ => zp2_ifr (fun _ => zp2_ckr (zp2_some ⟨rfl, rfl, h.eq (j := 4) (by decide), h.b (j := 4) (by decide)⟩)) (fun q => absurd (by decide) q))))
  rcases zr_hd (c := 3) hk rfl with e | hk
  · subst e
    refine zp2_ifl (fun q => absurd q (by decide)) (fun _ => zp2_ifl (fun q => absurd q (by decide)) (fun _ => zp2_ifl (fun q => absurd q (by decide)) (fun _ => zp2_ifl (fun q => absurd q (by decide)) (fun _ => zp2_ckl ?_))))
    exact zp2_ifr (fun q => absurd q (by decide)) (fun _ => zp2_ifr (fun q => absurd q (by decide)) (fun _ => zp2_ifr (fun _ => zp2_ckr (zp2_some ⟨rfl, rfl, h.eq (j := 5) (by decide), h.b (j := 5) (by decide)⟩)) (fun _ => zp2_ifr (fun _ => zp2_ckr (zp2_some ⟨rfl, rfl, h.eq (j := 5) (by decide), h.b (j := 5) (by decide)⟩)) (fun q => absurd (by decide) q))))
  rcases zr_hd (c := 4) hk rfl with e | hk
  · subst e
    rcases h.2.2.1 with ⟨a, b⟩ | ⟨a, b⟩ | ⟨a, b⟩
    · refine zp2_ifl (fun _ => zp2_ifl (fun _ => zp2_ckl ?_) (fun q => absurd a q)) (fun q => absurd rfl q)
      rw [show zgi μ 0 31 = 0 from b]
      exact zp2_ifr (fun q => absurd q (by decide)) (fun _ => zp2_ifr (fun q => absurd q (by decide)) (fun _ => zp2_ifr (fun _ => zp2_ckr (zp2_some ⟨rfl, rfl, h.eq (j := 6) (by decide), h.b (j := 6) (by decide)⟩)) (fun q => absurd (by decide) q)))
    · refine zp2_ifl (fun _ => zp2_ifl (fun q => absurd (a.symm.trans q) (by decide)) (fun _ => zp2_ckl ?_)) (fun q => absurd rfl q)
      rw [show zgi σ 7 4 = 16 from a, show zgi μ 0 31 = 16 from b]
      refine zp2_ifr (fun q => absurd q (by decide)) (fun _ => zp2_ifr (fun q => absurd q (by decide)) (fun _ => zp2_ifr (fun q => absurd q (by decide)) (fun _ => zp2_ifr (fun q => absurd q (by decide)) (fun _ => zp2_ifr (fun _ => zp2_ckr (zp2_some ⟨rfl, rfl, ?_, z_shr8 (h.w (j := 16) (by decide) (by decide))⟩)) (fun q => absurd rfl q)))))
      show μ.1 3 16 >>> ((8 : Int32) &&& 31) = σ.1 36 16 >>> ((8 : Int32) &&& 31)
      rw [h.eq (by decide)]
    · refine zp2_ifl (fun _ => zp2_ifl (fun q => absurd (a.symm.trans q) (by decide)) (fun _ => zp2_ckl ?_)) (fun q => absurd rfl q)
      rw [show zgi σ 7 4 = 17 from a, show zgi μ 0 31 = 17 from b]
      refine zp2_ifr (fun q => absurd q (by decide)) (fun _ => zp2_ifr (fun q => absurd q (by decide)) (fun _ => zp2_ifr (fun q => absurd q (by decide)) (fun _ => zp2_ifr (fun q => absurd q (by decide)) (fun _ => zp2_ifr (fun _ => zp2_ckr (zp2_some ⟨rfl, rfl, ?_, z_shr8 (h.w (j := 17) (by decide) (by decide))⟩)) (fun q => absurd rfl q)))))
      show μ.1 3 17 >>> ((8 : Int32) &&& 31) = σ.1 36 17 >>> ((8 : Int32) &&& 31)
      rw [h.eq (by decide)]
  rcases zr_hd (c := 5) hk rfl with e | hk
  · subst e
    rcases h.2.2.1 with ⟨a, b⟩ | ⟨a, b⟩ | ⟨a, b⟩
    · refine zp2_ifl (fun q => absurd q (by decide)) (fun _ => zp2_ifl (fun _ => zp2_ifl (fun _ => zp2_ckl ?_) (fun q => absurd a q)) (fun q => absurd rfl q))
      rw [show zgi μ 0 31 = 0 from b]
      exact zp2_ifr (fun q => absurd q (by decide)) (fun _ => zp2_ifr (fun q => absurd q (by decide)) (fun _ => zp2_ifr (fun _ => zp2_ckr (zp2_some ⟨rfl, rfl, h.eq (j := 7) (by decide), h.b (j := 7) (by decide)⟩)) (fun q => absurd (by decide) q)))
    · refine zp2_ifl (fun q => absurd q (by decide)) (fun _ => zp2_ifl (fun _ => zp2_ifl (fun q => absurd (a.symm.trans q) (by decide)) (fun _ => zp2_ckl ?_)) (fun q => absurd rfl q))
      rw [show zgi σ 7 4 = 16 from a, show zgi μ 0 31 = 16 from b]
      refine zp2_ifr (fun q => absurd q (by decide)) (fun _ => zp2_ifr (fun q => absurd q (by decide)) (fun _ => zp2_ifr (fun q => absurd q (by decide)) (fun _ => zp2_ifr (fun q => absurd q (by decide)) (fun _ => zp2_ifr (fun q => absurd q (by decide)) (fun _ => zp2_ckr (zp2_some ⟨rfl, rfl, ?_, z_r8 _⟩))))))
      show μ.1 3 16 &&& 255 = σ.1 36 16 &&& 255
      rw [h.eq (by decide)]
    · refine zp2_ifl (fun q => absurd q (by decide)) (fun _ => zp2_ifl (fun _ => zp2_ifl (fun q => absurd (a.symm.trans q) (by decide)) (fun _ => zp2_ckl ?_)) (fun q => absurd rfl q))
      rw [show zgi σ 7 4 = 17 from a, show zgi μ 0 31 = 17 from b]
      refine zp2_ifr (fun q => absurd q (by decide)) (fun _ => zp2_ifr (fun q => absurd q (by decide)) (fun _ => zp2_ifr (fun q => absurd q (by decide)) (fun _ => zp2_ifr (fun q => absurd q (by decide)) (fun _ => zp2_ifr (fun q => absurd q (by decide)) (fun _ => zp2_ckr (zp2_some ⟨rfl, rfl, ?_, z_r8 _⟩))))))
      show μ.1 3 17 &&& 255 = σ.1 36 17 &&& 255
      rw [h.eq (by decide)]
  rcases zr_hd (c := 6) hk rfl with e | hk
  · subst e
    refine zp2_ifl (fun q => absurd q (by decide)) (fun _ => zp2_ifl (fun q => absurd q (by decide)) (fun _ => zp2_ifl (fun _ => zp2_ifr (fun _ => ?_) (fun q => absurd rfl q)) (fun q => absurd rfl q)))
    refine zp2_bir (p_m h hp) (fun t w et => ?_)
    cases et
    exact zp2_rd h.1 rfl (fun v hv => zp2_some ⟨rfl, rfl, rfl, hv⟩)
  rcases zr_hd (c := 7) hk rfl with e | hk
  · subst e
    refine zp2_ifl (fun q => absurd q (by decide)) (fun _ => zp2_ifl (fun q => absurd q (by decide)) (fun _ => zp2_ifl (fun q => absurd q (by decide)) (fun _ => zp2_ifl (fun _ => zp2_ckl ?_) (fun q => absurd rfl q))))
    exact zp2_ifr (fun q => absurd q (by decide)) (fun _ => zp2_ifr (fun _ => zp2_ckr (zp2_some ⟨rfl, rfl, h.eq (j := 0) (by decide), h.b (j := 0) (by decide)⟩)) (fun q => absurd rfl q))
  exact zr_no9 hk (by decide)
theorem t_putOne (hI : zIoK I) (h : zTT I σ μ) (hp : zPlc σ μ) {k v w : Int32} (hk : zr 0 7 k) (e : w &&& 255 = v) (hv : zr 0 255 v) : zp2 (fX5_putOne σ k v) (fX12_rTo μ k w) (fun r r' => zTT I r r' ∧ zQ [15, 17, 19] [(36, 0, 0), (36, 2, 7), (36, 16, 17)] [] [] σ r ∧ zQ [5, 6] [(3, 0, 0), (3, 2, 7), (3, 16, 17), (3, 29, 32)] [] [] μ r') := by
  unfold fX5_putOne fX12_rTo fX5_putOne_88 fX12_rTo_113 fX12_rTo_104 fX12_rTo_100 fX5_putPairHalf fX5_putPairHalf_68 fX5_putPairHalf_69
  refine zp2_bvr (fun y ey => ?_)
  have ey : y = v := ey.trans e
  subst ey
  rcases zr_hd (c := 0) hk rfl with e1 | hk
  · subst e1
    have fin : zp2 (zck (zin (2 + (0 &&& 3)) 29) (zbv (zsi σ 36 ((2 + (0 &&& 3) : Int32).toNatClampNeg) y) (fun σ5 => some σ5))) (zck (zin (2 + 0) 1048) (zbv (zsi μ 3 ((2 + 0 : Int32).toNatClampNeg) y) (fun σ1 => some σ1))) (fun r r' => zTT I r r' ∧ zQ [15, 17, 19] [(36, 0, 0), (36, 2, 7), (36, 16, 17)] [] [] σ r ∧ zQ [5, 6] [(3, 0, 0), (3, 2, 7), (3, 16, 17), (3, 29, 32)] [] [] μ r') := by
      refine zp2_ckl (zp2_bvl (fun s f => zp2_ckr (zp2_bvr (fun t g => zp2_some ?_))))
      subst f
      subst g
      exact ⟨h.upd hI [2] (zQ.wi zQ.rf rfl) (zQ.wi zQ.rf rfl) rfl (zAl1 ⟨rfl, zrg_b (Or.inl (by decide)) hv⟩), zQ.wi zQ.rf rfl, zQ.wi zQ.rf rfl⟩
    exact zp2_ifl (fun q => absurd q (by decide)) (fun _ => zp2_ifl (fun q => absurd q (by decide)) (fun _ => zp2_ifl (fun q => absurd q (by decide)) (fun _ => zp2_ifl (fun q => absurd q (by decide)) (fun _ => zp2_ifr (fun q => absurd q (by decide)) (fun _ => zp2_ifr (fun q => absurd q (by decide)) (fun _ => zp2_ifr (fun _ => fin) (fun _ => zp2_ifr (fun _ => fin) (fun q => absurd (by decide) q))))))))
  rcases zr_hd (c := 1) hk rfl with e1 | hk
  · subst e1
    have fin : zp2 (zck (zin (2 + (1 &&& 3)) 29) (zbv (zsi σ 36 ((2 + (1 &&& 3) : Int32).toNatClampNeg) y) (fun σ5 => some σ5))) (zck (zin (2 + 1) 1048) (zbv (zsi μ 3 ((2 + 1 : Int32).toNatClampNeg) y) (fun σ1 => some σ1))) (fun r r' => zTT I r r' ∧ zQ [15, 17, 19] [(36, 0, 0), (36, 2, 7), (36, 16, 17)] [] [] σ r ∧ zQ [5, 6] [(3, 0, 0), (3, 2, 7), (3, 16, 17), (3, 29, 32)] [] [] μ r') := by
      refine zp2_ckl (zp2_bvl (fun s f => zp2_ckr (zp2_bvr (fun t g => zp2_some ?_))))
      subst f
      subst g
      exact ⟨h.upd hI [3] (zQ.wi zQ.rf rfl) (zQ.wi zQ.rf rfl) rfl (zAl1 ⟨rfl, zrg_b (Or.inl (by decide)) hv⟩), zQ.wi zQ.rf rfl, zQ.wi zQ.rf rfl⟩
    exact zp2_ifl (fun q => absurd q (by decide)) (fun _ => zp2_ifl (fun q => absurd q (by decide)) (fun _ => zp2_ifl (fun q => absurd q (by decide)) (fun _ => zp2_ifl (fun q => absurd q (by decide)) (fun _ => zp2_ifr (fun q => absurd q (by decide)) (fun _ => zp2_ifr (fun q => absurd q (by decide)) (fun _ => zp2_ifr (fun _ => fin) (fun _ => zp2_ifr (fun _ => fin) (fun q => absurd (by decide) q))))))))
  rcases zr_hd (c := 2) hk rfl with e1 | hk
  · subst e1
    have fin : zp2 (zck (zin (2 + (2 &&& 3)) 29) (zbv (zsi σ 36 ((2 + (2 &&& 3) : Int32).toNatClampNeg) y) (fun σ5 => some σ5))) (zck (zin (2 + 2) 1048) (zbv (zsi μ 3 ((2 + 2 : Int32).toNatClampNeg) y) (fun σ1 => some σ1))) (fun r r' => zTT I r r' ∧ zQ [15, 17, 19] [(36, 0, 0), (36, 2, 7), (36, 16, 17)] [] [] σ r ∧ zQ [5, 6] [(3, 0, 0), (3, 2, 7), (3, 16, 17), (3, 29, 32)] [] [] μ r') := by
      refine zp2_ckl (zp2_bvl (fun s f => zp2_ckr (zp2_bvr (fun t g => zp2_some ?_))))
      subst f
      subst g
      exact ⟨h.upd hI [4] (zQ.wi zQ.rf rfl) (zQ.wi zQ.rf rfl) rfl (zAl1 ⟨rfl, zrg_b (Or.inl (by decide)) hv⟩), zQ.wi zQ.rf rfl, zQ.wi zQ.rf rfl⟩
    exact zp2_ifl (fun q => absurd q (by decide)) (fun _ => zp2_ifl (fun q => absurd q (by decide)) (fun _ => zp2_ifl (fun q => absurd q (by decide)) (fun _ => zp2_ifl (fun q => absurd q (by decide)) (fun _ => zp2_ifr (fun q => absurd q (by decide)) (fun _ => zp2_ifr (fun q => absurd q (by decide)) (fun _ => zp2_ifr (fun _ => fin) (fun _ => zp2_ifr (fun _ => fin) (fun q => absurd (by decide) q))))))))
  rcases zr_hd (c := 3) hk rfl with e1 | hk
  · subst e1
    have fin : zp2 (zck (zin (2 + (3 &&& 3)) 29) (zbv (zsi σ 36 ((2 + (3 &&& 3) : Int32).toNatClampNeg) y) (fun σ5 => some σ5))) (zck (zin (2 + 3) 1048) (zbv (zsi μ 3 ((2 + 3 : Int32).toNatClampNeg) y) (fun σ1 => some σ1))) (fun r r' => zTT I r r' ∧ zQ [15, 17, 19] [(36, 0, 0), (36, 2, 7), (36, 16, 17)] [] [] σ r ∧ zQ [5, 6] [(3, 0, 0), (3, 2, 7), (3, 16, 17), (3, 29, 32)] [] [] μ r') := by
      refine zp2_ckl (zp2_bvl (fun s f => zp2_ckr (zp2_bvr (fun t g => zp2_some ?_))))
      subst f
      subst g
      exact ⟨h.upd hI [5] (zQ.wi zQ.rf rfl) (zQ.wi zQ.rf rfl) rfl (zAl1 ⟨rfl, zrg_b (Or.inl (by decide)) hv⟩), zQ.wi zQ.rf rfl, zQ.wi zQ.rf rfl⟩
    exact zp2_ifl (fun q => absurd q (by decide)) (fun _ => zp2_ifl (fun q => absurd q (by decide)) (fun _ => zp2_ifl (fun q => absurd q (by decide)) (fun _ => zp2_ifl (fun q => absurd q (by decide)) (fun _ => zp2_ifr (fun q => absurd q (by decide)) (fun _ => zp2_ifr (fun q => absurd q (by decide)) (fun _ => zp2_ifr (fun _ => fin) (fun _ => zp2_ifr (fun _ => fin) (fun q => absurd (by decide) q))))))))
  rcases zr_hd (c := 4) hk rfl with e1 | hk
  · subst e1
    rcases h.2.2.1 with ⟨a, b⟩ | ⟨a, b⟩ | ⟨a, b⟩
    · refine zp2_ifl (fun _ => ?_) (fun q => absurd rfl q)
      rw [show zgi μ 0 31 = 0 from b]
      refine zp2_ifr (fun q => absurd q (by decide)) (fun _ => zp2_ifr (fun q => absurd q (by decide)) (fun _ => zp2_ifr (fun _ => ?_) (fun q => absurd (by decide) q)))
      refine zp2_bul (P := fun r => r = zsi σ 36 6 y) (zpc_if (fun _ => zpc_ck (zpc_bv (fun s f => zpc_some f))) (fun q => absurd a q)) (fun s f => zp2_ckr (zp2_bvr (fun t g => zp2_some ?_)))
      subst f
      subst g
      exact ⟨h.upd hI [6] (zQ.wi zQ.rf rfl) (zQ.wi zQ.rf rfl) rfl (zAl1 ⟨rfl, zrg_b (Or.inl (by decide)) hv⟩), zQ.wi zQ.rf rfl, zQ.wi zQ.rf rfl⟩
    · refine zp2_ifl (fun _ => ?_) (fun q => absurd rfl q)
      refine zp2_bul (P := fun r => r = zsi σ 36 16 ((y <<< ((8 : Int32) &&& 31)) ||| (σ.1 36 16 &&& 255))) ?_ (fun s f => ?_)
      · refine zpc_if (fun q => absurd (a.symm.trans q) (by decide)) (fun _ => zpc_if (fun _ => zpc_ck ?_) (fun q => absurd rfl q))
        rw [show zgi σ 7 4 = 16 from a]
        exact zpc_ck (zpc_bv (fun s f => zpc_some f))
      rw [show zgi μ 0 31 = 16 from b]
      refine zp2_ifr (fun q => absurd q (by decide)) (fun _ => zp2_ifr (fun q => absurd q (by decide)) (fun _ => zp2_ifr (fun q => absurd q (by decide)) (fun _ => zp2_ifr (fun q => absurd q (by decide)) (fun _ => zp2_ifr (fun _ => zp2_ckr ?_) (fun q => absurd rfl q)))))
      refine zp2_ckr (zp2_bvr (fun t g => zp2_some ?_))
      subst f
      subst g
      refine ⟨h.upd hI [16] (zQ.wi zQ.rf rfl) (zQ.wi zQ.rf rfl) rfl (zAl1 ⟨?_, zrg_w (by decide) (by decide) (z_rw' hv (z_r8 _))⟩), zQ.wi zQ.rf rfl, zQ.wi zQ.rf rfl⟩
      show (y <<< ((8 : Int32) &&& 31)) ||| (μ.1 3 16 &&& 255) = (y <<< ((8 : Int32) &&& 31)) ||| (σ.1 36 16 &&& 255)
      rw [h.eq (by decide)]
    · refine zp2_ifl (fun _ => ?_) (fun q => absurd rfl q)
      refine zp2_bul (P := fun r => r = zsi σ 36 17 ((y <<< ((8 : Int32) &&& 31)) ||| (σ.1 36 17 &&& 255))) ?_ (fun s f => ?_)
      · refine zpc_if (fun q => absurd (a.symm.trans q) (by decide)) (fun _ => zpc_if (fun _ => zpc_ck ?_) (fun q => absurd rfl q))
        rw [show zgi σ 7 4 = 17 from a]
        exact zpc_ck (zpc_bv (fun s f => zpc_some f))
      rw [show zgi μ 0 31 = 17 from b]
      refine zp2_ifr (fun q => absurd q (by decide)) (fun _ => zp2_ifr (fun q => absurd q (by decide)) (fun _ => zp2_ifr (fun q => absurd q (by decide)) (fun _ => zp2_ifr (fun q => absurd q (by decide)) (fun _ => zp2_ifr (fun _ => zp2_ckr ?_) (fun q => absurd rfl q)))))
      refine zp2_ckr (zp2_bvr (fun t g => zp2_some ?_))
      subst f
      subst g
      refine ⟨h.upd hI [17] (zQ.wi zQ.rf rfl) (zQ.wi zQ.rf rfl) rfl (zAl1 ⟨?_, zrg_w (by decide) (by decide) (z_rw' hv (z_r8 _))⟩), zQ.wi zQ.rf rfl, zQ.wi zQ.rf rfl⟩
      show (y <<< ((8 : Int32) &&& 31)) ||| (μ.1 3 17 &&& 255) = (y <<< ((8 : Int32) &&& 31)) ||| (σ.1 36 17 &&& 255)
      rw [h.eq (by decide)]
  rcases zr_hd (c := 5) hk rfl with e1 | hk
  · subst e1
    rcases h.2.2.1 with ⟨a, b⟩ | ⟨a, b⟩ | ⟨a, b⟩
    · refine zp2_ifl (fun q => absurd q (by decide)) (fun _ => zp2_ifl (fun _ => ?_) (fun q => absurd rfl q))
      rw [show zgi μ 0 31 = 0 from b]
      refine zp2_ifr (fun q => absurd q (by decide)) (fun _ => zp2_ifr (fun q => absurd q (by decide)) (fun _ => zp2_ifr (fun _ => ?_) (fun q => absurd (by decide) q)))
      refine zp2_bul (P := fun r => r = zsi σ 36 7 y) (zpc_if (fun _ => zpc_ck (zpc_bv (fun s f => zpc_some f))) (fun q => absurd a q)) (fun s f => zp2_ckr (zp2_bvr (fun t g => zp2_some ?_)))
      subst f
      subst g
      exact ⟨h.upd hI [7] (zQ.wi zQ.rf rfl) (zQ.wi zQ.rf rfl) rfl (zAl1 ⟨rfl, zrg_b (Or.inl (by decide)) hv⟩), zQ.wi zQ.rf rfl, zQ.wi zQ.rf rfl⟩
    · refine zp2_ifl (fun q => absurd q (by decide)) (fun _ => zp2_ifl (fun _ => ?_) (fun q => absurd rfl q))
      refine zp2_bul (P := fun r => r = zsi σ 36 16 ((σ.1 36 16 &&& 65280) ||| y)) ?_ (fun s f => ?_)
      · refine zpc_if (fun q => absurd (a.symm.trans q) (by decide)) (fun _ => zpc_if (fun q => absurd q (by decide)) (fun _ => zpc_ck ?_))
        rw [show zgi σ 7 4 = 16 from a]
        exact zpc_ck (zpc_bv (fun s f => zpc_some f))
      rw [show zgi μ 0 31 = 16 from b]
      refine zp2_ifr (fun q => absurd q (by decide)) (fun _ => zp2_ifr (fun q => absurd q (by decide)) (fun _ => zp2_ifr (fun q => absurd q (by decide)) (fun _ => zp2_ifr (fun q => absurd q (by decide)) (fun _ => zp2_ifr (fun q => absurd q (by decide)) (fun _ => zp2_ckr ?_)))))
      refine zp2_ckr (zp2_bvr (fun t g => zp2_some ?_))
      subst f
      subst g
      refine ⟨h.upd hI [16] (zQ.wi zQ.rf rfl) (zQ.wi zQ.rf rfl) rfl (zAl1 ⟨?_, zrg_w (by decide) (by decide) (zr_or (lo := 0) (hi := 65535) 16 (zr_andr (lo := 0) (hi := 65280) (zr_c (lo := 65280) (hi := 65280) (by decide)) (by decide)) hv (by decide))⟩), zQ.wi zQ.rf rfl, zQ.wi zQ.rf rfl⟩
      show (μ.1 3 16 &&& 65280) ||| y = (σ.1 36 16 &&& 65280) ||| y
      rw [h.eq (by decide)]
    · refine zp2_ifl (fun q => absurd q (by decide)) (fun _ => zp2_ifl (fun _ => ?_) (fun q => absurd rfl q))
      refine zp2_bul (P := fun r => r = zsi σ 36 17 ((σ.1 36 17 &&& 65280) ||| y)) ?_ (fun s f => ?_)
      · refine zpc_if (fun q => absurd (a.symm.trans q) (by decide)) (fun _ => zpc_if (fun q => absurd q (by decide)) (fun _ => zpc_ck ?_))
        rw [show zgi σ 7 4 = 17 from a]
        exact zpc_ck (zpc_bv (fun s f => zpc_some f))
      rw [show zgi μ 0 31 = 17 from b]
      refine zp2_ifr (fun q => absurd q (by decide)) (fun _ => zp2_ifr (fun q => absurd q (by decide)) (fun _ => zp2_ifr (fun q => absurd q (by decide)) (fun _ => zp2_ifr (fun q => absurd q (by decide)) (fun _ => zp2_ifr (fun q => absurd q (by decide)) (fun _ => zp2_ckr ?_)))))
      refine zp2_ckr (zp2_bvr (fun t g => zp2_some ?_))
      subst f
      subst g
      refine ⟨h.upd hI [17] (zQ.wi zQ.rf rfl) (zQ.wi zQ.rf rfl) rfl (zAl1 ⟨?_, zrg_w (by decide) (by decide) (zr_or (lo := 0) (hi := 65535) 16 (zr_andr (lo := 0) (hi := 65280) (zr_c (lo := 65280) (hi := 65280) (by decide)) (by decide)) hv (by decide))⟩), zQ.wi zQ.rf rfl, zQ.wi zQ.rf rfl⟩
      show (μ.1 3 17 &&& 65280) ||| y = (σ.1 36 17 &&& 65280) ||| y
      rw [h.eq (by decide)]
  rcases zr_hd (c := 6) hk rfl with e1 | hk
  · subst e1
    refine zp2_ifl (fun q => absurd q (by decide)) (fun _ => zp2_ifl (fun q => absurd q (by decide)) (fun _ => zp2_ifl (fun _ => zp2_ifr (fun _ => ?_) (fun q => absurd rfl q)) (fun q => absurd rfl q)))
    refine zp2_bir (p_m h hp) (fun t w et => ?_)
    cases et
    refine zp2_wr h.1 rfl (z_m255 hv) hv (fun s t hm q1 q2 => zp2_some ⟨h.fin hI [] hm (q1.mono rfl rfl) (q2.mono rfl rfl) rfl zAl0 (h.2.2.1.of (q1.1 7 4 rfl) (q2.1 0 31 rfl)), q1.mono rfl rfl, q2.mono rfl rfl⟩)
  rcases zr_hd (c := 7) hk rfl with e1 | hk
  · subst e1
    refine zp2_ifl (fun q => absurd q (by decide)) (fun _ => zp2_ifl (fun q => absurd q (by decide)) (fun _ => zp2_ifl (fun q => absurd q (by decide)) (fun _ => zp2_ifl (fun _ => zp2_ckl ?_) (fun q => absurd rfl q))))
    refine zp2_ifr (fun q => absurd q (by decide)) (fun _ => zp2_ifr (fun _ => zp2_ckr ?_) (fun q => absurd rfl q))
    refine zp2_bvl (fun s f => zp2_bvr (fun t g => zp2_some ?_))
    subst f
    subst g
    exact ⟨h.upd hI [0] (zQ.wi zQ.rf rfl) (zQ.wi zQ.rf rfl) rfl (zAl1 ⟨rfl, zrg_b (Or.inl (by decide)) hv⟩), zQ.wi zQ.rf rfl, zQ.wi zQ.rf rfl⟩
  exact zr_no9 hk (by decide)
end ZT4
end ZJN2
section ZJN3
/-! ARITHMETIC -/
noncomputable def bc (v : Int32) : Bool := decide (¬ v = 0)
noncomputable def d7 (x : Int32) : Bool := bc (if x &&& 128 = 0 then 0 else 1)
noncomputable def d6 (x : Int32) : Bool := bc (if x = 0 then 1 else 0)
noncomputable def d5 (x : Int32) : Bool := bc (if x &&& 32 = 0 then 0 else 1)
noncomputable def d3 (x : Int32) : Bool := bc (if x &&& 8 = 0 then 0 else 1)
theorem fl_xy {b7 b6 b5 b4 b3 b2 b1 b0 : Bool} {x : Int32} : gxy (zfl b7 b6 b5 b4 b3 b2 b1 b0) x = zfl b7 b6 (d5 x) b4 (d3 x) b2 b1 b0 := by
  unfold gxy
  rw [pt_5, pt_3]
  rfl
theorem fl_by {b7 b6 b5 b4 b3 b2 b1 b0 : Bool} {x : Int32} : gby (zfl b7 b6 b5 b4 b3 b2 b1 b0) x = zfl (d7 x) (d6 x) (d5 x) b4 (d3 x) b2 b1 b0 := by
  unfold gby
  rw [pt_7, pt_6, fl_xy]
  rfl
theorem zfl_r : ∀ b7 b6 b5 b4 b3 b2 b1 b0 : Bool, zr 0 255 (zfl b7 b6 b5 b4 b3 b2 b1 b0) := by
  unfold zr
  decide
section ZFL2
variable {μ σ : zSt} {f b v x : Int32}
theorem p_put' : zpc (fX12_put μ b v) (fun r => r = zsi μ 3 1 (pt (μ.1 3 1) b v)) := by
  have h := p_put (μ := μ) (f := μ.1 3 1) (b := b) (v := v)
  rw [zsi_own] at h
  exact h
theorem p_xy' : zpc (fX12_xy μ x) (fun r => r = zsi μ 3 1 (gxy (μ.1 3 1) x)) := by
  have h := p_xy (μ := μ) (f := μ.1 3 1) (x := x)
  rw [zsi_own] at h
  exact h
theorem p_by' : zpc (fX12_by μ x) (fun r => r = zsi μ 3 1 (gby (μ.1 3 1) x)) := by
  have h := p_by (μ := μ) (f := μ.1 3 1) (x := x)
  rw [zsi_own] at h
  exact h
theorem zpc_j3 {α : Type} {c c2 : Prop} {d : Decidable c} {d2 : Decidable c2} {K : Int32 → Option α} {Q : α → Prop} (h : ∀ v, v = @ite _ c d 1 (@ite _ c2 d2 0 1) → zpc (K v) Q) : zpc (@ite _ c d (K 1) (@ite _ c2 d2 (K 0) (K 1))) Q := by
  by_cases q : c
  · rw [if_pos q]; exact h 1 (if_pos q).symm
  · rw [if_neg q]
    by_cases q2 : c2
    · rw [if_pos q2]; exact h 0 (by rw [if_neg q, if_pos q2])
    · rw [if_neg q2]; exact h 1 (by rw [if_neg q, if_neg q2])
/-! the reference: and, xor, or -/
theorem p_logM {y A : Int32} (hy : y = 4 ∨ ¬ y = 4) : zpc (fX12_does_48 μ y A 0) (fun r => r = zsi (zsi μ 3 0 A) 3 1 (pt (pt (pt (pt (gby (μ.1 3 1) A) 4 (if y = 4 then 1 else 0)) 2 (gev A)) 1 0) 0 0)) := by
  unfold fX12_does_48
  refine zpc_ck (zpc_bv (fun s es => zpc_ck (zpc_bu p_by' (fun t et => ?_))))
  have eA : zgi s 3 (0 : Int32).toNatClampNeg = A := by subst es; rfl
  have eF : s.1 3 1 = μ.1 3 1 := by subst es; rfl
  have es' : s = zsi μ 3 0 A := es
  rw [eA, eF] at et
  subst et
  refine zpc_j (K := fun v => fX12_does_71 (zsi s 3 1 (gby (μ.1 3 1) A)) v 4) (a := 1) (b := 0) (fun v ev => ?_)
  unfold fX12_does_71
  refine zpc_bu p_put (fun t et => ?_)
  subst et
  refine zpc_ck (zpc_bi p_even (fun t w et => ?_))
  cases et
  refine zpc_bu p_put (fun t et => ?_)
  subst et
  refine zpc_bu p_put (fun t et => ?_)
  subst et
  refine zpc_bu p_put (fun t et => zpc_some ?_)
  rw [et, ev]
  have g : zgi (zsi s 3 1 (pt (gby (μ.1 3 1) A) 4 (if y = 4 then 1 else 0))) 3 (0 : Int32).toNatClampNeg = A := eA
  rw [g, es']
end ZFL2
/-! the reference: sums and differences -/
noncomputable def hA (a b c : Int32) : Int32 := if ((a &&& 15) + (b &&& 15)) + c ≤ 15 then 0 else 1
noncomputable def hS (a b c : Int32) : Int32 := if 0 ≤ ((a &&& 15) - (b &&& 15)) - c then 0 else 1
noncomputable def cX (v : Int32) : Int32 := if v < 0 then 1 else if v ≤ 255 then 0 else 1
noncomputable def sg (v : Int32) : Int32 := if 128 ≤ v then v - 256 else v
noncomputable def oX (s : Int32) : Int32 := if s < (-128) then 1 else if s ≤ 127 then 0 else 1
noncomputable def mF (f h c w o n : Int32) : Int32 := pt (pt (gby (pt (pt f 4 h) 0 c) w) 2 o) 1 n
theorem fl_mF {f h c w o n : Int32} (hf : zr 0 255 f) : mF f h c w o n = zfl (d7 w) (d6 w) (d5 w) (bc h) (d3 w) (bc o) (bc n) (bc c) := by
  unfold mF
  rw [fl_of hf, pt_4, pt_0, fl_by, pt_2, pt_1]
  rfl
section ZAR
variable {μ σ : zSt} {a b c y : Int32}
theorem p_addM (h7 : ¬ y = 7) : zpc (fX12_does_154 μ y b a c 1 ((a + b) + c)) (fun r => r = zsi (zsi μ 3 1 (mF (μ.1 3 1) (hA a b c) (cX ((a + b) + c)) (((a + b) + c) &&& 255) (oX ((sg a + sg b) + c)) 0)) 3 0 (((a + b) + c) &&& 255)) := by
  unfold fX12_does_154
  refine zpc_if (fun q => absurd q (by decide)) (fun _ => ?_)
  refine zpc_j (K := fun h => fX12_does_208 μ y b a c 1 ((a + b) + c) h 4) (a := 0) (b := 1) (fun h eh => ?_)
  have eh : h = hA a b c := eh
  unfold fX12_does_208
  refine zpc_bu p_put' (fun t et => ?_)
  subst et
  unfold fX12_does_226
  refine zpc_j3 (K := fun w => fX12_does_231 (zsi μ 3 1 (pt (μ.1 3 1) 4 h)) y b a c 1 ((a + b) + c) w 0) (fun w ew => ?_)
  have ew : w = cX ((a + b) + c) := ew
  unfold fX12_does_231
  refine zpc_bu p_put (fun t et => ?_)
  subst et
  refine zpc_if (fun q => absurd q (by decide)) (fun _ => ?_)
  refine zpc_bi p_signed (fun t u et => ?_)
  cases et
  refine zpc_bi p_signed (fun t u et => ?_)
  cases et
  unfold fX12_does_266
  refine zpc_bu p_by (fun t et => ?_)
  subst et
  unfold fX12_does_294
  refine zpc_j3 (K := fun u => fX12_does_299 (zsi μ 3 1 (gby (pt (pt (μ.1 3 1) 4 h) 0 w) (((a + b) + c) &&& 255))) y b 1 ((a + b) + c) u 2) (fun u eu => ?_)
  have eu : u = oX ((sg a + sg b) + c) := eu
  unfold fX12_does_299
  refine zpc_bu p_put (fun t et => ?_)
  subst et
  refine zpc_if (fun q => absurd q (by decide)) (fun _ => ?_)
  unfold fX12_does_314 fX12_does_343
  refine zpc_bu p_put (fun t et => ?_)
  subst et
  refine zpc_if (fun q => absurd q h7) (fun _ => zpc_ck (zpc_bv (fun t et => zpc_some ?_)))
  rw [et, eh, ew, eu]
  rfl
theorem p_subM (h7 : ¬ y = 7) : zpc (fX12_does_154 μ y b a c 0 ((a - b) - c)) (fun r => r = zsi (zsi μ 3 1 (mF (μ.1 3 1) (hS a b c) (cX ((a - b) - c)) (((a - b) - c) &&& 255) (oX ((sg a - sg b) - c)) 1)) 3 0 (((a - b) - c) &&& 255)) := by
  unfold fX12_does_154
  refine zpc_if (fun _ => ?_) (fun q => absurd rfl q)
  refine zpc_j (K := fun h => fX12_does_208 μ y b a c 0 ((a - b) - c) h 4) (a := 0) (b := 1) (fun h eh => ?_)
  have eh : h = hS a b c := eh
  unfold fX12_does_208
  refine zpc_bu p_put' (fun t et => ?_)
  subst et
  unfold fX12_does_226
  refine zpc_j3 (K := fun w => fX12_does_231 (zsi μ 3 1 (pt (μ.1 3 1) 4 h)) y b a c 0 ((a - b) - c) w 0) (fun w ew => ?_)
  have ew : w = cX ((a - b) - c) := ew
  unfold fX12_does_231
  refine zpc_bu p_put (fun t et => ?_)
  subst et
  refine zpc_if (fun _ => ?_) (fun q => absurd rfl q)
  refine zpc_bi p_signed (fun t u et => ?_)
  cases et
  refine zpc_bi p_signed (fun t u et => ?_)
  cases et
  unfold fX12_does_266
  refine zpc_bu p_by (fun t et => ?_)
  subst et
  unfold fX12_does_294
  refine zpc_j3 (K := fun u => fX12_does_299 (zsi μ 3 1 (gby (pt (pt (μ.1 3 1) 4 h) 0 w) (((a - b) - c) &&& 255))) y b 0 ((a - b) - c) u 2) (fun u eu => ?_)
  have eu : u = oX ((sg a - sg b) - c) := eu
  unfold fX12_does_299
  refine zpc_bu p_put (fun t et => ?_)
  subst et
  refine zpc_if (fun _ => ?_) (fun q => absurd rfl q)
  unfold fX12_does_314 fX12_does_343
  refine zpc_bu p_put (fun t et => ?_)
  subst et
  refine zpc_if (fun q => absurd q h7) (fun _ => zpc_ck (zpc_bv (fun t et => zpc_some ?_)))
  rw [et, eh, ew, eu]
  rfl
theorem p_subM7 (h7 : y = 7) : zpc (fX12_does_154 μ y b a c 0 ((a - b) - c)) (fun r => r = zsi μ 3 1 (gxy (mF (μ.1 3 1) (hS a b c) (cX ((a - b) - c)) (((a - b) - c) &&& 255) (oX ((sg a - sg b) - c)) 1) b)) := by
  unfold fX12_does_154
  refine zpc_if (fun _ => ?_) (fun q => absurd rfl q)
  refine zpc_j (K := fun h => fX12_does_208 μ y b a c 0 ((a - b) - c) h 4) (a := 0) (b := 1) (fun h eh => ?_)
  have eh : h = hS a b c := eh
  unfold fX12_does_208
  refine zpc_bu p_put' (fun t et => ?_)
  subst et
  unfold fX12_does_226
  refine zpc_j3 (K := fun w => fX12_does_231 (zsi μ 3 1 (pt (μ.1 3 1) 4 h)) y b a c 0 ((a - b) - c) w 0) (fun w ew => ?_)
  have ew : w = cX ((a - b) - c) := ew
  unfold fX12_does_231
  refine zpc_bu p_put (fun t et => ?_)
  subst et
  refine zpc_if (fun _ => ?_) (fun q => absurd rfl q)
  refine zpc_bi p_signed (fun t u et => ?_)
  cases et
  refine zpc_bi p_signed (fun t u et => ?_)
  cases et
  unfold fX12_does_266
  refine zpc_bu p_by (fun t et => ?_)
  subst et
  unfold fX12_does_294
  refine zpc_j3 (K := fun u => fX12_does_299 (zsi μ 3 1 (gby (pt (pt (μ.1 3 1) 4 h) 0 w) (((a - b) - c) &&& 255))) y b 0 ((a - b) - c) u 2) (fun u eu => ?_)
  have eu : u = oX ((sg a - sg b) - c) := eu
  unfold fX12_does_299
  refine zpc_bu p_put (fun t et => ?_)
  subst et
  refine zpc_if (fun _ => ?_) (fun q => absurd rfl q)
  unfold fX12_does_314 fX12_does_343
  refine zpc_bu p_put (fun t et => ?_)
  subst et
  refine zpc_if (fun _ => zpc_bu p_xy (fun t et => zpc_some ?_)) (fun q => absurd h7 q)
  rw [et, eh, ew, eu]
  rfl
/-! the class -/
noncomputable def csum (a b c : Int32) : Int32 := ((cby (((a + b) + c) &&& 255) ||| (((a ^^^ b) ^^^ (((a + b) + c) &&& 255)) &&& 16)) ||| (if (((a ^^^ b) ^^^ (-1)) &&& (a ^^^ (((a + b) + c) &&& 255))) &&& 128 = 0 then 0 else 4)) ||| (((a + b) + c) >>> ((8 : Int32) &&& 31))
noncomputable def cdif (a b c : Int32) : Int32 := (((cby (((a - b) - c) &&& 255) ||| (((a ^^^ b) ^^^ (((a - b) - c) &&& 255)) &&& 16)) ||| (if ((a ^^^ b) &&& (a ^^^ (((a - b) - c) &&& 255))) &&& 128 = 0 then 0 else 4)) ||| 2) ||| (if 0 ≤ (a - b) - c then 0 else 1)
theorem p_sumC : zpc (fX5_sum σ a b c) (fun r => r = (zsi σ 36 1 (csum a b c), ((a + b) + c) &&& 255)) := by
  unfold fX5_sum fX5_sum_61 csum
  refine zpc_bv (fun v ev => zpc_bv (fun w ew => zpc_bv (fun u eu => zpc_bi p_byC (fun t x et => ?_))))
  cases et
  subst ev
  subst ew
  subst eu
  refine zpc_if (fun q => zpc_ck (zpc_bv (fun t et => zpc_some ?_))) (fun q => zpc_ck (zpc_bv (fun t et => zpc_some ?_)))
  · rw [et, if_pos q]; rfl
  · rw [et, if_neg q]; rfl
theorem p_difC : zpc (fX5_difference σ a b c) (fun r => r = (zsi σ 36 1 (cdif a b c), ((a - b) - c) &&& 255)) := by
  unfold fX5_difference fX5_difference_59 fX5_difference_72 cdif
  refine zpc_bv (fun v ev => zpc_bv (fun w ew => zpc_bv (fun u eu => zpc_bi p_byC (fun t x et => ?_))))
  cases et
  subst ev
  subst ew
  subst eu
  refine zpc_if (fun q => zpc_if (fun q2 => zpc_ck (zpc_bv (fun t et => zpc_some ?_))) (fun q2 => zpc_ck (zpc_bv (fun t et => zpc_some ?_)))) (fun q => zpc_if (fun q2 => zpc_ck (zpc_bv (fun t et => zpc_some ?_))) (fun q2 => zpc_ck (zpc_bv (fun t et => zpc_some ?_))))
  · rw [et, if_pos q, if_pos q2]; rfl
  · rw [et, if_pos q, if_neg q2]; rfl
  · rw [et, if_neg q, if_pos q2]; rfl
  · rw [et, if_neg q, if_neg q2]; rfl
end ZAR
/-! the same flags -/
theorem z_xad {x y m : Int32} : (x ^^^ y) &&& m = (x &&& m) ^^^ (y &&& m) := by
  refine Int32.toBitVec_inj.1 ?_
  rw [Int32.toBitVec_and, Int32.toBitVec_xor, Int32.toBitVec_xor, Int32.toBitVec_and, Int32.toBitVec_and]
  refine BitVec.eq_of_getLsbD_eq (fun i hi => ?_)
  rw [BitVec.getLsbD_and, BitVec.getLsbD_xor, BitVec.getLsbD_xor, BitVec.getLsbD_and, BitVec.getLsbD_and]
  cases x.toBitVec.getLsbD i <;> cases y.toBitVec.getLsbD i <;> cases m.toBitVec.getLsbD i <;> rfl
theorem z_sm31 (a b c : Int32) : ((a + b) + c) &&& 31 = (((a &&& 31) + (b &&& 31)) + c) &&& 31 := by
  refine Int32.toBitVec_inj.1 ?_
  rw [Int32.toBitVec_and, Int32.toBitVec_and, Int32.toBitVec_add, Int32.toBitVec_add, Int32.toBitVec_add, Int32.toBitVec_add, Int32.toBitVec_and, Int32.toBitVec_and]
  refine BitVec.eq_of_toNat_eq ?_
  rw [BitVec.toNat_and, BitVec.toNat_and, BitVec.toNat_add, BitVec.toNat_add, BitVec.toNat_add, BitVec.toNat_add, BitVec.toNat_and, BitVec.toNat_and]
  rw [show (31 : Int32).toBitVec.toNat = 2 ^ 5 - 1 from rfl, Nat.and_two_pow_sub_one_eq_mod, Nat.and_two_pow_sub_one_eq_mod, Nat.and_two_pow_sub_one_eq_mod, Nat.and_two_pow_sub_one_eq_mod]
  omega
theorem z_dm31 (a b c : Int32) : ((a - b) - c) &&& 31 = (((a &&& 31) - (b &&& 31)) - c) &&& 31 := by
  refine Int32.toBitVec_inj.1 ?_
  rw [Int32.toBitVec_and, Int32.toBitVec_and, Int32.toBitVec_sub, Int32.toBitVec_sub, Int32.toBitVec_sub, Int32.toBitVec_sub, Int32.toBitVec_and, Int32.toBitVec_and]
  refine BitVec.eq_of_toNat_eq ?_
  rw [BitVec.toNat_and, BitVec.toNat_and, BitVec.toNat_sub, BitVec.toNat_sub, BitVec.toNat_sub, BitVec.toNat_sub, BitVec.toNat_and, BitVec.toNat_and]
  rw [show (31 : Int32).toBitVec.toNat = 2 ^ 5 - 1 from rfl, Nat.and_two_pow_sub_one_eq_mod, Nat.and_two_pow_sub_one_eq_mod, Nat.and_two_pow_sub_one_eq_mod, Nat.and_two_pow_sub_one_eq_mod]
  have := a.toBitVec.isLt
  have := b.toBitVec.isLt
  have := c.toBitVec.isLt
  omega
theorem z_r31 (x : Int32) : zr 0 31 (x &&& 31) := zr_andr (lo := 0) (hi := 31) (zr_c (lo := 31) (hi := 31) (by decide)) (by decide)
theorem z_fin32 {x : Int32} (h : zr 0 31 x) : ∃ i : Fin 32, x = Int32.ofNat i.val := by
  obtain ⟨h0, h1⟩ := h
  obtain ⟨i, hi⟩ : ∃ i : Nat, x.toInt = i := ⟨x.toInt.toNat, by omega⟩
  exact ⟨⟨i, by omega⟩, z_ofN hi⟩
theorem z_bit1 {c : Int32} (h : zr 0 1 c) : ∃ i : Fin 2, c = Int32.ofNat i.val := by
  obtain ⟨h0, h1⟩ := h
  obtain ⟨i, hi⟩ : ∃ i : Nat, c.toInt = i := ⟨c.toInt.toNat, by omega⟩
  exact ⟨⟨i, by omega⟩, z_ofN hi⟩
theorem v_hAf : ∀ a : Fin 32, ∀ b : Fin 32, ∀ c : Fin 2, (((Int32.ofNat a.val &&& 16) ^^^ (Int32.ofNat b.val &&& 16)) ^^^ ((((Int32.ofNat a.val + Int32.ofNat b.val) + Int32.ofNat c.val) &&& 31) &&& 16)) = bif bc (hA (Int32.ofNat a.val) (Int32.ofNat b.val) (Int32.ofNat c.val)) then 16 else 0 := by decide +kernel
theorem v_hSf : ∀ a : Fin 32, ∀ b : Fin 32, ∀ c : Fin 2, (((Int32.ofNat a.val &&& 16) ^^^ (Int32.ofNat b.val &&& 16)) ^^^ ((((Int32.ofNat a.val - Int32.ofNat b.val) - Int32.ofNat c.val) &&& 31) &&& 16)) = bif bc (hS (Int32.ofNat a.val) (Int32.ofNat b.val) (Int32.ofNat c.val)) then 16 else 0 := by decide +kernel
theorem z_3116 (x : Int32) : x &&& 16 = (x &&& 31) &&& 16 := by rw [Int32.and_assoc, show (31 : Int32) &&& 16 = 16 by decide]
theorem z_3115 (x : Int32) : x &&& 15 = (x &&& 31) &&& 15 := by rw [Int32.and_assoc, show (31 : Int32) &&& 15 = 15 by decide]
theorem z_25516 (x : Int32) : (x &&& 255) &&& 16 = (x &&& 31) &&& 16 := by rw [Int32.and_assoc, Int32.and_assoc, show (31 : Int32) &&& 16 = 16 by decide, show (255 : Int32) &&& 16 = 16 by decide]
theorem v_hA {a b c : Int32} (hc : zr 0 1 c) : ((a ^^^ b) ^^^ (((a + b) + c) &&& 255)) &&& 16 = bif bc (hA a b c) then 16 else 0 := by
  have e : hA a b c = hA (a &&& 31) (b &&& 31) c := by unfold hA; rw [z_3115 a, z_3115 b]
  rw [e, z_xad, z_xad, z_25516, z_sm31, z_3116 a, z_3116 b]
  obtain ⟨i, ei⟩ := z_fin32 (z_r31 a)
  obtain ⟨j, ej⟩ := z_fin32 (z_r31 b)
  obtain ⟨k, ek⟩ := z_bit1 hc
  rw [ei, ej, ek]
  exact v_hAf i j k
theorem v_hS {a b c : Int32} (hc : zr 0 1 c) : ((a ^^^ b) ^^^ (((a - b) - c) &&& 255)) &&& 16 = bif bc (hS a b c) then 16 else 0 := by
  have e : hS a b c = hS (a &&& 31) (b &&& 31) c := by unfold hS; rw [z_3115 a, z_3115 b]
  rw [e, z_xad, z_xad, z_25516, z_dm31, z_3116 a, z_3116 b]
  obtain ⟨i, ei⟩ := z_fin32 (z_r31 a)
  obtain ⟨j, ej⟩ := z_fin32 (z_r31 b)
  obtain ⟨k, ek⟩ := z_bit1 hc
  rw [ei, ej, ek]
  exact v_hSf i j k
theorem v_b7f : ∀ i : Fin 256, (Int32.ofNat i.val &&& 128 = 0 ∧ Int32.ofNat i.val < 128) ∨ (Int32.ofNat i.val &&& 128 = 128 ∧ ¬ Int32.ofNat i.val < 128) := by decide +kernel
theorem z_b7c {a : Int32} (h : zr 0 255 a) : (a &&& 128 = 0 ∧ a.toInt < 128 ∧ sg a = a) ∨ (a &&& 128 = 128 ∧ 128 ≤ a.toInt ∧ sg a = a - 256) := by
  have c : (128 : Int32).toInt = 128 := rfl
  have g : (a &&& 128 = 0 ∧ a < 128) ∨ (a &&& 128 = 128 ∧ ¬ a < 128) := by
    obtain ⟨i, e⟩ := z_byteF h
    rw [e]
    exact v_b7f i
  rcases g with ⟨x, y⟩ | ⟨x, y⟩
  · have y1 := Int32.lt_iff_toInt_lt.mp y
    exact Or.inl ⟨x, by omega, by unfold sg; rw [if_neg (fun q => by have := Int32.le_iff_toInt_le.mp q; omega)]⟩
  · have y1 := Int32.le_iff_toInt_le.mp (z_nlt y)
    exact Or.inr ⟨x, by omega, by unfold sg; rw [if_pos (z_nlt y)]⟩
theorem z_w8 {v : Int32} {k : Int} (e : v.toInt = k) (h : -256 ≤ k ∧ k ≤ 511) : (v &&& 255).toInt = k % 256 := by
  have e1 : (v &&& 255) = ((v + 256) &&& 255) := by
    refine Int32.toBitVec_inj.1 ?_
    rw [Int32.toBitVec_and, Int32.toBitVec_and, Int32.toBitVec_add]
    refine BitVec.eq_of_toNat_eq ?_
    rw [BitVec.toNat_and, BitVec.toNat_and, BitVec.toNat_add]
    rw [show (255 : Int32).toBitVec.toNat = 2 ^ 8 - 1 from rfl, show (256 : Int32).toBitVec.toNat = 256 from rfl, Nat.and_two_pow_sub_one_eq_mod, Nat.and_two_pow_sub_one_eq_mod]
    omega
  have c : (256 : Int32).toInt = 256 := rfl
  have t : (v + 256).toInt = v.toInt + (256 : Int32).toInt := z_tadd (a := -256) (b := 511) ⟨by omega, by omega⟩ (zr_c (lo := 256) (hi := 256) (x := 256) (by decide)) (by decide)
  rw [e1, z_mask (k := 8) (by omega) rfl (by decide), t, e, c]
  show (k + 256) % 256 = k % 256
  omega
theorem oX_v {s : Int32} {k : Int} (e : s.toInt = k) : ((k < -128 ∨ 127 < k) ∧ oX s = 1) ∨ ((-128 ≤ k ∧ k ≤ 127) ∧ oX s = 0) := by
  have c1 : (-128 : Int32).toInt = -128 := rfl
  have c2 : (127 : Int32).toInt = 127 := rfl
  unfold oX
  by_cases q : s < (-128)
  · have q1 := Int32.lt_iff_toInt_lt.mp q
    exact Or.inl ⟨Or.inl (by omega), by rw [if_pos q]⟩
  · have q1 := Int32.le_iff_toInt_le.mp (z_nlt q)
    rw [if_neg q]
    by_cases r : s ≤ 127
    · have r1 := Int32.le_iff_toInt_le.mp r
      exact Or.inr ⟨⟨by omega, by omega⟩, by rw [if_pos r]⟩
    · have r1 := Int32.lt_iff_toInt_lt.mp (z_nle r)
      exact Or.inl ⟨Or.inr (by omega), by rw [if_neg r]⟩
theorem z_rs {a : Int32} (h : zr 0 255 a) : zr (-128) 127 (sg a) ∧ ((a &&& 128 = 0 ∧ (sg a).toInt = a.toInt ∧ a.toInt < 128) ∨ (a &&& 128 = 128 ∧ (sg a).toInt = a.toInt - 256 ∧ 128 ≤ a.toInt)) := by
  have c : (256 : Int32).toInt = 256 := rfl
  have h0 := h.1
  have h1 := h.2
  rcases z_b7c h with ⟨x, y, z⟩ | ⟨x, y, z⟩
  · rw [z]; exact ⟨⟨by omega, by omega⟩, Or.inl ⟨x, rfl, y⟩⟩
  · have t : (a - 256).toInt = a.toInt - (256 : Int32).toInt := z_tsub h (zr_c (lo := 256) (hi := 256) (by decide)) (by decide)
    rw [z]; exact ⟨⟨by omega, by omega⟩, Or.inr ⟨x, by omega, y⟩⟩
theorem v_oA {a b c : Int32} (ha : zr 0 255 a) (hb : zr 0 255 b) (hc : zr 0 1 c) : (if (((a ^^^ b) ^^^ (-1)) &&& (a ^^^ (((a + b) + c) &&& 255))) &&& 128 = 0 then (0 : Int32) else 4) = bif bc (oX ((sg a + sg b) + c)) then 4 else 0 := by
  have a0 := ha.1
  have a1 := ha.2
  have b0 := hb.1
  have b1 := hb.2
  have c0 := hc.1
  have c1 := hc.2
  have t1 := z_tadd ha hb (by decide)
  have t2 := z_tadd (zr_add (lo := 0) (hi := 510) ha hb (by decide)) hc (by decide)
  have hw := z_w8 (v := (a + b) + c) rfl (by omega)
  obtain ⟨ra, ka⟩ := z_rs ha
  obtain ⟨rb, kb⟩ := z_rs hb
  have u1 := z_tadd ra rb (by decide)
  have u2 := z_tadd (zr_add (lo := -256) (hi := 254) ra rb (by decide)) hc (by decide)
  have ov := oX_v (s := (sg a + sg b) + c) rfl
  obtain ⟨_, kw⟩ := z_rs (z_byte ((a + b) + c))
  have d : (((a ^^^ b) ^^^ (-1)) &&& (a ^^^ (((a + b) + c) &&& 255))) &&& 128 = ((((a &&& 128) ^^^ (b &&& 128)) ^^^ ((-1) &&& 128)) &&& ((a &&& 128) ^^^ ((((a + b) + c) &&& 255) &&& 128))) := by
    rw [Int32.and_assoc, show (a ^^^ (((a + b) + c) &&& 255)) &&& 128 = (a &&& 128) ^^^ ((((a + b) + c) &&& 255) &&& 128) from z_xad]
    have k : ∀ x y : Int32, x &&& ((a &&& 128) ^^^ (y &&& 128)) = (x &&& 128) &&& ((a &&& 128) ^^^ (y &&& 128)) := fun x y => by
      rw [← z_xad, Int32.and_assoc x 128, Int32.and_comm 128, Int32.and_assoc, show (128 : Int32) &&& 128 = 128 by decide]
    rw [k, z_xad, z_xad (x := a) (y := b)]
  rw [d]
  rcases ka with ⟨p1, p2, p3⟩ | ⟨p1, p2, p3⟩ <;> rcases kb with ⟨q1, q2, q3⟩ | ⟨q1, q2, q3⟩ <;> rcases kw with ⟨r1, r2, r3⟩ | ⟨r1, r2, r3⟩ <;> rw [p1, q1, r1] <;> rcases ov with ⟨o1, o2⟩ | ⟨o1, o2⟩ <;> rw [o2] <;> first | decide | (exfalso; omega)
theorem v_oS {a b c : Int32} (ha : zr 0 255 a) (hb : zr 0 255 b) (hc : zr 0 1 c) : (if ((a ^^^ b) &&& (a ^^^ (((a - b) - c) &&& 255))) &&& 128 = 0 then (0 : Int32) else 4) = bif bc (oX ((sg a - sg b) - c)) then 4 else 0 := by
  have a0 := ha.1
  have a1 := ha.2
  have b0 := hb.1
  have b1 := hb.2
  have c0 := hc.1
  have c1 := hc.2
  have t1 := z_tsub ha hb (by decide)
  have t2 := z_tsub (zr_sub (lo := -255) (hi := 255) ha hb (by decide)) hc (by decide)
  have hw := z_w8 (v := (a - b) - c) rfl (by omega)
  obtain ⟨ra, ka⟩ := z_rs ha
  obtain ⟨rb, kb⟩ := z_rs hb
  have u1 := z_tsub ra rb (by decide)
  have u2 := z_tsub (zr_sub (lo := -255) (hi := 255) ra rb (by decide)) hc (by decide)
  have ov := oX_v (s := (sg a - sg b) - c) rfl
  obtain ⟨_, kw⟩ := z_rs (z_byte ((a - b) - c))
  have d : ((a ^^^ b) &&& (a ^^^ (((a - b) - c) &&& 255))) &&& 128 = ((a &&& 128) ^^^ (b &&& 128)) &&& ((a &&& 128) ^^^ ((((a - b) - c) &&& 255) &&& 128)) := by
    rw [Int32.and_assoc, show (a ^^^ (((a - b) - c) &&& 255)) &&& 128 = (a &&& 128) ^^^ ((((a - b) - c) &&& 255) &&& 128) from z_xad]
    have k : ∀ x y : Int32, x &&& ((a &&& 128) ^^^ (y &&& 128)) = (x &&& 128) &&& ((a &&& 128) ^^^ (y &&& 128)) := fun x y => by
      rw [← z_xad, Int32.and_assoc x 128, Int32.and_comm 128, Int32.and_assoc, show (128 : Int32) &&& 128 = 128 by decide]
    rw [k, z_xad]
  rw [d]
  rcases ka with ⟨p1, p2, p3⟩ | ⟨p1, p2, p3⟩ <;> rcases kb with ⟨q1, q2, q3⟩ | ⟨q1, q2, q3⟩ <;> rcases kw with ⟨r1, r2, r3⟩ | ⟨r1, r2, r3⟩ <;> rw [p1, q1, r1] <;> rcases ov with ⟨o1, o2⟩ | ⟨o1, o2⟩ <;> rw [o2] <;> first | decide | (exfalso; omega)
theorem v_cbyf : ∀ i : Fin 256, cby (Int32.ofNat i.val) = zfl (d7 (Int32.ofNat i.val)) (d6 (Int32.ofNat i.val)) (d5 (Int32.ofNat i.val)) false (d3 (Int32.ofNat i.val)) false false false := by decide +kernel
theorem v_cby {w : Int32} (h : zr 0 255 w) : cby w = zfl (d7 w) (d6 w) (d5 w) false (d3 w) false false false := by
  obtain ⟨i, e⟩ := z_byteF h
  rw [e]
  exact v_cbyf i
theorem v_cAf : ∀ i : Fin 512, (Int32.ofNat i.val) >>> ((8 : Int32) &&& 31) = bif bc (cX (Int32.ofNat i.val)) then 1 else 0 := by decide +kernel
theorem v_cS {v : Int32} (h : zr (-256) 255 v) : (if 0 ≤ v then (0 : Int32) else 1) = bif bc (cX v) then 1 else 0 := by
  have c0 : (0 : Int32).toInt = 0 := rfl
  have c1 : (255 : Int32).toInt = 255 := rfl
  have h1 := h.2
  unfold cX
  by_cases q : v < 0
  · have q1 := Int32.lt_iff_toInt_lt.mp q
    rw [if_pos q, if_neg (fun r => by have := Int32.le_iff_toInt_le.mp r; omega)]
    rfl
  · rw [if_neg q, if_pos (z_nlt q), if_pos (Int32.le_iff_toInt_le.mpr (by omega))]
    rfl
theorem v_sumB : ∀ b7 b6 b5 b3 h v c : Bool, zfl b7 b6 b5 h b3 v false c = ((zfl b7 b6 b5 false b3 false false false ||| (bif h then 16 else 0)) ||| (bif v then 4 else 0)) ||| (bif c then 1 else 0) := by decide
theorem v_difB : ∀ b7 b6 b5 b3 h v c : Bool, zfl b7 b6 b5 h b3 v true c = (((zfl b7 b6 b5 false b3 false false false ||| (bif h then 16 else 0)) ||| (bif v then 4 else 0)) ||| 2) ||| (bif c then 1 else 0) := by decide
end ZJN3
section ZJN4
/-! DO WITH A -/
theorem v_sum {a b c : Int32} (ha : zr 0 255 a) (hb : zr 0 255 b) (hc : zr 0 1 c) : zfl (d7 (((a + b) + c) &&& 255)) (d6 (((a + b) + c) &&& 255)) (d5 (((a + b) + c) &&& 255)) (bc (hA a b c)) (d3 (((a + b) + c) &&& 255)) (bc (oX ((sg a + sg b) + c))) false (bc (cX ((a + b) + c))) = csum a b c := by
  have r : zr 0 511 ((a + b) + c) := zr_add (lo := 0) (hi := 511) (zr_add (lo := 0) (hi := 510) ha hb (by decide)) hc (by decide)
  have e8 : ((a + b) + c) >>> ((8 : Int32) &&& 31) = bif bc (cX ((a + b) + c)) then 1 else 0 := by
    obtain ⟨r0, r1⟩ := r
    obtain ⟨i, hi⟩ : ∃ i : Nat, ((a + b) + c).toInt = i := ⟨((a + b) + c).toInt.toNat, by omega⟩
    rw [z_ofN hi]
    exact v_cAf ⟨i, by omega⟩
  unfold csum
  rw [v_sumB, v_hA hc, v_oA ha hb hc, e8, v_cby (z_byte _)]
theorem v_dif {a b c : Int32} (ha : zr 0 255 a) (hb : zr 0 255 b) (hc : zr 0 1 c) : zfl (d7 (((a - b) - c) &&& 255)) (d6 (((a - b) - c) &&& 255)) (d5 (((a - b) - c) &&& 255)) (bc (hS a b c)) (d3 (((a - b) - c) &&& 255)) (bc (oX ((sg a - sg b) - c))) true (bc (cX ((a - b) - c))) = cdif a b c := by
  have r : zr (-256) 255 ((a - b) - c) := zr_sub (lo := -256) (hi := 255) (zr_sub (lo := -255) (hi := 255) ha hb (by decide)) hc (by decide)
  unfold cdif
  rw [v_difB, v_hS hc, v_oS ha hb hc, v_cS r, v_cby (z_byte _)]
theorem v_40 : ∀ i : Fin 256, Int32.ofNat i.val &&& 40 = (bif d5 (Int32.ofNat i.val) then 32 else 0) ||| (bif d3 (Int32.ofNat i.val) then 8 else 0) := by decide +kernel
theorem v_41 : ∀ b7 b6 b5 b4 b3 b2 b1 b0 x y : Bool, ((zfl b7 b6 b5 b4 b3 b2 b1 b0) &&& (-41)) ||| ((bif x then 32 else 0) ||| (bif y then 8 else 0)) = zfl b7 b6 x b4 y b2 b1 b0 := by decide
theorem v_cp {b7 b6 b5 b4 b3 b2 b1 b0 : Bool} {b : Int32} (hb : zr 0 255 b) : ((zfl b7 b6 b5 b4 b3 b2 b1 b0) &&& (-41)) ||| (b &&& 40) = zfl b7 b6 (d5 b) b4 (d3 b) b2 b1 b0 := by
  obtain ⟨i, ei⟩ := z_byteF hb
  subst ei
  rw [v_40 i]
  exact v_41 _ _ _ _ _ _ _ _ _ _
/-- and, or, xor: parity on both sides -/
theorem v_lgf : ∀ i : Fin 256, ∀ h : Bool, zfl (d7 (Int32.ofNat i.val)) (d6 (Int32.ofNat i.val)) (d5 (Int32.ofNat i.val)) h (d3 (Int32.ofNat i.val)) (bc (gev (Int32.ofNat i.val))) false false = (cby (Int32.ofNat i.val) ||| cpar (Int32.ofNat i.val)) ||| (bif h then 16 else 0) := by decide +kernel
theorem v_lg {w : Int32} (hw : zr 0 255 w) (h : Bool) : zfl (d7 w) (d6 w) (d5 w) h (d3 w) (bc (gev w)) false false = (cby w ||| cpar w) ||| (bif h then 16 else 0) := by
  obtain ⟨i, ei⟩ := z_byteF hw
  subst ei
  exact v_lgf i h
theorem v_c0 : ∀ i : Fin 256, ((Int32.ofNat i.val) >>> ((0 : Int32) &&& 31)) &&& 1 = Int32.ofNat i.val &&& 1 := by decide +kernel
theorem z_c0 {f : Int32} (h : zr 0 255 f) : (f >>> ((0 : Int32) &&& 31)) &&& 1 = f &&& 1 := by
  obtain ⟨i, ei⟩ := z_byteF h
  subst ei
  exact v_c0 i
theorem z_r1 (x : Int32) : zr 0 1 (x &&& 1) := zr_andr (lo := 0) (hi := 1) (zr_c (lo := 1) (hi := 1) (by decide)) (by decide)
theorem z_xb {a b : Int32} (ha : zr 0 255 a) (hb : zr 0 255 b) : zr 0 255 (a ^^^ b) := by
  have e : a ^^^ b = (a ^^^ b) &&& 255 := by
    rw [z_xad, z_m255 ha, z_m255 hb]
  rw [e]
  exact z_r8 _
theorem z_ob {a b : Int32} (ha : zr 0 255 a) (hb : zr 0 255 b) : zr 0 255 (a ||| b) := zr_or (lo := 0) (hi := 255) 8 ha hb (by decide)
theorem z_ab {a b : Int32} (hb : zr 0 255 b) : zr 0 255 (a &&& b) := zr_andr (lo := 0) (hi := 255) hb (by decide)
theorem csum_r {a b c : Int32} (ha : zr 0 255 a) (hb : zr 0 255 b) (hc : zr 0 1 c) : zr 0 255 (csum a b c) := by rw [← v_sum ha hb hc]; exact zfl_r _ _ _ _ _ _ _ _
theorem cdif_r {a b c : Int32} (ha : zr 0 255 a) (hb : zr 0 255 b) (hc : zr 0 1 c) : zr 0 255 (cdif a b c) := by rw [← v_dif ha hb hc]; exact zfl_r _ _ _ _ _ _ _ _
section ZDO
variable {I : zSt → zSt → Prop} {σ μ : zSt}
theorem t_do (hI : zIoK I) (h : zTT I σ μ) (hF : zF σ μ) {y b : Int32} (hy : zr 0 7 y) (hb : zr 0 255 b) : zp2 (fX5_doWith σ y b) (fX12_does μ y b) (fun r r' => zTT I r r' ∧ zF r r' ∧ zQ [] [(36, 0, 1)] [] [] σ r ∧ zQ [] [(3, 0, 1)] [] [] μ r') := by
  have ea : μ.1 3 0 = σ.1 36 0 := h.eq (by decide)
  have ef : μ.1 3 1 = σ.1 36 1 := hF
  have ha : zr 0 255 (σ.1 36 0) := h.b (by decide)
  have hf : zr 0 255 (σ.1 36 1) := h.b (by decide)
  have c0 : zr 0 1 (0 : Int32) := zr_c (by decide)
  -- the end: both states given
  have fin : ∀ (A F A' F' : Int32), A' = A → F' = F → zr 0 255 A → zr 0 255 F → ∀ s t, s = zsi (zsi σ 36 1 F) 36 0 A → t = zsi (zsi μ 3 1 F') 3 0 A' → zTT I s t ∧ zF s t ∧ zQ [] [(36, 0, 1)] [] [] σ s ∧ zQ [] [(3, 0, 1)] [] [] μ t := fun A F A' F' e1 e2 r1 r2 s t es et => by
    subst es
    subst et
    subst e1
    subst e2
    exact ⟨h.upd hI [0, 1] (zQ.wi (zQ.wi zQ.rf rfl) rfl) (zQ.wi (zQ.wi zQ.rf rfl) rfl) rfl (zAl2 ⟨rfl, zrg_b (Or.inl (by decide)) r1⟩ ⟨rfl, zrg_b (Or.inl (by decide)) r2⟩), rfl, zQ.wi (zQ.wi zQ.rf rfl) rfl, zQ.wi (zQ.wi zQ.rf rfl) rfl⟩
  unfold fX5_doWith fX12_does fX5_doWith_292
  refine zp2_ckr (zp2_bvr (fun a' ea' => ?_))
  have ea' : a' = σ.1 36 0 := ea'.trans ea
  subst ea'

  rcases zr_hd (c := 0) hy rfl with e | hy
  · subst e
    have m : zpc (fX12_does_101 μ 0 b (σ.1 36 0)) (fun r => r = zsi (zsi μ 3 1 (mF (μ.1 3 1) (hA (σ.1 36 0) b 0) (cX ((σ.1 36 0 + b) + 0)) (((σ.1 36 0 + b) + 0) &&& 255) (oX ((sg (σ.1 36 0) + sg b) + 0)) 0)) 3 0 (((σ.1 36 0 + b) + 0) &&& 255)) := by
      unfold fX12_does_101 fX12_does_111 fX12_does_120 fX12_does_132
      refine zpc_if (fun q => absurd q (by decide)) (fun _ => zpc_if (fun q => absurd q (by decide)) (fun _ => zpc_if (fun q => absurd q (by decide)) (fun _ => zpc_if (fun q => absurd q (by decide)) (fun _ => p_addM (by decide)))))
    have c : zpc (fX5_sum σ (zgi σ 36 (0 : Int32).toNatClampNeg) b 0) (fun r => r = (zsi σ 36 1 (csum (σ.1 36 0) b 0), ((σ.1 36 0 + b) + 0) &&& 255)) := p_sumC
    refine zp2_ifl (fun _ => zp2_ckl (zp2_bil c (fun s1 v1 e1 => ?_))) (fun q => absurd rfl q)
    cases e1
    refine zp2_ifr (fun _ => ?_) (fun q => absurd (by decide) q)
    intro r r' er er'
    have er : some (zsi (zsi σ 36 1 (csum (σ.1 36 0) b 0)) 36 0 (((σ.1 36 0 + b) + 0) &&& 255)) = some r := er
    cases er
    refine fin _ _ _ _ rfl ?_ (z_r8 _) (csum_r ha hb c0) _ _ rfl (m _ er')
    rw [ef, fl_mF hf, ← v_sum ha hb c0]
    rfl
  rcases zr_hd (c := 1) hy rfl with e | hy
  · subst e
    have m : zpc (fX12_does_101 μ 1 b (σ.1 36 0)) (fun r => r = zsi (zsi μ 3 1 (mF (μ.1 3 1) (hA (σ.1 36 0) b (σ.1 36 1 &&& 1)) (cX ((σ.1 36 0 + b) + (σ.1 36 1 &&& 1))) (((σ.1 36 0 + b) + (σ.1 36 1 &&& 1)) &&& 255) (oX ((sg (σ.1 36 0) + sg b) + (σ.1 36 1 &&& 1))) 0)) 3 0 (((σ.1 36 0 + b) + (σ.1 36 1 &&& 1)) &&& 255)) := by
      unfold fX12_does_101 fX12_does_111 fX12_does_120 fX12_does_132
      refine zpc_if (fun _ => zpc_bi p_flag (fun t u et => ?_)) (fun q => absurd rfl q)
      cases et
      refine zpc_if (fun q => absurd q (by decide)) (fun _ => zpc_if (fun q => absurd q (by decide)) (fun _ => ?_))
      rw [ef, z_c0 hf, ← ef]
      have g := p_addM (μ := μ) (a := σ.1 36 0) (b := b) (c := μ.1 3 1 &&& 1) (y := 1) (by decide)
      rw [ef] at g ⊢
      exact g
    have c : zpc (fX5_sum σ (zgi σ 36 (0 : Int32).toNatClampNeg) b ((zgi σ 36 (1 : Int32).toNatClampNeg) &&& 1)) (fun r => r = (zsi σ 36 1 (csum (σ.1 36 0) b (σ.1 36 1 &&& 1)), ((σ.1 36 0 + b) + (σ.1 36 1 &&& 1)) &&& 255)) := p_sumC
    refine zp2_ifl (fun q => absurd q (by decide)) (fun _ => zp2_ifl (fun _ => zp2_ckl (zp2_ckl (zp2_bil c (fun s1 v1 e1 => ?_)))) (fun q => absurd rfl q))
    cases e1
    refine zp2_ifr (fun _ => ?_) (fun q => absurd (by decide) q)
    intro r r' er er'
    have er : some (zsi (zsi σ 36 1 (csum (σ.1 36 0) b (σ.1 36 1 &&& 1))) 36 0 (((σ.1 36 0 + b) + (σ.1 36 1 &&& 1)) &&& 255)) = some r := er
    cases er
    refine fin _ _ _ _ rfl ?_ (z_r8 _) (csum_r ha hb (z_r1 _)) _ _ rfl (m _ er')
    rw [ef, fl_mF hf, ← v_sum ha hb (z_r1 _)]
    rfl
  rcases zr_hd (c := 2) hy rfl with e | hy
  · subst e
    have m : zpc (fX12_does_101 μ 2 b (σ.1 36 0)) (fun r => r = zsi (zsi μ 3 1 (mF (μ.1 3 1) (hS (σ.1 36 0) b 0) (cX ((σ.1 36 0 - b) - 0)) (((σ.1 36 0 - b) - 0) &&& 255) (oX ((sg (σ.1 36 0) - sg b) - 0)) 1)) 3 0 (((σ.1 36 0 - b) - 0) &&& 255)) := by
      unfold fX12_does_101 fX12_does_111 fX12_does_120 fX12_does_132
      refine zpc_if (fun q => absurd q (by decide)) (fun _ => zpc_if (fun q => absurd q (by decide)) (fun _ => zpc_if (fun _ => zpc_if (fun _ => p_subM (by decide)) (fun q => absurd rfl q)) (fun q => absurd (by decide) q)))
    have c : zpc (fX5_difference σ (zgi σ 36 (0 : Int32).toNatClampNeg) b 0) (fun r => r = (zsi σ 36 1 (cdif (σ.1 36 0) b 0), ((σ.1 36 0 - b) - 0) &&& 255)) := p_difC
    refine zp2_ifl (fun q => absurd q (by decide)) (fun _ => zp2_ifl (fun q => absurd q (by decide)) (fun _ => zp2_ifl (fun _ => zp2_ckl (zp2_bil c (fun s1 v1 e1 => ?_))) (fun q => absurd rfl q)))
    cases e1
    refine zp2_ifr (fun _ => ?_) (fun q => absurd (by decide) q)
    intro r r' er er'
    have er : some (zsi (zsi σ 36 1 (cdif (σ.1 36 0) b 0)) 36 0 (((σ.1 36 0 - b) - 0) &&& 255)) = some r := er
    cases er
    refine fin _ _ _ _ rfl ?_ (z_r8 _) (cdif_r ha hb c0) _ _ rfl (m _ er')
    rw [ef, fl_mF hf, ← v_dif ha hb c0]
    rfl
  rcases zr_hd (c := 3) hy rfl with e | hy
  · subst e
    have m : zpc (fX12_does_101 μ 3 b (σ.1 36 0)) (fun r => r = zsi (zsi μ 3 1 (mF (μ.1 3 1) (hS (σ.1 36 0) b (σ.1 36 1 &&& 1)) (cX ((σ.1 36 0 - b) - (σ.1 36 1 &&& 1))) (((σ.1 36 0 - b) - (σ.1 36 1 &&& 1)) &&& 255) (oX ((sg (σ.1 36 0) - sg b) - (σ.1 36 1 &&& 1))) 1)) 3 0 (((σ.1 36 0 - b) - (σ.1 36 1 &&& 1)) &&& 255)) := by
      unfold fX12_does_101 fX12_does_111 fX12_does_120 fX12_does_132
      refine zpc_if (fun q => absurd q (by decide)) (fun _ => zpc_if (fun _ => zpc_bi p_flag (fun t u et => ?_)) (fun q => absurd rfl q))
      cases et
      refine zpc_if (fun _ => zpc_if (fun _ => ?_) (fun q => absurd rfl q)) (fun q => absurd (by decide) q)
      rw [ef, z_c0 hf, ← ef]
      have g := p_subM (μ := μ) (a := σ.1 36 0) (b := b) (c := μ.1 3 1 &&& 1) (y := 3) (by decide)
      rw [ef] at g ⊢
      exact g
    have c : zpc (fX5_difference σ (zgi σ 36 (0 : Int32).toNatClampNeg) b ((zgi σ 36 (1 : Int32).toNatClampNeg) &&& 1)) (fun r => r = (zsi σ 36 1 (cdif (σ.1 36 0) b (σ.1 36 1 &&& 1)), ((σ.1 36 0 - b) - (σ.1 36 1 &&& 1)) &&& 255)) := p_difC
    refine zp2_ifl (fun q => absurd q (by decide)) (fun _ => zp2_ifl (fun q => absurd q (by decide)) (fun _ => zp2_ifl (fun q => absurd q (by decide)) (fun _ => zp2_ifl (fun _ => zp2_ckl (zp2_ckl (zp2_bil c (fun s1 v1 e1 => ?_)))) (fun q => absurd rfl q))))
    cases e1
    refine zp2_ifr (fun _ => ?_) (fun q => absurd (by decide) q)
    intro r r' er er'
    have er : some (zsi (zsi σ 36 1 (cdif (σ.1 36 0) b (σ.1 36 1 &&& 1))) 36 0 (((σ.1 36 0 - b) - (σ.1 36 1 &&& 1)) &&& 255)) = some r := er
    cases er
    refine fin _ _ _ _ rfl ?_ (z_r8 _) (cdif_r ha hb (z_r1 _)) _ _ rfl (m _ er')
    rw [ef, fl_mF hf, ← v_dif ha hb (z_r1 _)]
    rfl
  rcases zr_hd (c := 4) hy rfl with e | hy
  · subst e
    have rA : zr 0 255 (σ.1 36 0 &&& b) := z_ab hb
    refine zp2_ifl (fun q => absurd q (by decide)) (fun _ => zp2_ifl (fun q => absurd q (by decide)) (fun _ => zp2_ifl (fun q => absurd q (by decide)) (fun _ => zp2_ifl (fun q => absurd q (by decide)) (fun _ => zp2_ifl (fun _ => zp2_ckl (zp2_ckl (zp2_bvl (fun s1 f1 => zp2_ckl (zp2_bil p_byC (fun s2 v2 e2 => ?_)))))) (fun q => absurd rfl q)))))
    cases e2
    refine zp2_ckl (zp2_bil p_parC (fun s3 v3 e3 => ?_))
    cases e3
    have g1 : zgi s1 36 (0 : Int32).toNatClampNeg = (σ.1 36 0 &&& b) := by subst f1; rfl
    rw [g1]
    refine zp2_ckl (zp2_bvl (fun s4 f4 => ?_))
    refine zp2_ifr (fun q => absurd q (by decide)) (fun _ => zp2_ifr (fun q => absurd q (by decide)) (fun _ => zp2_ifr (fun _ => ?_) (fun q => absurd rfl q)))
    intro r r' er er'
    cases er
    have em := p_logM (μ := μ) (y := 4) (A := (σ.1 36 0 &&& b)) (Or.inl rfl) _ er'
    have es : s4 = zsi (zsi σ 36 1 ((cby (σ.1 36 0 &&& b) ||| cpar (σ.1 36 0 &&& b)) ||| 16)) 36 0 (σ.1 36 0 &&& b) := by
      rw [f4, f1]
      exact zsi_comm (by decide)
    have em2 : r' = zsi (zsi μ 3 1 (pt (pt (pt (pt (gby (μ.1 3 1) (σ.1 36 0 &&& b)) 4 (if (4 : Int32) = 4 then 1 else 0)) 2 (gev (σ.1 36 0 &&& b))) 1 0) 0 0)) 3 0 (σ.1 36 0 &&& b) := by
      rw [em]
      exact zsi_comm (by decide)
    refine fin _ _ _ _ rfl ?_ rA ?_ _ _ es em2
    · rw [ef, fl_of hf, fl_by, pt_4, pt_2, pt_1, pt_0]
      refine Eq.trans ?_ ((v_lg rA true).trans ?_)
      · rfl
      · rfl
    · rw [show (cby (σ.1 36 0 &&& b) ||| cpar (σ.1 36 0 &&& b)) ||| 16 = (cby (σ.1 36 0 &&& b) ||| cpar (σ.1 36 0 &&& b)) ||| (bif true then 16 else 0) from rfl, ← v_lg rA true]
      exact zfl_r _ _ _ _ _ _ _ _
  rcases zr_hd (c := 5) hy rfl with e | hy
  · subst e
    have rA : zr 0 255 (σ.1 36 0 ^^^ b) := z_xb ha hb
    refine zp2_ifl (fun q => absurd q (by decide)) (fun _ => zp2_ifl (fun q => absurd q (by decide)) (fun _ => zp2_ifl (fun q => absurd q (by decide)) (fun _ => zp2_ifl (fun q => absurd q (by decide)) (fun _ => zp2_ifl (fun q => absurd q (by decide)) (fun _ => zp2_ifl (fun _ => zp2_ckl (zp2_ckl (zp2_bvl (fun s1 f1 => zp2_ckl (zp2_bil p_byC (fun s2 v2 e2 => ?_)))))) (fun q => absurd rfl q))))))
    cases e2
    refine zp2_ckl (zp2_bil p_parC (fun s3 v3 e3 => ?_))
    cases e3
    have g1 : zgi s1 36 (0 : Int32).toNatClampNeg = (σ.1 36 0 ^^^ b) := by subst f1; rfl
    rw [g1]
    refine zp2_ckl (zp2_bvl (fun s4 f4 => ?_))
    refine zp2_ifr (fun q => absurd q (by decide)) (fun _ => zp2_ifr (fun q => absurd q (by decide)) (fun _ => zp2_ifr (fun q => absurd q (by decide)) (fun _ => zp2_ifr (fun _ => ?_) (fun q => absurd rfl q))))
    intro r r' er er'
    cases er
    have em := p_logM (μ := μ) (y := 5) (A := (σ.1 36 0 ^^^ b)) (Or.inr (by decide)) _ er'
    have es : s4 = zsi (zsi σ 36 1 (cby (σ.1 36 0 ^^^ b) ||| cpar (σ.1 36 0 ^^^ b))) 36 0 (σ.1 36 0 ^^^ b) := by
      rw [f4, f1]
      exact zsi_comm (by decide)
    have em2 : r' = zsi (zsi μ 3 1 (pt (pt (pt (pt (gby (μ.1 3 1) (σ.1 36 0 ^^^ b)) 4 (if (5 : Int32) = 4 then 1 else 0)) 2 (gev (σ.1 36 0 ^^^ b))) 1 0) 0 0)) 3 0 (σ.1 36 0 ^^^ b) := by
      rw [em]
      exact zsi_comm (by decide)
    refine fin _ _ _ _ rfl ?_ rA ?_ _ _ es em2
    · rw [ef, fl_of hf, fl_by, pt_4, pt_2, pt_1, pt_0]
      refine Eq.trans ?_ ((v_lg rA false).trans ?_)
      · rfl
      · exact Int32.or_zero
    · rw [show cby (σ.1 36 0 ^^^ b) ||| cpar (σ.1 36 0 ^^^ b) = (cby (σ.1 36 0 ^^^ b) ||| cpar (σ.1 36 0 ^^^ b)) ||| (bif false then 16 else 0) from Int32.or_zero.symm, ← v_lg rA false]
      exact zfl_r _ _ _ _ _ _ _ _
  rcases zr_hd (c := 6) hy rfl with e | hy
  · subst e
    have rA : zr 0 255 (σ.1 36 0 ||| b) := z_ob ha hb
    refine zp2_ifl (fun q => absurd q (by decide)) (fun _ => zp2_ifl (fun q => absurd q (by decide)) (fun _ => zp2_ifl (fun q => absurd q (by decide)) (fun _ => zp2_ifl (fun q => absurd q (by decide)) (fun _ => zp2_ifl (fun q => absurd q (by decide)) (fun _ => zp2_ifl (fun q => absurd q (by decide)) (fun _ => zp2_ifl (fun _ => zp2_ckl (zp2_ckl (zp2_bvl (fun s1 f1 => zp2_ckl (zp2_bil p_byC (fun s2 v2 e2 => ?_)))))) (fun q => absurd rfl q)))))))
    cases e2
    refine zp2_ckl (zp2_bil p_parC (fun s3 v3 e3 => ?_))
    cases e3
    have g1 : zgi s1 36 (0 : Int32).toNatClampNeg = (σ.1 36 0 ||| b) := by subst f1; rfl
    rw [g1]
    refine zp2_ckl (zp2_bvl (fun s4 f4 => ?_))
    refine zp2_ifr (fun q => absurd q (by decide)) (fun _ => zp2_ifr (fun q => absurd q (by decide)) (fun _ => zp2_ifr (fun q => absurd q (by decide)) (fun _ => zp2_ifr (fun q => absurd q (by decide)) (fun _ => ?_))))
    intro r r' er er'
    cases er
    have em := p_logM (μ := μ) (y := 6) (A := (σ.1 36 0 ||| b)) (Or.inr (by decide)) _ er'
    have es : s4 = zsi (zsi σ 36 1 (cby (σ.1 36 0 ||| b) ||| cpar (σ.1 36 0 ||| b))) 36 0 (σ.1 36 0 ||| b) := by
      rw [f4, f1]
      exact zsi_comm (by decide)
    have em2 : r' = zsi (zsi μ 3 1 (pt (pt (pt (pt (gby (μ.1 3 1) (σ.1 36 0 ||| b)) 4 (if (6 : Int32) = 4 then 1 else 0)) 2 (gev (σ.1 36 0 ||| b))) 1 0) 0 0)) 3 0 (σ.1 36 0 ||| b) := by
      rw [em]
      exact zsi_comm (by decide)
    refine fin _ _ _ _ rfl ?_ rA ?_ _ _ es em2
    · rw [ef, fl_of hf, fl_by, pt_4, pt_2, pt_1, pt_0]
      refine Eq.trans ?_ ((v_lg rA false).trans ?_)
      · rfl
      · exact Int32.or_zero
    · rw [show cby (σ.1 36 0 ||| b) ||| cpar (σ.1 36 0 ||| b) = (cby (σ.1 36 0 ||| b) ||| cpar (σ.1 36 0 ||| b)) ||| (bif false then 16 else 0) from Int32.or_zero.symm, ← v_lg rA false]
      exact zfl_r _ _ _ _ _ _ _ _
  rcases zr_hd (c := 7) hy rfl with e | hy
  · subst e
    have m : zpc (fX12_does_101 μ 7 b (σ.1 36 0)) (fun r => r = zsi μ 3 1 (gxy (mF (μ.1 3 1) (hS (σ.1 36 0) b 0) (cX ((σ.1 36 0 - b) - 0)) (((σ.1 36 0 - b) - 0) &&& 255) (oX ((sg (σ.1 36 0) - sg b) - 0)) 1) b)) := by
      unfold fX12_does_101 fX12_does_111 fX12_does_120 fX12_does_132
      refine zpc_if (fun q => absurd q (by decide)) (fun _ => zpc_if (fun q => absurd q (by decide)) (fun _ => zpc_if (fun _ => zpc_if (fun _ => p_subM7 rfl) (fun q => absurd rfl q)) (fun q => absurd (by decide) q)))
    have c : zpc (fX5_difference σ (zgi σ 36 (0 : Int32).toNatClampNeg) b 0) (fun r => r = (zsi σ 36 1 (cdif (σ.1 36 0) b 0), ((σ.1 36 0 - b) - 0) &&& 255)) := p_difC
    refine zp2_ifl (fun q => absurd q (by decide)) (fun _ => zp2_ifl (fun q => absurd q (by decide)) (fun _ => zp2_ifl (fun q => absurd q (by decide)) (fun _ => zp2_ifl (fun q => absurd q (by decide)) (fun _ => zp2_ifl (fun q => absurd q (by decide)) (fun _ => zp2_ifl (fun q => absurd q (by decide)) (fun _ => zp2_ifl (fun q => absurd q (by decide)) (fun _ => zp2_ckl (zp2_bil c (fun s1 v1 e1 => ?_)))))))))
    cases e1
    refine zp2_ifr (fun q => absurd q (by decide)) (fun _ => zp2_ifr (fun _ => ?_) (fun q => absurd (by decide) q))
    intro r r' er er'
    have er : some (zsi (zsi σ 36 1 (cdif (σ.1 36 0) b 0)) 36 1 ((cdif (σ.1 36 0) b 0 &&& (-41)) ||| (b &&& 40))) = some r := er
    have em := m _ er'
    cases er
    rw [em, zsi_ow]
    have e : gxy (mF (μ.1 3 1) (hS (σ.1 36 0) b 0) (cX ((σ.1 36 0 - b) - 0)) (((σ.1 36 0 - b) - 0) &&& 255) (oX ((sg (σ.1 36 0) - sg b) - 0)) 1) b = (cdif (σ.1 36 0) b 0 &&& (-41)) ||| (b &&& 40) := by
      rw [ef, fl_mF hf, fl_xy, ← v_dif ha hb c0, v_cp hb]
      rfl
    rw [e]
    refine ⟨h.upd hI [1] (zQ.wi zQ.rf rfl) (zQ.wi zQ.rf rfl) rfl (zAl1 ⟨rfl, zrg_b (Or.inl (by decide)) ?_⟩), rfl, zQ.wi zQ.rf rfl, zQ.wi zQ.rf rfl⟩
    show zr 0 255 ((cdif (σ.1 36 0) b 0 &&& (-41)) ||| (b &&& 40))
    rw [← v_dif ha hb c0, v_cp hb]
    exact zfl_r _ _ _ _ _ _ _ _
  exact zr_no9 hy (by decide)
end ZDO
end ZJN4
section ZJN5
/-! INC AND DEC -/
/-- the end of an instruction, with its beats -/
noncomputable def zEnq (I : zSt → zSt → Prop) (r r' : zSt × Int32) : Prop := zTT I r.1 r'.1 ∧ zF r.1 r'.1 ∧ zWzz r.1 r'.1 ∧ r'.2 = r.2
section ZID
variable {μ σ : zSt} {v w y f : Int32}
noncomputable def cinc (f w : Int32) : Int32 := (((f &&& 1) ||| cby w) ||| (if w &&& 15 = 0 then 16 else 0)) ||| (if w = 128 then 4 else 0)
noncomputable def minc (f w : Int32) : Int32 := pt (pt (pt (gby f w) 4 (if w &&& 15 = 0 then 1 else 0)) 2 (if w = 128 then 1 else 0)) 1 0
theorem p_incC : zpc (fX5_oneMore σ v) (fun r => r = (zsi σ 36 1 (cinc (σ.1 36 1) ((v + 1) &&& 255)), (v + 1) &&& 255)) := by
  unfold fX5_oneMore fX5_oneMore_39 fX5_oneMore_52 cinc
  refine zpc_bv (fun u eu => zpc_ck (zpc_bi p_byC (fun t x et => ?_)))
  cases et
  subst eu
  refine zpc_if (fun q => zpc_if (fun q2 => zpc_ck (zpc_bv (fun t et => zpc_some ?_))) (fun q2 => zpc_ck (zpc_bv (fun t et => zpc_some ?_)))) (fun q => zpc_if (fun q2 => zpc_ck (zpc_bv (fun t et => zpc_some ?_))) (fun q2 => zpc_ck (zpc_bv (fun t et => zpc_some ?_))))
  · rw [et, if_pos q, if_pos q2]; rfl
  · rw [et, if_pos q, if_neg q2]; rfl
  · rw [et, if_neg q, if_pos q2]; rfl
  · rw [et, if_neg q, if_neg q2]; rfl
theorem p_incM : zpc (fX12_singles_84 (zsi μ 3 1 f) y 4 w 0 (w &&& 15) 4) (fun r => r = (zsi μ 3 1 (pt (pt (pt f 4 (if w &&& 15 = 0 then 1 else 0)) 2 (if w = 128 then 1 else 0)) 1 0), if y = 6 then 11 else 4)) := by
  unfold fX12_singles_84
  refine zpc_j (K := fun h => fX12_singles_92 (zsi μ 3 1 f) y 4 w h 4) (a := 1) (b := 0) (fun h eh => ?_)
  unfold fX12_singles_92
  refine zpc_bu p_put (fun t et => ?_)
  subst et
  refine zpc_if (fun _ => ?_) (fun q => absurd rfl q)
  unfold fX12_singles_111
  refine zpc_j (K := fun g => fX12_singles_119 (zsi μ 3 1 (pt f 4 h)) y 4 g 2) (a := 1) (b := 0) (fun g eg => ?_)
  unfold fX12_singles_119
  refine zpc_bu p_put (fun t et => ?_)
  subst et
  refine zpc_if (fun q => absurd q (by decide)) (fun _ => ?_)
  unfold fX12_singles_134 fX12_singles_149
  refine zpc_bu p_put (fun t et => ?_)
  subst et
  refine zpc_if (fun q => zpc_some ?_) (fun q => zpc_some ?_)
  · rw [if_pos q, eh, eg]
  · rw [if_neg q, eh, eg]
theorem v_incf : ∀ i : Fin 256, ∀ c : Fin 2, zfl (d7 (Int32.ofNat i.val)) (d6 (Int32.ofNat i.val)) (d5 (Int32.ofNat i.val)) (bc (if (Int32.ofNat i.val) &&& 15 = 0 then 1 else 0)) (d3 (Int32.ofNat i.val)) (bc (if Int32.ofNat i.val = 128 then 1 else 0)) false (bc (Int32.ofNat c.val)) = (((Int32.ofNat c.val) ||| cby (Int32.ofNat i.val)) ||| (if (Int32.ofNat i.val) &&& 15 = 0 then 16 else 0)) ||| (if Int32.ofNat i.val = 128 then 4 else 0) := by decide +kernel
theorem v_inc (hf : zr 0 255 f) (hw : zr 0 255 w) : minc f w = cinc f w := by
  have e : minc f w = zfl (d7 w) (d6 w) (d5 w) (bc (if w &&& 15 = 0 then 1 else 0)) (d3 w) (bc (if w = 128 then 1 else 0)) false (bc (f &&& 1)) := by
    unfold minc
    rw [fl_of hf, fl_by, pt_4, pt_2, pt_1, ← fl_of hf]
    rfl
  rw [e]
  unfold cinc
  obtain ⟨c, ec⟩ := z_bit1 (z_r1 f)
  obtain ⟨i, ei⟩ := z_byteF hw
  rw [ec]
  subst ei
  exact v_incf i c
theorem r_inc (hf : zr 0 255 f) (hw : zr 0 255 w) : zr 0 255 (cinc f w) := by
  rw [← v_inc hf hw]
  unfold minc
  rw [fl_of hf, fl_by, pt_4, pt_2, pt_1]
  exact zfl_r _ _ _ _ _ _ _ _
noncomputable def cdec (f w : Int32) : Int32 := ((((f &&& 1) ||| cby w) ||| (if w &&& 15 = 15 then 16 else 0)) ||| (if w = 127 then 4 else 0)) ||| 2
noncomputable def mdec (f w : Int32) : Int32 := pt (pt (pt (gby f w) 4 (if w &&& 15 = 15 then 1 else 0)) 2 (if w = 127 then 1 else 0)) 1 1
theorem p_decC : zpc (fX5_oneLess σ v) (fun r => r = (zsi σ 36 1 (cdec (σ.1 36 1) ((v - 1) &&& 255)), (v - 1) &&& 255)) := by
  unfold fX5_oneLess fX5_oneLess_41 fX5_oneLess_53 cdec
  refine zpc_bv (fun u eu => zpc_ck (zpc_bi p_byC (fun t x et => ?_)))
  cases et
  subst eu
  refine zpc_if (fun q => zpc_if (fun q2 => zpc_ck (zpc_bv (fun t et => zpc_some ?_))) (fun q2 => zpc_ck (zpc_bv (fun t et => zpc_some ?_)))) (fun q => zpc_if (fun q2 => zpc_ck (zpc_bv (fun t et => zpc_some ?_))) (fun q2 => zpc_ck (zpc_bv (fun t et => zpc_some ?_))))
  · rw [et, if_pos q, if_pos q2]; rfl
  · rw [et, if_pos q, if_neg q2]; rfl
  · rw [et, if_neg q, if_pos q2]; rfl
  · rw [et, if_neg q, if_neg q2]; rfl
theorem p_decM : zpc (fX12_singles_84 (zsi μ 3 1 f) y 5 w 15 (w &&& 15) 4) (fun r => r = (zsi μ 3 1 (pt (pt (pt f 4 (if w &&& 15 = 15 then 1 else 0)) 2 (if w = 127 then 1 else 0)) 1 1), if y = 6 then 11 else 4)) := by
  unfold fX12_singles_84
  refine zpc_j (K := fun h => fX12_singles_92 (zsi μ 3 1 f) y 5 w h 4) (a := 1) (b := 0) (fun h eh => ?_)
  unfold fX12_singles_92
  refine zpc_bu p_put (fun t et => ?_)
  subst et
  refine zpc_if (fun q => absurd q (by decide)) (fun _ => ?_)
  unfold fX12_singles_111
  refine zpc_j (K := fun g => fX12_singles_119 (zsi μ 3 1 (pt f 4 h)) y 5 g 2) (a := 1) (b := 0) (fun g eg => ?_)
  unfold fX12_singles_119
  refine zpc_bu p_put (fun t et => ?_)
  subst et
  refine zpc_if (fun _ => ?_) (fun q => absurd rfl q)
  unfold fX12_singles_134 fX12_singles_149
  refine zpc_bu p_put (fun t et => ?_)
  subst et
  refine zpc_if (fun q => zpc_some ?_) (fun q => zpc_some ?_)
  · rw [if_pos q, eh, eg]
  · rw [if_neg q, eh, eg]
theorem v_decf : ∀ i : Fin 256, ∀ c : Fin 2, zfl (d7 (Int32.ofNat i.val)) (d6 (Int32.ofNat i.val)) (d5 (Int32.ofNat i.val)) (bc (if (Int32.ofNat i.val) &&& 15 = 15 then 1 else 0)) (d3 (Int32.ofNat i.val)) (bc (if Int32.ofNat i.val = 127 then 1 else 0)) true (bc (Int32.ofNat c.val)) = ((((Int32.ofNat c.val) ||| cby (Int32.ofNat i.val)) ||| (if (Int32.ofNat i.val) &&& 15 = 15 then 16 else 0)) ||| (if Int32.ofNat i.val = 127 then 4 else 0)) ||| 2 := by decide +kernel
theorem v_dec (hf : zr 0 255 f) (hw : zr 0 255 w) : mdec f w = cdec f w := by
  have e : mdec f w = zfl (d7 w) (d6 w) (d5 w) (bc (if w &&& 15 = 15 then 1 else 0)) (d3 w) (bc (if w = 127 then 1 else 0)) true (bc (f &&& 1)) := by
    unfold mdec
    rw [fl_of hf, fl_by, pt_4, pt_2, pt_1, ← fl_of hf]
    rfl
  rw [e]
  unfold cdec
  obtain ⟨c, ec⟩ := z_bit1 (z_r1 f)
  obtain ⟨i, ei⟩ := z_byteF hw
  rw [ec]
  subst ei
  exact v_decf i c
theorem r_dec (hf : zr 0 255 f) (hw : zr 0 255 w) : zr 0 255 (cdec f w) := by
  rw [← v_dec hf hw]
  unfold mdec
  rw [fl_of hf, fl_by, pt_4, pt_2, pt_1]
  exact zfl_r _ _ _ _ _ _ _ _
end ZID
section ZID2
variable {I : zSt → zSt → Prop} {σ μ : zSt}
theorem t_inc (hI : zIoK I) (h : zTT I σ μ) (hF : zF σ μ) (hW : zWzz σ μ) (hp : zPlc σ μ) {y : Int32} (hy : zr 0 7 y) : zp2 (zbi (fX5_one σ y) (fun s v => zbi (fX5_oneMore s v) (fun s2 w => zbu (fX5_putOne s2 y w) (fun s3 => if y = 6 then fX5_firstQuarter_143 s3 11 else fX5_firstQuarter_143 s3 4)))) (fX12_singles μ y 4) (zEnq I) := by
  have hf : zr 0 255 (σ.1 36 1) := h.b (by decide)
  unfold fX12_singles
  refine zp2_ifr (fun q => absurd q (by decide)) (fun _ => zp2_ifr (fun q => absurd q (by decide)) (fun _ => zp2_bii (t_one h hp hy) (fun s v t v' q => ?_)))
  obtain ⟨q1, q2, q3, q4⟩ := q
  have q1 : s = σ := q1
  have q2 : t = μ := q2
  have q3 : v' = v := q3
  subst q1
  subst q2
  subst q3
  refine zp2_ifr (fun _ => ?_) (fun q => absurd rfl q)
  unfold fX12_singles_50
  refine zp2_bil p_incC (fun s2 w2 e2 => zp2_bvr (fun u eu => ?_))
  cases e2
  have eu : u = (v' + 1) &&& 255 := eu
  subst eu
  have hu : zr 0 255 ((v' + 1) &&& 255) := z_r8 _
  generalize (v' + 1) &&& 255 = u at hu
  refine zp2_buu (t_putOne hI (h.onC hI (Or.inl rfl) (zrg_b (Or.inl (by decide)) (r_inc hf hu))) (hp.of rfl rfl rfl rfl rfl) hy (z_m255 hu) hu) (fun s3 t3 q => ?_)
  obtain ⟨a1, a2, a3⟩ := q
  refine zp2_bur p_by' (fun t4 e4 => ?_)
  subst e4
  refine zp2_ifr (fun _ => ?_) (fun q => absurd rfl q)
  unfold fX5_firstQuarter_143
  have fin : ∀ bts : Int32, zEnq I (s3, bts) (zsi t3 3 1 (minc (t3.1 3 1) u), bts) := fun bts => by
    refine ⟨a1.onM hI (Or.inl rfl), ?_, ?_, rfl⟩
    · show minc (t3.1 3 1) u = s3.1 36 1
      rw [a3.1 3 1 rfl, a2.1 36 1 rfl, show t.1 3 1 = s.1 36 1 from hF, v_inc hf hu]
      rfl
    · show t3.1 3 20 = s3.1 36 20
      rw [a3.1 3 20 rfl, a2.1 36 20 rfl]
      exact hW
  intro r r' er er'
  have em := p_incM (μ := t3) (f := gby (t3.1 3 1) u) (y := y) (w := u) _ er'
  by_cases y6 : y = 6
  · rw [if_pos y6] at er em
    cases er
    rw [em]
    exact fin 11
  · rw [if_neg y6] at er em
    cases er
    rw [em]
    exact fin 4
theorem t_dec (hI : zIoK I) (h : zTT I σ μ) (hF : zF σ μ) (hW : zWzz σ μ) (hp : zPlc σ μ) {y : Int32} (hy : zr 0 7 y) : zp2 (zbi (fX5_one σ y) (fun s v => zbi (fX5_oneLess s v) (fun s2 w => zbu (fX5_putOne s2 y w) (fun s3 => if y = 6 then fX5_firstQuarter_170 s3 11 else fX5_firstQuarter_170 s3 4)))) (fX12_singles μ y 5) (zEnq I) := by
  have hf : zr 0 255 (σ.1 36 1) := h.b (by decide)
  unfold fX12_singles
  refine zp2_ifr (fun q => absurd q (by decide)) (fun _ => zp2_ifr (fun q => absurd q (by decide)) (fun _ => zp2_bii (t_one h hp hy) (fun s v t v' q => ?_)))
  obtain ⟨q1, q2, q3, q4⟩ := q
  have q1 : s = σ := q1
  have q2 : t = μ := q2
  have q3 : v' = v := q3
  subst q1
  subst q2
  subst q3
  refine zp2_ifr (fun q => absurd q (by decide)) (fun _ => ?_)
  unfold fX12_singles_50
  refine zp2_bil p_decC (fun s2 w2 e2 => zp2_bvr (fun u eu => ?_))
  cases e2
  have eu : u = (v' - 1) &&& 255 := by rw [eu, Int32.sub_eq_add_neg]
  subst eu
  have hu : zr 0 255 ((v' - 1) &&& 255) := z_r8 _
  generalize (v' - 1) &&& 255 = u at hu
  refine zp2_buu (t_putOne hI (h.onC hI (Or.inl rfl) (zrg_b (Or.inl (by decide)) (r_dec hf hu))) (hp.of rfl rfl rfl rfl rfl) hy (z_m255 hu) hu) (fun s3 t3 q => ?_)
  obtain ⟨a1, a2, a3⟩ := q
  refine zp2_bur p_by' (fun t4 e4 => ?_)
  subst e4
  refine zp2_ifr (fun q => absurd q (by decide)) (fun _ => ?_)
  unfold fX5_firstQuarter_170
  have fin : ∀ bts : Int32, zEnq I (s3, bts) (zsi t3 3 1 (mdec (t3.1 3 1) u), bts) := fun bts => by
    refine ⟨a1.onM hI (Or.inl rfl), ?_, ?_, rfl⟩
    · show mdec (t3.1 3 1) u = s3.1 36 1
      rw [a3.1 3 1 rfl, a2.1 36 1 rfl, show t.1 3 1 = s.1 36 1 from hF, v_dec hf hu]
      rfl
    · show t3.1 3 20 = s3.1 36 20
      rw [a3.1 3 20 rfl, a2.1 36 20 rfl]
      exact hW
  intro r r' er er'
  have em := p_decM (μ := t3) (f := gby (t3.1 3 1) u) (y := y) (w := u) _ er'
  by_cases y6 : y = 6
  · rw [if_pos y6] at er em
    cases er
    rw [em]
    exact fin 11
  · rw [if_neg y6] at er em
    cases er
    rw [em]
    exact fin 4
end ZID2
/-! TURNING -/
noncomputable def crot (w o : Int32) : Int32 := (cby w ||| cpar w) ||| o
section ZRT
variable {μ σ : zSt} {v : Int32}
theorem p_rotC0 : zpc (fX5_turn σ 0 v) (fun r => r = (zsi σ 36 1 (crot (((v <<< ((1 : Int32) &&& 31)) &&& 255) ||| (v >>> ((7 : Int32) &&& 31))) (v >>> ((7 : Int32) &&& 31))), ((v <<< ((1 : Int32) &&& 31)) &&& 255) ||| (v >>> ((7 : Int32) &&& 31)))) := by
  have f136 : ∀ (g w : Int32), zpc (fX5_turn_136 σ g w) (fun r => r = (zsi σ 36 1 (crot w g), w)) := fun g w => by
    unfold fX5_turn_136 crot
    refine zpc_bi p_byC (fun t x et => ?_)
    cases et
    refine zpc_bi p_parC (fun t x et => ?_)
    cases et
    exact zpc_ck (zpc_bv (fun t et => zpc_some (by rw [et]; rfl)))
  unfold fX5_turn fX5_turn_11 fX5_turn_26 fX5_turn_72 fX5_turn_79 fX5_turn_107 fX5_turn_110
  refine zpc_if (fun _ => zpc_if (fun q => absurd q (by decide)) (fun _ => ?_)) (fun q => absurd (by decide) q)
  exact zpc_if (fun _ => zpc_if (fun q => absurd q (by decide)) (fun _ => f136 _ _)) (fun q => absurd rfl q)
theorem p_rotM0 : zpc (fX12_turned μ 0 v) (fun r => r = (zsi μ 3 1 (pt (μ.1 3 1) 0 (if v >>> ((7 : Int32) &&& 31) = 1 then 1 else 0)), ((v <<< ((1 : Int32) &&& 31)) &&& 255) ||| (v >>> ((7 : Int32) &&& 31)))) := by
  have f74 : ∀ (g c : Int32), zpc (fX12_turned_74 μ v 1 g c) (fun r => r = (zsi μ 3 1 (pt (μ.1 3 1) 0 (if g = 1 then 1 else 0)), ((v <<< ((1 : Int32) &&& 31)) &&& 255) ||| c)) := fun g c => by
    unfold fX12_turned_74
    refine zpc_j (K := fun u => fX12_turned_89 μ v 1 c u 0) (a := 1) (b := 0) (fun u eu => ?_)
    unfold fX12_turned_89 fX12_turned_118
    refine zpc_bu p_put' (fun t et => ?_)
    rw [et, eu]
    exact zpc_if (fun q => absurd q (by decide)) (fun _ => zpc_some rfl)
  unfold fX12_turned fX12_turned_11 fX12_turned_26
  refine zpc_ck (zpc_if (fun _ => zpc_if (fun q => absurd q (by decide)) (fun _ => ?_)) (fun q => absurd (by decide) q))
  exact zpc_if (fun q => absurd q (by decide)) (fun _ => f74 _ _)
theorem p_rotC1 : zpc (fX5_turn σ 1 v) (fun r => r = (zsi σ 36 1 (crot ((v >>> ((1 : Int32) &&& 31)) ||| ((v &&& 1) <<< ((7 : Int32) &&& 31))) (v &&& 1)), (v >>> ((1 : Int32) &&& 31)) ||| ((v &&& 1) <<< ((7 : Int32) &&& 31)))) := by
  have f136 : ∀ (g w : Int32), zpc (fX5_turn_136 σ g w) (fun r => r = (zsi σ 36 1 (crot w g), w)) := fun g w => by
    unfold fX5_turn_136 crot
    refine zpc_bi p_byC (fun t x et => ?_)
    cases et
    refine zpc_bi p_parC (fun t x et => ?_)
    cases et
    exact zpc_ck (zpc_bv (fun t et => zpc_some (by rw [et]; rfl)))
  unfold fX5_turn fX5_turn_11 fX5_turn_26 fX5_turn_72 fX5_turn_79 fX5_turn_107 fX5_turn_110
  refine zpc_if (fun q => absurd q (by decide)) (fun _ => zpc_if (fun _ => ?_) (fun q => absurd rfl q))
  exact zpc_if (fun q => absurd q (by decide)) (fun _ => zpc_if (fun _ => zpc_if (fun _ => f136 _ _) (fun q => absurd rfl q)) (fun q => absurd rfl q))
theorem p_rotM1 : zpc (fX12_turned μ 1 v) (fun r => r = (zsi μ 3 1 (pt (μ.1 3 1) 0 (if v &&& 1 = 1 then 1 else 0)), (v >>> ((1 : Int32) &&& 31)) ||| ((v &&& 1) <<< ((7 : Int32) &&& 31)))) := by
  have f74 : ∀ (g c : Int32), zpc (fX12_turned_74 μ v 0 g c) (fun r => r = (zsi μ 3 1 (pt (μ.1 3 1) 0 (if g = 1 then 1 else 0)), (v >>> ((1 : Int32) &&& 31)) ||| (c <<< ((7 : Int32) &&& 31)))) := fun g c => by
    unfold fX12_turned_74
    refine zpc_j (K := fun u => fX12_turned_89 μ v 0 c u 0) (a := 1) (b := 0) (fun u eu => ?_)
    unfold fX12_turned_89 fX12_turned_118
    refine zpc_bu p_put' (fun t et => ?_)
    rw [et, eu]
    exact zpc_if (fun _ => zpc_some rfl) (fun q => absurd rfl q)
  unfold fX12_turned fX12_turned_11 fX12_turned_26
  refine zpc_ck (zpc_if (fun q => absurd q (by decide)) (fun _ => zpc_if (fun _ => ?_) (fun q => absurd rfl q)))
  exact zpc_if (fun q => absurd q (by decide)) (fun _ => f74 _ _)
theorem p_rotC2 : zpc (fX5_turn σ 2 v) (fun r => r = (zsi σ 36 1 (crot (((v <<< ((1 : Int32) &&& 31)) &&& 255) ||| (σ.1 36 1 &&& 1)) (v >>> ((7 : Int32) &&& 31))), ((v <<< ((1 : Int32) &&& 31)) &&& 255) ||| (σ.1 36 1 &&& 1))) := by
  have f136 : ∀ (g w : Int32), zpc (fX5_turn_136 σ g w) (fun r => r = (zsi σ 36 1 (crot w g), w)) := fun g w => by
    unfold fX5_turn_136 crot
    refine zpc_bi p_byC (fun t x et => ?_)
    cases et
    refine zpc_bi p_parC (fun t x et => ?_)
    cases et
    exact zpc_ck (zpc_bv (fun t et => zpc_some (by rw [et]; rfl)))
  unfold fX5_turn fX5_turn_11 fX5_turn_26 fX5_turn_72 fX5_turn_79 fX5_turn_107 fX5_turn_110
  refine zpc_if (fun _ => zpc_if (fun q => absurd q (by decide)) (fun _ => ?_)) (fun q => absurd (by decide) q)
  exact zpc_if (fun q => absurd q (by decide)) (fun _ => zpc_if (fun q => absurd q (by decide)) (fun _ => zpc_if (fun _ => zpc_ck (zpc_bv (fun u eu => by subst eu; exact zpc_if (fun q => absurd q (by decide)) (fun _ => f136 _ _)))) (fun q => absurd rfl q)))
theorem p_rotM2 : zpc (fX12_turned μ 2 v) (fun r => r = (zsi μ 3 1 (pt (μ.1 3 1) 0 (if v >>> ((7 : Int32) &&& 31) = 1 then 1 else 0)), ((v <<< ((1 : Int32) &&& 31)) &&& 255) ||| ((μ.1 3 1 >>> ((0 : Int32) &&& 31)) &&& 1))) := by
  have f74 : ∀ (g c : Int32), zpc (fX12_turned_74 μ v 1 g c) (fun r => r = (zsi μ 3 1 (pt (μ.1 3 1) 0 (if g = 1 then 1 else 0)), ((v <<< ((1 : Int32) &&& 31)) &&& 255) ||| c)) := fun g c => by
    unfold fX12_turned_74
    refine zpc_j (K := fun u => fX12_turned_89 μ v 1 c u 0) (a := 1) (b := 0) (fun u eu => ?_)
    unfold fX12_turned_89 fX12_turned_118
    refine zpc_bu p_put' (fun t et => ?_)
    rw [et, eu]
    exact zpc_if (fun q => absurd q (by decide)) (fun _ => zpc_some rfl)
  unfold fX12_turned fX12_turned_11 fX12_turned_26
  refine zpc_ck (zpc_if (fun _ => zpc_if (fun q => absurd q (by decide)) (fun _ => ?_)) (fun q => absurd (by decide) q))
  refine zpc_if (fun _ => zpc_if (fun q => absurd q (by decide)) (fun _ => zpc_bi p_flag (fun t u et => ?_))) (fun q => absurd (by decide) q)
  cases et
  exact f74 _ _
theorem p_rotC3 : zpc (fX5_turn σ 3 v) (fun r => r = (zsi σ 36 1 (crot ((v >>> ((1 : Int32) &&& 31)) ||| ((σ.1 36 1 &&& 1) <<< ((7 : Int32) &&& 31))) (v &&& 1)), (v >>> ((1 : Int32) &&& 31)) ||| ((σ.1 36 1 &&& 1) <<< ((7 : Int32) &&& 31)))) := by
  have f136 : ∀ (g w : Int32), zpc (fX5_turn_136 σ g w) (fun r => r = (zsi σ 36 1 (crot w g), w)) := fun g w => by
    unfold fX5_turn_136 crot
    refine zpc_bi p_byC (fun t x et => ?_)
    cases et
    refine zpc_bi p_parC (fun t x et => ?_)
    cases et
    exact zpc_ck (zpc_bv (fun t et => zpc_some (by rw [et]; rfl)))
  unfold fX5_turn fX5_turn_11 fX5_turn_26 fX5_turn_72 fX5_turn_79 fX5_turn_107 fX5_turn_110
  refine zpc_if (fun q => absurd q (by decide)) (fun _ => zpc_if (fun _ => ?_) (fun q => absurd rfl q))
  exact zpc_if (fun q => absurd q (by decide)) (fun _ => zpc_if (fun q => absurd q (by decide)) (fun _ => zpc_if (fun q => absurd q (by decide)) (fun _ => zpc_if (fun _ => zpc_ck (zpc_bv (fun u eu => by subst eu; exact zpc_if (fun _ => f136 _ _) (fun q => absurd rfl q)))) (fun q => absurd rfl q))))
theorem p_rotM3 : zpc (fX12_turned μ 3 v) (fun r => r = (zsi μ 3 1 (pt (μ.1 3 1) 0 (if v &&& 1 = 1 then 1 else 0)), (v >>> ((1 : Int32) &&& 31)) ||| (((μ.1 3 1 >>> ((0 : Int32) &&& 31)) &&& 1) <<< ((7 : Int32) &&& 31)))) := by
  have f74 : ∀ (g c : Int32), zpc (fX12_turned_74 μ v 0 g c) (fun r => r = (zsi μ 3 1 (pt (μ.1 3 1) 0 (if g = 1 then 1 else 0)), (v >>> ((1 : Int32) &&& 31)) ||| (c <<< ((7 : Int32) &&& 31)))) := fun g c => by
    unfold fX12_turned_74
    refine zpc_j (K := fun u => fX12_turned_89 μ v 0 c u 0) (a := 1) (b := 0) (fun u eu => ?_)
    unfold fX12_turned_89 fX12_turned_118
    refine zpc_bu p_put' (fun t et => ?_)
    rw [et, eu]
    exact zpc_if (fun _ => zpc_some rfl) (fun q => absurd rfl q)
  unfold fX12_turned fX12_turned_11 fX12_turned_26
  refine zpc_ck (zpc_if (fun q => absurd q (by decide)) (fun _ => zpc_if (fun _ => ?_) (fun q => absurd rfl q)))
  refine zpc_if (fun _ => zpc_if (fun q => absurd q (by decide)) (fun _ => zpc_bi p_flag (fun t u et => ?_))) (fun q => absurd (by decide) q)
  cases et
  exact f74 _ _
theorem p_rotC4 : zpc (fX5_turn σ 4 v) (fun r => r = (zsi σ 36 1 (crot (((v <<< ((1 : Int32) &&& 31)) &&& 255) ||| 0) (v >>> ((7 : Int32) &&& 31))), ((v <<< ((1 : Int32) &&& 31)) &&& 255) ||| 0)) := by
  have f136 : ∀ (g w : Int32), zpc (fX5_turn_136 σ g w) (fun r => r = (zsi σ 36 1 (crot w g), w)) := fun g w => by
    unfold fX5_turn_136 crot
    refine zpc_bi p_byC (fun t x et => ?_)
    cases et
    refine zpc_bi p_parC (fun t x et => ?_)
    cases et
    exact zpc_ck (zpc_bv (fun t et => zpc_some (by rw [et]; rfl)))
  unfold fX5_turn fX5_turn_11 fX5_turn_26 fX5_turn_72 fX5_turn_79 fX5_turn_107 fX5_turn_110
  refine zpc_if (fun _ => zpc_if (fun q => absurd q (by decide)) (fun _ => ?_)) (fun q => absurd (by decide) q)
  exact zpc_if (fun q => absurd q (by decide)) (fun _ => zpc_if (fun q => absurd q (by decide)) (fun _ => zpc_if (fun q => absurd q (by decide)) (fun _ => zpc_if (fun q => absurd q (by decide)) (fun _ => zpc_if (fun _ => zpc_if (fun q => absurd q (by decide)) (fun _ => f136 _ _)) (fun q => absurd rfl q)))))
theorem p_rotM4 : zpc (fX12_turned μ 4 v) (fun r => r = (zsi μ 3 1 (pt (μ.1 3 1) 0 (if v >>> ((7 : Int32) &&& 31) = 1 then 1 else 0)), ((v <<< ((1 : Int32) &&& 31)) &&& 255) ||| 0)) := by
  have f74 : ∀ (g c : Int32), zpc (fX12_turned_74 μ v 1 g c) (fun r => r = (zsi μ 3 1 (pt (μ.1 3 1) 0 (if g = 1 then 1 else 0)), ((v <<< ((1 : Int32) &&& 31)) &&& 255) ||| c)) := fun g c => by
    unfold fX12_turned_74
    refine zpc_j (K := fun u => fX12_turned_89 μ v 1 c u 0) (a := 1) (b := 0) (fun u eu => ?_)
    unfold fX12_turned_89 fX12_turned_118
    refine zpc_bu p_put' (fun t et => ?_)
    rw [et, eu]
    exact zpc_if (fun q => absurd q (by decide)) (fun _ => zpc_some rfl)
  unfold fX12_turned fX12_turned_11 fX12_turned_26
  refine zpc_ck (zpc_if (fun _ => zpc_if (fun q => absurd q (by decide)) (fun _ => ?_)) (fun q => absurd (by decide) q))
  exact zpc_if (fun _ => zpc_if (fun _ => zpc_if (fun q => absurd q (by decide)) (fun _ => zpc_if (fun q => absurd q (by decide)) (fun _ => f74 _ _))) (fun q => absurd (by decide) q)) (fun q => absurd (by decide) q)
theorem p_rotC5 : zpc (fX5_turn σ 5 v) (fun r => r = (zsi σ 36 1 (crot ((v >>> ((1 : Int32) &&& 31)) ||| ((v >>> ((7 : Int32) &&& 31)) <<< ((7 : Int32) &&& 31))) (v &&& 1)), (v >>> ((1 : Int32) &&& 31)) ||| ((v >>> ((7 : Int32) &&& 31)) <<< ((7 : Int32) &&& 31)))) := by
  have f136 : ∀ (g w : Int32), zpc (fX5_turn_136 σ g w) (fun r => r = (zsi σ 36 1 (crot w g), w)) := fun g w => by
    unfold fX5_turn_136 crot
    refine zpc_bi p_byC (fun t x et => ?_)
    cases et
    refine zpc_bi p_parC (fun t x et => ?_)
    cases et
    exact zpc_ck (zpc_bv (fun t et => zpc_some (by rw [et]; rfl)))
  unfold fX5_turn fX5_turn_11 fX5_turn_26 fX5_turn_72 fX5_turn_79 fX5_turn_107 fX5_turn_110
  refine zpc_if (fun q => absurd q (by decide)) (fun _ => zpc_if (fun _ => ?_) (fun q => absurd rfl q))
  exact zpc_if (fun q => absurd q (by decide)) (fun _ => zpc_if (fun q => absurd q (by decide)) (fun _ => zpc_if (fun q => absurd q (by decide)) (fun _ => zpc_if (fun q => absurd q (by decide)) (fun _ => zpc_if (fun q => absurd q (by decide)) (fun _ => zpc_if (fun _ => zpc_bv (fun u eu => by subst eu; exact zpc_if (fun _ => f136 _ _) (fun q => absurd rfl q))) (fun q => absurd rfl q))))))
theorem p_rotM5 : zpc (fX12_turned μ 5 v) (fun r => r = (zsi μ 3 1 (pt (μ.1 3 1) 0 (if v &&& 1 = 1 then 1 else 0)), (v >>> ((1 : Int32) &&& 31)) ||| ((v >>> ((7 : Int32) &&& 31)) <<< ((7 : Int32) &&& 31)))) := by
  have f74 : ∀ (g c : Int32), zpc (fX12_turned_74 μ v 0 g c) (fun r => r = (zsi μ 3 1 (pt (μ.1 3 1) 0 (if g = 1 then 1 else 0)), (v >>> ((1 : Int32) &&& 31)) ||| (c <<< ((7 : Int32) &&& 31)))) := fun g c => by
    unfold fX12_turned_74
    refine zpc_j (K := fun u => fX12_turned_89 μ v 0 c u 0) (a := 1) (b := 0) (fun u eu => ?_)
    unfold fX12_turned_89 fX12_turned_118
    refine zpc_bu p_put' (fun t et => ?_)
    rw [et, eu]
    exact zpc_if (fun _ => zpc_some rfl) (fun q => absurd rfl q)
  unfold fX12_turned fX12_turned_11 fX12_turned_26
  refine zpc_ck (zpc_if (fun q => absurd q (by decide)) (fun _ => zpc_if (fun _ => ?_) (fun q => absurd rfl q)))
  exact zpc_if (fun _ => zpc_if (fun _ => zpc_if (fun _ => f74 _ _) (fun q => absurd rfl q)) (fun q => absurd (by decide) q)) (fun q => absurd (by decide) q)
theorem p_rotC6 : zpc (fX5_turn σ 6 v) (fun r => r = (zsi σ 36 1 (crot (((v <<< ((1 : Int32) &&& 31)) &&& 255) ||| 1) (v >>> ((7 : Int32) &&& 31))), ((v <<< ((1 : Int32) &&& 31)) &&& 255) ||| 1)) := by
  have f136 : ∀ (g w : Int32), zpc (fX5_turn_136 σ g w) (fun r => r = (zsi σ 36 1 (crot w g), w)) := fun g w => by
    unfold fX5_turn_136 crot
    refine zpc_bi p_byC (fun t x et => ?_)
    cases et
    refine zpc_bi p_parC (fun t x et => ?_)
    cases et
    exact zpc_ck (zpc_bv (fun t et => zpc_some (by rw [et]; rfl)))
  unfold fX5_turn fX5_turn_11 fX5_turn_26 fX5_turn_72 fX5_turn_79 fX5_turn_107 fX5_turn_110
  refine zpc_if (fun _ => zpc_if (fun q => absurd q (by decide)) (fun _ => ?_)) (fun q => absurd (by decide) q)
  exact zpc_if (fun q => absurd q (by decide)) (fun _ => zpc_if (fun q => absurd q (by decide)) (fun _ => zpc_if (fun q => absurd q (by decide)) (fun _ => zpc_if (fun q => absurd q (by decide)) (fun _ => zpc_if (fun q => absurd q (by decide)) (fun _ => zpc_if (fun q => absurd q (by decide)) (fun _ => zpc_if (fun _ => zpc_if (fun q => absurd q (by decide)) (fun _ => f136 _ _)) (fun q => absurd rfl q)))))))
theorem p_rotM6 : zpc (fX12_turned μ 6 v) (fun r => r = (zsi μ 3 1 (pt (μ.1 3 1) 0 (if v >>> ((7 : Int32) &&& 31) = 1 then 1 else 0)), ((v <<< ((1 : Int32) &&& 31)) &&& 255) ||| 1)) := by
  have f74 : ∀ (g c : Int32), zpc (fX12_turned_74 μ v 1 g c) (fun r => r = (zsi μ 3 1 (pt (μ.1 3 1) 0 (if g = 1 then 1 else 0)), ((v <<< ((1 : Int32) &&& 31)) &&& 255) ||| c)) := fun g c => by
    unfold fX12_turned_74
    refine zpc_j (K := fun u => fX12_turned_89 μ v 1 c u 0) (a := 1) (b := 0) (fun u eu => ?_)
    unfold fX12_turned_89 fX12_turned_118
    refine zpc_bu p_put' (fun t et => ?_)
    rw [et, eu]
    exact zpc_if (fun q => absurd q (by decide)) (fun _ => zpc_some rfl)
  unfold fX12_turned fX12_turned_11 fX12_turned_26
  refine zpc_ck (zpc_if (fun _ => zpc_if (fun q => absurd q (by decide)) (fun _ => ?_)) (fun q => absurd (by decide) q))
  exact zpc_if (fun _ => zpc_if (fun _ => zpc_if (fun q => absurd q (by decide)) (fun _ => zpc_if (fun _ => f74 _ _) (fun q => absurd rfl q))) (fun q => absurd (by decide) q)) (fun q => absurd (by decide) q)
theorem p_rotC7 : zpc (fX5_turn σ 7 v) (fun r => r = (zsi σ 36 1 (crot ((v >>> ((1 : Int32) &&& 31)) ||| (0 <<< ((7 : Int32) &&& 31))) (v &&& 1)), (v >>> ((1 : Int32) &&& 31)) ||| (0 <<< ((7 : Int32) &&& 31)))) := by
  have f136 : ∀ (g w : Int32), zpc (fX5_turn_136 σ g w) (fun r => r = (zsi σ 36 1 (crot w g), w)) := fun g w => by
    unfold fX5_turn_136 crot
    refine zpc_bi p_byC (fun t x et => ?_)
    cases et
    refine zpc_bi p_parC (fun t x et => ?_)
    cases et
    exact zpc_ck (zpc_bv (fun t et => zpc_some (by rw [et]; rfl)))
  unfold fX5_turn fX5_turn_11 fX5_turn_26 fX5_turn_72 fX5_turn_79 fX5_turn_107 fX5_turn_110
  refine zpc_if (fun q => absurd q (by decide)) (fun _ => zpc_if (fun _ => ?_) (fun q => absurd rfl q))
  exact zpc_if (fun q => absurd q (by decide)) (fun _ => zpc_if (fun q => absurd q (by decide)) (fun _ => zpc_if (fun q => absurd q (by decide)) (fun _ => zpc_if (fun q => absurd q (by decide)) (fun _ => zpc_if (fun q => absurd q (by decide)) (fun _ => zpc_if (fun q => absurd q (by decide)) (fun _ => zpc_if (fun q => absurd q (by decide)) (fun _ => zpc_if (fun _ => f136 _ _) (fun q => absurd rfl q))))))))
theorem p_rotM7 : zpc (fX12_turned μ 7 v) (fun r => r = (zsi μ 3 1 (pt (μ.1 3 1) 0 (if v &&& 1 = 1 then 1 else 0)), (v >>> ((1 : Int32) &&& 31)) ||| (0 <<< ((7 : Int32) &&& 31)))) := by
  have f74 : ∀ (g c : Int32), zpc (fX12_turned_74 μ v 0 g c) (fun r => r = (zsi μ 3 1 (pt (μ.1 3 1) 0 (if g = 1 then 1 else 0)), (v >>> ((1 : Int32) &&& 31)) ||| (c <<< ((7 : Int32) &&& 31)))) := fun g c => by
    unfold fX12_turned_74
    refine zpc_j (K := fun u => fX12_turned_89 μ v 0 c u 0) (a := 1) (b := 0) (fun u eu => ?_)
    unfold fX12_turned_89 fX12_turned_118
    refine zpc_bu p_put' (fun t et => ?_)
    rw [et, eu]
    exact zpc_if (fun _ => zpc_some rfl) (fun q => absurd rfl q)
  unfold fX12_turned fX12_turned_11 fX12_turned_26
  refine zpc_ck (zpc_if (fun q => absurd q (by decide)) (fun _ => zpc_if (fun _ => ?_) (fun q => absurd rfl q)))
  exact zpc_if (fun _ => zpc_if (fun _ => zpc_if (fun q => absurd q (by decide)) (fun _ => zpc_if (fun q => absurd q (by decide)) (fun _ => f74 _ _))) (fun q => absurd (by decide) q)) (fun q => absurd (by decide) q)
end ZRT
theorem v_rotf0 : ∀ i : Fin 256, ∀ c : Fin 2, (0 ≤ ((((Int32.ofNat i.val) <<< ((1 : Int32) &&& 31)) &&& 255) ||| ((Int32.ofNat i.val) >>> ((7 : Int32) &&& 31))).toInt ∧ ((((Int32.ofNat i.val) <<< ((1 : Int32) &&& 31)) &&& 255) ||| ((Int32.ofNat i.val) >>> ((7 : Int32) &&& 31))).toInt ≤ 255) ∧ (0 ≤ ((Int32.ofNat i.val) >>> ((7 : Int32) &&& 31)).toInt ∧ ((Int32.ofNat i.val) >>> ((7 : Int32) &&& 31)).toInt ≤ 1) := by decide +kernel
theorem v_rotf1 : ∀ i : Fin 256, ∀ c : Fin 2, (0 ≤ (((Int32.ofNat i.val) >>> ((1 : Int32) &&& 31)) ||| (((Int32.ofNat i.val) &&& 1) <<< ((7 : Int32) &&& 31))).toInt ∧ (((Int32.ofNat i.val) >>> ((1 : Int32) &&& 31)) ||| (((Int32.ofNat i.val) &&& 1) <<< ((7 : Int32) &&& 31))).toInt ≤ 255) ∧ (0 ≤ ((Int32.ofNat i.val) &&& 1).toInt ∧ ((Int32.ofNat i.val) &&& 1).toInt ≤ 1) := by decide +kernel
theorem v_rotf2 : ∀ i : Fin 256, ∀ c : Fin 2, (0 ≤ ((((Int32.ofNat i.val) <<< ((1 : Int32) &&& 31)) &&& 255) ||| (Int32.ofNat c.val)).toInt ∧ ((((Int32.ofNat i.val) <<< ((1 : Int32) &&& 31)) &&& 255) ||| (Int32.ofNat c.val)).toInt ≤ 255) ∧ (0 ≤ ((Int32.ofNat i.val) >>> ((7 : Int32) &&& 31)).toInt ∧ ((Int32.ofNat i.val) >>> ((7 : Int32) &&& 31)).toInt ≤ 1) := by decide +kernel
theorem v_rotf3 : ∀ i : Fin 256, ∀ c : Fin 2, (0 ≤ (((Int32.ofNat i.val) >>> ((1 : Int32) &&& 31)) ||| ((Int32.ofNat c.val) <<< ((7 : Int32) &&& 31))).toInt ∧ (((Int32.ofNat i.val) >>> ((1 : Int32) &&& 31)) ||| ((Int32.ofNat c.val) <<< ((7 : Int32) &&& 31))).toInt ≤ 255) ∧ (0 ≤ ((Int32.ofNat i.val) &&& 1).toInt ∧ ((Int32.ofNat i.val) &&& 1).toInt ≤ 1) := by decide +kernel
theorem v_rotf4 : ∀ i : Fin 256, ∀ c : Fin 2, (0 ≤ ((((Int32.ofNat i.val) <<< ((1 : Int32) &&& 31)) &&& 255) ||| 0).toInt ∧ ((((Int32.ofNat i.val) <<< ((1 : Int32) &&& 31)) &&& 255) ||| 0).toInt ≤ 255) ∧ (0 ≤ ((Int32.ofNat i.val) >>> ((7 : Int32) &&& 31)).toInt ∧ ((Int32.ofNat i.val) >>> ((7 : Int32) &&& 31)).toInt ≤ 1) := by decide +kernel
theorem v_rotf5 : ∀ i : Fin 256, ∀ c : Fin 2, (0 ≤ (((Int32.ofNat i.val) >>> ((1 : Int32) &&& 31)) ||| (((Int32.ofNat i.val) >>> ((7 : Int32) &&& 31)) <<< ((7 : Int32) &&& 31))).toInt ∧ (((Int32.ofNat i.val) >>> ((1 : Int32) &&& 31)) ||| (((Int32.ofNat i.val) >>> ((7 : Int32) &&& 31)) <<< ((7 : Int32) &&& 31))).toInt ≤ 255) ∧ (0 ≤ ((Int32.ofNat i.val) &&& 1).toInt ∧ ((Int32.ofNat i.val) &&& 1).toInt ≤ 1) := by decide +kernel
theorem v_rotf6 : ∀ i : Fin 256, ∀ c : Fin 2, (0 ≤ ((((Int32.ofNat i.val) <<< ((1 : Int32) &&& 31)) &&& 255) ||| 1).toInt ∧ ((((Int32.ofNat i.val) <<< ((1 : Int32) &&& 31)) &&& 255) ||| 1).toInt ≤ 255) ∧ (0 ≤ ((Int32.ofNat i.val) >>> ((7 : Int32) &&& 31)).toInt ∧ ((Int32.ofNat i.val) >>> ((7 : Int32) &&& 31)).toInt ≤ 1) := by decide +kernel
theorem v_rotf7 : ∀ i : Fin 256, ∀ c : Fin 2, (0 ≤ (((Int32.ofNat i.val) >>> ((1 : Int32) &&& 31)) ||| (0 <<< ((7 : Int32) &&& 31))).toInt ∧ (((Int32.ofNat i.val) >>> ((1 : Int32) &&& 31)) ||| (0 <<< ((7 : Int32) &&& 31))).toInt ≤ 255) ∧ (0 ≤ ((Int32.ofNat i.val) &&& 1).toInt ∧ ((Int32.ofNat i.val) &&& 1).toInt ≤ 1) := by decide +kernel
theorem v_rtf : ∀ i : Fin 256, ∀ k : Fin 2, zfl (d7 (Int32.ofNat i.val)) (d6 (Int32.ofNat i.val)) (d5 (Int32.ofNat i.val)) false (d3 (Int32.ofNat i.val)) (bc (gev (Int32.ofNat i.val))) false (bc (if Int32.ofNat k.val = 1 then 1 else 0)) = crot (Int32.ofNat i.val) (Int32.ofNat k.val) := by decide +kernel
theorem v_rt {w g : Int32} (hw : zr 0 255 w) (hg : zr 0 1 g) : zfl (d7 w) (d6 w) (d5 w) false (d3 w) (bc (gev w)) false (bc (if g = 1 then 1 else 0)) = crot w g := by
  obtain ⟨i, ei⟩ := z_byteF hw
  obtain ⟨k, ek⟩ := z_bit1 hg
  subst ei
  subst ek
  exact v_rtf i k
theorem v_r41 : ∀ i : Fin 256, ∀ k : Fin 2, crot (Int32.ofNat i.val) (Int32.ofNat k.val) &&& 41 = ((bif d5 (Int32.ofNat i.val) then 32 else 0) ||| (bif d3 (Int32.ofNat i.val) then 8 else 0)) ||| (bif bc (if Int32.ofNat k.val = 1 then 1 else 0) then 1 else 0) := by decide +kernel
theorem v_196 : ∀ i : Fin 256, Int32.ofNat i.val &&& 196 = ((bif decide (¬ Int32.ofNat i.val &&& 128 = 0) then 128 else 0) ||| (bif decide (¬ Int32.ofNat i.val &&& 64 = 0) then 64 else 0)) ||| (bif decide (¬ Int32.ofNat i.val &&& 4 = 0) then 4 else 0) := by decide +kernel
theorem v_acB : ∀ b7 b6 b5 b3 b2 b0 : Bool, zfl b7 b6 b5 false b3 b2 false b0 = (((bif b7 then 128 else 0) ||| (bif b6 then 64 else 0)) ||| (bif b2 then 4 else 0)) ||| (((bif b5 then 32 else 0) ||| (bif b3 then 8 else 0)) ||| (bif b0 then 1 else 0)) := by decide
/-- the flags behind RLCA and its like -/
theorem v_ac {f w g : Int32} (hf : zr 0 255 f) (hw : zr 0 255 w) (hg : zr 0 1 g) : pt (pt (gxy (pt f 0 (if g = 1 then 1 else 0)) w) 4 0) 1 0 = (f &&& 196) ||| (crot w g &&& 41) := by
  have e : pt (pt (gxy (pt f 0 (if g = 1 then 1 else 0)) w) 4 0) 1 0 = zfl (decide (¬ f &&& 128 = 0)) (decide (¬ f &&& 64 = 0)) (d5 w) false (d3 w) (decide (¬ f &&& 4 = 0)) false (bc (if g = 1 then 1 else 0)) := by
    rw [fl_of hf, pt_0, fl_xy, pt_4, pt_1, ← fl_of hf]
    rfl
  rw [e, v_acB]
  obtain ⟨i, ei⟩ := z_byteF hw
  obtain ⟨k, ek⟩ := z_bit1 hg
  obtain ⟨l, el⟩ := z_byteF hf
  subst ei
  subst ek
  subst el
  rw [v_r41 i k, v_196 l]
end ZJN5
section ZJN6
/-! CONDITIONS -/
theorem v_b0 : ∀ i : Fin 256, ((Int32.ofNat i.val) >>> ((0 : Int32) &&& 31)) &&& 1 = if Int32.ofNat i.val &&& 1 = 0 then 0 else 1 := by decide +kernel
theorem z_bt0 {f : Int32} (h : zr 0 255 f) : (f >>> ((0 : Int32) &&& 31)) &&& 1 = if f &&& 1 = 0 then 0 else 1 := by
  obtain ⟨i, ei⟩ := z_byteF h
  subst ei
  exact v_b0 i
theorem v_b2 : ∀ i : Fin 256, ((Int32.ofNat i.val) >>> ((2 : Int32) &&& 31)) &&& 1 = if Int32.ofNat i.val &&& 4 = 0 then 0 else 1 := by decide +kernel
theorem z_bt2 {f : Int32} (h : zr 0 255 f) : (f >>> ((2 : Int32) &&& 31)) &&& 1 = if f &&& 4 = 0 then 0 else 1 := by
  obtain ⟨i, ei⟩ := z_byteF h
  subst ei
  exact v_b2 i
theorem v_b6 : ∀ i : Fin 256, ((Int32.ofNat i.val) >>> ((6 : Int32) &&& 31)) &&& 1 = if Int32.ofNat i.val &&& 64 = 0 then 0 else 1 := by decide +kernel
theorem z_bt6 {f : Int32} (h : zr 0 255 f) : (f >>> ((6 : Int32) &&& 31)) &&& 1 = if f &&& 64 = 0 then 0 else 1 := by
  obtain ⟨i, ei⟩ := z_byteF h
  subst ei
  exact v_b6 i
theorem v_b7 : ∀ i : Fin 256, ((Int32.ofNat i.val) >>> ((7 : Int32) &&& 31)) &&& 1 = if Int32.ofNat i.val &&& 128 = 0 then 0 else 1 := by decide +kernel
theorem z_bt7 {f : Int32} (h : zr 0 255 f) : (f >>> ((7 : Int32) &&& 31)) &&& 1 = if f &&& 128 = 0 then 0 else 1 := by
  obtain ⟨i, ei⟩ := z_byteF h
  subst ei
  exact v_b7 i
section ZCC
variable {I : zSt → zSt → Prop} {σ μ : zSt}
theorem t_cc (hF : zF σ μ) (hf : zr 0 255 (σ.1 36 1)) {y : Int32} (hy : zr 0 7 y) : zp2 (fX5_holds σ y) (fX12_cc μ y) (fun r r' => r.1 = σ ∧ r'.1 = μ ∧ r'.2 = r.2 ∧ zr 0 1 r.2) := by
  have ef : μ.1 3 1 = σ.1 36 1 := hF
  have r0 : zr 0 1 (0 : Int32) := zr_c (by decide)
  have r1 : zr 0 1 (1 : Int32) := zr_c (by decide)
  unfold fX5_holds fX12_cc fX5_holds_24 fX5_holds_36 fX5_holds_44 fX12_cc_32
  rcases zr_hd (c := 0) hy rfl with e | hy
  · subst e
    refine zp2_ckl (zp2_ckl ?_)
    refine zp2_ifr (fun q => absurd q (by decide)) (fun _ => ?_)
    refine zp2_bir p_flag (fun t u et => ?_)
    cases et
    rw [ef, z_bt6 hf]
    unfold fX12_cc_44 fX12_cc_56 fX12_cc_64
    by_cases q : σ.1 36 1 &&& 64 = 0
    · refine zp2_ifl (fun _ => ?_) (fun r => absurd (show σ.1 36 1 &&& 64 = 0 from q) r)
      refine zp2_ifl (fun q => absurd q (by decide)) (fun _ => ?_)
      refine zp2_ifl (fun _ => zp2_ckl ?_) (fun r => absurd rfl r)
      rw [if_pos q]
      refine zp2_ifr (fun q => absurd q (by decide)) (fun _ => zp2_ckr ?_)
      refine zp2_ifr (fun q => absurd q (by decide)) (fun _ => ?_)
      exact zp2_ifr (fun _ => zp2_ckr (zp2_some ⟨rfl, rfl, rfl, r1⟩)) (fun r => absurd rfl r)
    · refine zp2_ifl (fun r => absurd (show σ.1 36 1 &&& 64 = 0 from r) q) (fun _ => ?_)
      refine zp2_ifl (fun q => absurd q (by decide)) (fun _ => ?_)
      refine zp2_ifl (fun q => absurd q (by decide)) (fun _ => zp2_ckl ?_)
      rw [if_neg q]
      refine zp2_ifr (fun _ => zp2_ckr ?_) (fun r => absurd rfl r)
      refine zp2_ifr (fun q => absurd q (by decide)) (fun _ => ?_)
      exact zp2_ifr (fun q => absurd q (by decide)) (fun _ => zp2_ckr (zp2_some ⟨rfl, rfl, rfl, r0⟩))
  rcases zr_hd (c := 1) hy rfl with e | hy
  · subst e
    refine zp2_ckl (zp2_ckl ?_)
    refine zp2_ifr (fun q => absurd q (by decide)) (fun _ => ?_)
    refine zp2_bir p_flag (fun t u et => ?_)
    cases et
    rw [ef, z_bt6 hf]
    unfold fX12_cc_44 fX12_cc_56 fX12_cc_64
    by_cases q : σ.1 36 1 &&& 64 = 0
    · refine zp2_ifl (fun _ => ?_) (fun r => absurd (show σ.1 36 1 &&& 64 = 0 from q) r)
      refine zp2_ifl (fun _ => ?_) (fun r => absurd (by decide) r)
      refine zp2_ifl (fun q => absurd q (by decide)) (fun _ => zp2_ckl ?_)
      rw [if_pos q]
      refine zp2_ifr (fun q => absurd q (by decide)) (fun _ => zp2_ckr ?_)
      refine zp2_ifr (fun _ => ?_) (fun r => absurd (by decide) r)
      exact zp2_ifr (fun q => absurd q (by decide)) (fun _ => zp2_ckr (zp2_some ⟨rfl, rfl, rfl, r0⟩))
    · refine zp2_ifl (fun r => absurd (show σ.1 36 1 &&& 64 = 0 from r) q) (fun _ => ?_)
      refine zp2_ifl (fun _ => ?_) (fun r => absurd (by decide) r)
      refine zp2_ifl (fun _ => zp2_ckl ?_) (fun r => absurd rfl r)
      rw [if_neg q]
      refine zp2_ifr (fun _ => zp2_ckr ?_) (fun r => absurd rfl r)
      refine zp2_ifr (fun _ => ?_) (fun r => absurd (by decide) r)
      exact zp2_ifr (fun _ => zp2_ckr (zp2_some ⟨rfl, rfl, rfl, r1⟩)) (fun r => absurd rfl r)
  rcases zr_hd (c := 2) hy rfl with e | hy
  · subst e
    refine zp2_ckl (zp2_ckl ?_)
    refine zp2_ifr (fun _ => zp2_ifr (fun q => absurd q (by decide)) (fun _ => ?_)) (fun q => absurd (by decide) q)
    refine zp2_bir p_flag (fun t u et => ?_)
    cases et
    rw [ef, z_bt0 hf]
    unfold fX12_cc_44 fX12_cc_56 fX12_cc_64
    by_cases q : σ.1 36 1 &&& 1 = 0
    · refine zp2_ifl (fun _ => ?_) (fun r => absurd (show σ.1 36 1 &&& 1 = 0 from q) r)
      refine zp2_ifl (fun q => absurd q (by decide)) (fun _ => ?_)
      refine zp2_ifl (fun _ => zp2_ckl ?_) (fun r => absurd rfl r)
      rw [if_pos q]
      refine zp2_ifr (fun q => absurd q (by decide)) (fun _ => zp2_ckr ?_)
      refine zp2_ifr (fun q => absurd q (by decide)) (fun _ => ?_)
      exact zp2_ifr (fun _ => zp2_ckr (zp2_some ⟨rfl, rfl, rfl, r1⟩)) (fun r => absurd rfl r)
    · refine zp2_ifl (fun r => absurd (show σ.1 36 1 &&& 1 = 0 from r) q) (fun _ => ?_)
      refine zp2_ifl (fun q => absurd q (by decide)) (fun _ => ?_)
      refine zp2_ifl (fun q => absurd q (by decide)) (fun _ => zp2_ckl ?_)
      rw [if_neg q]
      refine zp2_ifr (fun _ => zp2_ckr ?_) (fun r => absurd rfl r)
      refine zp2_ifr (fun q => absurd q (by decide)) (fun _ => ?_)
      exact zp2_ifr (fun q => absurd q (by decide)) (fun _ => zp2_ckr (zp2_some ⟨rfl, rfl, rfl, r0⟩))
  rcases zr_hd (c := 3) hy rfl with e | hy
  · subst e
    refine zp2_ckl (zp2_ckl ?_)
    refine zp2_ifr (fun _ => zp2_ifr (fun q => absurd q (by decide)) (fun _ => ?_)) (fun q => absurd (by decide) q)
    refine zp2_bir p_flag (fun t u et => ?_)
    cases et
    rw [ef, z_bt0 hf]
    unfold fX12_cc_44 fX12_cc_56 fX12_cc_64
    by_cases q : σ.1 36 1 &&& 1 = 0
    · refine zp2_ifl (fun _ => ?_) (fun r => absurd (show σ.1 36 1 &&& 1 = 0 from q) r)
      refine zp2_ifl (fun _ => ?_) (fun r => absurd (by decide) r)
      refine zp2_ifl (fun q => absurd q (by decide)) (fun _ => zp2_ckl ?_)
      rw [if_pos q]
      refine zp2_ifr (fun q => absurd q (by decide)) (fun _ => zp2_ckr ?_)
      refine zp2_ifr (fun _ => ?_) (fun r => absurd (by decide) r)
      exact zp2_ifr (fun q => absurd q (by decide)) (fun _ => zp2_ckr (zp2_some ⟨rfl, rfl, rfl, r0⟩))
    · refine zp2_ifl (fun r => absurd (show σ.1 36 1 &&& 1 = 0 from r) q) (fun _ => ?_)
      refine zp2_ifl (fun _ => ?_) (fun r => absurd (by decide) r)
      refine zp2_ifl (fun _ => zp2_ckl ?_) (fun r => absurd rfl r)
      rw [if_neg q]
      refine zp2_ifr (fun _ => zp2_ckr ?_) (fun r => absurd rfl r)
      refine zp2_ifr (fun _ => ?_) (fun r => absurd (by decide) r)
      exact zp2_ifr (fun _ => zp2_ckr (zp2_some ⟨rfl, rfl, rfl, r1⟩)) (fun r => absurd rfl r)
  rcases zr_hd (c := 4) hy rfl with e | hy
  · subst e
    refine zp2_ckl (zp2_ckl ?_)
    refine zp2_ifr (fun _ => zp2_ifr (fun _ => zp2_ifr (fun q => absurd q (by decide)) (fun _ => ?_)) (fun q => absurd (by decide) q)) (fun q => absurd (by decide) q)
    refine zp2_bir p_flag (fun t u et => ?_)
    cases et
    rw [ef, z_bt2 hf]
    unfold fX12_cc_44 fX12_cc_56 fX12_cc_64
    by_cases q : σ.1 36 1 &&& 4 = 0
    · refine zp2_ifl (fun _ => ?_) (fun r => absurd (show σ.1 36 1 &&& 4 = 0 from q) r)
      refine zp2_ifl (fun q => absurd q (by decide)) (fun _ => ?_)
      refine zp2_ifl (fun _ => zp2_ckl ?_) (fun r => absurd rfl r)
      rw [if_pos q]
      refine zp2_ifr (fun q => absurd q (by decide)) (fun _ => zp2_ckr ?_)
      refine zp2_ifr (fun q => absurd q (by decide)) (fun _ => ?_)
      exact zp2_ifr (fun _ => zp2_ckr (zp2_some ⟨rfl, rfl, rfl, r1⟩)) (fun r => absurd rfl r)
    · refine zp2_ifl (fun r => absurd (show σ.1 36 1 &&& 4 = 0 from r) q) (fun _ => ?_)
      refine zp2_ifl (fun q => absurd q (by decide)) (fun _ => ?_)
      refine zp2_ifl (fun q => absurd q (by decide)) (fun _ => zp2_ckl ?_)
      rw [if_neg q]
      refine zp2_ifr (fun _ => zp2_ckr ?_) (fun r => absurd rfl r)
      refine zp2_ifr (fun q => absurd q (by decide)) (fun _ => ?_)
      exact zp2_ifr (fun q => absurd q (by decide)) (fun _ => zp2_ckr (zp2_some ⟨rfl, rfl, rfl, r0⟩))
  rcases zr_hd (c := 5) hy rfl with e | hy
  · subst e
    refine zp2_ckl (zp2_ckl ?_)
    refine zp2_ifr (fun _ => zp2_ifr (fun _ => zp2_ifr (fun q => absurd q (by decide)) (fun _ => ?_)) (fun q => absurd (by decide) q)) (fun q => absurd (by decide) q)
    refine zp2_bir p_flag (fun t u et => ?_)
    cases et
    rw [ef, z_bt2 hf]
    unfold fX12_cc_44 fX12_cc_56 fX12_cc_64
    by_cases q : σ.1 36 1 &&& 4 = 0
    · refine zp2_ifl (fun _ => ?_) (fun r => absurd (show σ.1 36 1 &&& 4 = 0 from q) r)
      refine zp2_ifl (fun _ => ?_) (fun r => absurd (by decide) r)
      refine zp2_ifl (fun q => absurd q (by decide)) (fun _ => zp2_ckl ?_)
      rw [if_pos q]
      refine zp2_ifr (fun q => absurd q (by decide)) (fun _ => zp2_ckr ?_)
      refine zp2_ifr (fun _ => ?_) (fun r => absurd (by decide) r)
      exact zp2_ifr (fun q => absurd q (by decide)) (fun _ => zp2_ckr (zp2_some ⟨rfl, rfl, rfl, r0⟩))
    · refine zp2_ifl (fun r => absurd (show σ.1 36 1 &&& 4 = 0 from r) q) (fun _ => ?_)
      refine zp2_ifl (fun _ => ?_) (fun r => absurd (by decide) r)
      refine zp2_ifl (fun _ => zp2_ckl ?_) (fun r => absurd rfl r)
      rw [if_neg q]
      refine zp2_ifr (fun _ => zp2_ckr ?_) (fun r => absurd rfl r)
      refine zp2_ifr (fun _ => ?_) (fun r => absurd (by decide) r)
      exact zp2_ifr (fun _ => zp2_ckr (zp2_some ⟨rfl, rfl, rfl, r1⟩)) (fun r => absurd rfl r)
  rcases zr_hd (c := 6) hy rfl with e | hy
  · subst e
    refine zp2_ckl (zp2_ckl ?_)
    refine zp2_ifr (fun _ => zp2_ifr (fun _ => zp2_ifr (fun _ => ?_) (fun q => absurd (by decide) q)) (fun q => absurd (by decide) q)) (fun q => absurd (by decide) q)
    refine zp2_bir p_flag (fun t u et => ?_)
    cases et
    rw [ef, z_bt7 hf]
    unfold fX12_cc_44 fX12_cc_56 fX12_cc_64
    by_cases q : σ.1 36 1 &&& 128 = 0
    · refine zp2_ifl (fun _ => ?_) (fun r => absurd (show σ.1 36 1 &&& 128 = 0 from q) r)
      refine zp2_ifl (fun q => absurd q (by decide)) (fun _ => ?_)
      refine zp2_ifl (fun _ => zp2_ckl ?_) (fun r => absurd rfl r)
      rw [if_pos q]
      refine zp2_ifr (fun q => absurd q (by decide)) (fun _ => zp2_ckr ?_)
      refine zp2_ifr (fun q => absurd q (by decide)) (fun _ => ?_)
      exact zp2_ifr (fun _ => zp2_ckr (zp2_some ⟨rfl, rfl, rfl, r1⟩)) (fun r => absurd rfl r)
    · refine zp2_ifl (fun r => absurd (show σ.1 36 1 &&& 128 = 0 from r) q) (fun _ => ?_)
      refine zp2_ifl (fun q => absurd q (by decide)) (fun _ => ?_)
      refine zp2_ifl (fun q => absurd q (by decide)) (fun _ => zp2_ckl ?_)
      rw [if_neg q]
      refine zp2_ifr (fun _ => zp2_ckr ?_) (fun r => absurd rfl r)
      refine zp2_ifr (fun q => absurd q (by decide)) (fun _ => ?_)
      exact zp2_ifr (fun q => absurd q (by decide)) (fun _ => zp2_ckr (zp2_some ⟨rfl, rfl, rfl, r0⟩))
  rcases zr_hd (c := 7) hy rfl with e | hy
  · subst e
    refine zp2_ckl (zp2_ckl ?_)
    refine zp2_ifr (fun _ => zp2_ifr (fun _ => zp2_ifr (fun _ => ?_) (fun q => absurd (by decide) q)) (fun q => absurd (by decide) q)) (fun q => absurd (by decide) q)
    refine zp2_bir p_flag (fun t u et => ?_)
    cases et
    rw [ef, z_bt7 hf]
    unfold fX12_cc_44 fX12_cc_56 fX12_cc_64
    by_cases q : σ.1 36 1 &&& 128 = 0
    · refine zp2_ifl (fun _ => ?_) (fun r => absurd (show σ.1 36 1 &&& 128 = 0 from q) r)
      refine zp2_ifl (fun _ => ?_) (fun r => absurd (by decide) r)
      refine zp2_ifl (fun q => absurd q (by decide)) (fun _ => zp2_ckl ?_)
      rw [if_pos q]
      refine zp2_ifr (fun q => absurd q (by decide)) (fun _ => zp2_ckr ?_)
      refine zp2_ifr (fun _ => ?_) (fun r => absurd (by decide) r)
      exact zp2_ifr (fun q => absurd q (by decide)) (fun _ => zp2_ckr (zp2_some ⟨rfl, rfl, rfl, r0⟩))
    · refine zp2_ifl (fun r => absurd (show σ.1 36 1 &&& 128 = 0 from r) q) (fun _ => ?_)
      refine zp2_ifl (fun _ => ?_) (fun r => absurd (by decide) r)
      refine zp2_ifl (fun _ => zp2_ckl ?_) (fun r => absurd rfl r)
      rw [if_neg q]
      refine zp2_ifr (fun _ => zp2_ckr ?_) (fun r => absurd rfl r)
      refine zp2_ifr (fun _ => ?_) (fun r => absurd (by decide) r)
      exact zp2_ifr (fun _ => zp2_ckr (zp2_some ⟨rfl, rfl, rfl, r1⟩)) (fun r => absurd rfl r)
  exact zr_no9 hy (by decide)
end ZCC
end ZJN6
section ZJN7
/-! A ALONE -/
theorem v_p4a : ∀ i : Fin 256, ((Int32.ofNat i.val &&& ((1 <<< ((4 : Int32) &&& 31)) ^^^ (-1))) >>> ((0 : Int32) &&& 31)) &&& 1 = Int32.ofNat i.val &&& 1 := by decide +kernel
theorem v_p4b : ∀ i : Fin 256, ((Int32.ofNat i.val ||| (1 <<< ((4 : Int32) &&& 31))) >>> ((0 : Int32) &&& 31)) &&& 1 = Int32.ofNat i.val &&& 1 := by decide +kernel
section ZAA
variable {I : zSt → zSt → Prop} {σ μ : zSt}
/-- both states given by A and F -/
theorem zEnq_af (hI : zIoK I) (h : zTT I σ μ) (hW : zWzz σ μ) {A F A' F' bts : Int32} {s t : zSt} (qc : zQ [] [(36, 0, 0), (36, 1, 1)] [] [] σ s) (qm : zQ [] [(3, 0, 0), (3, 1, 1)] [] [] μ t) (c0 : s.1 36 0 = A) (c1 : s.1 36 1 = F) (m0 : t.1 3 0 = A') (m1 : t.1 3 1 = F') (e1 : A' = A) (e2 : F' = F) (r1 : zr 0 255 A) (r2 : zr 0 255 F) : zEnq I (s, bts) (t, bts) := by
  refine ⟨h.upd hI [0, 1] qc qm rfl (zAl2 ⟨by rw [m0, c0, e1], by rw [c0]; exact zrg_b (Or.inl (by decide)) r1⟩ ⟨by rw [m1, c1, e2], by rw [c1]; exact zrg_b (Or.inl (by decide)) r2⟩), ?_, ?_, rfl⟩
  · show t.1 3 1 = s.1 36 1
    rw [m1, c1, e2]
  · exact hW.of (qc.1 36 20 rfl) (qm.1 3 20 rfl)

theorem t_acc0 (hI : zIoK I) (h : zTT I σ μ) (hF : zF σ μ) (hW : zWzz σ μ) : zp2 (zbu (fX5_changeA σ 0) (fun s => some (s, (4 : Int32)))) (fX12_singles μ 0 7) (zEnq I) := by
  have ea : μ.1 3 0 = σ.1 36 0 := h.eq (by decide)
  have ef : μ.1 3 1 = σ.1 36 1 := hF
  have ha : zr 0 255 (σ.1 36 0) := h.b (by decide)
  have hf : zr 0 255 (σ.1 36 1) := h.b (by decide)
  have hwo : zr 0 255 (((σ.1 36 0 <<< ((1 : Int32) &&& 31)) &&& 255) ||| (σ.1 36 0 >>> ((7 : Int32) &&& 31))) ∧ zr 0 1 (σ.1 36 0 >>> ((7 : Int32) &&& 31)) := by
    obtain ⟨i, ei⟩ := z_byteF ha
    obtain ⟨k, ek⟩ := z_bit1 (z_r1 (σ.1 36 1))
    rw [ei]
    exact ⟨(v_rotf0 i k).1, (v_rotf0 i k).2⟩
  have cC : zpc (fX5_changeA σ 0) (fun r => r = zsi (zsi (zsi σ 36 1 (crot (((σ.1 36 0 <<< ((1 : Int32) &&& 31)) &&& 255) ||| (σ.1 36 0 >>> ((7 : Int32) &&& 31))) (σ.1 36 0 >>> ((7 : Int32) &&& 31)))) 36 0 (((σ.1 36 0 <<< ((1 : Int32) &&& 31)) &&& 255) ||| (σ.1 36 0 >>> ((7 : Int32) &&& 31)))) 36 1 ((σ.1 36 1 &&& 196) ||| (crot (((σ.1 36 0 <<< ((1 : Int32) &&& 31)) &&& 255) ||| (σ.1 36 0 >>> ((7 : Int32) &&& 31))) (σ.1 36 0 >>> ((7 : Int32) &&& 31)) &&& 41))) := by
    unfold fX5_changeA
    refine zpc_ck (zpc_bv (fun u eu => zpc_ck (zpc_bv (fun u2 eu2 => zpc_if (fun q => absurd q (by decide)) (fun _ => zpc_if (fun q => absurd q (by decide)) (fun _ => zpc_if (fun q => absurd q (by decide)) (fun _ => zpc_if (fun q => absurd q (by decide)) (fun _ => zpc_ck (zpc_bi p_rotC0 (fun t x et => ?_))))))))))
    cases et
    refine zpc_ck (zpc_bv (fun s1 f1 => zpc_ck (zpc_ck (zpc_bv (fun s2 f2 => zpc_some ?_)))))
    subst eu
    rw [f2, f1]
    rfl
  have cM : zpc (fX12_singles μ 0 7) (fun r => r = (zsi (zsi (zsi μ 3 1 (pt (σ.1 36 1) 0 (if σ.1 36 0 >>> ((7 : Int32) &&& 31) = 1 then 1 else 0))) 3 0 (((σ.1 36 0 <<< ((1 : Int32) &&& 31)) &&& 255) ||| (σ.1 36 0 >>> ((7 : Int32) &&& 31)))) 3 1 (pt (pt (gxy (pt (σ.1 36 1) 0 (if σ.1 36 0 >>> ((7 : Int32) &&& 31) = 1 then 1 else 0)) (((σ.1 36 0 <<< ((1 : Int32) &&& 31)) &&& 255) ||| (σ.1 36 0 >>> ((7 : Int32) &&& 31)))) 4 0) 1 0), 4)) := by
    unfold fX12_singles fX12_singles_316
    refine zpc_if (fun q => absurd q (by decide)) (fun _ => zpc_if (fun _ => zpc_if (fun q => absurd q (by decide)) (fun _ => zpc_ck (zpc_bi p_rotM0 (fun t x et => ?_)))) (fun q => absurd (by decide) q))
    cases et
    rw [show zgi μ 3 (0 : Int32).toNatClampNeg = σ.1 36 0 from ea, ef]
    refine zpc_ck (zpc_bv (fun s1 f1 => zpc_ck (zpc_bu p_xy' (fun s2 f2 => ?_))))
    subst f2
    refine zpc_bu p_put (fun s3 f3 => ?_)
    subst f3
    refine zpc_bu p_put (fun s4 f4 => zpc_some ?_)
    rw [f4, f1]
    rfl
  refine zp2_bul cC (fun s es => ?_)
  intro r r' er er'
  cases er
  rw [cM r' er']
  refine zEnq_af hI h hW (by rw [es]; exact zQ.wi (zQ.wi (zQ.wi zQ.rf rfl) rfl) rfl) (zQ.wi (zQ.wi (zQ.wi zQ.rf rfl) rfl) rfl) (by rw [es]; rfl) (by rw [es]; rfl) rfl rfl rfl (v_ac hf hwo.1 hwo.2) hwo.1 ?_
  rw [← v_ac hf hwo.1 hwo.2, fl_of hf, pt_0, fl_xy, pt_4, pt_1]
  exact zfl_r _ _ _ _ _ _ _ _
theorem t_acc1 (hI : zIoK I) (h : zTT I σ μ) (hF : zF σ μ) (hW : zWzz σ μ) : zp2 (zbu (fX5_changeA σ 1) (fun s => some (s, (4 : Int32)))) (fX12_singles μ 1 7) (zEnq I) := by
  have ea : μ.1 3 0 = σ.1 36 0 := h.eq (by decide)
  have ef : μ.1 3 1 = σ.1 36 1 := hF
  have ha : zr 0 255 (σ.1 36 0) := h.b (by decide)
  have hf : zr 0 255 (σ.1 36 1) := h.b (by decide)
  have hwo : zr 0 255 ((σ.1 36 0 >>> ((1 : Int32) &&& 31)) ||| ((σ.1 36 0 &&& 1) <<< ((7 : Int32) &&& 31))) ∧ zr 0 1 (σ.1 36 0 &&& 1) := by
    obtain ⟨i, ei⟩ := z_byteF ha
    obtain ⟨k, ek⟩ := z_bit1 (z_r1 (σ.1 36 1))
    rw [ei]
    exact ⟨(v_rotf1 i k).1, (v_rotf1 i k).2⟩
  have cC : zpc (fX5_changeA σ 1) (fun r => r = zsi (zsi (zsi σ 36 1 (crot ((σ.1 36 0 >>> ((1 : Int32) &&& 31)) ||| ((σ.1 36 0 &&& 1) <<< ((7 : Int32) &&& 31))) (σ.1 36 0 &&& 1))) 36 0 ((σ.1 36 0 >>> ((1 : Int32) &&& 31)) ||| ((σ.1 36 0 &&& 1) <<< ((7 : Int32) &&& 31)))) 36 1 ((σ.1 36 1 &&& 196) ||| (crot ((σ.1 36 0 >>> ((1 : Int32) &&& 31)) ||| ((σ.1 36 0 &&& 1) <<< ((7 : Int32) &&& 31))) (σ.1 36 0 &&& 1) &&& 41))) := by
    unfold fX5_changeA
    refine zpc_ck (zpc_bv (fun u eu => zpc_ck (zpc_bv (fun u2 eu2 => zpc_if (fun q => absurd q (by decide)) (fun _ => zpc_if (fun q => absurd q (by decide)) (fun _ => zpc_if (fun q => absurd q (by decide)) (fun _ => zpc_if (fun q => absurd q (by decide)) (fun _ => zpc_ck (zpc_bi p_rotC1 (fun t x et => ?_))))))))))
    cases et
    refine zpc_ck (zpc_bv (fun s1 f1 => zpc_ck (zpc_ck (zpc_bv (fun s2 f2 => zpc_some ?_)))))
    subst eu
    rw [f2, f1]
    rfl
  have cM : zpc (fX12_singles μ 1 7) (fun r => r = (zsi (zsi (zsi μ 3 1 (pt (σ.1 36 1) 0 (if σ.1 36 0 &&& 1 = 1 then 1 else 0))) 3 0 ((σ.1 36 0 >>> ((1 : Int32) &&& 31)) ||| ((σ.1 36 0 &&& 1) <<< ((7 : Int32) &&& 31)))) 3 1 (pt (pt (gxy (pt (σ.1 36 1) 0 (if σ.1 36 0 &&& 1 = 1 then 1 else 0)) ((σ.1 36 0 >>> ((1 : Int32) &&& 31)) ||| ((σ.1 36 0 &&& 1) <<< ((7 : Int32) &&& 31)))) 4 0) 1 0), 4)) := by
    unfold fX12_singles fX12_singles_316
    refine zpc_if (fun q => absurd q (by decide)) (fun _ => zpc_if (fun _ => zpc_if (fun q => absurd q (by decide)) (fun _ => zpc_ck (zpc_bi p_rotM1 (fun t x et => ?_)))) (fun q => absurd (by decide) q))
    cases et
    rw [show zgi μ 3 (0 : Int32).toNatClampNeg = σ.1 36 0 from ea, ef]
    refine zpc_ck (zpc_bv (fun s1 f1 => zpc_ck (zpc_bu p_xy' (fun s2 f2 => ?_))))
    subst f2
    refine zpc_bu p_put (fun s3 f3 => ?_)
    subst f3
    refine zpc_bu p_put (fun s4 f4 => zpc_some ?_)
    rw [f4, f1]
    rfl
  refine zp2_bul cC (fun s es => ?_)
  intro r r' er er'
  cases er
  rw [cM r' er']
  refine zEnq_af hI h hW (by rw [es]; exact zQ.wi (zQ.wi (zQ.wi zQ.rf rfl) rfl) rfl) (zQ.wi (zQ.wi (zQ.wi zQ.rf rfl) rfl) rfl) (by rw [es]; rfl) (by rw [es]; rfl) rfl rfl rfl (v_ac hf hwo.1 hwo.2) hwo.1 ?_
  rw [← v_ac hf hwo.1 hwo.2, fl_of hf, pt_0, fl_xy, pt_4, pt_1]
  exact zfl_r _ _ _ _ _ _ _ _
theorem t_acc2 (hI : zIoK I) (h : zTT I σ μ) (hF : zF σ μ) (hW : zWzz σ μ) : zp2 (zbu (fX5_changeA σ 2) (fun s => some (s, (4 : Int32)))) (fX12_singles μ 2 7) (zEnq I) := by
  have ea : μ.1 3 0 = σ.1 36 0 := h.eq (by decide)
  have ef : μ.1 3 1 = σ.1 36 1 := hF
  have ha : zr 0 255 (σ.1 36 0) := h.b (by decide)
  have hf : zr 0 255 (σ.1 36 1) := h.b (by decide)
  have hwo : zr 0 255 (((σ.1 36 0 <<< ((1 : Int32) &&& 31)) &&& 255) ||| (σ.1 36 1 &&& 1)) ∧ zr 0 1 (σ.1 36 0 >>> ((7 : Int32) &&& 31)) := by
    obtain ⟨i, ei⟩ := z_byteF ha
    obtain ⟨k, ek⟩ := z_bit1 (z_r1 (σ.1 36 1))
    rw [ek, ei]
    exact ⟨(v_rotf2 i k).1, (v_rotf2 i k).2⟩
  have cC : zpc (fX5_changeA σ 2) (fun r => r = zsi (zsi (zsi σ 36 1 (crot (((σ.1 36 0 <<< ((1 : Int32) &&& 31)) &&& 255) ||| (σ.1 36 1 &&& 1)) (σ.1 36 0 >>> ((7 : Int32) &&& 31)))) 36 0 (((σ.1 36 0 <<< ((1 : Int32) &&& 31)) &&& 255) ||| (σ.1 36 1 &&& 1))) 36 1 ((σ.1 36 1 &&& 196) ||| (crot (((σ.1 36 0 <<< ((1 : Int32) &&& 31)) &&& 255) ||| (σ.1 36 1 &&& 1)) (σ.1 36 0 >>> ((7 : Int32) &&& 31)) &&& 41))) := by
    unfold fX5_changeA
    refine zpc_ck (zpc_bv (fun u eu => zpc_ck (zpc_bv (fun u2 eu2 => zpc_if (fun q => absurd q (by decide)) (fun _ => zpc_if (fun q => absurd q (by decide)) (fun _ => zpc_if (fun q => absurd q (by decide)) (fun _ => zpc_if (fun q => absurd q (by decide)) (fun _ => zpc_ck (zpc_bi p_rotC2 (fun t x et => ?_))))))))))
    cases et
    refine zpc_ck (zpc_bv (fun s1 f1 => zpc_ck (zpc_ck (zpc_bv (fun s2 f2 => zpc_some ?_)))))
    subst eu
    rw [f2, f1]
    rfl
  have cM : zpc (fX12_singles μ 2 7) (fun r => r = (zsi (zsi (zsi μ 3 1 (pt (σ.1 36 1) 0 (if σ.1 36 0 >>> ((7 : Int32) &&& 31) = 1 then 1 else 0))) 3 0 (((σ.1 36 0 <<< ((1 : Int32) &&& 31)) &&& 255) ||| (σ.1 36 1 &&& 1))) 3 1 (pt (pt (gxy (pt (σ.1 36 1) 0 (if σ.1 36 0 >>> ((7 : Int32) &&& 31) = 1 then 1 else 0)) (((σ.1 36 0 <<< ((1 : Int32) &&& 31)) &&& 255) ||| (σ.1 36 1 &&& 1))) 4 0) 1 0), 4)) := by
    unfold fX12_singles fX12_singles_316
    refine zpc_if (fun q => absurd q (by decide)) (fun _ => zpc_if (fun _ => zpc_if (fun q => absurd q (by decide)) (fun _ => zpc_ck (zpc_bi p_rotM2 (fun t x et => ?_)))) (fun q => absurd (by decide) q))
    cases et
    rw [show zgi μ 3 (0 : Int32).toNatClampNeg = σ.1 36 0 from ea, ef, z_c0 hf]
    refine zpc_ck (zpc_bv (fun s1 f1 => zpc_ck (zpc_bu p_xy' (fun s2 f2 => ?_))))
    subst f2
    refine zpc_bu p_put (fun s3 f3 => ?_)
    subst f3
    refine zpc_bu p_put (fun s4 f4 => zpc_some ?_)
    rw [f4, f1]
    rfl
  refine zp2_bul cC (fun s es => ?_)
  intro r r' er er'
  cases er
  rw [cM r' er']
  refine zEnq_af hI h hW (by rw [es]; exact zQ.wi (zQ.wi (zQ.wi zQ.rf rfl) rfl) rfl) (zQ.wi (zQ.wi (zQ.wi zQ.rf rfl) rfl) rfl) (by rw [es]; rfl) (by rw [es]; rfl) rfl rfl rfl (v_ac hf hwo.1 hwo.2) hwo.1 ?_
  rw [← v_ac hf hwo.1 hwo.2, fl_of hf, pt_0, fl_xy, pt_4, pt_1]
  exact zfl_r _ _ _ _ _ _ _ _
theorem t_acc3 (hI : zIoK I) (h : zTT I σ μ) (hF : zF σ μ) (hW : zWzz σ μ) : zp2 (zbu (fX5_changeA σ 3) (fun s => some (s, (4 : Int32)))) (fX12_singles μ 3 7) (zEnq I) := by
  have ea : μ.1 3 0 = σ.1 36 0 := h.eq (by decide)
  have ef : μ.1 3 1 = σ.1 36 1 := hF
  have ha : zr 0 255 (σ.1 36 0) := h.b (by decide)
  have hf : zr 0 255 (σ.1 36 1) := h.b (by decide)
  have hwo : zr 0 255 ((σ.1 36 0 >>> ((1 : Int32) &&& 31)) ||| ((σ.1 36 1 &&& 1) <<< ((7 : Int32) &&& 31))) ∧ zr 0 1 (σ.1 36 0 &&& 1) := by
    obtain ⟨i, ei⟩ := z_byteF ha
    obtain ⟨k, ek⟩ := z_bit1 (z_r1 (σ.1 36 1))
    rw [ek, ei]
    exact ⟨(v_rotf3 i k).1, (v_rotf3 i k).2⟩
  have cC : zpc (fX5_changeA σ 3) (fun r => r = zsi (zsi (zsi σ 36 1 (crot ((σ.1 36 0 >>> ((1 : Int32) &&& 31)) ||| ((σ.1 36 1 &&& 1) <<< ((7 : Int32) &&& 31))) (σ.1 36 0 &&& 1))) 36 0 ((σ.1 36 0 >>> ((1 : Int32) &&& 31)) ||| ((σ.1 36 1 &&& 1) <<< ((7 : Int32) &&& 31)))) 36 1 ((σ.1 36 1 &&& 196) ||| (crot ((σ.1 36 0 >>> ((1 : Int32) &&& 31)) ||| ((σ.1 36 1 &&& 1) <<< ((7 : Int32) &&& 31))) (σ.1 36 0 &&& 1) &&& 41))) := by
    unfold fX5_changeA
    refine zpc_ck (zpc_bv (fun u eu => zpc_ck (zpc_bv (fun u2 eu2 => zpc_if (fun q => absurd q (by decide)) (fun _ => zpc_if (fun q => absurd q (by decide)) (fun _ => zpc_if (fun q => absurd q (by decide)) (fun _ => zpc_if (fun q => absurd q (by decide)) (fun _ => zpc_ck (zpc_bi p_rotC3 (fun t x et => ?_))))))))))
    cases et
    refine zpc_ck (zpc_bv (fun s1 f1 => zpc_ck (zpc_ck (zpc_bv (fun s2 f2 => zpc_some ?_)))))
    subst eu
    rw [f2, f1]
    rfl
  have cM : zpc (fX12_singles μ 3 7) (fun r => r = (zsi (zsi (zsi μ 3 1 (pt (σ.1 36 1) 0 (if σ.1 36 0 &&& 1 = 1 then 1 else 0))) 3 0 ((σ.1 36 0 >>> ((1 : Int32) &&& 31)) ||| ((σ.1 36 1 &&& 1) <<< ((7 : Int32) &&& 31)))) 3 1 (pt (pt (gxy (pt (σ.1 36 1) 0 (if σ.1 36 0 &&& 1 = 1 then 1 else 0)) ((σ.1 36 0 >>> ((1 : Int32) &&& 31)) ||| ((σ.1 36 1 &&& 1) <<< ((7 : Int32) &&& 31)))) 4 0) 1 0), 4)) := by
    unfold fX12_singles fX12_singles_316
    refine zpc_if (fun q => absurd q (by decide)) (fun _ => zpc_if (fun _ => zpc_if (fun q => absurd q (by decide)) (fun _ => zpc_ck (zpc_bi p_rotM3 (fun t x et => ?_)))) (fun q => absurd (by decide) q))
    cases et
    rw [show zgi μ 3 (0 : Int32).toNatClampNeg = σ.1 36 0 from ea, ef, z_c0 hf]
    refine zpc_ck (zpc_bv (fun s1 f1 => zpc_ck (zpc_bu p_xy' (fun s2 f2 => ?_))))
    subst f2
    refine zpc_bu p_put (fun s3 f3 => ?_)
    subst f3
    refine zpc_bu p_put (fun s4 f4 => zpc_some ?_)
    rw [f4, f1]
    rfl
  refine zp2_bul cC (fun s es => ?_)
  intro r r' er er'
  cases er
  rw [cM r' er']
  refine zEnq_af hI h hW (by rw [es]; exact zQ.wi (zQ.wi (zQ.wi zQ.rf rfl) rfl) rfl) (zQ.wi (zQ.wi (zQ.wi zQ.rf rfl) rfl) rfl) (by rw [es]; rfl) (by rw [es]; rfl) rfl rfl rfl (v_ac hf hwo.1 hwo.2) hwo.1 ?_
  rw [← v_ac hf hwo.1 hwo.2, fl_of hf, pt_0, fl_xy, pt_4, pt_1]
  exact zfl_r _ _ _ _ _ _ _ _
theorem v_cplB : ∀ b7 b6 b5 b3 b2 b0 : Bool, zfl b7 b6 b5 true b3 b2 true b0 = (((((((bif b7 then 128 else 0) ||| (bif b6 then 64 else 0)) ||| (bif b2 then 4 else 0)) ||| (bif b0 then 1 else 0)) ||| 16) ||| 2) ||| ((bif b5 then 32 else 0) ||| (bif b3 then 8 else 0)) : Int32) := by decide
theorem v_scfB : ∀ b7 b6 b5 b3 b2 : Bool, zfl b7 b6 b5 false b3 b2 false true = (((((bif b7 then 128 else 0) ||| (bif b6 then 64 else 0)) ||| (bif b2 then 4 else 0)) ||| 1) ||| ((bif b5 then 32 else 0) ||| (bif b3 then 8 else 0)) : Int32) := by decide
theorem v_ccfB : ∀ b7 b6 b5 b3 b2 : Bool, zfl b7 b6 b5 true b3 b2 false false = (((((bif b7 then 128 else 0) ||| (bif b6 then 64 else 0)) ||| (bif b2 then 4 else 0)) ||| 16) ||| ((bif b5 then 32 else 0) ||| (bif b3 then 8 else 0)) : Int32) := by decide
theorem v_f1 : ∀ i : Fin 256, Int32.ofNat i.val &&& 1 = bif decide (¬ Int32.ofNat i.val &&& 1 = 0) then 1 else 0 := by decide +kernel
theorem z_40 {b : Int32} (h : zr 0 255 b) : b &&& 40 = (bif d5 b then 32 else 0) ||| (bif d3 b then 8 else 0) := by
  obtain ⟨i, e⟩ := z_byteF h
  rw [e]
  exact v_40 i
theorem z_196 {f : Int32} (h : zr 0 255 f) : f &&& 196 = ((bif decide (¬ f &&& 128 = 0) then 128 else 0) ||| (bif decide (¬ f &&& 64 = 0) then 64 else 0)) ||| (bif decide (¬ f &&& 4 = 0) then 4 else 0) := by
  obtain ⟨i, e⟩ := z_byteF h
  rw [e]
  exact v_196 i
theorem z_f1 {f : Int32} (h : zr 0 255 f) : f &&& 1 = bif decide (¬ f &&& 1 = 0) then 1 else 0 := by
  obtain ⟨i, e⟩ := z_byteF h
  rw [e]
  exact v_f1 i
theorem t_acc5 (hI : zIoK I) (h : zTT I σ μ) (hF : zF σ μ) (hW : zWzz σ μ) : zp2 (zbu (fX5_changeA σ 5) (fun s => some (s, (4 : Int32)))) (fX12_singles μ 5 7) (zEnq I) := by
  have ea : μ.1 3 0 = σ.1 36 0 := h.eq (by decide)
  have ef : μ.1 3 1 = σ.1 36 1 := hF
  have ha : zr 0 255 (σ.1 36 0) := h.b (by decide)
  have hf : zr 0 255 (σ.1 36 1) := h.b (by decide)
  have hw : zr 0 255 (σ.1 36 0 ^^^ 255) := z_xb ha (zr_c (by decide))
  have cC : zpc (fX5_changeA σ 5) (fun r => r = zsi (zsi σ 36 0 (σ.1 36 0 ^^^ 255)) 36 1 (((((σ.1 36 1 &&& 196) ||| (σ.1 36 1 &&& 1)) ||| 16) ||| 2) ||| ((σ.1 36 0 ^^^ 255) &&& 40))) := by
    unfold fX5_changeA
    refine zpc_ck (zpc_bv (fun u eu => zpc_ck (zpc_bv (fun u2 eu2 => zpc_if (fun q => absurd q (by decide)) (fun _ => zpc_if (fun _ => zpc_ck (zpc_ck (zpc_bv (fun s1 f1 => zpc_ck (zpc_ck (zpc_bv (fun s2 f2 => zpc_some ?_))))))) (fun q => absurd rfl q))))))
    subst eu
    subst eu2
    rw [f2, f1]
    rfl
  have cM : zpc (fX12_singles μ 5 7) (fun r => r = (zsi (zsi μ 3 0 (σ.1 36 0 ^^^ 255)) 3 1 (gxy (pt (pt (σ.1 36 1) 4 1) 1 1) (σ.1 36 0 ^^^ 255)), 4)) := by
    unfold fX12_singles fX12_singles_316
    refine zpc_if (fun q => absurd q (by decide)) (fun _ => zpc_if (fun _ => zpc_if (fun _ => zpc_if (fun q => absurd q (by decide)) (fun _ => zpc_if (fun _ => zpc_ck (zpc_ck (zpc_bv (fun s1 f1 => zpc_bu p_put' (fun s2 f2 => ?_))))) (fun q => absurd rfl q))) (fun q => absurd (by decide) q)) (fun q => absurd (by decide) q))
    subst f2
    refine zpc_bu p_put (fun s3 f3 => ?_)
    subst f3
    refine zpc_ck (zpc_bu p_xy (fun s4 f4 => zpc_some ?_))
    rw [f4, f1]
    show (zsi (zsi μ 3 0 (μ.1 3 0 ^^^ 255)) 3 1 (gxy (pt (pt (μ.1 3 1) 4 1) 1 1) (μ.1 3 0 ^^^ 255)), (4 : Int32)) = _
    rw [ea, ef]
  have e : gxy (pt (pt (σ.1 36 1) 4 1) 1 1) (σ.1 36 0 ^^^ 255) = ((((σ.1 36 1 &&& 196) ||| (σ.1 36 1 &&& 1)) ||| 16) ||| 2) ||| ((σ.1 36 0 ^^^ 255) &&& 40) := by
    rw [z_196 hf, z_f1 hf, z_40 hw, ← v_cplB]
    conv => lhs; rw [fl_of hf, pt_4, pt_1, fl_xy]
    rfl
  refine zp2_bul cC (fun s es => ?_)
  intro r r' er er'
  cases er
  rw [cM r' er']
  refine zEnq_af hI h hW (by rw [es]; exact zQ.wi (zQ.wi zQ.rf rfl) rfl) (zQ.wi (zQ.wi zQ.rf rfl) rfl) (by rw [es]; rfl) (by rw [es]; rfl) rfl rfl rfl e hw ?_
  rw [← e, fl_of hf, pt_4, pt_1, fl_xy]
  exact zfl_r _ _ _ _ _ _ _ _
theorem p_scfM {y : Int32} {g : Int32} (hy : y = 6 ∨ (¬ y = 6 ∧ (σ.1 36 1 &&& 1 = 0 ∨ ¬ σ.1 36 1 &&& 1 = 0))) (hf : zr 0 255 (σ.1 36 1)) (ef : μ.1 3 1 = σ.1 36 1) : zpc (fX12_singles_273 μ y g 4) (fun r => r = (zsi μ 3 1 (gxy (pt (pt (pt (σ.1 36 1) 4 g) 0 (if y = 6 then 1 else if σ.1 36 1 &&& 1 = 0 then 1 else 0)) 1 0) (μ.1 3 0)), 4)) := by
  have f297 : ∀ w, zpc (fX12_singles_297 (zsi μ 3 1 (pt (σ.1 36 1) 4 g)) w 0) (fun r => r = (zsi μ 3 1 (gxy (pt (pt (pt (σ.1 36 1) 4 g) 0 w) 1 0) (μ.1 3 0)), 4)) := fun w => by
    unfold fX12_singles_297 fX12_singles_316
    refine zpc_bu p_put (fun s f => ?_)
    subst f
    refine zpc_bu p_put (fun s f => ?_)
    subst f
    refine zpc_ck (zpc_bu p_xy (fun s f => zpc_some ?_))
    rw [f]
    rfl
  unfold fX12_singles_273
  refine zpc_bu p_put' (fun s f => ?_)
  rw [ef] at f
  subst f
  unfold fX12_singles_292
  refine zpc_if (fun q => ?_) (fun q => zpc_bi p_flag (fun t u et => ?_))
  · rw [if_pos q]; exact f297 1
  · cases et
    rw [if_neg q]
    have e : ((zsi μ 3 1 (pt (σ.1 36 1) 4 g)).1 3 1 >>> ((0 : Int32) &&& 31)) &&& 1 = σ.1 36 1 &&& 1 := by
      show (pt (σ.1 36 1) 4 g >>> ((0 : Int32) &&& 31)) &&& 1 = _
      obtain ⟨i, ei⟩ := z_byteF hf
      rw [ei]
      unfold pt
      by_cases q : g = 0
      · rw [if_pos q]
        exact v_p4a i
      · rw [if_neg q]
        exact v_p4b i
    rw [e]
    refine zpc_if (fun q2 => ?_) (fun q2 => ?_)
    · rw [if_pos q2]; exact f297 1
    · rw [if_neg q2]; exact f297 0
theorem t_acc6 (hI : zIoK I) (h : zTT I σ μ) (hF : zF σ μ) (hW : zWzz σ μ) : zp2 (zbu (fX5_changeA σ 6) (fun s => some (s, (4 : Int32)))) (fX12_singles μ 6 7) (zEnq I) := by
  have ea : μ.1 3 0 = σ.1 36 0 := h.eq (by decide)
  have ef : μ.1 3 1 = σ.1 36 1 := hF
  have ha : zr 0 255 (σ.1 36 0) := h.b (by decide)
  have hf : zr 0 255 (σ.1 36 1) := h.b (by decide)
  have cC : zpc (fX5_changeA σ 6) (fun r => r = zsi σ 36 1 (((σ.1 36 1 &&& 196) ||| 1) ||| (σ.1 36 0 &&& 40))) := by
    unfold fX5_changeA
    refine zpc_ck (zpc_bv (fun u eu => zpc_ck (zpc_bv (fun u2 eu2 => zpc_if (fun q => absurd q (by decide)) (fun _ => zpc_if (fun q => absurd q (by decide)) (fun _ => zpc_if (fun _ => zpc_ck (zpc_ck (zpc_bv (fun s1 f1 => zpc_some ?_)))) (fun q => absurd rfl q)))))))
    subst eu
    rw [f1]
    rfl
  have cM : zpc (fX12_singles μ 6 7) (fun r => r = (zsi μ 3 1 (gxy (pt (pt (pt (σ.1 36 1) 4 0) 0 1) 1 0) (σ.1 36 0)), 4)) := by
    unfold fX12_singles fX12_singles_272
    refine zpc_if (fun q => absurd q (by decide)) (fun _ => zpc_if (fun _ => zpc_if (fun _ => zpc_if (fun q => absurd q (by decide)) (fun _ => zpc_if (fun q => absurd q (by decide)) (fun _ => zpc_if (fun q => absurd q (by decide)) (fun _ => ?_)))) (fun q => absurd (by decide) q)) (fun q => absurd (by decide) q))
    have m := p_scfM (σ := σ) (μ := μ) (y := 6) (g := 0) (Or.inl rfl) hf ef
    rw [ea] at m
    exact m
  have e : gxy (pt (pt (pt (σ.1 36 1) 4 0) 0 1) 1 0) (σ.1 36 0) = ((σ.1 36 1 &&& 196) ||| 1) ||| (σ.1 36 0 &&& 40) := by
    rw [z_196 hf, z_40 ha, ← v_scfB]
    conv => lhs; rw [fl_of hf, pt_4, pt_0, pt_1, fl_xy]
    rfl
  refine zp2_bul cC (fun s es => ?_)
  intro r r' er er'
  cases er
  rw [cM r' er']
  refine zEnq_af hI h hW (by rw [es]; exact zQ.wi zQ.rf rfl) (zQ.wi zQ.rf rfl) (by rw [es]; rfl) (by rw [es]; rfl) (show (zsi μ 3 1 _).1 3 0 = σ.1 36 0 from ea) rfl rfl e ha ?_
  rw [← e, fl_of hf, pt_4, pt_0, pt_1, fl_xy]
  exact zfl_r _ _ _ _ _ _ _ _
theorem t_acc7 (hI : zIoK I) (h : zTT I σ μ) (hF : zF σ μ) (hW : zWzz σ μ) : zp2 (zbu (fX5_changeA σ 7) (fun s => some (s, (4 : Int32)))) (fX12_singles μ 7 7) (zEnq I) := by
  have ea : μ.1 3 0 = σ.1 36 0 := h.eq (by decide)
  have ef : μ.1 3 1 = σ.1 36 1 := hF
  have ha : zr 0 255 (σ.1 36 0) := h.b (by decide)
  have hf : zr 0 255 (σ.1 36 1) := h.b (by decide)
  have cC : zpc (fX5_changeA σ 7) (fun r => r = zsi σ 36 1 (((σ.1 36 1 &&& 196) ||| (if σ.1 36 1 &&& 1 = 0 then 1 else 16)) ||| (σ.1 36 0 &&& 40))) := by
    unfold fX5_changeA fX5_changeA_130
    refine zpc_ck (zpc_bv (fun u eu => zpc_ck (zpc_bv (fun u2 eu2 => zpc_if (fun q => absurd q (by decide)) (fun _ => zpc_if (fun q => absurd q (by decide)) (fun _ => zpc_if (fun q => absurd q (by decide)) (fun _ => zpc_if (fun _ => ?_) (fun q => absurd rfl q))))))))
    subst eu
    subst eu2
    refine zpc_if (fun q => zpc_ck (zpc_ck (zpc_bv (fun s1 f1 => zpc_some ?_)))) (fun q => zpc_ck (zpc_ck (zpc_bv (fun s1 f1 => zpc_some ?_))))
    · rw [f1, if_pos (show σ.1 36 1 &&& 1 = 0 from q)]; rfl
    · rw [f1, if_neg (show ¬ σ.1 36 1 &&& 1 = 0 from q)]; rfl
  have cM : zpc (fX12_singles μ 7 7) (fun r => r = (zsi μ 3 1 (gxy (pt (pt (pt (σ.1 36 1) 4 (if σ.1 36 1 &&& 1 = 0 then 0 else 1)) 0 (if σ.1 36 1 &&& 1 = 0 then 1 else 0)) 1 0) (σ.1 36 0)), 4)) := by
    unfold fX12_singles fX12_singles_272
    refine zpc_if (fun q => absurd q (by decide)) (fun _ => zpc_if (fun _ => zpc_if (fun _ => zpc_if (fun q => absurd q (by decide)) (fun _ => zpc_if (fun q => absurd q (by decide)) (fun _ => zpc_if (fun _ => zpc_bi p_flag (fun t u et => ?_)) (fun q => absurd rfl q)))) (fun q => absurd (by decide) q)) (fun q => absurd (by decide) q))
    cases et
    rw [ef, z_bt0 hf]
    by_cases q : σ.1 36 1 &&& 1 = 0
    · rw [if_pos q]
      refine zpc_if (fun q => absurd q (by decide)) (fun _ => ?_)
      have m := p_scfM (σ := σ) (μ := μ) (y := 7) (g := 0) (Or.inr ⟨by decide, Or.inl q⟩) hf ef
      rw [ea, if_neg (show ¬ (7 : Int32) = 6 by decide), if_pos q] at m
      rw [if_pos q]
      exact m
    · rw [if_neg q]
      refine zpc_if (fun _ => ?_) (fun q => absurd rfl q)
      have m := p_scfM (σ := σ) (μ := μ) (y := 7) (g := 1) (Or.inr ⟨by decide, Or.inr q⟩) hf ef
      rw [ea, if_neg (show ¬ (7 : Int32) = 6 by decide), if_neg q] at m
      rw [if_neg q]
      exact m
  have e : gxy (pt (pt (pt (σ.1 36 1) 4 (if σ.1 36 1 &&& 1 = 0 then 0 else 1)) 0 (if σ.1 36 1 &&& 1 = 0 then 1 else 0)) 1 0) (σ.1 36 0) = ((σ.1 36 1 &&& 196) ||| (if σ.1 36 1 &&& 1 = 0 then 1 else 16)) ||| (σ.1 36 0 &&& 40) := by
    by_cases q : σ.1 36 1 &&& 1 = 0
    · rw [if_pos q, if_pos q, if_pos q, z_196 hf, z_40 ha, ← v_scfB]
      conv => lhs; rw [fl_of hf, pt_4, pt_0, pt_1, fl_xy]
      rfl
    · rw [if_neg q, if_neg q, if_neg q, z_196 hf, z_40 ha, ← v_ccfB]
      conv => lhs; rw [fl_of hf, pt_4, pt_0, pt_1, fl_xy]
      rfl
  refine zp2_bul cC (fun s es => ?_)
  intro r r' er er'
  cases er
  rw [cM r' er']
  refine zEnq_af hI h hW (by rw [es]; exact zQ.wi zQ.rf rfl) (zQ.wi zQ.rf rfl) (by rw [es]; rfl) (by rw [es]; rfl) (show (zsi μ 3 1 _).1 3 0 = σ.1 36 0 from ea) rfl rfl e ha ?_
  rw [← e, fl_of hf, pt_4, pt_0, pt_1, fl_xy]
  exact zfl_r _ _ _ _ _ _ _ _
end ZAA
end ZJN7
section ZJN8
/-! DAA -/
theorem z_jx {α : Type} {c : Prop} {d : Decidable c} {K : Int32 → Option α} {X Y : Option α} {a b : Int32} (ex : X = K a) (ey : Y = K b) : @ite _ c d X Y = K (@ite _ c d a b) := by
  by_cases q : c
  · rw [if_pos q, if_pos q]; exact ex
  · rw [if_neg q, if_neg q]; exact ey
theorem zpc_jx {α : Type} {c : Prop} {d : Decidable c} {K : Int32 → Option α} {X Y : Option α} {a b : Int32} {Q : α → Prop} (ex : X = K a) (ey : Y = K b) (h : ∀ v, v = @ite _ c d a b → zpc (K v) Q) : zpc (@ite _ c d X Y) Q := by
  rw [z_jx (K := K) ex ey]
  exact h _ rfl
theorem fl_a16 : ∀ b7 b6 b5 b4 b3 b2 b1 b0 : Bool, zfl b7 b6 b5 b4 b3 b2 b1 b0 &&& 16 = bif b4 then 16 else 0 := by decide
theorem fl_a2 : ∀ b7 b6 b5 b4 b3 b2 b1 b0 : Bool, zfl b7 b6 b5 b4 b3 b2 b1 b0 &&& 2 = bif b1 then 2 else 0 := by decide
theorem fl_a1 : ∀ b7 b6 b5 b4 b3 b2 b1 b0 : Bool, zfl b7 b6 b5 b4 b3 b2 b1 b0 &&& 1 = bif b0 then 1 else 0 := by decide
theorem fl_g0 : ∀ b7 b6 b5 b4 b3 b2 b1 b0 : Bool, (zfl b7 b6 b5 b4 b3 b2 b1 b0 >>> ((0 : Int32) &&& 31)) &&& 1 = bif b0 then 1 else 0 := by decide
theorem fl_g1 : ∀ b7 b6 b5 b4 b3 b2 b1 b0 : Bool, (zfl b7 b6 b5 b4 b3 b2 b1 b0 >>> ((1 : Int32) &&& 31)) &&& 1 = bif b1 then 1 else 0 := by decide
theorem fl_g2 : ∀ b7 b6 b5 b4 b3 b2 b1 b0 : Bool, (zfl b7 b6 b5 b4 b3 b2 b1 b0 >>> ((2 : Int32) &&& 31)) &&& 1 = bif b2 then 1 else 0 := by decide
theorem fl_g4 : ∀ b7 b6 b5 b4 b3 b2 b1 b0 : Bool, (zfl b7 b6 b5 b4 b3 b2 b1 b0 >>> ((4 : Int32) &&& 31)) &&& 1 = bif b4 then 1 else 0 := by decide
theorem fl_g6 : ∀ b7 b6 b5 b4 b3 b2 b1 b0 : Bool, (zfl b7 b6 b5 b4 b3 b2 b1 b0 >>> ((6 : Int32) &&& 31)) &&& 1 = bif b6 then 1 else 0 := by decide
noncomputable def dH (h : Bool) : Int32 := if (bif h then (16 : Int32) else 0) = 0 then 0 else 1
noncomputable def dN (n : Bool) : Int32 := if (bif n then (2 : Int32) else 0) = 0 then 0 else 1
noncomputable def dC (a : Int32) (c : Bool) : Int32 := if a ≤ 153 then (bif c then 1 else 0) else 1
noncomputable def dL (l : Int32) (h : Bool) : Int32 := if 9 < l then 6 else if dH h = 0 then 0 else 6
noncomputable def dG (l : Int32) (h n : Bool) : Int32 := if dN n = 0 then (if l ≤ 9 then 0 else 1) else if dH h = 0 then 0 else if 6 ≤ l then 0 else 1
noncomputable def dD (l : Int32) (h : Bool) (c : Int32) : Int32 := dL l h + (if c = 0 then 0 else 96)
noncomputable def dW (a l : Int32) (h n : Bool) (c : Int32) : Int32 := (if dN n = 0 then a + dD l h c else a - dD l h c) &&& 255
noncomputable def dF (w g c : Int32) (n : Bool) : Int32 := (((cby w ||| cpar w) ||| (if g = 0 then 0 else 16)) ||| (bif n then 2 else 0)) ||| c
section ZDA
variable {σ μ : zSt} {b7 b6 b5 b4 b3 b2 b1 b0 : Bool} {a d : Int32}
theorem p_daC (hf : σ.1 36 1 = zfl b7 b6 b5 b4 b3 b2 b1 b0) (ha : σ.1 36 0 = a) : zpc (fX5_adjustA σ ) (fun r => r = zsi (zsi σ 36 0 (dW a (a &&& 15) b4 b1 (dC a b0))) 36 1 (dF (dW a (a &&& 15) b4 b1 (dC a b0)) (dG (a &&& 15) b4 b1) (dC a b0) b1)) := by
  have g1 : zgi σ 36 (1 : Int32).toNatClampNeg = zfl b7 b6 b5 b4 b3 b2 b1 b0 := hf
  have g0 : zgi σ 36 (0 : Int32).toNatClampNeg = a := ha
  unfold fX5_adjustA
  refine zpc_ck (zpc_bv (fun l el => zpc_ck ?_))
  have el : l = a &&& 15 := by rw [el, g0]
  rw [← el, g1, fl_a16]
  refine zpc_jx (K := fun v => fX5_adjustA_27 σ l v) (a := 0) (b := 1) rfl rfl (fun h eh => ?_)
  have eh : h = dH b4 := eh
  unfold fX5_adjustA_27
  refine zpc_ck ?_
  rw [g1, fl_a2]
  refine zpc_jx (K := fun v => fX5_adjustA_44 σ l h v) (a := 0) (b := 1) rfl rfl (fun n en => ?_)
  have en : n = dN b1 := en
  have nx : ∀ c, zpc (fX5_adjustA_69 σ l h n c) (fun r => r = zsi (zsi σ 36 0 (dW a l b4 b1 c)) 36 1 (dF (dW a l b4 b1 c) (dG l b4 b1) c b1)) := fun c => by
    unfold fX5_adjustA_69
    refine zpc_jx (K := fun v => fX5_adjustA_87 σ l h n c v) (a := 6) rfl (z_jx (a := 0) (b := 6) rfl rfl) (fun m em => ?_)
    unfold fX5_adjustA_87
    refine zpc_jx (K := fun v => fX5_adjustA_98 σ l h n c v m) (a := 0) (b := 96) rfl rfl (fun t et => ?_)
    unfold fX5_adjustA_98
    refine zpc_bv (fun d ed => ?_)
    have ed : d = dD l b4 c := by rw [ed, em, et, eh]; rfl
    refine zpc_jx (K := fun v => fX5_adjustA_134 σ n c d v) (z_jx (a := 0) (b := 1) rfl rfl) (z_jx (a := 0) rfl (z_jx (a := 0) (b := 1) rfl rfl)) (fun g eg => ?_)
    have eg : g = dG l b4 b1 := by rw [eg, en, eh]; rfl
    have n2 : ∀ x, zpc (fX5_adjustA_161 σ c g x) (fun r => r = zsi (zsi σ 36 0 (x &&& 255)) 36 1 (dF (x &&& 255) g c b1)) := fun x => by
      unfold fX5_adjustA_161
      refine zpc_bv (fun w ew => zpc_ck (zpc_bv (fun s es => zpc_bi p_byC (fun s1 v1 e1 => ?_))))
      cases e1
      refine zpc_bi p_parC (fun s1 v1 e1 => ?_)
      cases e1
      refine zpc_jx (K := fun v => fX5_adjustA_202 s c v (cby w ||| cpar w) 1) (a := 0) (b := 16) rfl rfl (fun u eu => ?_)
      unfold fX5_adjustA_202
      refine zpc_ck (zpc_ck (zpc_bv (fun s2 e2 => zpc_some ?_)))
      have gs : zgi s 36 (1 : Int32).toNatClampNeg = zfl b7 b6 b5 b4 b3 b2 b1 b0 := by rw [es]; exact hf
      rw [e2, gs, fl_a2, es, eu, ew]
      rfl
    unfold fX5_adjustA_134
    rw [g0]
    unfold dW
    refine zpc_if (fun q => zpc_ck ?_) (fun q => zpc_ck ?_)
    · rw [if_pos (en ▸ q), ← ed, ← eg]; exact n2 _
    · rw [if_neg (en ▸ q), ← ed, ← eg]; exact n2 _
  unfold fX5_adjustA_44
  rw [g0, g1, fl_a1]
  unfold dC
  refine zpc_ck (zpc_if (fun q => zpc_ck ?_) (fun q => ?_))
  · rw [if_pos q]; exact nx _
  · rw [if_neg q]; exact nx _
/-! the reference -/
noncomputable def eG (l : Int32) (h n : Bool) : Int32 := bif n then (bif h then (if 6 ≤ l then 0 else 1) else 0) else (if l ≤ 9 then 0 else 1)
noncomputable def eW (a d : Int32) (n : Bool) : Int32 := (bif n then a - d else a + d) &&& 255
theorem p_da130 {x : Int32} : zpc (fX12_adjusts_130 (zsi μ 3 1 (zfl b7 b6 b5 b4 b3 b2 b1 b0)) x 0) (fun r => r = zsi (zsi μ 3 0 (x &&& 255)) 3 1 (zfl (d7 (x &&& 255)) (d6 (x &&& 255)) (d5 (x &&& 255)) b4 (d3 (x &&& 255)) (bc (gev (x &&& 255))) b1 b0)) := by
  unfold fX12_adjusts_130
  refine zpc_ck (zpc_bv (fun s es => zpc_ck ?_))
  have g0 : zgi s 3 (0 : Int32).toNatClampNeg = x &&& 255 := by rw [es]; rfl
  have g1 : s.1 3 1 = zfl b7 b6 b5 b4 b3 b2 b1 b0 := by rw [es]; rfl
  rw [g0]
  refine zpc_bu p_by' (fun s1 e1 => zpc_ck ?_)
  rw [g1, fl_by] at e1
  subst e1
  rw [show zgi (zsi s 3 1 (zfl (d7 (x &&& 255)) (d6 (x &&& 255)) (d5 (x &&& 255)) b4 (d3 (x &&& 255)) b2 b1 b0)) 3 (0 : Int32).toNatClampNeg = x &&& 255 from g0]
  refine zpc_bi p_even (fun s2 v2 e2 => ?_)
  cases e2
  refine zpc_bu p_put (fun s3 e3 => zpc_some ?_)
  rw [pt_2] at e3
  rw [e3, es, show zsi (zsi (zsi μ 3 1 (zfl b7 b6 b5 b4 b3 b2 b1 b0)) 3 (0 : Int32).toNatClampNeg (x &&& 255)) 3 1 = zsi (zsi (zsi μ 3 0 (x &&& 255)) 3 1 (zfl b7 b6 b5 b4 b3 b2 b1 b0)) 3 1 from by rw [show (0 : Int32).toNatClampNeg = 0 from rfl, zsi_comm (by decide)], zsi_ow]
  rfl
theorem p_da55 : zpc (fX12_adjusts_55 (zsi μ 3 1 (zfl b7 b6 b5 b4 b3 b2 b1 b0)) a d) (fun r => r = zsi (zsi μ 3 0 (eW a d b1)) 3 1 (zfl (d7 (eW a d b1)) (d6 (eW a d b1)) (d5 (eW a d b1)) (bc (eG (a &&& 15) b4 b1)) (d3 (eW a d b1)) (bc (gev (eW a d b1))) b1 b0)) := by
  have nx : ∀ g, zpc (fX12_adjusts_105 (zsi μ 3 1 (zfl b7 b6 b5 b4 b3 b2 b1 b0)) a d g 4) (fun r => r = zsi (zsi μ 3 0 (eW a d b1)) 3 1 (zfl (d7 (eW a d b1)) (d6 (eW a d b1)) (d5 (eW a d b1)) (bc g) (d3 (eW a d b1)) (bc (gev (eW a d b1))) b1 b0)) := fun g => by
    unfold fX12_adjusts_105
    refine zpc_bu p_put (fun s es => ?_)
    rw [pt_4] at es
    subst es
    refine zpc_bi p_flag (fun s1 v1 e1 => ?_)
    cases e1
    rw [show (zsi μ 3 1 (zfl b7 b6 b5 (decide (¬ g = 0)) b3 b2 b1 b0)).1 3 1 = zfl b7 b6 b5 (decide (¬ g = 0)) b3 b2 b1 b0 from rfl, fl_g1]
    cases b1
    · exact zpc_if (fun _ => p_da130) (fun q => absurd rfl q)
    · exact zpc_if (fun q => absurd q (by decide)) (fun _ => p_da130)
  unfold fX12_adjusts_55 fX12_adjusts_104
  refine zpc_bi p_flag (fun s1 v1 e1 => ?_)
  cases e1
  rw [show (zsi μ 3 1 (zfl b7 b6 b5 b4 b3 b2 b1 b0)).1 3 1 = zfl b7 b6 b5 b4 b3 b2 b1 b0 from rfl, fl_g1]
  cases b1
  · refine zpc_if (fun _ => ?_) (fun q => absurd rfl q)
    refine zpc_jx (K := fun g => fX12_adjusts_105 (zsi μ 3 1 (zfl b7 b6 b5 b4 b3 b2 false b0)) a d g 4) (a := 0) (b := 1) rfl rfl (fun g eg => ?_)
    have n1 := nx g
    rw [eg] at n1 ⊢
    exact n1
  · refine zpc_if (fun q => absurd q (by decide)) (fun _ => zpc_bi p_flag (fun s1 v1 e1 => ?_))
    cases e1
    rw [show (zsi μ 3 1 (zfl b7 b6 b5 b4 b3 b2 true b0)).1 3 1 = zfl b7 b6 b5 b4 b3 b2 true b0 from rfl, fl_g4]
    cases b4
    · exact zpc_if (fun q => absurd q (by decide)) (fun _ => nx 0)
    · refine zpc_if (fun _ => ?_) (fun q => absurd rfl q)
      refine zpc_jx (K := fun g => fX12_adjusts_105 (zsi μ 3 1 (zfl b7 b6 b5 true b3 b2 true b0)) a d g 4) (a := 0) (b := 1) rfl rfl (fun g eg => ?_)
      have n1 := nx g
      rw [eg] at n1 ⊢
      exact n1
noncomputable def eC (a : Int32) (c : Bool) : Bool := bif c then true else decide (153 < a)
noncomputable def eD (a d : Int32) (c : Bool) : Int32 := bif eC a c then d + 96 else d
theorem p_da30 : zpc (fX12_adjusts_30 (zsi μ 3 1 (zfl b7 b6 b5 b4 b3 b2 b1 b0)) a d) (fun r => r = zsi (zsi μ 3 0 (eW a (eD a d b0) b1)) 3 1 (zfl (d7 (eW a (eD a d b0) b1)) (d6 (eW a (eD a d b0) b1)) (d5 (eW a (eD a d b0) b1)) (bc (eG (a &&& 15) b4 b1)) (d3 (eW a (eD a d b0) b1)) (bc (gev (eW a (eD a d b0) b1))) b1 (eC a b0))) := by
  have n46 : zpc (fX12_adjusts_46 (zsi μ 3 1 (zfl b7 b6 b5 b4 b3 b2 b1 b0)) a d) (fun r => r = zsi (zsi μ 3 0 (eW a (d + 96) b1)) 3 1 (zfl (d7 (eW a (d + 96) b1)) (d6 (eW a (d + 96) b1)) (d5 (eW a (d + 96) b1)) (bc (eG (a &&& 15) b4 b1)) (d3 (eW a (d + 96) b1)) (bc (gev (eW a (d + 96) b1))) b1 true)) := by
    unfold fX12_adjusts_46
    refine zpc_bv (fun v ev => zpc_bu p_put (fun s es => ?_))
    rw [pt_0] at es
    subst es
    subst ev
    exact p_da55
  unfold fX12_adjusts_30
  refine zpc_if (fun q => ?_) (fun q => zpc_bi p_flag (fun s1 v1 e1 => ?_))
  · have e : eC a b0 = true := by unfold eC; rw [decide_eq_true q]; cases b0 <;> rfl
    unfold eD
    rw [e]
    exact n46
  · cases e1
    rw [show (zsi μ 3 1 (zfl b7 b6 b5 b4 b3 b2 b1 b0)).1 3 1 = zfl b7 b6 b5 b4 b3 b2 b1 b0 from rfl, fl_g0]
    cases b0
    · have e : eC a false = false := decide_eq_false q
      unfold eD
      rw [e]
      exact zpc_if (fun q => absurd q (by decide)) (fun _ => p_da55)
    · exact zpc_if (fun _ => n46) (fun q => absurd rfl q)
noncomputable def eL (l : Int32) (h : Bool) : Int32 := if 9 < l then 6 else bif h then 6 else 0
theorem p_da (hf : μ.1 3 1 = zfl b7 b6 b5 b4 b3 b2 b1 b0) (ha : μ.1 3 0 = a) : zpc (fX12_adjusts μ ) (fun r => r = zsi (zsi μ 3 0 (eW a (eD a (eL (a &&& 15) b4) b0) b1)) 3 1 (zfl (d7 (eW a (eD a (eL (a &&& 15) b4) b0) b1)) (d6 (eW a (eD a (eL (a &&& 15) b4) b0) b1)) (d5 (eW a (eD a (eL (a &&& 15) b4) b0) b1)) (bc (eG (a &&& 15) b4 b1)) (d3 (eW a (eD a (eL (a &&& 15) b4) b0) b1)) (bc (gev (eW a (eD a (eL (a &&& 15) b4) b0) b1))) b1 (eC a b0))) := by
  have e27 : ∀ v, fX12_adjusts_27 μ a v = fX12_adjusts_30 (zsi μ 3 1 (zfl b7 b6 b5 b4 b3 b2 b1 b0)) a (v + 6) := fun v => by
    rw [← hf, zsi_own]
    rfl
  have e30 : ∀ v, fX12_adjusts_30 μ a v = fX12_adjusts_30 (zsi μ 3 1 (zfl b7 b6 b5 b4 b3 b2 b1 b0)) a v := fun v => by
    rw [← hf, zsi_own]
  unfold fX12_adjusts
  refine zpc_ck (zpc_bv (fun v ev => ?_))
  have ev : v = a := ev.trans ha
  subst ev
  unfold eL
  refine zpc_if (fun q => ?_) (fun q => zpc_bi p_flag (fun s1 v1 e1 => ?_))
  · rw [if_pos q, e27]; exact p_da30
  · cases e1
    rw [hf, fl_g4, if_neg q]
    cases b4
    · refine zpc_if (fun q => absurd q (by decide)) (fun _ => ?_)
      rw [e30]; exact p_da30
    · refine zpc_if (fun _ => ?_) (fun q => absurd rfl q)
      rw [e27]; exact p_da30
end ZDA
theorem v_daf : ∀ i : Fin 256, ∀ h n c : Bool, eW (Int32.ofNat i.val) (eD (Int32.ofNat i.val) (eL (Int32.ofNat i.val &&& 15) h) c) n = dW (Int32.ofNat i.val) (Int32.ofNat i.val &&& 15) h n (dC (Int32.ofNat i.val) c) ∧ bc (eG (Int32.ofNat i.val &&& 15) h n) = bc (dG (Int32.ofNat i.val &&& 15) h n) ∧ dC (Int32.ofNat i.val) c = (bif eC (Int32.ofNat i.val) c then 1 else 0) ∧ (if dG (Int32.ofNat i.val &&& 15) h n = 0 then (0 : Int32) else 16) = bif bc (dG (Int32.ofNat i.val &&& 15) h n) then 16 else 0 := by decide +kernel
theorem v_da {a : Int32} (ha : zr 0 255 a) (h n c : Bool) : eW a (eD a (eL (a &&& 15) h) c) n = dW a (a &&& 15) h n (dC a c) ∧ bc (eG (a &&& 15) h n) = bc (dG (a &&& 15) h n) ∧ dC a c = (bif eC a c then 1 else 0) ∧ (if dG (a &&& 15) h n = 0 then (0 : Int32) else 16) = bif bc (dG (a &&& 15) h n) then 16 else 0 := by
  obtain ⟨i, e⟩ := z_byteF ha
  subst e
  exact v_daf i h n c
theorem v_daB : ∀ b7 b6 b5 h b3 b2 n c : Bool, zfl b7 b6 b5 h b3 b2 n c = ((zfl b7 b6 b5 h b3 b2 false false) ||| (bif n then 2 else 0)) ||| (bif c then 1 else 0) := by decide
section ZDB
variable {I : zSt → zSt → Prop} {σ μ : zSt}
theorem t_acc4 (hI : zIoK I) (h : zTT I σ μ) (hF : zF σ μ) (hW : zWzz σ μ) : zp2 (zbu (fX5_changeA σ 4) (fun s => some (s, (4 : Int32)))) (fX12_singles μ 4 7) (zEnq I) := by
  have ea : μ.1 3 0 = σ.1 36 0 := h.eq (by decide)
  have ef : μ.1 3 1 = σ.1 36 1 := hF
  have ha : zr 0 255 (σ.1 36 0) := h.b (by decide)
  have hf : zr 0 255 (σ.1 36 1) := h.b (by decide)
  have cC := p_daC (σ := σ) (fl_of hf) rfl
  have cM := p_da (μ := μ) (ef.trans (fl_of hf)) ea
  unfold fX5_changeA fX12_singles fX12_singles_316
  refine zp2_ifr (fun q => absurd q (by decide)) (fun _ => zp2_ifr (fun _ => zp2_ifr (fun _ => zp2_ifr (fun _ => zp2_bur cM (fun t et => ?_)) (fun q => absurd rfl q)) (fun q => absurd (by decide) q)) (fun q => absurd (by decide) q))
  refine zp2_bul (zpc_ck (zpc_bv (fun u1 _ => zpc_ck (zpc_bv (fun u2 _ => zpc_if (fun _ => zpc_bu cC (fun s es => zpc_some es)) (fun q => absurd rfl q)))))) (fun s es => zp2_some ?_)
  obtain ⟨v1, v2, v3, v4⟩ := v_da ha (decide (¬ σ.1 36 1 &&& 16 = 0)) (decide (¬ σ.1 36 1 &&& 2 = 0)) (decide (¬ σ.1 36 1 &&& 1 = 0))
  rw [v1, v2] at et
  have rW : zr 0 255 (dW (σ.1 36 0) (σ.1 36 0 &&& 15) (decide (¬ σ.1 36 1 &&& 16 = 0)) (decide (¬ σ.1 36 1 &&& 2 = 0)) (dC (σ.1 36 0) (decide (¬ σ.1 36 1 &&& 1 = 0)))) := z_r8 _
  rw [v_daB, v_lg rW, ← v4, ← v3] at et
  have rF : zr 0 255 (dF (dW (σ.1 36 0) (σ.1 36 0 &&& 15) (decide (¬ σ.1 36 1 &&& 16 = 0)) (decide (¬ σ.1 36 1 &&& 2 = 0)) (dC (σ.1 36 0) (decide (¬ σ.1 36 1 &&& 1 = 0)))) (dG (σ.1 36 0 &&& 15) (decide (¬ σ.1 36 1 &&& 16 = 0)) (decide (¬ σ.1 36 1 &&& 2 = 0))) (dC (σ.1 36 0) (decide (¬ σ.1 36 1 &&& 1 = 0))) (decide (¬ σ.1 36 1 &&& 2 = 0))) := by
    unfold dF
    rw [v4, ← v_lg rW, v3, ← v_daB]
    exact zfl_r _ _ _ _ _ _ _ _
  exact zEnq_af hI h hW (by rw [es]; exact zQ.wi (zQ.wi zQ.rf rfl) rfl) (by rw [et]; exact zQ.wi (zQ.wi zQ.rf rfl) rfl) (by rw [es]; rfl) (by rw [es]; rfl) (by rw [et]; rfl) (by rw [et]; rfl) rfl rfl rW rF
end ZDB
end ZJN8
section ZJN9
/-! THE FIRST QUARTER -/
theorem zp2_sm {α β : Type} {σ μ : zSt} {o p : Option (zSt × Int32)} {f : zSt → Int32 → Option α} {g : zSt → Int32 → Option β} {Q : α → β → Prop} {lo hi : Int} (h : zp2 o p (fun r r' => r.1 = σ ∧ r'.1 = μ ∧ r'.2 = r.2 ∧ zr lo hi r.2)) (k : ∀ v, zr lo hi v → zp2 (f σ v) (g μ v) Q) : zp2 (zbi o f) (zbi p g) Q := by
  refine zp2_bii h (fun s v t w q => ?_)
  obtain ⟨q1, q2, q3, q4⟩ := q
  have q1 : s = σ := q1
  have q2 : t = μ := q2
  have q3 : w = v := q3
  subst q1
  subst q2
  subst q3
  exact k w q4
theorem z_tc (x : Int32) : (0 ≤ x.toInt ∧ (x.toBitVec.toNat : Int) = x.toInt) ∨ (x.toInt < 0 ∧ (x.toBitVec.toNat : Int) = x.toInt + 4294967296) := by
  by_cases h : 0 ≤ x.toInt
  · exact Or.inl ⟨h, by rw [z_tN h]⟩
  · refine Or.inr ⟨by omega, ?_⟩
    have e : x.toInt = x.toBitVec.toInt := rfl
    have c := BitVec.toInt_eq_toNat_cond x.toBitVec
    rw [e] at h ⊢
    rw [c] at h ⊢
    by_cases q : 2 * x.toBitVec.toNat < 2 ^ 32
    · rw [if_pos q] at h; omega
    · rw [if_neg q]; omega
noncomputable def zbt (k : Nat) (x : Int32) : Bool := x.toBitVec.getLsbD k
theorem zbt_n {k : Nat} {x : Int32} : zbt k x = decide (x.toBitVec.toNat / 2 ^ k % 2 = 1) := by
  unfold zbt
  rw [← BitVec.testBit_toNat, Nat.testBit_eq_decide_div_mod_eq]
theorem zbt_xor {k : Nat} {x y : Int32} : zbt k (x ^^^ y) = (zbt k x ^^ zbt k y) := by
  unfold zbt
  rw [Int32.toBitVec_xor, BitVec.getLsbD_xor]
theorem zbt_and {k : Nat} {x y : Int32} : zbt k (x &&& y) = (zbt k x && zbt k y) := by
  unfold zbt
  rw [Int32.toBitVec_and, BitVec.getLsbD_and]
theorem zbt_sar {k n : Nat} {x s : Int32} (hs : (s.toBitVec.smod 32).toNat = n) (h : n + k < 32) : zbt k (x >>> s) = zbt (n + k) x := by
  unfold zbt
  have e : (x >>> s).toBitVec = x.toBitVec.sshiftRight (s.toBitVec.smod 32).toNat := rfl
  rw [e, hs, BitVec.getLsbD_sshiftRight, if_pos h, show decide (32 ≤ k) = false from decide_eq_false (by omega)]
  rfl
theorem zbt_l4 : ∀ i, i < 32 → ((16 : Int32).toBitVec.getLsbD i = decide (i = 4)) := by decide
theorem zbt_m4 {x : Int32} : x &&& 16 = bif zbt 4 x then 16 else 0 := by
  refine Int32.toBitVec_inj.1 (BitVec.eq_of_getLsbD_eq (fun i hi => ?_))
  rw [Int32.toBitVec_and, BitVec.getLsbD_and, zbt_l4 i hi]
  unfold zbt
  by_cases q : i = 4
  · subst q
    cases h : x.toBitVec.getLsbD 4 <;> rfl
  · rw [decide_eq_false q, Bool.and_false]
    cases h : x.toBitVec.getLsbD 4
    · exact (BitVec.getLsbD_zero (w := 32)).symm
    · exact ((zbt_l4 i hi).trans (decide_eq_false q)).symm
theorem zbt_l0 : ∀ i, i < 32 → ((1 : Int32).toBitVec.getLsbD i = decide (i = 0)) := by decide
theorem zbt_m0 {x : Int32} : x &&& 1 = bif zbt 0 x then 1 else 0 := by
  refine Int32.toBitVec_inj.1 (BitVec.eq_of_getLsbD_eq (fun i hi => ?_))
  rw [Int32.toBitVec_and, BitVec.getLsbD_and, zbt_l0 i hi]
  unfold zbt
  by_cases q : i = 0
  · subst q
    cases h : x.toBitVec.getLsbD 0 <;> rfl
  · rw [decide_eq_false q, Bool.and_false]
    cases h : x.toBitVec.getLsbD 0
    · exact (BitVec.getLsbD_zero (w := 32)).symm
    · exact ((zbt_l0 i hi).trans (decide_eq_false q)).symm
theorem zbt_l7 : ∀ i, i < 32 → ((128 : Int32).toBitVec.getLsbD i = decide (i = 7)) := by decide
theorem zbt_m7 {x : Int32} : x &&& 128 = bif zbt 7 x then 128 else 0 := by
  refine Int32.toBitVec_inj.1 (BitVec.eq_of_getLsbD_eq (fun i hi => ?_))
  rw [Int32.toBitVec_and, BitVec.getLsbD_and, zbt_l7 i hi]
  unfold zbt
  by_cases q : i = 7
  · subst q
    cases h : x.toBitVec.getLsbD 7 <;> rfl
  · rw [decide_eq_false q, Bool.and_false]
    cases h : x.toBitVec.getLsbD 7
    · exact (BitVec.getLsbD_zero (w := 32)).symm
    · exact ((zbt_l7 i hi).trans (decide_eq_false q)).symm
theorem zbt_l15 : ∀ i, i < 32 → ((32768 : Int32).toBitVec.getLsbD i = decide (i = 15)) := by decide
theorem zbt_m15 {x : Int32} : x &&& 32768 = bif zbt 15 x then 32768 else 0 := by
  refine Int32.toBitVec_inj.1 (BitVec.eq_of_getLsbD_eq (fun i hi => ?_))
  rw [Int32.toBitVec_and, BitVec.getLsbD_and, zbt_l15 i hi]
  unfold zbt
  by_cases q : i = 15
  · subst q
    cases h : x.toBitVec.getLsbD 15 <;> rfl
  · rw [decide_eq_false q, Bool.and_false]
    cases h : x.toBitVec.getLsbD 15
    · exact (BitVec.getLsbD_zero (w := 32)).symm
    · exact ((zbt_l15 i hi).trans (decide_eq_false q)).symm
theorem v_h12 {a b v X : Int32} {c : Int} (ha : zr 0 65535 a) (hb : zr 0 65535 b) (hv : v.toInt = a.toInt + b.toInt + c) (hc : 0 ≤ c ∧ c ≤ 1) (hX : X = (a ^^^ b) ^^^ v) {K : Prop} {d : Decidable K} (hK : K ↔ a.toInt % 4096 + b.toInt % 4096 + c ≤ 4095) : (X >>> ((8 : Int32) &&& 31)) &&& 16 = bif bc (@ite _ K d 0 1) then 16 else 0 := by
  rw [zbt_m4, zbt_sar (n := 8) rfl (by decide), hX, zbt_xor, zbt_xor, zbt_n, zbt_n, zbt_n]
  have a0 := ha.1
  have a1 := ha.2
  have b0 := hb.1
  have b1 := hb.2
  have ta := z_tc a
  have tb := z_tc b
  have tv := z_tc v
  show (bif (decide (a.toBitVec.toNat / 4096 % 2 = 1) ^^ decide (b.toBitVec.toNat / 4096 % 2 = 1)) ^^ decide (v.toBitVec.toNat / 4096 % 2 = 1) then (16 : Int32) else 0) = _
  by_cases k : K
  · have k1 := hK.mp k
    rw [if_pos k]
    by_cases p : a.toBitVec.toNat / 4096 % 2 = 1 <;> by_cases q : b.toBitVec.toNat / 4096 % 2 = 1 <;> by_cases r : v.toBitVec.toNat / 4096 % 2 = 1 <;> first | (exfalso; omega) | (rw [decide_eq_true_eq.mpr p] <;> skip; skip) | skip
    all_goals (simp only [p, q, r, decide_true, decide_false]; rfl)
  · have k1 : ¬ a.toInt % 4096 + b.toInt % 4096 + c ≤ 4095 := fun q => k (hK.mpr q)
    rw [if_neg k]
    by_cases p : a.toBitVec.toNat / 4096 % 2 = 1 <;> by_cases q : b.toBitVec.toNat / 4096 % 2 = 1 <;> by_cases r : v.toBitVec.toNat / 4096 % 2 = 1 <;> first | (exfalso; omega) | skip
    all_goals (simp only [p, q, r, decide_true, decide_false]; rfl)
theorem v_405 : ∀ i : Fin 512, Int32.ofNat i.val &&& 40 = (bif d5 (Int32.ofNat i.val) then 32 else 0) ||| (bif d3 (Int32.ofNat i.val) then 8 else 0) := by decide +kernel
theorem v_ahB : ∀ b7 b6 b5 h b3 b2 c : Bool, zfl b7 b6 b5 h b3 b2 false c = (((((bif b7 then 128 else 0) ||| (bif b6 then 64 else 0)) ||| (bif b2 then 4 else 0)) ||| ((bif b5 then 32 else 0) ||| (bif b3 then 8 else 0))) ||| (bif h then 16 else 0)) ||| (bif c then 1 else 0) := by decide
theorem v_17 {v : Int32} (h : zr 0 131071 v) : v >>> ((16 : Int32) &&& 31) = bif bc (if v ≤ 65535 then 0 else 1) then 1 else 0 := by
  have e := z_quo (k := 16) (s := (16 : Int32) &&& 31) h.1 rfl
  have h0 := h.1
  have h1 := h.2
  have c : (65535 : Int32).toInt = 65535 := rfl
  have e : (v >>> ((16 : Int32) &&& 31)).toInt = v.toInt / 65536 := e
  refine Int32.toInt_inj.mp ?_
  rw [e]
  by_cases q : v ≤ 65535
  · have q1 := Int32.le_iff_toInt_le.mp q
    rw [if_pos q]
    show v.toInt / 65536 = 0
    omega
  · have q1 := Int32.lt_iff_toInt_lt.mp (z_nle q)
    rw [if_neg q]
    show v.toInt / 65536 = 1
    omega
theorem z_x512 {v : Int32} (h : zr 0 131071 v) : (v >>> ((8 : Int32) &&& 31)) &&& 40 = (bif d5 (v >>> ((8 : Int32) &&& 31)) then 32 else 0) ||| (bif d3 (v >>> ((8 : Int32) &&& 31)) then 8 else 0) := by
  have e : (v >>> ((8 : Int32) &&& 31)).toInt = v.toInt / 256 := z_quo (k := 8) (s := (8 : Int32) &&& 31) h.1 rfl
  have h0 := h.1
  have h1 := h.2
  generalize v >>> ((8 : Int32) &&& 31) = x at e
  obtain ⟨i, hi⟩ : ∃ i : Nat, x.toInt = i := ⟨x.toInt.toNat, by omega⟩
  rw [z_ofN hi]
  exact v_405 ⟨i, by omega⟩
theorem v_i8f : ∀ i : Fin 256, (Int32.ofNat i.val).toInt8.toInt32 = sg (Int32.ofNat i.val) := by decide +kernel
theorem z_i8s {v : Int32} (h : zr 0 255 v) : v.toInt8.toInt32 = sg v := by
  obtain ⟨i, e⟩ := z_byteF h
  subst e
  exact v_i8f i
theorem zAl4 {P : Nat → Prop} {a b c d : Nat} (p : P a) (q : P b) (r : P c) (s : P d) : zall [a, b, c, d] P := zAlc p (zAl3 q r s)
section ZQ1
variable {I : zSt → zSt → Prop} {σ μ : zSt}
theorem zTT.mem (hI : zIoK I) (h : zTT I σ μ) {s t : zSt} (hm : zM2 s t) (q1 : zQ [15, 17, 19] [] [] [] σ s) (q2 : zQ [5, 6] [(3, 29, 32)] [] [] μ t) : zTT I s t := h.fin hI [] hm (q1.mono rfl rfl) (q2.mono rfl rfl) rfl zAl0 (h.2.2.1.of (q1.1 7 4 rfl) (q2.1 0 31 rfl))
theorem t_go (hI : zIoK I) (h : zTT I σ μ) {d : Int32} : zp2 (fX5_goTo σ (((zgi σ 36 (19 : Int32).toNatClampNeg) + d) &&& 65535)) (fX12_jump μ d) (fun r r' => zTT I r r' ∧ zWzz r r' ∧ zQ [] [(36, 19, 20)] [] [] σ r ∧ zQ [] [(3, 19, 20)] [] [] μ r') := by
  unfold fX5_goTo fX12_jump
  refine zp2_ckl (zp2_bvl (fun s1 f1 => zp2_ckl (zp2_bvl (fun s2 f2 => zp2_ckr (zp2_ckr (zp2_bvr (fun t1 g1 => zp2_ckr (zp2_ckr (zp2_bvr (fun t2 g2 => zp2_some ?_))))))))))
  have e : μ.1 3 19 = σ.1 36 19 := h.eq (by decide)
  have g2 : t2 = zsi (zsi μ 3 19 ((σ.1 36 19 + d) &&& 65535)) 3 20 ((σ.1 36 19 + d) &&& 65535) := by
    rw [g2, g1, ← e]; rfl
  have f2 : s2 = zsi (zsi σ 36 19 ((σ.1 36 19 + d) &&& 65535)) 36 20 ((σ.1 36 19 + d) &&& 65535) := by
    rw [f2, f1]; rfl
  subst f2
  subst g2
  exact ⟨h.upd hI [19, 20] (zQ.wi (zQ.wi zQ.rf rfl) rfl) (zQ.wi (zQ.wi zQ.rf rfl) rfl) rfl (zAl2 ⟨rfl, zrg_w (by decide) (by decide) (z_r16 _)⟩ ⟨rfl, zrg_w (by decide) (by decide) (z_r16 _)⟩), rfl, zQ.wi (zQ.wi zQ.rf rfl) rfl, zQ.wi (zQ.wi zQ.rf rfl) rfl⟩
theorem t_nr0 (hI : zIoK I) (h : zTT I σ μ) (hF : zF σ μ) (hW : zWzz σ μ) {y d : Int32} : zp2 (fX5_near_92 σ y d 0) (fX12_zero_109 μ y d 0) (zEnq I) := by
  unfold fX5_near_92 fX12_zero_109
  refine zp2_ifl (fun _ => zp2_ifr (fun _ => ?_) (fun q => absurd rfl q)) (fun q => absurd rfl q)
  unfold fX5_near_112 fX12_zero_122
  refine zp2_ifl (fun _ => ?_) (fun q => absurd rfl q)
  unfold fX5_near_123
  by_cases y2 : y = 2
  · rw [if_pos y2, if_pos y2]
    exact zp2_ifr (fun _ => zp2_some ⟨h, hF, hW, rfl⟩) (fun q => absurd rfl q)
  · rw [if_neg y2, if_neg y2]
    exact zp2_ifr (fun _ => zp2_some ⟨h, hF, hW, rfl⟩) (fun q => absurd rfl q)
theorem t_nr1 (hI : zIoK I) (h : zTT I σ μ) (hF : zF σ μ) (hW : zWzz σ μ) {y d : Int32} : zp2 (fX5_near_92 σ y d 1) (fX12_zero_109 μ y d 1) (zEnq I) := by
  unfold fX5_near_92 fX12_zero_109
  refine zp2_ifl (fun q => absurd q (by decide)) (fun _ => zp2_ifr (fun q => absurd q (by decide)) (fun _ => zp2_ckl (zp2_buu (t_go hI h) (fun s t q => ?_))))
  obtain ⟨h1, w1, qc, qm⟩ := q
  have f1 : zF s t := hF.of (qc.1 36 1 rfl) (qm.1 3 1 rfl)
  unfold fX5_near_112 fX12_zero_122
  refine zp2_ifl (fun q => absurd q (by decide)) (fun _ => ?_)
  unfold fX5_near_123
  by_cases y2 : y = 2
  · rw [if_pos y2, if_pos y2]
    exact zp2_ifr (fun q => absurd q (by decide)) (fun _ => zp2_some ⟨h1, f1, w1, rfl⟩)
  · rw [if_neg y2, if_neg y2]
    exact zp2_ifr (fun q => absurd q (by decide)) (fun _ => zp2_some ⟨h1, f1, w1, rfl⟩)
theorem p_cwC0 : zpc (fX5_changeWithOther σ 0) (fun r => r = zsi (zsi σ 36 0 (σ.1 36 8)) 36 8 (σ.1 36 0)) := by
  unfold fX5_changeWithOther
  exact zpc_ck (zpc_bv (fun v ev => zpc_ck (zpc_ck (zpc_bv (fun s es => zpc_ck (zpc_bv (fun s2 e2 => zpc_some (by rw [e2, es, ev]; rfl))))))))
theorem p_cwM0 : zpc (fX12_change μ 0 8) (fun r => r = zsi (zsi μ 3 0 (μ.1 3 8)) 3 8 (μ.1 3 0)) := by
  unfold fX12_change
  exact zpc_ck (zpc_bv (fun v ev => zpc_ck (zpc_ck (zpc_bv (fun s es => zpc_ck (zpc_bv (fun s2 e2 => zpc_some (by rw [e2, es, ev]; rfl))))))))
theorem p_cwC1 : zpc (fX5_changeWithOther σ 1) (fun r => r = zsi (zsi σ 36 1 (σ.1 36 9)) 36 9 (σ.1 36 1)) := by
  unfold fX5_changeWithOther
  exact zpc_ck (zpc_bv (fun v ev => zpc_ck (zpc_ck (zpc_bv (fun s es => zpc_ck (zpc_bv (fun s2 e2 => zpc_some (by rw [e2, es, ev]; rfl))))))))
theorem p_cwM1 : zpc (fX12_change μ 1 9) (fun r => r = zsi (zsi μ 3 1 (μ.1 3 9)) 3 9 (μ.1 3 1)) := by
  unfold fX12_change
  exact zpc_ck (zpc_bv (fun v ev => zpc_ck (zpc_ck (zpc_bv (fun s es => zpc_ck (zpc_bv (fun s2 e2 => zpc_some (by rw [e2, es, ev]; rfl))))))))
theorem p_cwC2 : zpc (fX5_changeWithOther σ 2) (fun r => r = zsi (zsi σ 36 2 (σ.1 36 10)) 36 10 (σ.1 36 2)) := by
  unfold fX5_changeWithOther
  exact zpc_ck (zpc_bv (fun v ev => zpc_ck (zpc_ck (zpc_bv (fun s es => zpc_ck (zpc_bv (fun s2 e2 => zpc_some (by rw [e2, es, ev]; rfl))))))))
theorem p_cwM2 : zpc (fX12_change μ 2 10) (fun r => r = zsi (zsi μ 3 2 (μ.1 3 10)) 3 10 (μ.1 3 2)) := by
  unfold fX12_change
  exact zpc_ck (zpc_bv (fun v ev => zpc_ck (zpc_ck (zpc_bv (fun s es => zpc_ck (zpc_bv (fun s2 e2 => zpc_some (by rw [e2, es, ev]; rfl))))))))
theorem p_cwC3 : zpc (fX5_changeWithOther σ 3) (fun r => r = zsi (zsi σ 36 3 (σ.1 36 11)) 36 11 (σ.1 36 3)) := by
  unfold fX5_changeWithOther
  exact zpc_ck (zpc_bv (fun v ev => zpc_ck (zpc_ck (zpc_bv (fun s es => zpc_ck (zpc_bv (fun s2 e2 => zpc_some (by rw [e2, es, ev]; rfl))))))))
theorem p_cwM3 : zpc (fX12_change μ 3 11) (fun r => r = zsi (zsi μ 3 3 (μ.1 3 11)) 3 11 (μ.1 3 3)) := by
  unfold fX12_change
  exact zpc_ck (zpc_bv (fun v ev => zpc_ck (zpc_ck (zpc_bv (fun s es => zpc_ck (zpc_bv (fun s2 e2 => zpc_some (by rw [e2, es, ev]; rfl))))))))
theorem p_cwC4 : zpc (fX5_changeWithOther σ 4) (fun r => r = zsi (zsi σ 36 4 (σ.1 36 12)) 36 12 (σ.1 36 4)) := by
  unfold fX5_changeWithOther
  exact zpc_ck (zpc_bv (fun v ev => zpc_ck (zpc_ck (zpc_bv (fun s es => zpc_ck (zpc_bv (fun s2 e2 => zpc_some (by rw [e2, es, ev]; rfl))))))))
theorem p_cwM4 : zpc (fX12_change μ 4 12) (fun r => r = zsi (zsi μ 3 4 (μ.1 3 12)) 3 12 (μ.1 3 4)) := by
  unfold fX12_change
  exact zpc_ck (zpc_bv (fun v ev => zpc_ck (zpc_ck (zpc_bv (fun s es => zpc_ck (zpc_bv (fun s2 e2 => zpc_some (by rw [e2, es, ev]; rfl))))))))
theorem p_cwC5 : zpc (fX5_changeWithOther σ 5) (fun r => r = zsi (zsi σ 36 5 (σ.1 36 13)) 36 13 (σ.1 36 5)) := by
  unfold fX5_changeWithOther
  exact zpc_ck (zpc_bv (fun v ev => zpc_ck (zpc_ck (zpc_bv (fun s es => zpc_ck (zpc_bv (fun s2 e2 => zpc_some (by rw [e2, es, ev]; rfl))))))))
theorem p_cwM5 : zpc (fX12_change μ 5 13) (fun r => r = zsi (zsi μ 3 5 (μ.1 3 13)) 3 13 (μ.1 3 5)) := by
  unfold fX12_change
  exact zpc_ck (zpc_bv (fun v ev => zpc_ck (zpc_ck (zpc_bv (fun s es => zpc_ck (zpc_bv (fun s2 e2 => zpc_some (by rw [e2, es, ev]; rfl))))))))
theorem p_cwC6 : zpc (fX5_changeWithOther σ 6) (fun r => r = zsi (zsi σ 36 6 (σ.1 36 14)) 36 14 (σ.1 36 6)) := by
  unfold fX5_changeWithOther
  exact zpc_ck (zpc_bv (fun v ev => zpc_ck (zpc_ck (zpc_bv (fun s es => zpc_ck (zpc_bv (fun s2 e2 => zpc_some (by rw [e2, es, ev]; rfl))))))))
theorem p_cwM6 : zpc (fX12_change μ 6 14) (fun r => r = zsi (zsi μ 3 6 (μ.1 3 14)) 3 14 (μ.1 3 6)) := by
  unfold fX12_change
  exact zpc_ck (zpc_bv (fun v ev => zpc_ck (zpc_ck (zpc_bv (fun s es => zpc_ck (zpc_bv (fun s2 e2 => zpc_some (by rw [e2, es, ev]; rfl))))))))
theorem p_cwC7 : zpc (fX5_changeWithOther σ 7) (fun r => r = zsi (zsi σ 36 7 (σ.1 36 15)) 36 15 (σ.1 36 7)) := by
  unfold fX5_changeWithOther
  exact zpc_ck (zpc_bv (fun v ev => zpc_ck (zpc_ck (zpc_bv (fun s es => zpc_ck (zpc_bv (fun s2 e2 => zpc_some (by rw [e2, es, ev]; rfl))))))))
theorem p_cwM7 : zpc (fX12_change μ 7 15) (fun r => r = zsi (zsi μ 3 7 (μ.1 3 15)) 3 15 (μ.1 3 7)) := by
  unfold fX12_change
  exact zpc_ck (zpc_bv (fun v ev => zpc_ck (zpc_ck (zpc_bv (fun s es => zpc_ck (zpc_bv (fun s2 e2 => zpc_some (by rw [e2, es, ev]; rfl))))))))
theorem t_cw0 (hI : zIoK I) (h : zTT I σ μ) : zp2 (fX5_changeWithOther σ 0) (fX12_change μ 0 8) (fun r r' => zTT I r r' ∧ zQ [] [(36, 0, 0), (36, 8, 8)] [] [] σ r ∧ zQ [] [(3, 0, 0), (3, 8, 8)] [] [] μ r') := by
  intro r r' er er'
  rw [p_cwC0 r er, p_cwM0 r' er']
  exact ⟨h.upd hI [0, 8] (zQ.wi (zQ.wi zQ.rf rfl) rfl) (zQ.wi (zQ.wi zQ.rf rfl) rfl) rfl (zAl2 ⟨h.eq (j := 8) (by decide), zrg_b (Or.inl (by decide)) (h.b (j := 8) (by decide))⟩ ⟨h.eq (j := 0) (by decide), zrg_b (Or.inl (by decide)) (h.b (j := 0) (by decide))⟩), zQ.wi (zQ.wi zQ.rf rfl) rfl, zQ.wi (zQ.wi zQ.rf rfl) rfl⟩
theorem t_cw2 (hI : zIoK I) (h : zTT I σ μ) : zp2 (fX5_changeWithOther σ 2) (fX12_change μ 2 10) (fun r r' => zTT I r r' ∧ zQ [] [(36, 2, 2), (36, 10, 10)] [] [] σ r ∧ zQ [] [(3, 2, 2), (3, 10, 10)] [] [] μ r') := by
  intro r r' er er'
  rw [p_cwC2 r er, p_cwM2 r' er']
  exact ⟨h.upd hI [2, 10] (zQ.wi (zQ.wi zQ.rf rfl) rfl) (zQ.wi (zQ.wi zQ.rf rfl) rfl) rfl (zAl2 ⟨h.eq (j := 10) (by decide), zrg_b (Or.inl (by decide)) (h.b (j := 10) (by decide))⟩ ⟨h.eq (j := 2) (by decide), zrg_b (Or.inl (by decide)) (h.b (j := 2) (by decide))⟩), zQ.wi (zQ.wi zQ.rf rfl) rfl, zQ.wi (zQ.wi zQ.rf rfl) rfl⟩
theorem t_cw3 (hI : zIoK I) (h : zTT I σ μ) : zp2 (fX5_changeWithOther σ 3) (fX12_change μ 3 11) (fun r r' => zTT I r r' ∧ zQ [] [(36, 3, 3), (36, 11, 11)] [] [] σ r ∧ zQ [] [(3, 3, 3), (3, 11, 11)] [] [] μ r') := by
  intro r r' er er'
  rw [p_cwC3 r er, p_cwM3 r' er']
  exact ⟨h.upd hI [3, 11] (zQ.wi (zQ.wi zQ.rf rfl) rfl) (zQ.wi (zQ.wi zQ.rf rfl) rfl) rfl (zAl2 ⟨h.eq (j := 11) (by decide), zrg_b (Or.inl (by decide)) (h.b (j := 11) (by decide))⟩ ⟨h.eq (j := 3) (by decide), zrg_b (Or.inl (by decide)) (h.b (j := 3) (by decide))⟩), zQ.wi (zQ.wi zQ.rf rfl) rfl, zQ.wi (zQ.wi zQ.rf rfl) rfl⟩
theorem t_cw4 (hI : zIoK I) (h : zTT I σ μ) : zp2 (fX5_changeWithOther σ 4) (fX12_change μ 4 12) (fun r r' => zTT I r r' ∧ zQ [] [(36, 4, 4), (36, 12, 12)] [] [] σ r ∧ zQ [] [(3, 4, 4), (3, 12, 12)] [] [] μ r') := by
  intro r r' er er'
  rw [p_cwC4 r er, p_cwM4 r' er']
  exact ⟨h.upd hI [4, 12] (zQ.wi (zQ.wi zQ.rf rfl) rfl) (zQ.wi (zQ.wi zQ.rf rfl) rfl) rfl (zAl2 ⟨h.eq (j := 12) (by decide), zrg_b (Or.inl (by decide)) (h.b (j := 12) (by decide))⟩ ⟨h.eq (j := 4) (by decide), zrg_b (Or.inl (by decide)) (h.b (j := 4) (by decide))⟩), zQ.wi (zQ.wi zQ.rf rfl) rfl, zQ.wi (zQ.wi zQ.rf rfl) rfl⟩
theorem t_cw5 (hI : zIoK I) (h : zTT I σ μ) : zp2 (fX5_changeWithOther σ 5) (fX12_change μ 5 13) (fun r r' => zTT I r r' ∧ zQ [] [(36, 5, 5), (36, 13, 13)] [] [] σ r ∧ zQ [] [(3, 5, 5), (3, 13, 13)] [] [] μ r') := by
  intro r r' er er'
  rw [p_cwC5 r er, p_cwM5 r' er']
  exact ⟨h.upd hI [5, 13] (zQ.wi (zQ.wi zQ.rf rfl) rfl) (zQ.wi (zQ.wi zQ.rf rfl) rfl) rfl (zAl2 ⟨h.eq (j := 13) (by decide), zrg_b (Or.inl (by decide)) (h.b (j := 13) (by decide))⟩ ⟨h.eq (j := 5) (by decide), zrg_b (Or.inl (by decide)) (h.b (j := 5) (by decide))⟩), zQ.wi (zQ.wi zQ.rf rfl) rfl, zQ.wi (zQ.wi zQ.rf rfl) rfl⟩
theorem t_cw6 (hI : zIoK I) (h : zTT I σ μ) : zp2 (fX5_changeWithOther σ 6) (fX12_change μ 6 14) (fun r r' => zTT I r r' ∧ zQ [] [(36, 6, 6), (36, 14, 14)] [] [] σ r ∧ zQ [] [(3, 6, 6), (3, 14, 14)] [] [] μ r') := by
  intro r r' er er'
  rw [p_cwC6 r er, p_cwM6 r' er']
  exact ⟨h.upd hI [6, 14] (zQ.wi (zQ.wi zQ.rf rfl) rfl) (zQ.wi (zQ.wi zQ.rf rfl) rfl) rfl (zAl2 ⟨h.eq (j := 14) (by decide), zrg_b (Or.inl (by decide)) (h.b (j := 14) (by decide))⟩ ⟨h.eq (j := 6) (by decide), zrg_b (Or.inl (by decide)) (h.b (j := 6) (by decide))⟩), zQ.wi (zQ.wi zQ.rf rfl) rfl, zQ.wi (zQ.wi zQ.rf rfl) rfl⟩
theorem t_cw7 (hI : zIoK I) (h : zTT I σ μ) : zp2 (fX5_changeWithOther σ 7) (fX12_change μ 7 15) (fun r r' => zTT I r r' ∧ zQ [] [(36, 7, 7), (36, 15, 15)] [] [] σ r ∧ zQ [] [(3, 7, 7), (3, 15, 15)] [] [] μ r') := by
  intro r r' er er'
  rw [p_cwC7 r er, p_cwM7 r' er']
  exact ⟨h.upd hI [7, 15] (zQ.wi (zQ.wi zQ.rf rfl) rfl) (zQ.wi (zQ.wi zQ.rf rfl) rfl) rfl (zAl2 ⟨h.eq (j := 15) (by decide), zrg_b (Or.inl (by decide)) (h.b (j := 15) (by decide))⟩ ⟨h.eq (j := 7) (by decide), zrg_b (Or.inl (by decide)) (h.b (j := 7) (by decide))⟩), zQ.wi (zQ.wi zQ.rf rfl) rfl, zQ.wi (zQ.wi zQ.rf rfl) rfl⟩
theorem t_cw1 (hI : zIoK I) (h : zTT I σ μ) (hF : zF σ μ) : zp2 (fX5_changeWithOther σ 1) (fX12_change μ 1 9) (fun r r' => zTT I r r' ∧ zF r r' ∧ zQ [] [(36, 1, 1), (36, 9, 9)] [] [] σ r ∧ zQ [] [(3, 1, 1), (3, 9, 9)] [] [] μ r') := by
  intro r r' er er'
  rw [p_cwC1 r er, p_cwM1 r' er']
  exact ⟨h.upd hI [1, 9] (zQ.wi (zQ.wi zQ.rf rfl) rfl) (zQ.wi (zQ.wi zQ.rf rfl) rfl) rfl (zAl2 ⟨h.eq (j := 9) (by decide), zrg_b (Or.inl (by decide)) (h.b (j := 9) (by decide))⟩ ⟨hF, zrg_b (Or.inl (by decide)) (h.b (j := 1) (by decide))⟩), h.eq (j := 9) (by decide), zQ.wi (zQ.wi zQ.rf rfl) rfl, zQ.wi (zQ.wi zQ.rf rfl) rfl⟩
theorem t_near (hI : zIoK I) (h : zTT I σ μ) (hF : zF σ μ) (hW : zWzz σ μ) {y : Int32} (hy : zr 0 7 y) : zp2 (fX5_near σ y) (fX12_zero μ y 0) (zEnq I) := by
  unfold fX5_near fX12_zero
  refine zp2_bvr (fun p _ => zp2_ifr (fun _ => ?_) (fun q => absurd rfl q))
  rcases zr_hd (c := 0) hy rfl with e | hy
  · subst e
    exact zp2_ifl (fun q => absurd q (by decide)) (fun _ => zp2_ifl (fun q => absurd q (by decide)) (fun _ => zp2_ifr (fun _ => zp2_some ⟨h, hF, hW, rfl⟩) (fun q => absurd rfl q)))
  rcases zr_hd (c := 1) hy rfl with e | hy
  · subst e
    refine zp2_ifl (fun q => absurd q (by decide)) (fun _ => zp2_ifl (fun _ => zp2_ifr (fun q => absurd q (by decide)) (fun _ => zp2_ifr (fun _ => ?_) (fun q => absurd rfl q))) (fun q => absurd rfl q))
    refine zp2_buu (t_cw0 hI h) (fun s t q => ?_)
    obtain ⟨h1, qc, qm⟩ := q
    refine zp2_buu (t_cw1 hI h1 (hF.of (qc.1 36 1 rfl) (qm.1 3 1 rfl))) (fun s2 t2 q2 => zp2_some ?_)
    obtain ⟨h2, f2, qc2, qm2⟩ := q2
    exact ⟨h2, f2, hW.of ((qc2.1 36 20 rfl).trans (qc.1 36 20 rfl)) ((qm2.1 3 20 rfl).trans (qm.1 3 20 rfl)), rfl⟩
  have y2 : 2 ≤ y := Int32.le_iff_toInt_le.mpr (by have := hy.1; have c : (2 : Int32).toInt = 2 := rfl; omega)
  have n0 : ¬ y = 0 := fun e => by rw [e] at y2; exact absurd y2 (by decide)
  have n1 : ¬ y = 1 := fun e => by rw [e] at y2; exact absurd y2 (by decide)
  refine zp2_ifl (fun _ => zp2_ifr (fun q => absurd q n0) (fun _ => zp2_ifr (fun q => absurd q n1) (fun _ => ?_))) (fun q => absurd y2 q)
  refine zp2_bii (t_next hI h) (fun s v t v' q => ?_)
  obtain ⟨h1, e1, rv, qc, qm⟩ := q
  have e1 : v' = v := e1
  subst e1
  have f1 : zF s t := hF.of (qc.1 36 1 rfl) (qm.1 3 1 rfl)
  have w1 : zWzz s t := hW.of (qc.1 36 20 rfl) (qm.1 3 20 rfl)
  refine zp2_bir p_signed (fun t1 v1 et => ?_)
  cases et
  refine zp2_bvl (fun d ed => ?_)
  have ed : d = if 128 ≤ v' then v' - 256 else v' := ed.trans (z_i8s rv)
  rw [← ed]
  unfold fX5_near_48 fX5_near_52 fX5_near_53 fX5_near_91 fX12_zero_67 fX12_zero_104
  rcases zr_hd (c := 2) hy rfl with e | hy
  · subst e
    refine zp2_ifl (fun q => absurd q (by decide)) (fun _ => zp2_ifl (fun _ => zp2_ifl (fun _ => zp2_ifr (fun _ => ?_) (fun q => absurd rfl q)) (fun q => absurd rfl q)) (fun q => absurd (by decide) q))
    refine zp2_ckl (zp2_ckl (zp2_bvl (fun s2 f2 => zp2_ckl (zp2_ckr (zp2_ckr (zp2_bvr (fun t2 g2 => zp2_ifr (fun _ => zp2_ckr ?_) (fun q => absurd rfl q))))))))
    have eb : t2.1 3 2 = s2.1 36 2 := by
      rw [f2, g2]
      show (t.1 3 2 - 1) &&& 255 = (s.1 36 2 - 1) &&& 255
      rw [h1.eq (by decide)]
    have h2 : zTT I s2 t2 := h1.upd hI [2] (by rw [f2]; exact zQ.wi zQ.rf rfl) (by rw [g2]; exact zQ.wi zQ.rf rfl) rfl (zAl1 ⟨eb, by rw [f2]; exact zrg_b (Or.inl (by decide)) (z_r8 _)⟩)
    have f3 : zF s2 t2 := f1.of (by rw [f2]; rfl) (by rw [g2]; rfl)
    have w3 : zWzz s2 t2 := w1.of (by rw [f2]; rfl) (by rw [g2]; rfl)
    by_cases b0 : s2.1 36 2 = 0
    · exact zp2_ifl (fun _ => zp2_ifr (fun _ => t_nr0 hI h2 f3 w3) (fun q => absurd (eb.trans b0) q)) (fun q => absurd b0 q)
    · exact zp2_ifl (fun q => absurd q b0) (fun _ => zp2_ifr (fun q => absurd (eb.symm.trans q) b0) (fun _ => t_nr1 hI h2 f3 w3))
  rcases zr_hd (c := 3) hy rfl with e | hy
  · subst e
    exact zp2_ifl (fun _ => zp2_ifl (fun q => absurd q (by decide)) (fun _ => zp2_ifr (fun q => absurd q (by decide)) (fun _ => zp2_ifr (fun q => absurd q (by decide)) (fun _ => zp2_ifr (fun _ => t_nr1 hI h1 f1 w1) (fun q => absurd rfl q))))) (fun q => absurd rfl q)
  have y4 : ¬ y ≤ 3 := fun q => by have := Int32.le_iff_toInt_le.mp q; have := hy.1; have c : (3 : Int32).toInt = 3 := rfl; omega
  have n2 : ¬ y = 2 := fun e => y4 (by rw [e]; decide)
  have n3 : ¬ y = 3 := fun e => y4 (by rw [e]; decide)
  have r4 : zr 0 7 (y - 4) := zr_sub (lo := 0) (hi := 7) hy (zr_c (lo := 4) (hi := 4) (x := 4) (by decide)) (by decide)
  refine zp2_ifl (fun q => absurd q n3) (fun _ => zp2_ifl (fun q => absurd q y4) (fun _ => zp2_ifr (fun q => absurd q n2) (fun _ => zp2_ifr (fun q => absurd q n2) (fun _ => zp2_ifr (fun q => absurd q n3) (fun _ => ?_)))))
  refine zp2_bii (t_cc f1 (h1.b (j := 1) (by decide)) r4) (fun s2 v2 t2 v3 q => ?_)
  obtain ⟨q1, q2, q3, q4⟩ := q
  have q1 : s2 = s := q1
  have q2 : t2 = t := q2
  have q3 : v3 = v2 := q3
  subst q1
  subst q2
  subst q3
  exact zp2_if (fun _ => zp2_ifl (fun q => absurd q n2) (fun _ => t_nr0 hI h1 f1 w1)) (fun _ => zp2_ifl (fun q => absurd q n2) (fun _ => t_nr1 hI h1 f1 w1))
/-! ld rp, nn; add hl, rp; inc, dec rp -/
theorem t_ldrp (hI : zIoK I) (h : zTT I σ μ) (hF : zF σ μ) (hW : zWzz σ μ) {p : Int32} : zp2 (fX5_loadPair σ p) (zbi (fX12_nextWord μ ) (fun σ21 v22 => zbu (fX12_rpTo σ21 p v22) (fun σ23 => some (σ23, (10 : Int32))))) (zEnq I) := by
  unfold fX5_loadPair
  refine zp2_bii (t_word hI h) (fun s v t v' q => ?_)
  obtain ⟨h1, e1, rv, qc, qm⟩ := q
  refine zp2_buu (t_rpTo hI h1 e1) (fun s2 t2 q2 => zp2_some ?_)
  obtain ⟨h2, qc2, qm2⟩ := q2
  exact ⟨h2, hF.of ((qc2.1 36 1 rfl).trans (qc.1 36 1 rfl)) ((qm2.1 3 1 rfl).trans (qm.1 3 1 rfl)), hW.of ((qc2.1 36 20 rfl).trans (qc.1 36 20 rfl)) ((qm2.1 3 20 rfl).trans (qm.1 3 20 rfl)), rfl⟩
theorem p_ahM {t : zSt} {v : Int32} {K : Prop} {d : Decidable K} : zpc (@ite _ K d (fX12_zero_249 t v 0 4) (fX12_zero_249 t v 1 4)) (fun r => r = (zsi t 3 1 (gxy (pt (pt (pt (t.1 3 1) 4 (@ite _ K d 0 1)) 0 (if v ≤ 65535 then 0 else 1)) 1 0) (v >>> ((8 : Int32) &&& 31))), 11)) := by
  refine zpc_j (K := fun g => fX12_zero_249 t v g 4) (a := 0) (b := 1) (fun g eg => ?_)
  unfold fX12_zero_249
  refine zpc_bu p_put' (fun s es => ?_)
  subst es
  refine zpc_j (K := fun c => fX12_zero_266 (zsi t 3 1 (pt (t.1 3 1) 4 g)) v c 0) (a := 0) (b := 1) (fun c ec => ?_)
  unfold fX12_zero_266
  refine zpc_bu p_put (fun s es => ?_)
  subst es
  refine zpc_bu p_put (fun s es => ?_)
  subst es
  refine zpc_bu p_xy (fun s es => zpc_some ?_)
  rw [es, eg, ec]
theorem t_addhl (hI : zIoK I) (h : zTT I σ μ) (hF : zF σ μ) {y p : Int32} (hp : zr 0 3 p) : zp2 (fX5_addPair σ p) (fX12_zero_178 μ y 1 p) (zEnq I) := by
  unfold fX5_addPair fX12_zero_178
  refine zp2_ifr (fun _ => zp2_sm (t_hl h) (fun a' ra => zp2_sm (t_rp h hp) (fun b' rb => ?_))) (fun q => absurd rfl q)
  refine zp2_bvl (fun v ev => zp2_ckl (zp2_bvl (fun s2 f2 => zp2_ckr (zp2_bvr (fun t2 g2 => zp2_bvr (fun v' ev' => ?_))))))
  have ev2 : v' = v := ev'.trans ev.symm
  subst ev2
  have h1 : zTT I s2 t2 := h.upd hI [20] (by rw [f2]; exact zQ.wi zQ.rf rfl) (by rw [g2]; exact zQ.wi zQ.rf rfl) rfl (zAl1 ⟨by rw [f2, g2]; rfl, by rw [f2]; exact zrg_w (by decide) (by decide) (z_r16 _)⟩)
  have w1 : zWzz s2 t2 := by rw [f2, g2]; rfl
  have f1 : zF s2 t2 := hF.of (by rw [f2]; rfl) (by rw [g2]; rfl)
  refine zp2_buu (t_hlTo hI h1 (v := v') (w := v') rfl) (fun s3 t3 q => ?_)
  obtain ⟨h3, qc, qm⟩ := q
  have f3 : zF s3 t3 := f1.of (qc.1 36 1 rfl) (qm.1 3 1 rfl)
  have w3 : zWzz s3 t3 := w1.of (qc.1 36 20 rfl) (qm.1 3 20 rfl)
  have hf : zr 0 255 (s3.1 36 1) := h3.b (by decide)
  refine zp2_ckl (zp2_ckl (zp2_bvl (fun s4 f4 => ?_)))
  intro r r' er er'
  cases er
  rw [p_ahM r' er']
  have tv : v'.toInt = a'.toInt + b'.toInt := by rw [ev']; exact z_tadd ra rb (by decide)
  have rv : zr 0 131071 v' := by rw [ev']; exact zr_add (lo := 0) (hi := 131071) ra rb (by decide)
  have m1 : (a' &&& 4095).toInt = a'.toInt % 4096 := z_mask (k := 12) ra.1 rfl (by decide)
  have m2 : (b' &&& 4095).toInt = b'.toInt % 4096 := z_mask (k := 12) rb.1 rfl (by decide)
  have a12 : ∀ x : Int32, zr 0 4095 (x &&& 4095) := fun x => zr_andr (lo := 0) (hi := 4095) (zr_c (lo := 4095) (hi := 4095) (by decide)) (by decide)
  have m3 : ((a' &&& 4095) + (b' &&& 4095)).toInt = (a' &&& 4095).toInt + (b' &&& 4095).toInt := z_tadd (a12 _) (a12 _) (by decide)
  have c4 : (4095 : Int32).toInt = 4095 := rfl
  have hh := v_h12 (a := a') (b := b') (v := v') (X := (a' ^^^ b') ^^^ v') (c := 0) (K := ((a' &&& 4095) + (b' &&& 4095)) ≤ 4095) (d := inferInstance) ra rb (by omega) (by decide) rfl (by rw [Int32.le_iff_toInt_le]; omega)
  have eF : t3.1 3 1 = s3.1 36 1 := f3
  have e : gxy (pt (pt (pt (s3.1 36 1) 4 (if ((a' &&& 4095) + (b' &&& 4095)) ≤ 4095 then 0 else 1)) 0 (if v' ≤ 65535 then 0 else 1)) 1 0) (v' >>> ((8 : Int32) &&& 31)) = (((s3.1 36 1 &&& 196) ||| ((v' >>> ((8 : Int32) &&& 31)) &&& 40)) ||| ((((a' ^^^ b') ^^^ v') >>> ((8 : Int32) &&& 31)) &&& 16)) ||| (v' >>> ((16 : Int32) &&& 31)) := by
    rw [hh, z_196 hf, z_x512 rv, v_17 rv, ← v_ahB]
    conv => lhs; rw [fl_of hf, pt_4, pt_0, pt_1, fl_xy]
    rfl
  have rF : zr 0 255 ((((s3.1 36 1 &&& 196) ||| ((v' >>> ((8 : Int32) &&& 31)) &&& 40)) ||| ((((a' ^^^ b') ^^^ v') >>> ((8 : Int32) &&& 31)) &&& 16)) ||| (v' >>> ((16 : Int32) &&& 31))) := by
    rw [hh, z_196 hf, z_x512 rv, v_17 rv, ← v_ahB]
    exact zfl_r _ _ _ _ _ _ _ _
  rw [eF, e, f4]
  exact ⟨(h3.onC hI (Or.inl rfl) (zrg_b (Or.inl (by decide)) rF)).onM hI (Or.inl rfl), rfl, w3, rfl⟩
theorem t_ldn (hI : zIoK I) (h : zTT I σ μ) (hF : zF σ μ) (hW : zWzz σ μ) (hp : zPlc σ μ) {y : Int32} (hy : zr 0 7 y) : zp2 (zbi (fX5_fetch σ ) (fun s v => zbu (fX5_putOne s y v) (fun s2 => if y = 6 then fX5_firstQuarter_193 s2 10 else fX5_firstQuarter_193 s2 7))) (fX12_singles μ y 6) (zEnq I) := by
  unfold fX12_singles
  refine zp2_ifr (fun _ => zp2_bii (t_next hI h) (fun s v t v' q => ?_)) (fun q => absurd rfl q)
  obtain ⟨h1, e1, rv, qc, qm⟩ := q
  have e1 : v' = v := e1
  subst e1
  refine zp2_buu (t_putOne hI h1 (hp.of (qc.1 7 5 rfl) (qc.1 36 6 rfl) (qc.1 36 7 rfl) (qm.1 3 20 rfl) (qm.1 0 32 rfl)) hy (z_m255 rv) rv) (fun s2 t2 q2 => ?_)
  obtain ⟨h2, qc2, qm2⟩ := q2
  have f2 : zF s2 t2 := hF.of ((qc2.1 36 1 rfl).trans (qc.1 36 1 rfl)) ((qm2.1 3 1 rfl).trans (qm.1 3 1 rfl))
  have w2 : zWzz s2 t2 := hW.of ((qc2.1 36 20 rfl).trans (qc.1 36 20 rfl)) ((qm2.1 3 20 rfl).trans (qm.1 3 20 rfl))
  unfold fX5_firstQuarter_193 fX12_singles_28
  exact zp2_if (fun _ => zp2_some ⟨h2, f2, w2, rfl⟩) (fun _ => zp2_some ⟨h2, f2, w2, rfl⟩)
end ZQ1
end ZJN9
section ZJN10
/-! FAR AND MOVES -/
section ZFA
variable {I : zSt → zSt → Prop} {σ μ : zSt}
theorem t_p0 (h : zTT I σ μ) : zp2 (fX5_pair σ 0) (fX12_pair μ 2) (fun r r' => r.1 = σ ∧ r'.1 = μ ∧ r'.2 = r.2 ∧ zr 0 65535 r.2) := by
  unfold fX5_pair
  exact zp2_ifl (fun _ => zp2_bilp (t_pair2 h) (fun s v b q => zp2_some q)) (fun q => absurd rfl q)
theorem t_p1 (h : zTT I σ μ) : zp2 (fX5_pair σ 1) (fX12_pair μ 4) (fun r r' => r.1 = σ ∧ r'.1 = μ ∧ r'.2 = r.2 ∧ zr 0 65535 r.2) := by
  unfold fX5_pair
  exact zp2_ifl (fun q => absurd q (by decide)) (fun _ => zp2_ifl (fun _ => zp2_bilp (t_pair4 h) (fun s v b q => zp2_some q)) (fun q => absurd rfl q))
/-- behind a read or a write: WZ is put on both sides -/
theorem zEnq.wz (hI : zIoK I) (h : zTT I σ μ) (hF : zF σ μ) {v w b : Int32} (e : w = v) (hv : zr 0 65535 v) : zEnq I (zsi σ 36 20 v, b) (zsi μ 3 20 w, b) := by
  subst e
  exact ⟨(h.onC hI (Or.inr rfl) (zrg_w (by decide) (by decide) hv)).onM hI (Or.inr rfl), hF, rfl, rfl⟩
theorem z_awz {a v : Int32} (ha : zr 0 255 a) : zr 0 65535 ((a <<< ((8 : Int32) &&& 31)) ||| ((v + 1) &&& 255)) := z_rw' ha (z_r8 _)
theorem t_far (hI : zIoK I) (h : zTT I σ μ) (hF : zF σ μ) {y : Int32} (hy : zr 0 7 y) : zp2 (fX5_far σ y) (fX12_moves μ (y >>> ((1 : Int32) &&& 31)) (y &&& 1)) (zEnq I) := by
  unfold fX5_far fX12_moves fX5_far_12 fX12_moves_15 fX12_moves_114 fX12_moves_160 fX12_moves_195 fX12_moves_201 fX12_moves_85 fX12_moves_214
  rcases zr_hd (c := 0) hy rfl with e | hy
  · subst e
    refine zp2_ifl (fun q => absurd q (by decide)) (fun _ => ?_)
    refine zp2_ifl (fun q => absurd q (by decide)) (fun _ => zp2_ifr (fun q => absurd q (by decide)) (fun _ => ?_))
    refine zp2_ifr (fun _ => ?_) (fun q => absurd (by decide) q)
    refine zp2_bii (t_p0 h) (fun s v t v' q => ?_)
    obtain ⟨q1, q2, q3, rv⟩ := q
    have q1 : s = σ := q1
    have q2 : t = μ := q2
    have q3 : v' = v := q3
    subst q1
    subst q2
    subst q3
    have rv : zr 0 65535 v' := rv
    unfold fX5_far_32 fX5_far_140 fX5_far_152 fX5_far_78
    refine zp2_ckl (zp2_bvl (fun s1 f1 => ?_))
    have h1 : zTT I s1 t := by rw [f1]; exact h.onC hI (Or.inr rfl) (zrg_w (by decide) (by decide) (z_r16 _))
    have F1 : zF s1 t := hF.of (by rw [f1]; rfl) rfl
    have wz : s1 = zsi s1 36 20 ((v' + 1) &&& 65535) := by rw [f1]; exact zsi_ow.symm
    refine zp2_ifl (fun q => absurd q (by decide)) (fun _ => ?_)
    refine zp2_ifl (fun _ => zp2_ckl (zp2_ifr (fun _ => zp2_ckr ?_) (fun q => absurd (by decide) q))) (fun q => absurd rfl q)
    refine zp2_wr h1.1 rfl (by rw [show zgi t 3 (0 : Int32).toNatClampNeg = s1.1 36 0 from h1.eq (by decide)]; exact z_m255 (h1.b (by decide))) (h1.b (j := 0) (by decide)) (fun s3 t3 hm qc3 qm3 => ?_)
    have h3 := h1.mem hI hm qc3 qm3
    have ea : zgi t3 3 (0 : Int32).toNatClampNeg = zgi s3 36 (0 : Int32).toNatClampNeg := h3.eq (by decide)
    refine zp2_ckl (zp2_ckl (zp2_bvl (fun s4 f4 => zp2_ifl (fun q => absurd q (by decide)) (fun _ => ?_))))
    refine zp2_ckr (zp2_ckr (zp2_bvr (fun t4 g4 => zp2_some ?_)))
    rw [f4, g4]
    exact zEnq.wz hI h3 (F1.of (qc3.1 36 1 rfl) (qm3.1 3 1 rfl)) (by rw [ea]) (z_awz (h3.b (j := 0) (by decide)))
  rcases zr_hd (c := 1) hy rfl with e | hy
  · subst e
    refine zp2_ifl (fun _ => ?_) (fun q => absurd rfl q)
    refine zp2_ifl (fun q => absurd q (by decide)) (fun _ => zp2_ifr (fun q => absurd q (by decide)) (fun _ => ?_))
    refine zp2_ifr (fun _ => ?_) (fun q => absurd (by decide) q)
    refine zp2_bii (t_p0 h) (fun s v t v' q => ?_)
    obtain ⟨q1, q2, q3, rv⟩ := q
    have q1 : s = σ := q1
    have q2 : t = μ := q2
    have q3 : v' = v := q3
    subst q1
    subst q2
    subst q3
    have rv : zr 0 65535 v' := rv
    unfold fX5_far_32 fX5_far_140 fX5_far_152 fX5_far_78
    refine zp2_ckl (zp2_bvl (fun s1 f1 => ?_))
    have h1 : zTT I s1 t := by rw [f1]; exact h.onC hI (Or.inr rfl) (zrg_w (by decide) (by decide) (z_r16 _))
    have F1 : zF s1 t := hF.of (by rw [f1]; rfl) rfl
    have wz : s1 = zsi s1 36 20 ((v' + 1) &&& 65535) := by rw [f1]; exact zsi_ow.symm
    refine zp2_ifl (fun q => absurd q (by decide)) (fun _ => ?_)
    refine zp2_ifl (fun q => absurd q (by decide)) (fun _ => zp2_ifr (fun q => absurd q (by decide)) (fun _ => ?_))
    refine zp2_rd h1.1 rfl (fun b rb => zp2_ckl (zp2_bvl (fun s4 f4 => zp2_ifl (fun q => absurd q (by decide)) (fun _ => ?_))))
    refine zp2_ckr (zp2_bvr (fun t3 g3 => ?_))
    have h3 : zTT I s4 t3 := h1.upd hI [0] (by rw [f4]; exact zQ.wi zQ.rf rfl) (by rw [g3]; exact zQ.wi zQ.rf rfl) rfl (zAl1 ⟨by rw [f4, g3]; rfl, by rw [f4]; exact zrg_b (Or.inl (by decide)) rb⟩)
    have F3 : zF s4 t3 := F1.of (by rw [f4]; rfl) (by rw [g3]; rfl)
    have w3 : s4 = zsi s4 36 20 ((v' + 1) &&& 65535) := by
      have e : s4.1 36 20 = (v' + 1) &&& 65535 := by rw [f4, f1]; rfl
      rw [← e]; exact zsi_own.symm
    refine zp2_ckr (zp2_bvr (fun t4 g4 => zp2_some ?_))
    rw [w3, g4]
    exact zEnq.wz hI h3 F3 rfl (z_r16 _)
  rcases zr_hd (c := 2) hy rfl with e | hy
  · subst e
    refine zp2_ifl (fun q => absurd q (by decide)) (fun _ => ?_)
    refine zp2_ifl (fun q => absurd q (by decide)) (fun _ => zp2_ifr (fun q => absurd q (by decide)) (fun _ => ?_))
    refine zp2_ifr (fun q => absurd q (by decide)) (fun _ => ?_)
    refine zp2_bii (t_p1 h) (fun s v t v' q => ?_)
    obtain ⟨q1, q2, q3, rv⟩ := q
    have q1 : s = σ := q1
    have q2 : t = μ := q2
    have q3 : v' = v := q3
    subst q1
    subst q2
    subst q3
    have rv : zr 0 65535 v' := rv
    unfold fX5_far_32 fX5_far_140 fX5_far_152 fX5_far_78
    refine zp2_ckl (zp2_bvl (fun s1 f1 => ?_))
    have h1 : zTT I s1 t := by rw [f1]; exact h.onC hI (Or.inr rfl) (zrg_w (by decide) (by decide) (z_r16 _))
    have F1 : zF s1 t := hF.of (by rw [f1]; rfl) rfl
    have wz : s1 = zsi s1 36 20 ((v' + 1) &&& 65535) := by rw [f1]; exact zsi_ow.symm
    refine zp2_ifl (fun q => absurd q (by decide)) (fun _ => ?_)
    refine zp2_ifl (fun _ => zp2_ckl (zp2_ifr (fun _ => zp2_ckr ?_) (fun q => absurd (by decide) q))) (fun q => absurd rfl q)
    refine zp2_wr h1.1 rfl (by rw [show zgi t 3 (0 : Int32).toNatClampNeg = s1.1 36 0 from h1.eq (by decide)]; exact z_m255 (h1.b (by decide))) (h1.b (j := 0) (by decide)) (fun s3 t3 hm qc3 qm3 => ?_)
    have h3 := h1.mem hI hm qc3 qm3
    have ea : zgi t3 3 (0 : Int32).toNatClampNeg = zgi s3 36 (0 : Int32).toNatClampNeg := h3.eq (by decide)
    refine zp2_ckl (zp2_ckl (zp2_bvl (fun s4 f4 => zp2_ifl (fun q => absurd q (by decide)) (fun _ => ?_))))
    refine zp2_ckr (zp2_ckr (zp2_bvr (fun t4 g4 => zp2_some ?_)))
    rw [f4, g4]
    exact zEnq.wz hI h3 (F1.of (qc3.1 36 1 rfl) (qm3.1 3 1 rfl)) (by rw [ea]) (z_awz (h3.b (j := 0) (by decide)))
  rcases zr_hd (c := 3) hy rfl with e | hy
  · subst e
    refine zp2_ifl (fun _ => ?_) (fun q => absurd rfl q)
    refine zp2_ifl (fun q => absurd q (by decide)) (fun _ => zp2_ifr (fun q => absurd q (by decide)) (fun _ => ?_))
    refine zp2_ifr (fun q => absurd q (by decide)) (fun _ => ?_)
    refine zp2_bii (t_p1 h) (fun s v t v' q => ?_)
    obtain ⟨q1, q2, q3, rv⟩ := q
    have q1 : s = σ := q1
    have q2 : t = μ := q2
    have q3 : v' = v := q3
    subst q1
    subst q2
    subst q3
    have rv : zr 0 65535 v' := rv
    unfold fX5_far_32 fX5_far_140 fX5_far_152 fX5_far_78
    refine zp2_ckl (zp2_bvl (fun s1 f1 => ?_))
    have h1 : zTT I s1 t := by rw [f1]; exact h.onC hI (Or.inr rfl) (zrg_w (by decide) (by decide) (z_r16 _))
    have F1 : zF s1 t := hF.of (by rw [f1]; rfl) rfl
    have wz : s1 = zsi s1 36 20 ((v' + 1) &&& 65535) := by rw [f1]; exact zsi_ow.symm
    refine zp2_ifl (fun q => absurd q (by decide)) (fun _ => ?_)
    refine zp2_ifl (fun q => absurd q (by decide)) (fun _ => zp2_ifr (fun q => absurd q (by decide)) (fun _ => ?_))
    refine zp2_rd h1.1 rfl (fun b rb => zp2_ckl (zp2_bvl (fun s4 f4 => zp2_ifl (fun q => absurd q (by decide)) (fun _ => ?_))))
    refine zp2_ckr (zp2_bvr (fun t3 g3 => ?_))
    have h3 : zTT I s4 t3 := h1.upd hI [0] (by rw [f4]; exact zQ.wi zQ.rf rfl) (by rw [g3]; exact zQ.wi zQ.rf rfl) rfl (zAl1 ⟨by rw [f4, g3]; rfl, by rw [f4]; exact zrg_b (Or.inl (by decide)) rb⟩)
    have F3 : zF s4 t3 := F1.of (by rw [f4]; rfl) (by rw [g3]; rfl)
    have w3 : s4 = zsi s4 36 20 ((v' + 1) &&& 65535) := by
      have e : s4.1 36 20 = (v' + 1) &&& 65535 := by rw [f4, f1]; rfl
      rw [← e]; exact zsi_own.symm
    refine zp2_ckr (zp2_bvr (fun t4 g4 => zp2_some ?_))
    rw [w3, g4]
    exact zEnq.wz hI h3 F3 rfl (z_r16 _)
  rcases zr_hd (c := 4) hy rfl with e | hy
  · subst e
    refine zp2_ifl (fun q => absurd q (by decide)) (fun _ => ?_)
    refine zp2_ifl (fun _ => zp2_ifr (fun _ => ?_) (fun q => absurd (by decide) q)) (fun q => absurd (by decide) q)
    refine zp2_bii (t_word hI h) (fun s v t v' q => ?_)
    obtain ⟨h0, e1, rv, qc, qm⟩ := q
    have e1 : v' = v := e1
    subst e1
    have hF : zF s t := hF.of (qc.1 36 1 rfl) (qm.1 3 1 rfl)
    have h := h0
    have rv : zr 0 65535 v' := rv
    unfold fX5_far_32 fX5_far_140 fX5_far_152 fX5_far_78
    refine zp2_ckl (zp2_bvl (fun s1 f1 => ?_))
    have h1 : zTT I s1 t := by rw [f1]; exact h.onC hI (Or.inr rfl) (zrg_w (by decide) (by decide) (z_r16 _))
    have F1 : zF s1 t := hF.of (by rw [f1]; rfl) rfl
    have wz : s1 = zsi s1 36 20 ((v' + 1) &&& 65535) := by rw [f1]; exact zsi_ow.symm
    refine zp2_ifl (fun _ => ?_) (fun q => absurd (by decide) q)
    refine zp2_ifr (fun _ => ?_) (fun q => absurd (by decide) q)
    refine zp2_ifl (fun _ => zp2_ifr (fun _ => zp2_ifr (fun _ => ?_) (fun q => absurd (by decide) q)) (fun q => absurd (by decide) q)) (fun q => absurd rfl q)
    refine zp2_bii (t_hl h1) (fun s2 w t2 w' q => ?_)
    obtain ⟨q1, q2, q3, rw1⟩ := q
    have q1 : s2 = s1 := q1
    have q2 : t2 = t := q2
    have q3 : w' = w := q3
    subst q1
    subst q2
    subst q3
    refine zp2_buu (t_wword h1.1 rfl rfl rw1) (fun s3 t3 q => ?_)
    obtain ⟨hm, qc3, qm3⟩ := q
    have h3 := h1.mem hI hm qc3 qm3
    refine zp2_ifr (fun q => absurd q (by decide)) (fun _ => zp2_ckr (zp2_bvr (fun t4 g4 => zp2_ifr (fun _ => zp2_some ?_) (fun q => absurd (by decide) q))))
    have w3 : s3 = zsi s3 36 20 ((v' + 1) &&& 65535) := by
      have e : s3.1 36 20 = (v' + 1) &&& 65535 := by rw [qc3.1 36 20 rfl, f1]; rfl
      rw [← e]; exact zsi_own.symm
    rw [w3, g4]
    exact zEnq.wz hI h3 (F1.of (qc3.1 36 1 rfl) (qm3.1 3 1 rfl)) rfl (z_r16 _)
  rcases zr_hd (c := 5) hy rfl with e | hy
  · subst e
    refine zp2_ifl (fun _ => ?_) (fun q => absurd rfl q)
    refine zp2_ifl (fun _ => zp2_ifr (fun _ => ?_) (fun q => absurd (by decide) q)) (fun q => absurd (by decide) q)
    refine zp2_bii (t_word hI h) (fun s v t v' q => ?_)
    obtain ⟨h0, e1, rv, qc, qm⟩ := q
    have e1 : v' = v := e1
    subst e1
    have hF : zF s t := hF.of (qc.1 36 1 rfl) (qm.1 3 1 rfl)
    have h := h0
    have rv : zr 0 65535 v' := rv
    unfold fX5_far_32 fX5_far_140 fX5_far_152 fX5_far_78
    refine zp2_ckl (zp2_bvl (fun s1 f1 => ?_))
    have h1 : zTT I s1 t := by rw [f1]; exact h.onC hI (Or.inr rfl) (zrg_w (by decide) (by decide) (z_r16 _))
    have F1 : zF s1 t := hF.of (by rw [f1]; rfl) rfl
    have wz : s1 = zsi s1 36 20 ((v' + 1) &&& 65535) := by rw [f1]; exact zsi_ow.symm
    refine zp2_ifl (fun _ => ?_) (fun q => absurd (by decide) q)
    refine zp2_ifr (fun _ => ?_) (fun q => absurd (by decide) q)
    refine zp2_ifl (fun q => absurd q (by decide)) (fun _ => zp2_ifr (fun q => absurd q (by decide)) (fun _ => ?_))
    refine zp2_bii (t_rword h1.1 rfl) (fun s2 w t2 w' q => ?_)
    obtain ⟨q1, q2, q3, rw1⟩ := q
    have q1 : s2 = s1 := q1
    have q2 : t2 = t := q2
    have q3 : w' = w := q3
    subst q1
    subst q2
    subst q3
    refine zp2_buu (t_hlTo hI h1 rfl) (fun s3 t3 q => ?_)
    obtain ⟨h3, qc3, qm3⟩ := q
    refine zp2_ifr (fun q => absurd q (by decide)) (fun _ => zp2_ckr (zp2_bvr (fun t4 g4 => zp2_ifr (fun _ => zp2_some ?_) (fun q => absurd (by decide) q))))
    have w3 : s3 = zsi s3 36 20 ((v' + 1) &&& 65535) := by
      have e : s3.1 36 20 = (v' + 1) &&& 65535 := by rw [qc3.1 36 20 rfl, f1]; rfl
      rw [← e]; exact zsi_own.symm
    rw [w3, g4]
    exact zEnq.wz hI h3 (F1.of (qc3.1 36 1 rfl) (qm3.1 3 1 rfl)) rfl (z_r16 _)
  rcases zr_hd (c := 6) hy rfl with e | hy
  · subst e
    refine zp2_ifl (fun q => absurd q (by decide)) (fun _ => ?_)
    refine zp2_ifl (fun _ => zp2_ifr (fun _ => ?_) (fun q => absurd (by decide) q)) (fun q => absurd (by decide) q)
    refine zp2_bii (t_word hI h) (fun s v t v' q => ?_)
    obtain ⟨h0, e1, rv, qc, qm⟩ := q
    have e1 : v' = v := e1
    subst e1
    have hF : zF s t := hF.of (qc.1 36 1 rfl) (qm.1 3 1 rfl)
    have h := h0
    have rv : zr 0 65535 v' := rv
    unfold fX5_far_32 fX5_far_140 fX5_far_152 fX5_far_78
    refine zp2_ckl (zp2_bvl (fun s1 f1 => ?_))
    have h1 : zTT I s1 t := by rw [f1]; exact h.onC hI (Or.inr rfl) (zrg_w (by decide) (by decide) (z_r16 _))
    have F1 : zF s1 t := hF.of (by rw [f1]; rfl) rfl
    have wz : s1 = zsi s1 36 20 ((v' + 1) &&& 65535) := by rw [f1]; exact zsi_ow.symm
    refine zp2_ifl (fun q => absurd q (by decide)) (fun _ => ?_)
    refine zp2_ifr (fun q => absurd q (by decide)) (fun _ => zp2_ifr (fun q => absurd q (by decide)) (fun _ => ?_))
    refine zp2_ifl (fun _ => zp2_ckl (zp2_ifr (fun _ => zp2_ckr ?_) (fun q => absurd (by decide) q))) (fun q => absurd rfl q)
    refine zp2_wr h1.1 rfl (by rw [show zgi t 3 (0 : Int32).toNatClampNeg = s1.1 36 0 from h1.eq (by decide)]; exact z_m255 (h1.b (by decide))) (h1.b (j := 0) (by decide)) (fun s3 t3 hm qc3 qm3 => ?_)
    have h3 := h1.mem hI hm qc3 qm3
    have ea : zgi t3 3 (0 : Int32).toNatClampNeg = zgi s3 36 (0 : Int32).toNatClampNeg := h3.eq (by decide)
    refine zp2_ckl (zp2_ckl (zp2_bvl (fun s4 f4 => zp2_ifl (fun _ => ?_) (fun q => absurd (by decide) q))))
    refine zp2_ifr (fun _ => zp2_ifr (fun _ => zp2_ckr (zp2_ckr (zp2_bvr (fun t4 g4 => zp2_ifr (fun q => absurd q (by decide)) (fun _ => zp2_some ?_))))) (fun q => absurd (by decide) q)) (fun q => absurd (by decide) q)
    rw [f4, g4]
    exact zEnq.wz hI h3 (F1.of (qc3.1 36 1 rfl) (qm3.1 3 1 rfl)) (by rw [ea]) (z_awz (h3.b (j := 0) (by decide)))
  rcases zr_hd (c := 7) hy rfl with e | hy
  · subst e
    refine zp2_ifl (fun _ => ?_) (fun q => absurd rfl q)
    refine zp2_ifl (fun _ => zp2_ifr (fun _ => ?_) (fun q => absurd (by decide) q)) (fun q => absurd (by decide) q)
    refine zp2_bii (t_word hI h) (fun s v t v' q => ?_)
    obtain ⟨h0, e1, rv, qc, qm⟩ := q
    have e1 : v' = v := e1
    subst e1
    have hF : zF s t := hF.of (qc.1 36 1 rfl) (qm.1 3 1 rfl)
    have h := h0
    have rv : zr 0 65535 v' := rv
    unfold fX5_far_32 fX5_far_140 fX5_far_152 fX5_far_78
    refine zp2_ckl (zp2_bvl (fun s1 f1 => ?_))
    have h1 : zTT I s1 t := by rw [f1]; exact h.onC hI (Or.inr rfl) (zrg_w (by decide) (by decide) (z_r16 _))
    have F1 : zF s1 t := hF.of (by rw [f1]; rfl) rfl
    have wz : s1 = zsi s1 36 20 ((v' + 1) &&& 65535) := by rw [f1]; exact zsi_ow.symm
    refine zp2_ifl (fun q => absurd q (by decide)) (fun _ => ?_)
    refine zp2_ifr (fun q => absurd q (by decide)) (fun _ => zp2_ifr (fun q => absurd q (by decide)) (fun _ => ?_))
    refine zp2_ifl (fun q => absurd q (by decide)) (fun _ => zp2_ifr (fun q => absurd q (by decide)) (fun _ => ?_))
    refine zp2_rd h1.1 rfl (fun b rb => zp2_ckl (zp2_bvl (fun s4 f4 => zp2_ifl (fun _ => ?_) (fun q => absurd (by decide) q))))
    refine zp2_ckr (zp2_bvr (fun t3 g3 => ?_))
    have h3 : zTT I s4 t3 := h1.upd hI [0] (by rw [f4]; exact zQ.wi zQ.rf rfl) (by rw [g3]; exact zQ.wi zQ.rf rfl) rfl (zAl1 ⟨by rw [f4, g3]; rfl, by rw [f4]; exact zrg_b (Or.inl (by decide)) rb⟩)
    have F3 : zF s4 t3 := F1.of (by rw [f4]; rfl) (by rw [g3]; rfl)
    have w3 : s4 = zsi s4 36 20 ((v' + 1) &&& 65535) := by
      have e : s4.1 36 20 = (v' + 1) &&& 65535 := by rw [f4, f1]; rfl
      rw [← e]; exact zsi_own.symm
    refine zp2_ifr (fun _ => zp2_ifr (fun q => absurd q (by decide)) (fun _ => zp2_ckr (zp2_bvr (fun t4 g4 => zp2_ifr (fun q => absurd q (by decide)) (fun _ => zp2_some ?_))))) (fun q => absurd (by decide) q)
    rw [w3, g4]
    exact zEnq.wz hI h3 F3 rfl (z_r16 _)
  exact zr_no9 hy (by decide)
end ZFA
end ZJN10
