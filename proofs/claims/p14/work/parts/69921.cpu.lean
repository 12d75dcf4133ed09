/-! BOTH PROCESSORS: what belongs together within an instruction -/
def zsub (R : List Nat) (A : List (Nat × Nat × Nat)) (R' : List Nat) (A' : List (Nat × Nat × Nat)) : Bool := R.all (fun k => R'.any (Nat.beq k)) && A.all (fun e => R'.any (Nat.beq e.1) || A'.any (fun d => Nat.beq d.1 e.1 && (Nat.ble d.2.1 e.2.1 && Nat.ble e.2.2 d.2.2)))
theorem zcv_sub {R R' : List Nat} {A A' : List (Nat × Nat × Nat)} (c : zsub R A R' A' = true) {k j : Nat} (h : zcv R' A' k j = false) : zcv R A k j = false := by
  unfold zsub at c
  rw [Bool.and_eq_true, List.all_eq_true, List.all_eq_true] at c
  unfold zcv at h ⊢
  rw [Bool.or_eq_false_iff] at h
  rw [Bool.or_eq_false_iff]
  refine ⟨?_, ?_⟩
  · rw [List.any_eq_false] at *
    intro x hx q
    have a := c.1 x hx
    rw [List.any_eq_true] at a
    obtain ⟨y, y1, y2⟩ := a
    have e1 : k = x := Nat.eq_of_beq_eq_true q
    have e2 : x = y := Nat.eq_of_beq_eq_true y2
    exact h.1 y y1 (by rw [e1, e2]; exact Nat.beq_refl y)
  · rw [List.any_eq_false]
    intro e he q
    rw [Bool.and_eq_true, Bool.and_eq_true] at q
    obtain ⟨q1, q2, q3⟩ := q
    have e1 : e.1 = k := Nat.eq_of_beq_eq_true q1
    have a := c.2 e he
    rw [Bool.or_eq_true, List.any_eq_true, List.any_eq_true] at a
    rcases a with ⟨y, y1, y2⟩ | ⟨d, d1, d2⟩
    · have e2 : e.1 = y := Nat.eq_of_beq_eq_true y2
      have h1 := h.1
      rw [List.any_eq_false] at h1
      exact h1 y y1 (by rw [← e1, e2]; exact Nat.beq_refl y)
    · rw [Bool.and_eq_true, Bool.and_eq_true] at d2
      obtain ⟨r1, r2, r3⟩ := d2
      have h2 := h.2
      rw [List.any_eq_false] at h2
      refine h2 d d1 ?_
      rw [Bool.and_eq_true, Bool.and_eq_true]
      have a1 := Nat.le_of_ble_eq_true q2
      have a2 := Nat.le_of_ble_eq_true q3
      have a3 := Nat.le_of_ble_eq_true r2
      have a4 := Nat.le_of_ble_eq_true r3
      refine ⟨?_, Nat.ble_eq.mpr (by omega), Nat.ble_eq.mpr (by omega)⟩
      rw [← e1]
      exact r1
theorem zQ.mono {R R' S S' : List Nat} {A A' B B' : List (Nat × Nat × Nat)} {σ σ' : zSt} (h : zQ R A S B σ σ') (c : zsub R A R' A' = true) (d : zsub S B S' B' = true) : zQ R' A' S' B' σ σ' := ⟨fun k j q => h.1 k j (zcv_sub c q), fun k j q => h.2 k j (zcv_sub d q)⟩
theorem zp2_bll {α β : Type} {o : Option (zSt × Int64)} {p : Option β} {f : zSt → Int64 → Option α} {P : zSt × Int64 → Prop} {Q : α → β → Prop} (h : zpc o P) (k : ∀ σ v, P (σ, v) → zp2 (f σ v) p Q) : zp2 (zbl o f) p Q := by
  cases o with
  | none => exact zp2_nl
  | some a => exact k a.1 a.2 (h a rfl)
theorem zp2_bur {α β : Type} {o : Option α} {p : Option zSt} {f : zSt → Option β} {P : zSt → Prop} {Q : α → β → Prop} (h : zpc p P) (k : ∀ σ, P σ → zp2 o (f σ) Q) : zp2 o (zbu p f) Q := by
  cases p with
  | none => exact zp2_nr
  | some a => exact k a (h a rfl)
theorem zp2_bilp {α β : Type} {o : Option (zSt × Int32)} {p : Option β} {f : zSt → Int32 → Option α} {P : zSt × Int32 → β → Prop} {Q : α → β → Prop} (h : zp2 o p P) (k : ∀ s v b, P (s, v) b → zp2 (f s v) (some b) Q) : zp2 (zbi o f) p Q := by
  intro a b ea eb
  cases e : o with
  | none => rw [e] at ea; cases ea
  | some r =>
    rw [e] at ea
    exact k r.1 r.2 b (h r b e eb) a b ea rfl
/-! registers -/
def zrg (j : Nat) (v : Int32) : Prop := (j < 16 → zr 0 255 v) ∧ (16 ≤ j → j ≤ 20 → zr 0 65535 v) ∧ (21 ≤ j → j ≤ 22 → zr 0 255 v) ∧ (23 ≤ j → j ≤ 24 → zr 0 1 v) ∧ (j = 25 → zr 0 2 v) ∧ (26 ≤ j → j ≤ 28 → zr 0 1 v)
/-- all registers but F and WZ: those may differ in between -/
def zCq (σ μ : zSt) : Prop := (∀ j : Nat, j ≤ 26 → ¬ j = 1 → ¬ j = 20 → μ.1 3 j = σ.1 36 j) ∧ μ.1 3 28 = σ.1 36 27 ∧ μ.1 3 27 = σ.1 36 28 ∧ (∀ j : Nat, j ≤ 28 → zrg j (σ.1 36 j))
def zM2 (σ μ : zSt) : Prop := zMe σ μ ∧ zMr σ μ
def zJp (σ μ : zSt) : Prop := (σ.1 7 4 = 6 ∧ μ.1 0 31 = 0) ∨ (σ.1 7 4 = 16 ∧ μ.1 0 31 = 16) ∨ (σ.1 7 4 = 17 ∧ μ.1 0 31 = 17)
/-- what lies beside the processor and is left alone by it -/
def zIoK (I : zSt → zSt → Prop) : Prop := ∀ σ μ σ' μ', I σ μ → zQ [36, 7, 15, 17, 19] [] [] [] σ σ' → zQ [5, 6] [(3, 0, 32), (0, 31, 33)] [] [] μ μ' → I σ' μ'
def zTT (I : zSt → zSt → Prop) (σ μ : zSt) : Prop := zM2 σ μ ∧ zCq σ μ ∧ zJp σ μ ∧ I σ μ
def zall : List Nat → (Nat → Prop) → Prop
  | [], _ => True
  | a :: t, P => P a ∧ zall t P
theorem zall_of {P : Nat → Prop} : ∀ {A : List Nat}, zall A P → ∀ j ∈ A, P j
  | [], _, j, h => by cases h
  | a :: t, h, j, m => by
    rcases List.mem_cons.mp m with e | e
    · rw [e]; exact h.1
    · exact zall_of h.2 j e
theorem zAl0 {P : Nat → Prop} : zall [] P := trivial
theorem zAlc {P : Nat → Prop} {a : Nat} {t : List Nat} (p : P a) (q : zall t P) : zall (a :: t) P := ⟨p, q⟩
theorem zAl1 {P : Nat → Prop} {a : Nat} (p : P a) : zall [a] P := zAlc p zAl0
theorem zAl2 {P : Nat → Prop} {a b : Nat} (p : P a) (q : P b) : zall [a, b] P := zAlc p (zAl1 q)
theorem zAl3 {P : Nat → Prop} {a b c : Nat} (p : P a) (q : P b) (r : P c) : zall [a, b, c] P := zAlc p (zAl2 q r)
theorem zM2.keep {σ μ σ' μ' : zSt} (h : zM2 σ μ) (a : zQ [36, 7] [] [] [] σ σ') (b : zQ [] [(3, 0, 28), (0, 31, 33)] [] [] μ μ') : zM2 σ' μ' := by
  obtain ⟨⟨h1, h2, h3, h4, h5, h6⟩, ⟨r1, r2, r3, r4, r5, r6⟩⟩ := h
  have c : ∀ k j, ¬ k = 36 → ¬ k = 7 → σ'.1 k j = σ.1 k j := fun k j n1 n2 => a.1 k j (by
    unfold zcv
    rw [Bool.or_eq_false_iff]
    refine ⟨?_, rfl⟩
    rw [List.any_eq_false]
    intro x hx q
    have e : k = x := Nat.eq_of_beq_eq_true q
    rcases List.mem_cons.mp hx with r | r
    · exact n1 (e.trans r)
    · rcases List.mem_cons.mp r with r | r
      · exact n2 (e.trans r)
      · cases r)
  have m : ∀ k j, (¬ k = 3 ∧ ¬ k = 0) ∨ (k = 3 ∧ 28 < j) ∨ (k = 0 ∧ j < 31) → μ'.1 k j = μ.1 k j := fun k j n => b.1 k j (by
    unfold zcv
    rw [Bool.or_eq_false_iff]
    refine ⟨rfl, ?_⟩
    rw [List.any_eq_false]
    intro x hx q
    rw [Bool.and_eq_true, Bool.and_eq_true] at q
    obtain ⟨q1, q2, q3⟩ := q
    have e : x.1 = k := Nat.eq_of_beq_eq_true q1
    have a2 := Nat.le_of_ble_eq_true q2
    have a3 := Nat.le_of_ble_eq_true q3
    rcases List.mem_cons.mp hx with r | r
    · subst r
      have e : 3 = k := e
      have a3 : j ≤ 28 := a3
      omega
    · rcases List.mem_cons.mp r with r | r
      · subst r
        have e : 0 = k := e
        have a2 : 31 ≤ j := a2
        omega
      · cases r)
  have c1 : σ'.1 1 = σ.1 1 := funext fun j => c 1 j (by decide) (by decide)
  have m0 : ∀ j, j < 31 → μ'.1 0 j = μ.1 0 j := fun j hj => m 0 j (Or.inr (Or.inr ⟨rfl, hj⟩))
  refine ⟨⟨fun j hj => ?_, fun j hj => ?_, fun j hj => ?_, ?_, ?_, ?_⟩, ⟨?_, ?_, ?_, ?_, ?_, fun j j1 j2 => ?_⟩⟩
  · rw [c 15 j (by decide) (by decide), m 5 j (Or.inl (by decide))]; exact h1 j hj
  · rw [c 17 j (by decide) (by decide), m 6 j (Or.inl (by decide))]; exact h2 j hj
  · rw [c 19 j (by decide) (by decide), m 3 (29 + j) (Or.inr (Or.inl ⟨rfl, by omega⟩))]; exact h3 j hj
  · rw [c 19 3 (by decide) (by decide), m 3 32 (Or.inr (Or.inl ⟨rfl, by decide⟩))]; exact h4
  · refine h5.keep (fun j _ => by rw [c1]) (funext fun j => c _ j ?_ ?_) (fun j hj => m0 j ?_) (funext fun j => m 2 j (Or.inl (by decide)))
    · rcases z_tp13 (σ.1 1 1) with e | e <;> rw [e] <;> decide
    · rcases z_tp13 (σ.1 1 1) with e | e <;> rw [e] <;> decide
    · revert hj
      simp only [List.mem_cons, List.not_mem_nil, or_false]
      omega
  · unfold zFil
    rw [m0 5 (by decide), m0 6 (by decide), show μ'.1 2 = μ.1 2 from funext fun j => m 2 j (Or.inl (by decide))]
    exact h6
  · rw [c1]; exact r1
  · rw [c1]; exact r2
  · rw [m0 6 (by decide)]; exact r3
  · rw [m0 7 (by decide)]; exact r4
  · rw [m0 7 (by decide), m0 6 (by decide)]; exact r5
  · rw [m 3 j (Or.inr (Or.inl ⟨rfl, by omega⟩))]; exact r6 j j1 j2
section ZT1
variable {I : zSt → zSt → Prop} {σ μ σ1 μ1 : zSt}
theorem zTT.eq (h : zTT I σ μ) {j : Nat} (hj : j ≤ 26) (hn : ¬ j = 1 := by decide) (hw : ¬ j = 20 := by decide) : μ.1 3 j = σ.1 36 j := h.2.1.1 j hj hn hw
def zWzz (σ μ : zSt) : Prop := μ.1 3 20 = σ.1 36 20
theorem zWzz.of {σ2 μ2 : zSt} (h : zWzz σ μ) (a : σ2.1 36 20 = σ.1 36 20) (b : μ2.1 3 20 = μ.1 3 20) : zWzz σ2 μ2 := by
  unfold zWzz
  rw [a, b]
  exact h
def zF (σ μ : zSt) : Prop := μ.1 3 1 = σ.1 36 1
theorem zF.of {σ2 μ2 : zSt} (h : zF σ μ) (a : σ2.1 36 1 = σ.1 36 1) (b : μ2.1 3 1 = μ.1 3 1) : zF σ2 μ2 := by
  unfold zF
  rw [a, b]
  exact h
theorem zTT.g (h : zTT I σ μ) {j : Nat} (hj : j ≤ 28) : zrg j (σ.1 36 j) := h.2.1.2.2.2 j hj
theorem zTT.b (h : zTT I σ μ) {j : Nat} (hj : j < 16) : zr 0 255 (σ.1 36 j) := (h.g (by omega)).1 hj
theorem zTT.w (h : zTT I σ μ) {j : Nat} (h1 : 16 ≤ j) (h2 : j ≤ 20) : zr 0 65535 (σ.1 36 j) := (h.g (by omega)).2.1 h1 h2
theorem zrg_b {j : Nat} {v : Int32} (hj : j < 16 ∨ j = 21 ∨ j = 22) (h : zr 0 255 v) : zrg j v := ⟨fun _ => h, fun _ _ => zr_w h (by decide), fun _ _ => h, fun _ _ => by omega, fun _ => by omega, fun _ _ => by omega⟩
theorem zrg_w {j : Nat} {v : Int32} (h1 : 16 ≤ j) (h2 : j ≤ 20) (h : zr 0 65535 v) : zrg j v := ⟨fun _ => by omega, fun _ _ => h, fun _ _ => by omega, fun _ _ => by omega, fun _ => by omega, fun _ _ => by omega⟩
theorem zrg_1 {j : Nat} {v : Int32} (h1 : 23 ≤ j) (h2 : j ≤ 28) (h : zr 0 1 v) : zrg j v := ⟨fun _ => by omega, fun _ _ => by omega, fun _ _ => by omega, fun _ _ => h, fun _ => zr_w h (by decide), fun _ _ => h⟩
/-- the end of a stretch: the registers in A are the same, all others are as they were -/
theorem zTT.fin (hI : zIoK I) (h : zTT I σ μ) (A : List Nat) (hm : zM2 σ1 μ1) (qc : zQ [7, 15, 17, 19] (A.map (fun j => (36, j, j))) [] [] σ σ1) (qm : zQ [5, 6] ((0, 31, 33) :: (3, 29, 32) :: A.map (fun j => (3, j, j))) [] [] μ μ1) (hA : A.all (fun j => Nat.ble j 26) = true) (e : zall A (fun j => μ1.1 3 j = σ1.1 36 j ∧ zrg j (σ1.1 36 j))) (hj : zJp σ1 μ1) : zTT I σ1 μ1 := by
  have ea := zall_of e
  rw [List.all_eq_true] at hA
  have nc : ∀ j, ¬ j ∈ A → σ1.1 36 j = σ.1 36 j := fun j hj => qc.1 36 j (by
    unfold zcv
    rw [Bool.or_eq_false_iff]
    refine ⟨rfl, ?_⟩
    rw [List.any_eq_false]
    intro x hx q
    obtain ⟨i, i1, i2⟩ := List.mem_map.mp hx
    subst i2
    rw [Bool.and_eq_true, Bool.and_eq_true] at q
    have a2 := Nat.le_of_ble_eq_true q.2.1
    have a3 := Nat.le_of_ble_eq_true q.2.2
    have e : i = j := by
      have a2 : i ≤ j := a2
      have a3 : j ≤ i := a3
      omega
    exact hj (e ▸ i1))
  have nm : ∀ j, j ≤ 28 → ¬ j ∈ A → μ1.1 3 j = μ.1 3 j := fun j h28 hj => qm.1 3 j (by
    unfold zcv
    rw [Bool.or_eq_false_iff]
    refine ⟨rfl, ?_⟩
    rw [List.any_eq_false]
    intro x hx q
    rw [Bool.and_eq_true, Bool.and_eq_true] at q
    have a1 := Nat.eq_of_beq_eq_true q.1
    have a2 := Nat.le_of_ble_eq_true q.2.1
    have a3 := Nat.le_of_ble_eq_true q.2.2
    rcases List.mem_cons.mp hx with r | r
    · subst r; exact absurd a1 (by decide)
    · rcases List.mem_cons.mp r with r | r
      · subst r
        have a2 : 29 ≤ j := a2
        omega
      · obtain ⟨i, i1, i2⟩ := List.mem_map.mp r
        subst i2
        have a2 : i ≤ j := a2
        have a3 : j ≤ i := a3
        have e : i = j := by omega
        exact hj (e ▸ i1))
  have n27 : ∀ j, 26 < j → ¬ j ∈ A := fun j hj m => by
    have := Nat.le_of_ble_eq_true (hA j m)
    omega
  refine ⟨hm, ⟨fun j hj hn hw => ?_, ?_, ?_, fun j hj => ?_⟩, hj, hI σ μ σ1 μ1 h.2.2.2 ?_ ?_⟩
  · by_cases q : j ∈ A
    · exact (ea j q).1
    · rw [nm j (by omega) q, nc j q]; exact h.2.1.1 j hj hn hw
  · rw [nm 28 (by decide) (n27 28 (by decide)), nc 27 (n27 27 (by decide))]; exact h.2.1.2.1
  · rw [nm 27 (by decide) (n27 27 (by decide)), nc 28 (n27 28 (by decide))]; exact h.2.1.2.2.1
  · by_cases q : j ∈ A
    · exact (ea j q).2
    · rw [nc j q]; exact h.2.1.2.2.2 j hj
  · refine ⟨fun k j q => qc.1 k j ?_, qc.2⟩
    unfold zcv at q ⊢
    rw [Bool.or_eq_false_iff] at q ⊢
    have q1 := q.1
    rw [List.any_eq_false] at q1
    refine ⟨?_, ?_⟩
    · rw [List.any_eq_false]
      intro x hx
      exact q1 x (List.mem_cons_of_mem _ hx)
    · rw [List.any_eq_false]
      intro x hx r
      obtain ⟨i, i1, i2⟩ := List.mem_map.mp hx
      subst i2
      rw [Bool.and_eq_true] at r
      exact q1 36 (List.mem_cons_self) (by rw [← Nat.eq_of_beq_eq_true r.1]; exact Nat.beq_refl 36)
  · refine ⟨fun k j q => qm.1 k j ?_, qm.2⟩
    unfold zcv at q ⊢
    rw [Bool.or_eq_false_iff] at q ⊢
    refine ⟨q.1, ?_⟩
    have q2 := q.2
    rw [List.any_eq_false] at q2
    rw [List.any_eq_false]
    intro x hx r
    rw [Bool.and_eq_true, Bool.and_eq_true] at r
    obtain ⟨r1, r2, r3⟩ := r
    rcases List.mem_cons.mp hx with s | s
    · subst s
      exact q2 (0, 31, 33) (List.mem_cons_of_mem _ List.mem_cons_self) (by rw [r1, r2, r3]; rfl)
    · have a2 := Nat.le_of_ble_eq_true r2
      have a3 := Nat.le_of_ble_eq_true r3
      have k3 : Nat.beq 3 k = true ∧ j ≤ 32 := by
        rcases List.mem_cons.mp s with s | s
        · subst s; exact ⟨r1, a3⟩
        · obtain ⟨i, i1, i2⟩ := List.mem_map.mp s
          subst i2
          have b := Nat.le_of_ble_eq_true (hA i i1)
          have a3 : j ≤ i := a3
          exact ⟨r1, by omega⟩
      exact q2 (3, 0, 32) List.mem_cons_self (by rw [Bool.and_eq_true, Bool.and_eq_true]; exact ⟨k3.1, rfl, Nat.ble_eq.mpr k3.2⟩)
/-- the same where the memory was not written -/
theorem zTT.upd (hI : zIoK I) (h : zTT I σ μ) (A : List Nat) (qc : zQ [] (A.map (fun j => (36, j, j))) [] [] σ σ1) (qm : zQ [] (A.map (fun j => (3, j, j))) [] [] μ μ1) (hA : A.all (fun j => Nat.ble j 26) = true) (e : zall A (fun j => μ1.1 3 j = σ1.1 36 j ∧ zrg j (σ1.1 36 j))) : zTT I σ1 μ1 := by
  have hA' := hA
  rw [List.all_eq_true] at hA'
  have c1 : zsub [] (A.map (fun j => (36, j, j))) [36, 7] [] = true := by
    unfold zsub
    rw [Bool.and_eq_true]
    refine ⟨rfl, ?_⟩
    rw [List.all_eq_true]
    intro x hx
    obtain ⟨i, i1, i2⟩ := List.mem_map.mp hx
    subst i2
    rfl
  have c2 : zsub [] (A.map (fun j => (3, j, j))) [] [(3, 0, 28), (0, 31, 33)] = true := by
    unfold zsub
    rw [Bool.and_eq_true]
    refine ⟨rfl, ?_⟩
    rw [List.all_eq_true]
    intro x hx
    obtain ⟨i, i1, i2⟩ := List.mem_map.mp hx
    subst i2
    have b := Nat.le_of_ble_eq_true (hA' i i1)
    rw [Bool.or_eq_true]
    right
    rw [List.any_eq_true]
    refine ⟨(3, 0, 28), List.mem_cons_self, ?_⟩
    rw [Bool.and_eq_true, Bool.and_eq_true]
    exact ⟨rfl, rfl, Nat.ble_eq.mpr (by show i ≤ 28; omega)⟩
  have c3 : ∀ B : List (Nat × Nat × Nat), zsub [] B [7, 15, 17, 19] B = true := fun B => by
    unfold zsub
    rw [Bool.and_eq_true]
    refine ⟨rfl, ?_⟩
    rw [List.all_eq_true]
    intro x hx
    rw [Bool.or_eq_true]
    right
    rw [List.any_eq_true]
    exact ⟨x, hx, by rw [Bool.and_eq_true, Bool.and_eq_true]; exact ⟨Nat.beq_refl _, Nat.ble_eq.mpr (Nat.le_refl _), Nat.ble_eq.mpr (Nat.le_refl _)⟩⟩
  have c4 : ∀ B : List (Nat × Nat × Nat), zsub [] B [5, 6] ((0, 31, 33) :: (3, 29, 32) :: B) = true := fun B => by
    unfold zsub
    rw [Bool.and_eq_true]
    refine ⟨rfl, ?_⟩
    rw [List.all_eq_true]
    intro x hx
    rw [Bool.or_eq_true]
    right
    rw [List.any_eq_true]
    exact ⟨x, List.mem_cons_of_mem _ (List.mem_cons_of_mem _ hx), by rw [Bool.and_eq_true, Bool.and_eq_true]; exact ⟨Nat.beq_refl _, Nat.ble_eq.mpr (Nat.le_refl _), Nat.ble_eq.mpr (Nat.le_refl _)⟩⟩
  have e7 : ∀ i, σ1.1 7 i = σ.1 7 i := fun i => qc.1 7 i (by
    unfold zcv
    rw [Bool.or_eq_false_iff]
    refine ⟨rfl, ?_⟩
    rw [List.any_eq_false]
    intro x hx q
    obtain ⟨i, i1, i2⟩ := List.mem_map.mp hx
    subst i2
    rw [Bool.and_eq_true] at q
    exact absurd (show (36 : Nat) = 7 from Nat.eq_of_beq_eq_true q.1) (by decide))
  have e0 : ∀ i, μ1.1 0 i = μ.1 0 i := fun i => qm.1 0 i (by
    unfold zcv
    rw [Bool.or_eq_false_iff]
    refine ⟨rfl, ?_⟩
    rw [List.any_eq_false]
    intro x hx q
    obtain ⟨i, i1, i2⟩ := List.mem_map.mp hx
    subst i2
    rw [Bool.and_eq_true] at q
    exact absurd (show (3 : Nat) = 0 from Nat.eq_of_beq_eq_true q.1) (by decide))
  refine h.fin hI A (h.1.keep (qc.mono c1 rfl) (qm.mono c2 rfl)) (qc.mono (c3 _) rfl) (qm.mono (c4 _) rfl) hA e ?_
  have hj := h.2.2.1
  unfold zJp at hj ⊢
  rw [e7, e0]
  exact hj
/-- F or WZ on one side alone -/
theorem zTT.onC (hI : zIoK I) (h : zTT I σ μ) {i : Nat} {v : Int32} (hi : i = 1 ∨ i = 20) (hv : zrg i v) : zTT I (zsi σ 36 i v) μ := by
  refine ⟨h.1.keep (zQ.wi zQ.rf rfl) zQ.rf, ⟨fun j hj hn hw => ?_, ?_, ?_, fun j hj => ?_⟩, h.2.2.1.imp (fun x => x) (fun x => x), hI _ _ _ _ h.2.2.2 (zQ.wi zQ.rf rfl) zQ.rf⟩
  · rw [zsi_nj (by omega)]; exact h.2.1.1 j hj hn hw
  · rw [zsi_nj (by omega)]; exact h.2.1.2.1
  · rw [zsi_nj (by omega)]; exact h.2.1.2.2.1
  · by_cases q : j = i
    · rw [q, zsi_ej]; exact hv
    · rw [zsi_nj q]; exact h.2.1.2.2.2 j hj
theorem zTT.onM (hI : zIoK I) (h : zTT I σ μ) {i : Nat} {w : Int32} (hi : i = 1 ∨ i = 20) : zTT I σ (zsi μ 3 i w) := by
  have qm : zQ [] [(3, 0, 28), (0, 31, 33)] [] [] μ (zsi μ 3 i w) := by
    rcases hi with e | e <;> subst e <;> exact zQ.wi zQ.rf rfl
  refine ⟨h.1.keep zQ.rf qm, ⟨fun j hj hn hw => ?_, ?_, ?_, h.2.1.2.2.2⟩, h.2.2.1.imp (fun x => x) (fun x => x), hI _ _ _ _ h.2.2.2 zQ.rf (qm.mono rfl rfl)⟩
  · rw [zsi_nj (by omega)]; exact h.2.1.1 j hj hn hw
  · rw [zsi_nj (by omega)]; exact h.2.1.2.1
  · rw [zsi_nj (by omega)]; exact h.2.1.2.2.1
end ZT1
