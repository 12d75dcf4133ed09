section ZJN0
/-! WHAT IS KEPT -/
noncomputable def zkp {α : Type} (g : Nat → α → α) (f : Nat → Nat → α) (k j : Nat) : List (Nat × Nat × Nat) → α
  | [] => f k j
  | t :: l => bif (Nat.beq t.1 k && Nat.blt j t.2.2) then g k (f t.2.1 j) else zkp g f k j l
noncomputable def zsv : List (Nat × Nat × Nat) := [(42, 43, 770), (40, 41, 9), (36, 37, 29), (34, 35, 12), (32, 33, 272), (30, 31, 19), (25, 26, 61440), (23, 24, 96), (21, 22, 16384), (19, 20, 4), (17, 18, 32768), (15, 16, 8192)]
noncomputable def zsm : List (Nat × Nat × Nat) := [(9, 18, 61440), (8, 17, 64), (7, 16, 16384), (6, 15, 32768), (5, 14, 8192), (3, 12, 1048)]
noncomputable def zid {α : Type} (_ : Nat) (v : α) : α := v
noncomputable def zmb (k : Nat) (v : Int32) : Int32 := bif (Nat.ble 5 k && Nat.ble k 8) then vp_nar .byte v else v
/-- the class, the reference as they were kept -/
noncomputable def zKc (σ : zSt) : zSt := (fun k j => zkp zid σ.1 k j zsv, fun k j => zkp zid σ.2 k j [(38, 39, 7)])
noncomputable def zKm (μ : zSt) : zSt := (fun k j => zkp zmb μ.1 k j zsm, fun k j => zkp zid μ.2 k j [(4, 13, 5)])
theorem zkp_of {α : Type} {g : Nat → α → α} {f f0 : Nat → Nat → α} {k j : Nat} (h0 : f k j = f0 k j) : ∀ {l : List (Nat × Nat × Nat)}, (∀ t ∈ l, ∀ i : Nat, i < t.2.2 → g t.1 (f t.2.1 i) = f0 t.1 i) → zkp g f k j l = f0 k j
  | [], _ => h0
  | t :: l, h => by
    unfold zkp
    cases q : (Nat.beq t.1 k && Nat.blt j t.2.2) with
    | true =>
      rw [Bool.and_eq_true] at q
      have e : t.1 = k := Nat.eq_of_beq_eq_true q.1
      have z := h t List.mem_cons_self j (Nat.le_of_ble_eq_true q.2)
      rw [e] at z
      exact z
    | false => exact zkp_of h0 (fun t ht => h t (List.mem_cons_of_mem _ ht))
theorem zkp_rev {α : Type} {g : Nat → α → α} {f r : Nat → Nat → α} {k j : Nat} : ∀ {l : List (Nat × Nat × Nat)}, (∀ t ∈ l, ∀ i : Nat, i < t.2.2 → r t.1 i = g t.1 (f t.2.1 i)) → ((∀ t ∈ l, t.1 = k → ¬ j < t.2.2) → r k j = f k j) → r k j = zkp g f k j l
  | [], _, h0 => h0 (fun _ h => absurd h List.not_mem_nil)
  | t :: l, h, h0 => by
    unfold zkp
    cases q : (Nat.beq t.1 k && Nat.blt j t.2.2) with
    | true =>
      rw [Bool.and_eq_true] at q
      have e : t.1 = k := Nat.eq_of_beq_eq_true q.1
      have z := h t List.mem_cons_self j (Nat.le_of_ble_eq_true q.2)
      rw [e] at z
      exact z
    | false =>
      refine zkp_rev (fun t ht => h t (List.mem_cons_of_mem _ ht)) (fun z => h0 (fun u hu e => ?_))
      rcases List.mem_cons.mp hu with x | x
      · subst x
        intro l
        rw [show Nat.beq u.1 k = true by rw [e]; exact Nat.beq_refl k, show Nat.blt j u.2.2 = true from Nat.ble_eq.mpr l] at q
        cases q
      · exact z u x e
theorem zkp_skip {α : Type} {g : Nat → α → α} {f : Nat → Nat → α} {k j : Nat} {t : Nat × Nat × Nat} {l : List (Nat × Nat × Nat)} (h : Nat.beq t.1 k = false) : zkp g f k j (t :: l) = zkp g f k j l := by
  show (bif (Nat.beq t.1 k && Nat.blt j t.2.2) then g k (f t.2.1 j) else zkp g f k j l) = _
  rw [h]
  rfl
theorem zkp_hit {α : Type} {g : Nat → α → α} {f : Nat → Nat → α} {k j : Nat} {t : Nat × Nat × Nat} {l : List (Nat × Nat × Nat)} (h : Nat.beq t.1 k = true) (hj : j < t.2.2) : zkp g f k j (t :: l) = g k (f t.2.1 j) := by
  have e : Nat.blt j t.2.2 = true := Nat.ble_eq.mpr hj
  show (bif (Nat.beq t.1 k && Nat.blt j t.2.2) then g k (f t.2.1 j) else zkp g f k j l) = _
  rw [h, e]
  rfl
section ZKC
variable {σ μ s t r : zSt} {B : Int × Int × Int} {Q : zSt → Prop}
theorem zKc_42 {j : Nat} (h : j < 770) : (zKc σ).1 42 j = σ.1 43 j := zkp_hit (g := zid) (f := σ.1) (k := 42) (j := j) (t := (42, 43, 770)) (l := [(40, 41, 9), (36, 37, 29), (34, 35, 12), (32, 33, 272), (30, 31, 19), (25, 26, 61440), (23, 24, 96), (21, 22, 16384), (19, 20, 4), (17, 18, 32768), (15, 16, 8192)]) rfl h
theorem zKc_40 {j : Nat} (h : j < 9) : (zKc σ).1 40 j = σ.1 41 j := (zkp_skip (g := zid) (f := σ.1) (k := 40) (j := j) (t := (42, 43, 770)) (l := [(40, 41, 9), (36, 37, 29), (34, 35, 12), (32, 33, 272), (30, 31, 19), (25, 26, 61440), (23, 24, 96), (21, 22, 16384), (19, 20, 4), (17, 18, 32768), (15, 16, 8192)]) rfl).trans (zkp_hit (g := zid) (f := σ.1) (k := 40) (j := j) (t := (40, 41, 9)) (l := [(36, 37, 29), (34, 35, 12), (32, 33, 272), (30, 31, 19), (25, 26, 61440), (23, 24, 96), (21, 22, 16384), (19, 20, 4), (17, 18, 32768), (15, 16, 8192)]) rfl h)
theorem zKc_36 {j : Nat} (h : j < 29) : (zKc σ).1 36 j = σ.1 37 j := (zkp_skip (g := zid) (f := σ.1) (k := 36) (j := j) (t := (42, 43, 770)) (l := [(40, 41, 9), (36, 37, 29), (34, 35, 12), (32, 33, 272), (30, 31, 19), (25, 26, 61440), (23, 24, 96), (21, 22, 16384), (19, 20, 4), (17, 18, 32768), (15, 16, 8192)]) rfl).trans ((zkp_skip (g := zid) (f := σ.1) (k := 36) (j := j) (t := (40, 41, 9)) (l := [(36, 37, 29), (34, 35, 12), (32, 33, 272), (30, 31, 19), (25, 26, 61440), (23, 24, 96), (21, 22, 16384), (19, 20, 4), (17, 18, 32768), (15, 16, 8192)]) rfl).trans (zkp_hit (g := zid) (f := σ.1) (k := 36) (j := j) (t := (36, 37, 29)) (l := [(34, 35, 12), (32, 33, 272), (30, 31, 19), (25, 26, 61440), (23, 24, 96), (21, 22, 16384), (19, 20, 4), (17, 18, 32768), (15, 16, 8192)]) rfl h))
theorem zKc_34 {j : Nat} (h : j < 12) : (zKc σ).1 34 j = σ.1 35 j := (zkp_skip (g := zid) (f := σ.1) (k := 34) (j := j) (t := (42, 43, 770)) (l := [(40, 41, 9), (36, 37, 29), (34, 35, 12), (32, 33, 272), (30, 31, 19), (25, 26, 61440), (23, 24, 96), (21, 22, 16384), (19, 20, 4), (17, 18, 32768), (15, 16, 8192)]) rfl).trans ((zkp_skip (g := zid) (f := σ.1) (k := 34) (j := j) (t := (40, 41, 9)) (l := [(36, 37, 29), (34, 35, 12), (32, 33, 272), (30, 31, 19), (25, 26, 61440), (23, 24, 96), (21, 22, 16384), (19, 20, 4), (17, 18, 32768), (15, 16, 8192)]) rfl).trans ((zkp_skip (g := zid) (f := σ.1) (k := 34) (j := j) (t := (36, 37, 29)) (l := [(34, 35, 12), (32, 33, 272), (30, 31, 19), (25, 26, 61440), (23, 24, 96), (21, 22, 16384), (19, 20, 4), (17, 18, 32768), (15, 16, 8192)]) rfl).trans (zkp_hit (g := zid) (f := σ.1) (k := 34) (j := j) (t := (34, 35, 12)) (l := [(32, 33, 272), (30, 31, 19), (25, 26, 61440), (23, 24, 96), (21, 22, 16384), (19, 20, 4), (17, 18, 32768), (15, 16, 8192)]) rfl h)))
theorem zKc_32 {j : Nat} (h : j < 272) : (zKc σ).1 32 j = σ.1 33 j := (zkp_skip (g := zid) (f := σ.1) (k := 32) (j := j) (t := (42, 43, 770)) (l := [(40, 41, 9), (36, 37, 29), (34, 35, 12), (32, 33, 272), (30, 31, 19), (25, 26, 61440), (23, 24, 96), (21, 22, 16384), (19, 20, 4), (17, 18, 32768), (15, 16, 8192)]) rfl).trans ((zkp_skip (g := zid) (f := σ.1) (k := 32) (j := j) (t := (40, 41, 9)) (l := [(36, 37, 29), (34, 35, 12), (32, 33, 272), (30, 31, 19), (25, 26, 61440), (23, 24, 96), (21, 22, 16384), (19, 20, 4), (17, 18, 32768), (15, 16, 8192)]) rfl).trans ((zkp_skip (g := zid) (f := σ.1) (k := 32) (j := j) (t := (36, 37, 29)) (l := [(34, 35, 12), (32, 33, 272), (30, 31, 19), (25, 26, 61440), (23, 24, 96), (21, 22, 16384), (19, 20, 4), (17, 18, 32768), (15, 16, 8192)]) rfl).trans ((zkp_skip (g := zid) (f := σ.1) (k := 32) (j := j) (t := (34, 35, 12)) (l := [(32, 33, 272), (30, 31, 19), (25, 26, 61440), (23, 24, 96), (21, 22, 16384), (19, 20, 4), (17, 18, 32768), (15, 16, 8192)]) rfl).trans (zkp_hit (g := zid) (f := σ.1) (k := 32) (j := j) (t := (32, 33, 272)) (l := [(30, 31, 19), (25, 26, 61440), (23, 24, 96), (21, 22, 16384), (19, 20, 4), (17, 18, 32768), (15, 16, 8192)]) rfl h))))
theorem zKc_30 {j : Nat} (h : j < 19) : (zKc σ).1 30 j = σ.1 31 j := (zkp_skip (g := zid) (f := σ.1) (k := 30) (j := j) (t := (42, 43, 770)) (l := [(40, 41, 9), (36, 37, 29), (34, 35, 12), (32, 33, 272), (30, 31, 19), (25, 26, 61440), (23, 24, 96), (21, 22, 16384), (19, 20, 4), (17, 18, 32768), (15, 16, 8192)]) rfl).trans ((zkp_skip (g := zid) (f := σ.1) (k := 30) (j := j) (t := (40, 41, 9)) (l := [(36, 37, 29), (34, 35, 12), (32, 33, 272), (30, 31, 19), (25, 26, 61440), (23, 24, 96), (21, 22, 16384), (19, 20, 4), (17, 18, 32768), (15, 16, 8192)]) rfl).trans ((zkp_skip (g := zid) (f := σ.1) (k := 30) (j := j) (t := (36, 37, 29)) (l := [(34, 35, 12), (32, 33, 272), (30, 31, 19), (25, 26, 61440), (23, 24, 96), (21, 22, 16384), (19, 20, 4), (17, 18, 32768), (15, 16, 8192)]) rfl).trans ((zkp_skip (g := zid) (f := σ.1) (k := 30) (j := j) (t := (34, 35, 12)) (l := [(32, 33, 272), (30, 31, 19), (25, 26, 61440), (23, 24, 96), (21, 22, 16384), (19, 20, 4), (17, 18, 32768), (15, 16, 8192)]) rfl).trans ((zkp_skip (g := zid) (f := σ.1) (k := 30) (j := j) (t := (32, 33, 272)) (l := [(30, 31, 19), (25, 26, 61440), (23, 24, 96), (21, 22, 16384), (19, 20, 4), (17, 18, 32768), (15, 16, 8192)]) rfl).trans (zkp_hit (g := zid) (f := σ.1) (k := 30) (j := j) (t := (30, 31, 19)) (l := [(25, 26, 61440), (23, 24, 96), (21, 22, 16384), (19, 20, 4), (17, 18, 32768), (15, 16, 8192)]) rfl h)))))
theorem zKc_25 {j : Nat} (h : j < 61440) : (zKc σ).1 25 j = σ.1 26 j := (zkp_skip (g := zid) (f := σ.1) (k := 25) (j := j) (t := (42, 43, 770)) (l := [(40, 41, 9), (36, 37, 29), (34, 35, 12), (32, 33, 272), (30, 31, 19), (25, 26, 61440), (23, 24, 96), (21, 22, 16384), (19, 20, 4), (17, 18, 32768), (15, 16, 8192)]) rfl).trans ((zkp_skip (g := zid) (f := σ.1) (k := 25) (j := j) (t := (40, 41, 9)) (l := [(36, 37, 29), (34, 35, 12), (32, 33, 272), (30, 31, 19), (25, 26, 61440), (23, 24, 96), (21, 22, 16384), (19, 20, 4), (17, 18, 32768), (15, 16, 8192)]) rfl).trans ((zkp_skip (g := zid) (f := σ.1) (k := 25) (j := j) (t := (36, 37, 29)) (l := [(34, 35, 12), (32, 33, 272), (30, 31, 19), (25, 26, 61440), (23, 24, 96), (21, 22, 16384), (19, 20, 4), (17, 18, 32768), (15, 16, 8192)]) rfl).trans ((zkp_skip (g := zid) (f := σ.1) (k := 25) (j := j) (t := (34, 35, 12)) (l := [(32, 33, 272), (30, 31, 19), (25, 26, 61440), (23, 24, 96), (21, 22, 16384), (19, 20, 4), (17, 18, 32768), (15, 16, 8192)]) rfl).trans ((zkp_skip (g := zid) (f := σ.1) (k := 25) (j := j) (t := (32, 33, 272)) (l := [(30, 31, 19), (25, 26, 61440), (23, 24, 96), (21, 22, 16384), (19, 20, 4), (17, 18, 32768), (15, 16, 8192)]) rfl).trans ((zkp_skip (g := zid) (f := σ.1) (k := 25) (j := j) (t := (30, 31, 19)) (l := [(25, 26, 61440), (23, 24, 96), (21, 22, 16384), (19, 20, 4), (17, 18, 32768), (15, 16, 8192)]) rfl).trans (zkp_hit (g := zid) (f := σ.1) (k := 25) (j := j) (t := (25, 26, 61440)) (l := [(23, 24, 96), (21, 22, 16384), (19, 20, 4), (17, 18, 32768), (15, 16, 8192)]) rfl h))))))
theorem zKc_23 {j : Nat} (h : j < 96) : (zKc σ).1 23 j = σ.1 24 j := (zkp_skip (g := zid) (f := σ.1) (k := 23) (j := j) (t := (42, 43, 770)) (l := [(40, 41, 9), (36, 37, 29), (34, 35, 12), (32, 33, 272), (30, 31, 19), (25, 26, 61440), (23, 24, 96), (21, 22, 16384), (19, 20, 4), (17, 18, 32768), (15, 16, 8192)]) rfl).trans ((zkp_skip (g := zid) (f := σ.1) (k := 23) (j := j) (t := (40, 41, 9)) (l := [(36, 37, 29), (34, 35, 12), (32, 33, 272), (30, 31, 19), (25, 26, 61440), (23, 24, 96), (21, 22, 16384), (19, 20, 4), (17, 18, 32768), (15, 16, 8192)]) rfl).trans ((zkp_skip (g := zid) (f := σ.1) (k := 23) (j := j) (t := (36, 37, 29)) (l := [(34, 35, 12), (32, 33, 272), (30, 31, 19), (25, 26, 61440), (23, 24, 96), (21, 22, 16384), (19, 20, 4), (17, 18, 32768), (15, 16, 8192)]) rfl).trans ((zkp_skip (g := zid) (f := σ.1) (k := 23) (j := j) (t := (34, 35, 12)) (l := [(32, 33, 272), (30, 31, 19), (25, 26, 61440), (23, 24, 96), (21, 22, 16384), (19, 20, 4), (17, 18, 32768), (15, 16, 8192)]) rfl).trans ((zkp_skip (g := zid) (f := σ.1) (k := 23) (j := j) (t := (32, 33, 272)) (l := [(30, 31, 19), (25, 26, 61440), (23, 24, 96), (21, 22, 16384), (19, 20, 4), (17, 18, 32768), (15, 16, 8192)]) rfl).trans ((zkp_skip (g := zid) (f := σ.1) (k := 23) (j := j) (t := (30, 31, 19)) (l := [(25, 26, 61440), (23, 24, 96), (21, 22, 16384), (19, 20, 4), (17, 18, 32768), (15, 16, 8192)]) rfl).trans ((zkp_skip (g := zid) (f := σ.1) (k := 23) (j := j) (t := (25, 26, 61440)) (l := [(23, 24, 96), (21, 22, 16384), (19, 20, 4), (17, 18, 32768), (15, 16, 8192)]) rfl).trans (zkp_hit (g := zid) (f := σ.1) (k := 23) (j := j) (t := (23, 24, 96)) (l := [(21, 22, 16384), (19, 20, 4), (17, 18, 32768), (15, 16, 8192)]) rfl h)))))))
theorem zKc_21 {j : Nat} (h : j < 16384) : (zKc σ).1 21 j = σ.1 22 j := (zkp_skip (g := zid) (f := σ.1) (k := 21) (j := j) (t := (42, 43, 770)) (l := [(40, 41, 9), (36, 37, 29), (34, 35, 12), (32, 33, 272), (30, 31, 19), (25, 26, 61440), (23, 24, 96), (21, 22, 16384), (19, 20, 4), (17, 18, 32768), (15, 16, 8192)]) rfl).trans ((zkp_skip (g := zid) (f := σ.1) (k := 21) (j := j) (t := (40, 41, 9)) (l := [(36, 37, 29), (34, 35, 12), (32, 33, 272), (30, 31, 19), (25, 26, 61440), (23, 24, 96), (21, 22, 16384), (19, 20, 4), (17, 18, 32768), (15, 16, 8192)]) rfl).trans ((zkp_skip (g := zid) (f := σ.1) (k := 21) (j := j) (t := (36, 37, 29)) (l := [(34, 35, 12), (32, 33, 272), (30, 31, 19), (25, 26, 61440), (23, 24, 96), (21, 22, 16384), (19, 20, 4), (17, 18, 32768), (15, 16, 8192)]) rfl).trans ((zkp_skip (g := zid) (f := σ.1) (k := 21) (j := j) (t := (34, 35, 12)) (l := [(32, 33, 272), (30, 31, 19), (25, 26, 61440), (23, 24, 96), (21, 22, 16384), (19, 20, 4), (17, 18, 32768), (15, 16, 8192)]) rfl).trans ((zkp_skip (g := zid) (f := σ.1) (k := 21) (j := j) (t := (32, 33, 272)) (l := [(30, 31, 19), (25, 26, 61440), (23, 24, 96), (21, 22, 16384), (19, 20, 4), (17, 18, 32768), (15, 16, 8192)]) rfl).trans ((zkp_skip (g := zid) (f := σ.1) (k := 21) (j := j) (t := (30, 31, 19)) (l := [(25, 26, 61440), (23, 24, 96), (21, 22, 16384), (19, 20, 4), (17, 18, 32768), (15, 16, 8192)]) rfl).trans ((zkp_skip (g := zid) (f := σ.1) (k := 21) (j := j) (t := (25, 26, 61440)) (l := [(23, 24, 96), (21, 22, 16384), (19, 20, 4), (17, 18, 32768), (15, 16, 8192)]) rfl).trans ((zkp_skip (g := zid) (f := σ.1) (k := 21) (j := j) (t := (23, 24, 96)) (l := [(21, 22, 16384), (19, 20, 4), (17, 18, 32768), (15, 16, 8192)]) rfl).trans (zkp_hit (g := zid) (f := σ.1) (k := 21) (j := j) (t := (21, 22, 16384)) (l := [(19, 20, 4), (17, 18, 32768), (15, 16, 8192)]) rfl h))))))))
theorem zKc_19 {j : Nat} (h : j < 4) : (zKc σ).1 19 j = σ.1 20 j := (zkp_skip (g := zid) (f := σ.1) (k := 19) (j := j) (t := (42, 43, 770)) (l := [(40, 41, 9), (36, 37, 29), (34, 35, 12), (32, 33, 272), (30, 31, 19), (25, 26, 61440), (23, 24, 96), (21, 22, 16384), (19, 20, 4), (17, 18, 32768), (15, 16, 8192)]) rfl).trans ((zkp_skip (g := zid) (f := σ.1) (k := 19) (j := j) (t := (40, 41, 9)) (l := [(36, 37, 29), (34, 35, 12), (32, 33, 272), (30, 31, 19), (25, 26, 61440), (23, 24, 96), (21, 22, 16384), (19, 20, 4), (17, 18, 32768), (15, 16, 8192)]) rfl).trans ((zkp_skip (g := zid) (f := σ.1) (k := 19) (j := j) (t := (36, 37, 29)) (l := [(34, 35, 12), (32, 33, 272), (30, 31, 19), (25, 26, 61440), (23, 24, 96), (21, 22, 16384), (19, 20, 4), (17, 18, 32768), (15, 16, 8192)]) rfl).trans ((zkp_skip (g := zid) (f := σ.1) (k := 19) (j := j) (t := (34, 35, 12)) (l := [(32, 33, 272), (30, 31, 19), (25, 26, 61440), (23, 24, 96), (21, 22, 16384), (19, 20, 4), (17, 18, 32768), (15, 16, 8192)]) rfl).trans ((zkp_skip (g := zid) (f := σ.1) (k := 19) (j := j) (t := (32, 33, 272)) (l := [(30, 31, 19), (25, 26, 61440), (23, 24, 96), (21, 22, 16384), (19, 20, 4), (17, 18, 32768), (15, 16, 8192)]) rfl).trans ((zkp_skip (g := zid) (f := σ.1) (k := 19) (j := j) (t := (30, 31, 19)) (l := [(25, 26, 61440), (23, 24, 96), (21, 22, 16384), (19, 20, 4), (17, 18, 32768), (15, 16, 8192)]) rfl).trans ((zkp_skip (g := zid) (f := σ.1) (k := 19) (j := j) (t := (25, 26, 61440)) (l := [(23, 24, 96), (21, 22, 16384), (19, 20, 4), (17, 18, 32768), (15, 16, 8192)]) rfl).trans ((zkp_skip (g := zid) (f := σ.1) (k := 19) (j := j) (t := (23, 24, 96)) (l := [(21, 22, 16384), (19, 20, 4), (17, 18, 32768), (15, 16, 8192)]) rfl).trans ((zkp_skip (g := zid) (f := σ.1) (k := 19) (j := j) (t := (21, 22, 16384)) (l := [(19, 20, 4), (17, 18, 32768), (15, 16, 8192)]) rfl).trans (zkp_hit (g := zid) (f := σ.1) (k := 19) (j := j) (t := (19, 20, 4)) (l := [(17, 18, 32768), (15, 16, 8192)]) rfl h)))))))))
theorem zKc_17 {j : Nat} (h : j < 32768) : (zKc σ).1 17 j = σ.1 18 j := (zkp_skip (g := zid) (f := σ.1) (k := 17) (j := j) (t := (42, 43, 770)) (l := [(40, 41, 9), (36, 37, 29), (34, 35, 12), (32, 33, 272), (30, 31, 19), (25, 26, 61440), (23, 24, 96), (21, 22, 16384), (19, 20, 4), (17, 18, 32768), (15, 16, 8192)]) rfl).trans ((zkp_skip (g := zid) (f := σ.1) (k := 17) (j := j) (t := (40, 41, 9)) (l := [(36, 37, 29), (34, 35, 12), (32, 33, 272), (30, 31, 19), (25, 26, 61440), (23, 24, 96), (21, 22, 16384), (19, 20, 4), (17, 18, 32768), (15, 16, 8192)]) rfl).trans ((zkp_skip (g := zid) (f := σ.1) (k := 17) (j := j) (t := (36, 37, 29)) (l := [(34, 35, 12), (32, 33, 272), (30, 31, 19), (25, 26, 61440), (23, 24, 96), (21, 22, 16384), (19, 20, 4), (17, 18, 32768), (15, 16, 8192)]) rfl).trans ((zkp_skip (g := zid) (f := σ.1) (k := 17) (j := j) (t := (34, 35, 12)) (l := [(32, 33, 272), (30, 31, 19), (25, 26, 61440), (23, 24, 96), (21, 22, 16384), (19, 20, 4), (17, 18, 32768), (15, 16, 8192)]) rfl).trans ((zkp_skip (g := zid) (f := σ.1) (k := 17) (j := j) (t := (32, 33, 272)) (l := [(30, 31, 19), (25, 26, 61440), (23, 24, 96), (21, 22, 16384), (19, 20, 4), (17, 18, 32768), (15, 16, 8192)]) rfl).trans ((zkp_skip (g := zid) (f := σ.1) (k := 17) (j := j) (t := (30, 31, 19)) (l := [(25, 26, 61440), (23, 24, 96), (21, 22, 16384), (19, 20, 4), (17, 18, 32768), (15, 16, 8192)]) rfl).trans ((zkp_skip (g := zid) (f := σ.1) (k := 17) (j := j) (t := (25, 26, 61440)) (l := [(23, 24, 96), (21, 22, 16384), (19, 20, 4), (17, 18, 32768), (15, 16, 8192)]) rfl).trans ((zkp_skip (g := zid) (f := σ.1) (k := 17) (j := j) (t := (23, 24, 96)) (l := [(21, 22, 16384), (19, 20, 4), (17, 18, 32768), (15, 16, 8192)]) rfl).trans ((zkp_skip (g := zid) (f := σ.1) (k := 17) (j := j) (t := (21, 22, 16384)) (l := [(19, 20, 4), (17, 18, 32768), (15, 16, 8192)]) rfl).trans ((zkp_skip (g := zid) (f := σ.1) (k := 17) (j := j) (t := (19, 20, 4)) (l := [(17, 18, 32768), (15, 16, 8192)]) rfl).trans (zkp_hit (g := zid) (f := σ.1) (k := 17) (j := j) (t := (17, 18, 32768)) (l := [(15, 16, 8192)]) rfl h))))))))))
theorem zKc_15 {j : Nat} (h : j < 8192) : (zKc σ).1 15 j = σ.1 16 j := (zkp_skip (g := zid) (f := σ.1) (k := 15) (j := j) (t := (42, 43, 770)) (l := [(40, 41, 9), (36, 37, 29), (34, 35, 12), (32, 33, 272), (30, 31, 19), (25, 26, 61440), (23, 24, 96), (21, 22, 16384), (19, 20, 4), (17, 18, 32768), (15, 16, 8192)]) rfl).trans ((zkp_skip (g := zid) (f := σ.1) (k := 15) (j := j) (t := (40, 41, 9)) (l := [(36, 37, 29), (34, 35, 12), (32, 33, 272), (30, 31, 19), (25, 26, 61440), (23, 24, 96), (21, 22, 16384), (19, 20, 4), (17, 18, 32768), (15, 16, 8192)]) rfl).trans ((zkp_skip (g := zid) (f := σ.1) (k := 15) (j := j) (t := (36, 37, 29)) (l := [(34, 35, 12), (32, 33, 272), (30, 31, 19), (25, 26, 61440), (23, 24, 96), (21, 22, 16384), (19, 20, 4), (17, 18, 32768), (15, 16, 8192)]) rfl).trans ((zkp_skip (g := zid) (f := σ.1) (k := 15) (j := j) (t := (34, 35, 12)) (l := [(32, 33, 272), (30, 31, 19), (25, 26, 61440), (23, 24, 96), (21, 22, 16384), (19, 20, 4), (17, 18, 32768), (15, 16, 8192)]) rfl).trans ((zkp_skip (g := zid) (f := σ.1) (k := 15) (j := j) (t := (32, 33, 272)) (l := [(30, 31, 19), (25, 26, 61440), (23, 24, 96), (21, 22, 16384), (19, 20, 4), (17, 18, 32768), (15, 16, 8192)]) rfl).trans ((zkp_skip (g := zid) (f := σ.1) (k := 15) (j := j) (t := (30, 31, 19)) (l := [(25, 26, 61440), (23, 24, 96), (21, 22, 16384), (19, 20, 4), (17, 18, 32768), (15, 16, 8192)]) rfl).trans ((zkp_skip (g := zid) (f := σ.1) (k := 15) (j := j) (t := (25, 26, 61440)) (l := [(23, 24, 96), (21, 22, 16384), (19, 20, 4), (17, 18, 32768), (15, 16, 8192)]) rfl).trans ((zkp_skip (g := zid) (f := σ.1) (k := 15) (j := j) (t := (23, 24, 96)) (l := [(21, 22, 16384), (19, 20, 4), (17, 18, 32768), (15, 16, 8192)]) rfl).trans ((zkp_skip (g := zid) (f := σ.1) (k := 15) (j := j) (t := (21, 22, 16384)) (l := [(19, 20, 4), (17, 18, 32768), (15, 16, 8192)]) rfl).trans ((zkp_skip (g := zid) (f := σ.1) (k := 15) (j := j) (t := (19, 20, 4)) (l := [(17, 18, 32768), (15, 16, 8192)]) rfl).trans ((zkp_skip (g := zid) (f := σ.1) (k := 15) (j := j) (t := (17, 18, 32768)) (l := [(15, 16, 8192)]) rfl).trans (zkp_hit (g := zid) (f := σ.1) (k := 15) (j := j) (t := (15, 16, 8192)) (l := []) rfl h)))))))))))
theorem zKm_9 {j : Nat} (h : j < 61440) : (zKm μ).1 9 j = μ.1 18 j := zkp_hit (g := zmb) (f := μ.1) (k := 9) (j := j) (t := (9, 18, 61440)) (l := [(8, 17, 64), (7, 16, 16384), (6, 15, 32768), (5, 14, 8192), (3, 12, 1048)]) rfl h
theorem zKm_8 {j : Nat} (h : j < 64) : (zKm μ).1 8 j = vp_nar .byte (μ.1 17 j) := (zkp_skip (g := zmb) (f := μ.1) (k := 8) (j := j) (t := (9, 18, 61440)) (l := [(8, 17, 64), (7, 16, 16384), (6, 15, 32768), (5, 14, 8192), (3, 12, 1048)]) rfl).trans (zkp_hit (g := zmb) (f := μ.1) (k := 8) (j := j) (t := (8, 17, 64)) (l := [(7, 16, 16384), (6, 15, 32768), (5, 14, 8192), (3, 12, 1048)]) rfl h)
theorem zKm_7 {j : Nat} (h : j < 16384) : (zKm μ).1 7 j = vp_nar .byte (μ.1 16 j) := (zkp_skip (g := zmb) (f := μ.1) (k := 7) (j := j) (t := (9, 18, 61440)) (l := [(8, 17, 64), (7, 16, 16384), (6, 15, 32768), (5, 14, 8192), (3, 12, 1048)]) rfl).trans ((zkp_skip (g := zmb) (f := μ.1) (k := 7) (j := j) (t := (8, 17, 64)) (l := [(7, 16, 16384), (6, 15, 32768), (5, 14, 8192), (3, 12, 1048)]) rfl).trans (zkp_hit (g := zmb) (f := μ.1) (k := 7) (j := j) (t := (7, 16, 16384)) (l := [(6, 15, 32768), (5, 14, 8192), (3, 12, 1048)]) rfl h))
theorem zKm_6 {j : Nat} (h : j < 32768) : (zKm μ).1 6 j = vp_nar .byte (μ.1 15 j) := (zkp_skip (g := zmb) (f := μ.1) (k := 6) (j := j) (t := (9, 18, 61440)) (l := [(8, 17, 64), (7, 16, 16384), (6, 15, 32768), (5, 14, 8192), (3, 12, 1048)]) rfl).trans ((zkp_skip (g := zmb) (f := μ.1) (k := 6) (j := j) (t := (8, 17, 64)) (l := [(7, 16, 16384), (6, 15, 32768), (5, 14, 8192), (3, 12, 1048)]) rfl).trans ((zkp_skip (g := zmb) (f := μ.1) (k := 6) (j := j) (t := (7, 16, 16384)) (l := [(6, 15, 32768), (5, 14, 8192), (3, 12, 1048)]) rfl).trans (zkp_hit (g := zmb) (f := μ.1) (k := 6) (j := j) (t := (6, 15, 32768)) (l := [(5, 14, 8192), (3, 12, 1048)]) rfl h)))
theorem zKm_5 {j : Nat} (h : j < 8192) : (zKm μ).1 5 j = vp_nar .byte (μ.1 14 j) := (zkp_skip (g := zmb) (f := μ.1) (k := 5) (j := j) (t := (9, 18, 61440)) (l := [(8, 17, 64), (7, 16, 16384), (6, 15, 32768), (5, 14, 8192), (3, 12, 1048)]) rfl).trans ((zkp_skip (g := zmb) (f := μ.1) (k := 5) (j := j) (t := (8, 17, 64)) (l := [(7, 16, 16384), (6, 15, 32768), (5, 14, 8192), (3, 12, 1048)]) rfl).trans ((zkp_skip (g := zmb) (f := μ.1) (k := 5) (j := j) (t := (7, 16, 16384)) (l := [(6, 15, 32768), (5, 14, 8192), (3, 12, 1048)]) rfl).trans ((zkp_skip (g := zmb) (f := μ.1) (k := 5) (j := j) (t := (6, 15, 32768)) (l := [(5, 14, 8192), (3, 12, 1048)]) rfl).trans (zkp_hit (g := zmb) (f := μ.1) (k := 5) (j := j) (t := (5, 14, 8192)) (l := [(3, 12, 1048)]) rfl h))))
theorem zKm_3 {j : Nat} (h : j < 1048) : (zKm μ).1 3 j = μ.1 12 j := (zkp_skip (g := zmb) (f := μ.1) (k := 3) (j := j) (t := (9, 18, 61440)) (l := [(8, 17, 64), (7, 16, 16384), (6, 15, 32768), (5, 14, 8192), (3, 12, 1048)]) rfl).trans ((zkp_skip (g := zmb) (f := μ.1) (k := 3) (j := j) (t := (8, 17, 64)) (l := [(7, 16, 16384), (6, 15, 32768), (5, 14, 8192), (3, 12, 1048)]) rfl).trans ((zkp_skip (g := zmb) (f := μ.1) (k := 3) (j := j) (t := (7, 16, 16384)) (l := [(6, 15, 32768), (5, 14, 8192), (3, 12, 1048)]) rfl).trans ((zkp_skip (g := zmb) (f := μ.1) (k := 3) (j := j) (t := (6, 15, 32768)) (l := [(5, 14, 8192), (3, 12, 1048)]) rfl).trans ((zkp_skip (g := zmb) (f := μ.1) (k := 3) (j := j) (t := (5, 14, 8192)) (l := [(3, 12, 1048)]) rfl).trans (zkp_hit (g := zmb) (f := μ.1) (k := 3) (j := j) (t := (3, 12, 1048)) (l := []) rfl h)))))
theorem zKc_l {j : Nat} (h : j < 7) : (zKc σ).2 38 j = σ.2 39 j := by
  have e : Nat.blt j 7 = true := Nat.ble_eq.mpr h
  show (bif (Nat.blt j 7) then σ.2 39 j else zkp zid σ.2 38 j []) = _
  rw [e]
  rfl
theorem zKm_l {j : Nat} (h : j < 5) : (zKm μ).2 4 j = μ.2 13 j := by
  have e : Nat.blt j 5 = true := Nat.ble_eq.mpr h
  show (bif (Nat.blt j 5) then μ.2 13 j else zkp zid μ.2 4 j []) = _
  rw [e]
  rfl
theorem zKc_all : ∀ p ∈ zsv, ∀ j : Nat, j < p.2.2 → (zKc σ).1 p.1 j = σ.1 p.2.1 j := by
  unfold zsv
  exact List.forall_mem_cons.2 ⟨fun j h => zKc_42 h, List.forall_mem_cons.2 ⟨fun j h => zKc_40 h, List.forall_mem_cons.2 ⟨fun j h => zKc_36 h, List.forall_mem_cons.2 ⟨fun j h => zKc_34 h, List.forall_mem_cons.2 ⟨fun j h => zKc_32 h, List.forall_mem_cons.2 ⟨fun j h => zKc_30 h, List.forall_mem_cons.2 ⟨fun j h => zKc_25 h, List.forall_mem_cons.2 ⟨fun j h => zKc_23 h, List.forall_mem_cons.2 ⟨fun j h => zKc_21 h, List.forall_mem_cons.2 ⟨fun j h => zKc_19 h, List.forall_mem_cons.2 ⟨fun j h => zKc_17 h, List.forall_mem_cons.2 ⟨fun j h => zKc_15 h, fun _ h => absurd h List.not_mem_nil⟩⟩⟩⟩⟩⟩⟩⟩⟩⟩⟩⟩
theorem zKm_all : ∀ p ∈ zsm, ∀ j : Nat, j < p.2.2 → (zKm μ).1 p.1 j = zmb p.1 (μ.1 p.2.1 j) := by
  unfold zsm
  exact List.forall_mem_cons.2 ⟨fun j h => zKm_9 h, List.forall_mem_cons.2 ⟨fun j h => zKm_8 h, List.forall_mem_cons.2 ⟨fun j h => zKm_7 h, List.forall_mem_cons.2 ⟨fun j h => zKm_6 h, List.forall_mem_cons.2 ⟨fun j h => zKm_5 h, List.forall_mem_cons.2 ⟨fun j h => zKm_3 h, fun _ h => absurd h List.not_mem_nil⟩⟩⟩⟩⟩⟩
/-! rows copied -/
theorem zcpl_ne {k0 k1 sp dp n k : Nat} (h : ¬ k = k1) : (zcpl σ k0 k1 sp dp n).2 k = σ.2 k := by
  have e : Nat.beq k k1 = false := Bool.eq_false_iff.mpr (fun r => h (Nat.eq_of_beq_eq_true r))
  show (bif Nat.beq k k1 then va_cpy (σ.2 k0) (σ.2 k) sp dp n else σ.2 k) = _
  rw [e]; rfl
theorem zcpl_eq {k0 k1 n j : Nat} : (zcpl σ k0 k1 0 0 n).2 k1 j = if j < n then σ.2 k0 j else σ.2 k1 j := by
  show (bif Nat.beq k1 k1 then va_cpy (σ.2 k0) (σ.2 k1) 0 0 n else σ.2 k1) j = _
  rw [show Nat.beq k1 k1 = true from Nat.beq_refl k1]
  show (if 0 ≤ j ∧ j < 0 + n then σ.2 k0 (0 + (j - 0)) else σ.2 k1 j) = _
  by_cases h : j < n
  · rw [if_pos h, if_pos ⟨Nat.zero_le _, by omega⟩, show 0 + (j - 0) = j by omega]
  · rw [if_neg h, if_neg (fun r => h (by omega))]
noncomputable def zcw (R : List Nat) (A : List (Nat × Nat × Nat)) (k n : Nat) : Bool := R.any (Nat.beq k) || A.any (fun e => Nat.beq e.1 k && (Nat.beq e.2.1 0 && Nat.ble n (e.2.2 + 1)))
theorem zcw_cv {R : List Nat} {A : List (Nat × Nat × Nat)} {k n j : Nat} (c : zcw R A k n = true) (h : j < n) : zcv R A k j = true := by
  unfold zcw at c
  unfold zcv
  rw [Bool.or_eq_true] at c ⊢
  rcases c with c | c
  · exact Or.inl c
  · right
    rw [List.any_eq_true] at c ⊢
    obtain ⟨e, he, q⟩ := c
    rw [Bool.and_eq_true, Bool.and_eq_true] at q
    refine ⟨e, he, ?_⟩
    have a0 : e.2.1 = 0 := Nat.eq_of_beq_eq_true q.2.1
    have a1 := Nat.le_of_ble_eq_true q.2.2
    rw [Bool.and_eq_true, Bool.and_eq_true]
    exact ⟨q.1, Nat.ble_eq.mpr (by omega), Nat.ble_eq.mpr (by omega)⟩
/-- a frame, and rows that were copied so far: (to, from, how many) -/
noncomputable def zSq (R : List Nat) (A : List (Nat × Nat × Nat)) (S : List Nat) (D : List (Nat × Nat × Nat)) (l : List (Nat × Nat × Nat)) (σ s : zSt) : Prop := zQ R A S D σ s ∧ ∀ p ∈ l, ∀ j : Nat, j < p.2.2 → s.1 p.1 j = σ.1 p.2.1 j
section ZSQ
variable {R S : List Nat} {A D : List (Nat × Nat × Nat)} {l : List (Nat × Nat × Nat)}
theorem zSq.rf : zSq R A S D [] σ σ := ⟨zQ.rf, fun _ h => absurd h List.not_mem_nil⟩
theorem zSq.cp (h : zSq R A S D l σ s) {k0 k1 n : Nat} (c : zcw R A k1 n = true) (d : zrw R A k0 = true) (e : l.all (fun p => !(Nat.beq p.1 k1)) = true) : zSq R A S D ((k1, k0, n) :: l) σ (zcpi s k0 k1 0 0 n) := by
  have q0 : s.1 k0 = σ.1 k0 := h.1.ro d
  refine ⟨⟨fun k j q => ?_, h.1.2⟩, fun p hp j hj => ?_⟩
  · by_cases z : k = k1
    · subst z
      rw [zcpi_eq, if_neg (fun y => by rw [zcw_cv c y] at q; cases q)]
      exact h.1.1 _ j q
    · rw [zcpi_ne z]
      exact h.1.1 k j q
  · rcases List.mem_cons.mp hp with x | x
    · subst x
      show (zcpi s k0 k1 0 0 n).1 k1 j = σ.1 k0 j
      rw [zcpi_eq, if_pos hj, q0]
    · have y := (List.all_eq_true.mp e) p x
      rw [zcpi_ne (fun z => by rw [z, Nat.beq_refl] at y; cases y)]
      exact h.2 p x j hj
theorem zSq.cl (h : zSq R A S D l σ s) {k0 k1 n : Nat} (c : zcw S D k1 n = true) : zSq R A S D l σ (zcpl s k0 k1 0 0 n) := by
  refine ⟨⟨h.1.1, fun k j q => ?_⟩, h.2⟩
  by_cases z : k = k1
  · subst z
    rw [zcpl_eq, if_neg (fun y => by rw [zcw_cv c y] at q; cases q)]
    exact h.1.2 _ j q
  · rw [zcpl_ne z]
    exact h.1.2 k j q
theorem zSq.wi (h : zSq R A S D l σ s) {k j : Nat} {v : Int32} (c : zcv R A k j = true) (e : l.all (fun p => !(Nat.beq p.1 k)) = true) : zSq R A S D l σ (zsi s k j v) := by
  refine ⟨zQ.wi h.1 c, fun p hp i hi => ?_⟩
  have y := (List.all_eq_true.mp e) p hp
  rw [zsi_ne (fun z => by rw [z, Nat.beq_refl] at y; cases y)]
  exact h.2 p hp i hi
end ZSQ
/-- one field of an object copied to another -/
noncomputable def zWf (s : zSt) (k p q : Nat) : zSt := zsi s k p (zgi s k q)
noncomputable def zKept (s : zSt) : zSt := (zcpi (zcpi (zWf (zWf (zcpl (zWf (zWf (zcpl (zcpl (zcpi (zcpi (zcpi (zcpi (zcpi (zcpi (zcpi (zcpi (zcpi (zcpi s 15 16 0 0 8192) 17 18 0 0 32768) 19 20 0 0 4) 21 22 0 0 16384) 23 24 0 0 96) 25 26 0 0 61440) 30 31 0 0 19) 32 33 0 0 272) 34 35 0 0 12) 36 37 0 0 29) 38 39 0 0 7) 46 47 0 0 4096) 11 4 2) 11 5 3) 48 49 0 0 4096) 12 4 2) 12 5 3) 40 41 0 0 9) 42 43 0 0 770)
noncomputable def zBack (s : zSt) : zSt := (zcpi (zcpi (zWf (zWf (zcpl (zWf (zWf (zcpl (zcpl (zcpi (zcpi (zcpi (zcpi (zcpi (zcpi (zcpi (zcpi (zcpi (zcpi s 16 15 0 0 8192) 18 17 0 0 32768) 20 19 0 0 4) 22 21 0 0 16384) 24 23 0 0 96) 26 25 0 0 61440) 31 30 0 0 19) 33 32 0 0 272) 35 34 0 0 12) 37 36 0 0 29) 39 38 0 0 7) 47 46 0 0 4096) 11 2 4) 11 3 5) 49 48 0 0 4096) 12 2 4) 12 3 5) 41 40 0 0 9) 43 42 0 0 770)
theorem c_keep_X2 : zpc (fX2_keep s ) (fun r => r = (zcpi (zcpi (zcpi s 15 16 0 0 8192) 17 18 0 0 32768) 19 20 0 0 4)) := by
  unfold fX2_keep
  refine zpc_ck (zpc_bv (fun s0 e0 => zpc_ck (zpc_bv (fun s1 e1 => zpc_ck (zpc_bv (fun s2 e2 => zpc_some ?_))))))
  rw [e2, e1, e0]
  rfl
theorem c_keep_X9 : zpc (fX9_keep s ) (fun r => r = (zcpi (zcpi s 21 22 0 0 16384) 23 24 0 0 96)) := by
  unfold fX9_keep
  refine zpc_ck (zpc_bv (fun s0 e0 => zpc_ck (zpc_bv (fun s1 e1 => zpc_some ?_))))
  rw [e1, e0]
  rfl
theorem c_keep_X3 : zpc (fX3_keep s ) (fun r => r = (zcpi s 25 26 0 0 61440)) := by
  unfold fX3_keep
  refine zpc_ck (zpc_bv (fun s0 e0 => zpc_some ?_))
  rw [e0]
  rfl
theorem c_keep_X7 : zpc (fX7_keep s ) (fun r => r = (zcpi s 30 31 0 0 19)) := by
  unfold fX7_keep
  refine zpc_ck (zpc_bv (fun s0 e0 => zpc_some ?_))
  rw [e0]
  rfl
theorem c_keep_X10 : zpc (fX10_keep s ) (fun r => r = (zcpi s 32 33 0 0 272)) := by
  unfold fX10_keep
  refine zpc_ck (zpc_bv (fun s0 e0 => zpc_some ?_))
  rw [e0]
  rfl
theorem c_keep_X4 : zpc (fX4_keep s ) (fun r => r = (zcpi s 34 35 0 0 12)) := by
  unfold fX4_keep
  refine zpc_ck (zpc_bv (fun s0 e0 => zpc_some ?_))
  rw [e0]
  rfl
theorem c_keep_X5 : zpc (fX5_keep s ) (fun r => r = (zcpi s 36 37 0 0 29)) := by
  unfold fX5_keep
  refine zpc_ck (zpc_bv (fun s0 e0 => zpc_some ?_))
  rw [e0]
  rfl
theorem c_keep_X1 : zpc (fX1_keep s ) (fun r => r = (zcpi (zcpi s 40 41 0 0 9) 42 43 0 0 770)) := by
  unfold fX1_keep
  refine zpc_ck (zpc_bv (fun s0 e0 => zpc_ck (zpc_bv (fun s1 e1 => zpc_some ?_))))
  rw [e1, e0]
  rfl
theorem c_keep_k11 : zpc (fX6_keep_k11 s ) (fun r => r = (zWf (zWf (zcpl s 46 47 0 0 4096) 11 4 2) 11 5 3)) := by
  unfold fX6_keep_k11
  refine zpc_ck (zpc_bv (fun s1 e1 => zpc_bv (fun s2 e2 => zpc_bv (fun s3 e3 => zpc_some ?_))))
  rw [e3, e2, e1]
  rfl
theorem c_keep_k12 : zpc (fX6_keep_k12 s ) (fun r => r = (zWf (zWf (zcpl s 48 49 0 0 4096) 12 4 2) 12 5 3)) := by
  unfold fX6_keep_k12
  refine zpc_ck (zpc_bv (fun s1 e1 => zpc_bv (fun s2 e2 => zpc_bv (fun s3 e3 => zpc_some ?_))))
  rw [e3, e2, e1]
  rfl
theorem c_keep_X0 : zpc (fX0_keep s ) (fun r => r = (zWf (zWf (zcpl (zWf (zWf (zcpl (zcpl s 38 39 0 0 7) 46 47 0 0 4096) 11 4 2) 11 5 3) 48 49 0 0 4096) 12 4 2) 12 5 3)) := by
  unfold fX0_keep
  refine zpc_ck (zpc_bv (fun s1 e1 => zpc_bu c_keep_k11 (fun s2 e2 => zpc_bu c_keep_k12 (fun s3 e3 => zpc_some ?_))))
  rw [e3, e2, e1]
  rfl
theorem c_bringBack_X2 : zpc (fX2_bringBack s ) (fun r => r = (zcpi (zcpi (zcpi s 16 15 0 0 8192) 18 17 0 0 32768) 20 19 0 0 4)) := by
  unfold fX2_bringBack
  refine zpc_ck (zpc_bv (fun s0 e0 => zpc_ck (zpc_bv (fun s1 e1 => zpc_ck (zpc_bv (fun s2 e2 => zpc_some ?_))))))
  rw [e2, e1, e0]
  rfl
theorem c_bringBack_X9 : zpc (fX9_bringBack s ) (fun r => r = (zcpi (zcpi s 22 21 0 0 16384) 24 23 0 0 96)) := by
  unfold fX9_bringBack
  refine zpc_ck (zpc_bv (fun s0 e0 => zpc_ck (zpc_bv (fun s1 e1 => zpc_some ?_))))
  rw [e1, e0]
  rfl
theorem c_bringBack_X3 : zpc (fX3_bringBack s ) (fun r => r = (zcpi s 26 25 0 0 61440)) := by
  unfold fX3_bringBack
  refine zpc_ck (zpc_bv (fun s0 e0 => zpc_some ?_))
  rw [e0]
  rfl
theorem c_bringBack_X7 : zpc (fX7_bringBack s ) (fun r => r = (zcpi s 31 30 0 0 19)) := by
  unfold fX7_bringBack
  refine zpc_ck (zpc_bv (fun s0 e0 => zpc_some ?_))
  rw [e0]
  rfl
theorem c_bringBack_X10 : zpc (fX10_bringBack s ) (fun r => r = (zcpi s 33 32 0 0 272)) := by
  unfold fX10_bringBack
  refine zpc_ck (zpc_bv (fun s0 e0 => zpc_some ?_))
  rw [e0]
  rfl
theorem c_bringBack_X4 : zpc (fX4_bringBack s ) (fun r => r = (zcpi s 35 34 0 0 12)) := by
  unfold fX4_bringBack
  refine zpc_ck (zpc_bv (fun s0 e0 => zpc_some ?_))
  rw [e0]
  rfl
theorem c_bringBack_X5 : zpc (fX5_bringBack s ) (fun r => r = (zcpi s 37 36 0 0 29)) := by
  unfold fX5_bringBack
  refine zpc_ck (zpc_bv (fun s0 e0 => zpc_some ?_))
  rw [e0]
  rfl
theorem c_bringBack_X1 : zpc (fX1_bringBack s ) (fun r => r = (zcpi (zcpi s 41 40 0 0 9) 43 42 0 0 770)) := by
  unfold fX1_bringBack
  refine zpc_ck (zpc_bv (fun s0 e0 => zpc_ck (zpc_bv (fun s1 e1 => zpc_some ?_))))
  rw [e1, e0]
  rfl
theorem c_bringBack_k11 : zpc (fX6_bringBack_k11 s ) (fun r => r = (zWf (zWf (zcpl s 47 46 0 0 4096) 11 2 4) 11 3 5)) := by
  unfold fX6_bringBack_k11
  refine zpc_ck (zpc_bv (fun s1 e1 => zpc_bv (fun s2 e2 => zpc_bv (fun s3 e3 => zpc_some ?_))))
  rw [e3, e2, e1]
  rfl
theorem c_bringBack_k12 : zpc (fX6_bringBack_k12 s ) (fun r => r = (zWf (zWf (zcpl s 49 48 0 0 4096) 12 2 4) 12 3 5)) := by
  unfold fX6_bringBack_k12
  refine zpc_ck (zpc_bv (fun s1 e1 => zpc_bv (fun s2 e2 => zpc_bv (fun s3 e3 => zpc_some ?_))))
  rw [e3, e2, e1]
  rfl
theorem c_bringBack_X0 : zpc (fX0_bringBack s ) (fun r => r = (zWf (zWf (zcpl (zWf (zWf (zcpl (zcpl s 39 38 0 0 7) 47 46 0 0 4096) 11 2 4) 11 3 5) 49 48 0 0 4096) 12 2 4) 12 3 5)) := by
  unfold fX0_bringBack
  refine zpc_ck (zpc_bv (fun s1 e1 => zpc_bu c_bringBack_k11 (fun s2 e2 => zpc_bu c_bringBack_k12 (fun s3 e3 => zpc_some ?_))))
  rw [e3, e2, e1]
  rfl
theorem k_save : zpc (fX11_save s ) (fun r => r = zsi (zKept s) 0 11 1) := by
  unfold fX11_save
  refine zpc_bu c_keep_X2 (fun s0 e0 => zpc_bu c_keep_X9 (fun s1 e1 => zpc_bu c_keep_X3 (fun s2 e2 => zpc_bu c_keep_X7 (fun s3 e3 => zpc_bu c_keep_X10 (fun s4 e4 => zpc_bu c_keep_X4 (fun s5 e5 => zpc_bu c_keep_X5 (fun s6 e6 => zpc_bu c_keep_X0 (fun s7 e7 => zpc_bu c_keep_X1 (fun s8 e8 => zpc_ck (zpc_bv (fun sa ea => zpc_some ?_)))))))))))
  rw [ea, e8, e7, e6, e5, e4, e3, e2, e1, e0]
  rfl
theorem c_restore (h : ¬ s.1 0 11 = 0) : zpc (fX11_restore s ) (fun r => r = Sum.inl (zBack s)) := by
  unfold fX11_restore
  refine zpc_if (fun q => absurd q h) (fun _ => zpc_bu c_bringBack_X2 (fun s0 e0 => zpc_bu c_bringBack_X9 (fun s1 e1 => zpc_bu c_bringBack_X3 (fun s2 e2 => zpc_bu c_bringBack_X7 (fun s3 e3 => zpc_bu c_bringBack_X10 (fun s4 e4 => zpc_bu c_bringBack_X4 (fun s5 e5 => zpc_bu c_bringBack_X5 (fun s6 e6 => zpc_bu c_bringBack_X0 (fun s7 e7 => zpc_bu c_bringBack_X1 (fun s8 e8 => zpc_some ?_))))))))))
  rw [e8, e7, e6, e5, e4, e3, e2, e1, e0]
  rfl
theorem zKept_q : zSq [16, 18, 20, 22, 24, 26, 31, 33, 35, 37, 41, 43, 11, 12] [(0, 11, 11)] [39, 47, 49] [] [(43, 42, 770), (41, 40, 9), (37, 36, 29), (35, 34, 12), (33, 32, 272), (31, 30, 19), (26, 25, 61440), (24, 23, 96), (22, 21, 16384), (20, 19, 4), (18, 17, 32768), (16, 15, 8192)] σ (zKept σ) := by
  unfold zKept
  exact (((((((((((((((((((zSq.rf.cp rfl rfl rfl).cp rfl rfl rfl).cp rfl rfl rfl).cp rfl rfl rfl).cp rfl rfl rfl).cp rfl rfl rfl).cp rfl rfl rfl).cp rfl rfl rfl).cp rfl rfl rfl).cp rfl rfl rfl).cl rfl).cl rfl).wi rfl rfl).wi rfl rfl).cl rfl).wi rfl rfl).wi rfl rfl).cp rfl rfl rfl).cp rfl rfl rfl)
theorem zKept_l {j : Nat} (h : j < 7) : (zKept σ).2 39 j = σ.2 38 j := by
  have e : (zKept σ).2 39 = (zcpl (zcpl (zcpl σ 38 39 0 0 7) 46 47 0 0 4096) 48 49 0 0 4096).2 39 := rfl
  rw [e, zcpl_ne (by decide), zcpl_ne (by decide), zcpl_eq, if_pos h]
theorem zBack_q : zSq [11, 12] [(42, 0, 769), (40, 0, 8), (36, 0, 28), (34, 0, 11), (32, 0, 271), (30, 0, 18), (25, 0, 61439), (23, 0, 95), (21, 0, 16383), (19, 0, 3), (17, 0, 32767), (15, 0, 8191)] [46, 48] [(38, 0, 6)] zsv σ (zBack σ) := by
  unfold zBack
  exact (((((((((((((((((((zSq.rf.cp rfl rfl rfl).cp rfl rfl rfl).cp rfl rfl rfl).cp rfl rfl rfl).cp rfl rfl rfl).cp rfl rfl rfl).cp rfl rfl rfl).cp rfl rfl rfl).cp rfl rfl rfl).cp rfl rfl rfl).cl rfl).cl rfl).wi rfl rfl).wi rfl rfl).cl rfl).wi rfl rfl).wi rfl rfl).cp rfl rfl rfl).cp rfl rfl rfl)
theorem zBack_l {j : Nat} (h : j < 7) : (zBack σ).2 38 j = σ.2 39 j := by
  have e : (zBack σ).2 38 = (zcpl (zcpl (zcpl σ 39 38 0 0 7) 47 46 0 0 4096) 49 48 0 0 4096).2 38 := rfl
  rw [e, zcpl_ne (by decide), zcpl_ne (by decide), zcpl_eq, if_pos h]
/-- what was kept is what there was -/
theorem zKept_k {v : Int32} : zQ [16, 18, 20, 22, 24, 26, 31, 33, 35, 37, 41, 43, 11, 12] [(0, 11, 11)] [39, 47, 49] [] σ (zKc (zsi (zKept σ) 0 11 v)) := by
  obtain ⟨q1, q2⟩ := zKept_q (σ := σ)
  have q1 : zQ [16, 18, 20, 22, 24, 26, 31, 33, 35, 37, 41, 43, 11, 12] [(0, 11, 11)] [39, 47, 49] [] σ (zsi (zKept σ) 0 11 v) := zQ.wi q1 rfl
  refine ⟨fun k j c => zkp_of (q1.1 k j c) (fun p hp i hi => ?_), fun k j c => zkp_of (q1.2 k j c) (fun p hp i hi => ?_)⟩
  · have z : ∀ p ∈ zsv, ∀ i : Nat, i < p.2.2 → (zKept σ).1 p.2.1 i = σ.1 p.1 i := by
      unfold zsv
      exact List.forall_mem_cons.2 ⟨fun i hi => q2 (43, 42, 770) (by decide +kernel) i hi, List.forall_mem_cons.2 ⟨fun i hi => q2 (41, 40, 9) (by decide +kernel) i hi, List.forall_mem_cons.2 ⟨fun i hi => q2 (37, 36, 29) (by decide +kernel) i hi, List.forall_mem_cons.2 ⟨fun i hi => q2 (35, 34, 12) (by decide +kernel) i hi, List.forall_mem_cons.2 ⟨fun i hi => q2 (33, 32, 272) (by decide +kernel) i hi, List.forall_mem_cons.2 ⟨fun i hi => q2 (31, 30, 19) (by decide +kernel) i hi, List.forall_mem_cons.2 ⟨fun i hi => q2 (26, 25, 61440) (by decide +kernel) i hi, List.forall_mem_cons.2 ⟨fun i hi => q2 (24, 23, 96) (by decide +kernel) i hi, List.forall_mem_cons.2 ⟨fun i hi => q2 (22, 21, 16384) (by decide +kernel) i hi, List.forall_mem_cons.2 ⟨fun i hi => q2 (20, 19, 4) (by decide +kernel) i hi, List.forall_mem_cons.2 ⟨fun i hi => q2 (18, 17, 32768) (by decide +kernel) i hi, List.forall_mem_cons.2 ⟨fun i hi => q2 (16, 15, 8192) (by decide +kernel) i hi, fun _ h => absurd h List.not_mem_nil⟩⟩⟩⟩⟩⟩⟩⟩⟩⟩⟩⟩
    have n0 : ∀ p ∈ zsv, ¬ p.2.1 = 0 := by decide +kernel
    show (zsi (zKept σ) 0 11 v).1 p.2.1 i = σ.1 p.1 i
    rw [zsi_ne (n0 p hp)]
    exact z p hp i hi
  · rw [List.mem_singleton] at hp
    subst hp
    exact zKept_l hi
theorem zBack_k : zQ [11, 12] [] [46, 48] [] (zKc σ) (zBack σ) := by
  obtain ⟨q1, q2⟩ := zBack_q (σ := σ)
  refine ⟨fun k j c => zkp_rev q2 (fun z => q1.1 k j ?_), fun k j c => zkp_rev (fun p hp i hi => ?_) (fun z => q1.2 k j ?_)⟩
  · unfold zcv at c ⊢
    rw [Bool.or_eq_false_iff] at c ⊢
    refine ⟨c.1, List.any_eq_false.mpr (fun e he q => ?_)⟩
    rw [Bool.and_eq_true, Bool.and_eq_true] at q
    have n : ∀ e ∈ ([(42, 0, 769), (40, 0, 8), (36, 0, 28), (34, 0, 11), (32, 0, 271), (30, 0, 18), (25, 0, 61439), (23, 0, 95), (21, 0, 16383), (19, 0, 3), (17, 0, 32767), (15, 0, 8191)] : List (Nat × Nat × Nat)), ∃ p ∈ zsv, p.1 = e.1 ∧ e.2.2 < p.2.2 := by decide +kernel
    obtain ⟨p, hp, e1, e2⟩ := n e he
    have a3 := Nat.le_of_ble_eq_true q.2.2
    exact z p hp (e1.trans (Nat.eq_of_beq_eq_true q.1)) (by omega)
  · rw [List.mem_singleton] at hp
    subst hp
    exact zBack_l hi
  · unfold zcv at c ⊢
    rw [Bool.or_eq_false_iff] at c ⊢
    refine ⟨c.1, List.any_eq_false.mpr (fun e he q => ?_)⟩
    rw [List.mem_singleton] at he
    subst he
    rw [Bool.and_eq_true, Bool.and_eq_true] at q
    have a3 := Nat.le_of_ble_eq_true q.2.2
    exact z (38, 39, 7) List.mem_cons_self (Nat.eq_of_beq_eq_true q.1) (by show j < 7; have a3 : j ≤ 6 := a3; omega)
/-! the reference's loops -/
theorem zsl_ej {k j : Nat} {v : Int64} : (zsl s k j v).2 k j = v := by
  show (bif Nat.beq k k then vp_updL (s.2 k) j v else s.2 k) j = v
  rw [show Nat.beq k k = true from Nat.beq_refl k]
  show (if j = j then v else s.2 k j) = v
  rw [if_pos rfl]
theorem zsl_nj {k j i : Nat} {v : Int64} (h : ¬ j = i) : (zsl s k i v).2 k j = s.2 k j := zsl_off (fun q => h q.2)
theorem m_sv12 : ∀ (n i : Nat) (t : zSt), i ≤ 1048 → zQ [] [(12, 0, 1047)] [] [] μ t → (∀ j : Nat, j < i → t.1 12 j = μ.1 3 j) → (∀ t : zSt, zQ [] [(12, 0, 1047)] [] [] μ t → (∀ j : Nat, j < 1048 → t.1 12 j = μ.1 3 j) → zpc (fX12_save_39 zfuel t 0) Q) → zpc (fX12_save_12 n t (Int32.ofNat i)) Q := by
  intro n
  induction n with
  | zero => intro i t _ _ _ _; exact zpc_none
  | succ n ih =>
    intro i t hi hd hin k
    show zpc (fX12_save_12_body (fX12_save_12 n) t (Int32.ofNat i)) Q
    unfold fX12_save_12_body
    refine zpc_if (fun q => ?_) (fun q => ?_)
    · have := (z_ofL (k := 1048) (by omega) rfl).mp q
      exact k t hd (fun j h1 => hin j (by omega))
    have hi2 : i < 1048 := by
      have : ¬ 1048 ≤ i := fun z => q ((z_ofL (c := 1048) (k := 1048) (i := i) (by omega) rfl).mpr z)
      omega
    rw [z_ofC (by omega), z_ofS (by omega)]
    refine zpc_ck (zpc_ck (zpc_bv (fun t1 g1 => zpc_bv (fun x ex => ?_))))
    subst ex
    refine ih (i + 1) t1 (by omega) (by rw [g1]; exact zQ.wi hd (zcv_m (a := 0) (b := 1047) (by decide) (by omega) (by omega))) (fun j hj => ?_) k
    by_cases z : j = i
    · rw [z, g1, zsi_ej]
      show t.1 3 i = μ.1 3 i
      rw [hd.ro (k := 3) rfl]
    · rw [g1, zsi_nj z]; exact hin j (by omega)
theorem m_sv39 : ∀ (n i : Nat) (t : zSt), i ≤ 5 → zQ [] [] [] [(13, 0, 4)] μ t → (∀ j : Nat, j < i → t.2 13 j = μ.2 4 j) → (∀ t : zSt, zQ [] [] [] [(13, 0, 4)] μ t → (∀ j : Nat, j < 5 → t.2 13 j = μ.2 4 j) → zpc (fX12_save_64 zfuel t 0) Q) → zpc (fX12_save_39 n t (Int32.ofNat i)) Q := by
  intro n
  induction n with
  | zero => intro i t _ _ _ _; exact zpc_none
  | succ n ih =>
    intro i t hi hd hin k
    show zpc (fX12_save_39_body (fX12_save_39 n) t (Int32.ofNat i)) Q
    unfold fX12_save_39_body
    refine zpc_if (fun q => ?_) (fun q => ?_)
    · have := (z_ofL (k := 5) (by omega) rfl).mp q
      exact k t hd (fun j h1 => hin j (by omega))
    have hi2 : i < 5 := by
      have : ¬ 5 ≤ i := fun z => q ((z_ofL (c := 5) (k := 5) (i := i) (by omega) rfl).mpr z)
      omega
    rw [z_ofC (by omega), z_ofS (by omega)]
    refine zpc_ck (zpc_ck (zpc_bv (fun t1 g1 => zpc_bv (fun x ex => ?_))))
    subst ex
    refine ih (i + 1) t1 (by omega) (by rw [g1]; exact zQ.wl hd (zcv_m (a := 0) (b := 4) (by decide) (by omega) (by omega))) (fun j hj => ?_) k
    by_cases z : j = i
    · rw [z, g1, zsl_ej]
      show t.2 4 i = μ.2 4 i
      rw [hd.rlo (k := 4) rfl]
    · rw [g1, zsl_nj z]; exact hin j (by omega)
theorem m_sv64 : ∀ (n i : Nat) (t : zSt), i ≤ 8192 → zQ [] [(14, 0, 8191)] [] [] μ t → (∀ j : Nat, j < i → t.1 14 j = vp_nar .byte (μ.1 5 j)) → (∀ t : zSt, zQ [] [(14, 0, 8191)] [] [] μ t → (∀ j : Nat, j < 8192 → t.1 14 j = vp_nar .byte (μ.1 5 j)) → zpc (fX12_save_91 zfuel t 0) Q) → zpc (fX12_save_64 n t (Int32.ofNat i)) Q := by
  intro n
  induction n with
  | zero => intro i t _ _ _ _; exact zpc_none
  | succ n ih =>
    intro i t hi hd hin k
    show zpc (fX12_save_64_body (fX12_save_64 n) t (Int32.ofNat i)) Q
    unfold fX12_save_64_body
    refine zpc_if (fun q => ?_) (fun q => ?_)
    · have := (z_ofL (k := 8192) (by omega) rfl).mp q
      exact k t hd (fun j h1 => hin j (by omega))
    have hi2 : i < 8192 := by
      have : ¬ 8192 ≤ i := fun z => q ((z_ofL (c := 8192) (k := 8192) (i := i) (by omega) rfl).mpr z)
      omega
    rw [z_ofC (by omega), z_ofS (by omega)]
    refine zpc_ck (zpc_ck (zpc_bv (fun t1 g1 => zpc_bv (fun x ex => ?_))))
    subst ex
    refine ih (i + 1) t1 (by omega) (by rw [g1]; exact zQ.wi hd (zcv_m (a := 0) (b := 8191) (by decide) (by omega) (by omega))) (fun j hj => ?_) k
    by_cases z : j = i
    · rw [z, g1, zsi_ej]
      show vp_nar .byte (t.1 5 i) = vp_nar .byte (μ.1 5 i)
      rw [hd.ro (k := 5) rfl]
    · rw [g1, zsi_nj z]; exact hin j (by omega)
theorem m_sv91 : ∀ (n i : Nat) (t : zSt), i ≤ 32768 → zQ [] [(15, 0, 32767)] [] [] μ t → (∀ j : Nat, j < i → t.1 15 j = vp_nar .byte (μ.1 6 j)) → (∀ t : zSt, zQ [] [(15, 0, 32767)] [] [] μ t → (∀ j : Nat, j < 32768 → t.1 15 j = vp_nar .byte (μ.1 6 j)) → zpc (fX12_save_117 zfuel t 0) Q) → zpc (fX12_save_91 n t (Int32.ofNat i)) Q := by
  intro n
  induction n with
  | zero => intro i t _ _ _ _; exact zpc_none
  | succ n ih =>
    intro i t hi hd hin k
    show zpc (fX12_save_91_body (fX12_save_91 n) t (Int32.ofNat i)) Q
    unfold fX12_save_91_body
    refine zpc_if (fun q => ?_) (fun q => ?_)
    · have := (z_ofL (k := 32768) (by omega) rfl).mp q
      exact k t hd (fun j h1 => hin j (by omega))
    have hi2 : i < 32768 := by
      have : ¬ 32768 ≤ i := fun z => q ((z_ofL (c := 32768) (k := 32768) (i := i) (by omega) rfl).mpr z)
      omega
    rw [z_ofC (by omega), z_ofS (by omega)]
    refine zpc_ck (zpc_ck (zpc_bv (fun t1 g1 => zpc_bv (fun x ex => ?_))))
    subst ex
    refine ih (i + 1) t1 (by omega) (by rw [g1]; exact zQ.wi hd (zcv_m (a := 0) (b := 32767) (by decide) (by omega) (by omega))) (fun j hj => ?_) k
    by_cases z : j = i
    · rw [z, g1, zsi_ej]
      show vp_nar .byte (t.1 6 i) = vp_nar .byte (μ.1 6 i)
      rw [hd.ro (k := 6) rfl]
    · rw [g1, zsi_nj z]; exact hin j (by omega)
theorem m_sv117 : ∀ (n i : Nat) (t : zSt), i ≤ 16384 → zQ [] [(16, 0, 16383)] [] [] μ t → (∀ j : Nat, j < i → t.1 16 j = vp_nar .byte (μ.1 7 j)) → (∀ t : zSt, zQ [] [(16, 0, 16383)] [] [] μ t → (∀ j : Nat, j < 16384 → t.1 16 j = vp_nar .byte (μ.1 7 j)) → zpc (fX12_save_144 zfuel t 0) Q) → zpc (fX12_save_117 n t (Int32.ofNat i)) Q := by
  intro n
  induction n with
  | zero => intro i t _ _ _ _; exact zpc_none
  | succ n ih =>
    intro i t hi hd hin k
    show zpc (fX12_save_117_body (fX12_save_117 n) t (Int32.ofNat i)) Q
    unfold fX12_save_117_body
    refine zpc_if (fun q => ?_) (fun q => ?_)
    · have := (z_ofL (k := 16384) (by omega) rfl).mp q
      exact k t hd (fun j h1 => hin j (by omega))
    have hi2 : i < 16384 := by
      have : ¬ 16384 ≤ i := fun z => q ((z_ofL (c := 16384) (k := 16384) (i := i) (by omega) rfl).mpr z)
      omega
    rw [z_ofC (by omega), z_ofS (by omega)]
    refine zpc_ck (zpc_ck (zpc_bv (fun t1 g1 => zpc_bv (fun x ex => ?_))))
    subst ex
    refine ih (i + 1) t1 (by omega) (by rw [g1]; exact zQ.wi hd (zcv_m (a := 0) (b := 16383) (by decide) (by omega) (by omega))) (fun j hj => ?_) k
    by_cases z : j = i
    · rw [z, g1, zsi_ej]
      show vp_nar .byte (t.1 7 i) = vp_nar .byte (μ.1 7 i)
      rw [hd.ro (k := 7) rfl]
    · rw [g1, zsi_nj z]; exact hin j (by omega)
theorem m_sv144 : ∀ (n i : Nat) (t : zSt), i ≤ 64 → zQ [] [(17, 0, 63)] [] [] μ t → (∀ j : Nat, j < i → t.1 17 j = vp_nar .byte (μ.1 8 j)) → (∀ t : zSt, zQ [] [(17, 0, 63)] [] [] μ t → (∀ j : Nat, j < 64 → t.1 17 j = vp_nar .byte (μ.1 8 j)) → zpc (fX12_save_170 zfuel t 0) Q) → zpc (fX12_save_144 n t (Int32.ofNat i)) Q := by
  intro n
  induction n with
  | zero => intro i t _ _ _ _; exact zpc_none
  | succ n ih =>
    intro i t hi hd hin k
    show zpc (fX12_save_144_body (fX12_save_144 n) t (Int32.ofNat i)) Q
    unfold fX12_save_144_body
    refine zpc_if (fun q => ?_) (fun q => ?_)
    · have := (z_ofL (k := 64) (by omega) rfl).mp q
      exact k t hd (fun j h1 => hin j (by omega))
    have hi2 : i < 64 := by
      have : ¬ 64 ≤ i := fun z => q ((z_ofL (c := 64) (k := 64) (i := i) (by omega) rfl).mpr z)
      omega
    rw [z_ofC (by omega), z_ofS (by omega)]
    refine zpc_ck (zpc_ck (zpc_bv (fun t1 g1 => zpc_bv (fun x ex => ?_))))
    subst ex
    refine ih (i + 1) t1 (by omega) (by rw [g1]; exact zQ.wi hd (zcv_m (a := 0) (b := 63) (by decide) (by omega) (by omega))) (fun j hj => ?_) k
    by_cases z : j = i
    · rw [z, g1, zsi_ej]
      show vp_nar .byte (t.1 8 i) = vp_nar .byte (μ.1 8 i)
      rw [hd.ro (k := 8) rfl]
    · rw [g1, zsi_nj z]; exact hin j (by omega)
theorem m_sv170 : ∀ (n i : Nat) (t : zSt), i ≤ 61440 → zQ [] [(18, 0, 61439)] [] [] μ t → (∀ j : Nat, j < i → t.1 18 j = μ.1 9 j) → (∀ t : zSt, zQ [] [(18, 0, 61439)] [] [] μ t → (∀ j : Nat, j < 61440 → t.1 18 j = μ.1 9 j) → zpc (fX12_save_196 zfuel t 0) Q) → zpc (fX12_save_170 n t (Int32.ofNat i)) Q := by
  intro n
  induction n with
  | zero => intro i t _ _ _ _; exact zpc_none
  | succ n ih =>
    intro i t hi hd hin k
    show zpc (fX12_save_170_body (fX12_save_170 n) t (Int32.ofNat i)) Q
    unfold fX12_save_170_body
    refine zpc_if (fun q => ?_) (fun q => ?_)
    · have := (z_ofL (k := 61440) (by omega) rfl).mp q
      exact k t hd (fun j h1 => hin j (by omega))
    have hi2 : i < 61440 := by
      have : ¬ 61440 ≤ i := fun z => q ((z_ofL (c := 61440) (k := 61440) (i := i) (by omega) rfl).mpr z)
      omega
    rw [z_ofC (by omega), z_ofS (by omega)]
    refine zpc_ck (zpc_ck (zpc_bv (fun t1 g1 => zpc_bv (fun x ex => ?_))))
    subst ex
    refine ih (i + 1) t1 (by omega) (by rw [g1]; exact zQ.wi hd (zcv_m (a := 0) (b := 61439) (by decide) (by omega) (by omega))) (fun j hj => ?_) k
    by_cases z : j = i
    · rw [z, g1, zsi_ej]
      show t.1 9 i = μ.1 9 i
      rw [hd.ro (k := 9) rfl]
    · rw [g1, zsi_nj z]; exact hin j (by omega)
theorem m_sv196 : ∀ (n i : Nat) (t : zSt), i ≤ 4096 → zQ [] [] [19, 20] [] μ t → zpc (fX12_save_196 n t (Int32.ofNat i)) (fun r => zQ [] [] [19, 20] [] μ r) := by
  intro n
  induction n with
  | zero => intro i t _ _; exact zpc_none
  | succ n ih =>
    intro i t hi hd
    show zpc (fX12_save_196_body (fX12_save_196 n) t (Int32.ofNat i)) _
    unfold fX12_save_196_body
    refine zpc_if (fun q => zpc_some hd) (fun q => ?_)
    have hi2 : i < 4096 := by
      have : ¬ 4096 ≤ i := fun z => q ((z_ofL (c := 4096) (k := 4096) (i := i) (by omega) rfl).mpr z)
      omega
    rw [z_ofC (by omega), z_ofS (by omega)]
    refine zpc_ck (zpc_ck (zpc_bv (fun t1 g1 => zpc_ck (zpc_ck (zpc_bv (fun t2 g2 => zpc_bv (fun x ex => ?_)))))))
    subst ex
    exact ih (i + 1) t2 (by omega) (by rw [g2, g1]; exact zQ.wl (zQ.wl hd rfl) rfl)
theorem m_rs23 : ∀ (n i : Nat) (t : zSt), i ≤ 1048 → zQ [] [(3, 0, 1047)] [] [] μ t → (∀ j : Nat, j < i → t.1 3 j = μ.1 12 j) → (∀ t : zSt, zQ [] [(3, 0, 1047)] [] [] μ t → (∀ j : Nat, j < 1048 → t.1 3 j = μ.1 12 j) → zpc (fX12_restore_50 zfuel t 0) Q) → zpc (fX12_restore_23 n t (Int32.ofNat i)) Q := by
  intro n
  induction n with
  | zero => intro i t _ _ _ _; exact zpc_none
  | succ n ih =>
    intro i t hi hd hin k
    show zpc (fX12_restore_23_body (fX12_restore_23 n) t (Int32.ofNat i)) Q
    unfold fX12_restore_23_body
    refine zpc_if (fun q => ?_) (fun q => ?_)
    · have := (z_ofL (k := 1048) (by omega) rfl).mp q
      exact k t hd (fun j h1 => hin j (by omega))
    have hi2 : i < 1048 := by
      have : ¬ 1048 ≤ i := fun z => q ((z_ofL (c := 1048) (k := 1048) (i := i) (by omega) rfl).mpr z)
      omega
    rw [z_ofC (by omega), z_ofS (by omega)]
    refine zpc_ck (zpc_ck (zpc_bv (fun t1 g1 => zpc_bv (fun x ex => ?_))))
    subst ex
    refine ih (i + 1) t1 (by omega) (by rw [g1]; exact zQ.wi hd (zcv_m (a := 0) (b := 1047) (by decide) (by omega) (by omega))) (fun j hj => ?_) k
    by_cases z : j = i
    · rw [z, g1, zsi_ej]
      show t.1 12 i = μ.1 12 i
      rw [hd.ro (k := 12) rfl]
    · rw [g1, zsi_nj z]; exact hin j (by omega)
theorem m_rs50 : ∀ (n i : Nat) (t : zSt), i ≤ 5 → zQ [] [] [] [(4, 0, 4)] μ t → (∀ j : Nat, j < i → t.2 4 j = μ.2 13 j) → (∀ t : zSt, zQ [] [] [] [(4, 0, 4)] μ t → (∀ j : Nat, j < 5 → t.2 4 j = μ.2 13 j) → zpc (fX12_restore_75 zfuel t 0) Q) → zpc (fX12_restore_50 n t (Int32.ofNat i)) Q := by
  intro n
  induction n with
  | zero => intro i t _ _ _ _; exact zpc_none
  | succ n ih =>
    intro i t hi hd hin k
    show zpc (fX12_restore_50_body (fX12_restore_50 n) t (Int32.ofNat i)) Q
    unfold fX12_restore_50_body
    refine zpc_if (fun q => ?_) (fun q => ?_)
    · have := (z_ofL (k := 5) (by omega) rfl).mp q
      exact k t hd (fun j h1 => hin j (by omega))
    have hi2 : i < 5 := by
      have : ¬ 5 ≤ i := fun z => q ((z_ofL (c := 5) (k := 5) (i := i) (by omega) rfl).mpr z)
      omega
    rw [z_ofC (by omega), z_ofS (by omega)]
    refine zpc_ck (zpc_ck (zpc_bv (fun t1 g1 => zpc_bv (fun x ex => ?_))))
    subst ex
    refine ih (i + 1) t1 (by omega) (by rw [g1]; exact zQ.wl hd (zcv_m (a := 0) (b := 4) (by decide) (by omega) (by omega))) (fun j hj => ?_) k
    by_cases z : j = i
    · rw [z, g1, zsl_ej]
      show t.2 13 i = μ.2 13 i
      rw [hd.rlo (k := 13) rfl]
    · rw [g1, zsl_nj z]; exact hin j (by omega)
theorem m_rs75 : ∀ (n i : Nat) (t : zSt), i ≤ 8192 → zQ [] [(5, 0, 8191)] [] [] μ t → (∀ j : Nat, j < i → t.1 5 j = vp_nar .byte (μ.1 14 j)) → (∀ t : zSt, zQ [] [(5, 0, 8191)] [] [] μ t → (∀ j : Nat, j < 8192 → t.1 5 j = vp_nar .byte (μ.1 14 j)) → zpc (fX12_restore_102 zfuel t 0) Q) → zpc (fX12_restore_75 n t (Int32.ofNat i)) Q := by
  intro n
  induction n with
  | zero => intro i t _ _ _ _; exact zpc_none
  | succ n ih =>
    intro i t hi hd hin k
    show zpc (fX12_restore_75_body (fX12_restore_75 n) t (Int32.ofNat i)) Q
    unfold fX12_restore_75_body
    refine zpc_if (fun q => ?_) (fun q => ?_)
    · have := (z_ofL (k := 8192) (by omega) rfl).mp q
      exact k t hd (fun j h1 => hin j (by omega))
    have hi2 : i < 8192 := by
      have : ¬ 8192 ≤ i := fun z => q ((z_ofL (c := 8192) (k := 8192) (i := i) (by omega) rfl).mpr z)
      omega
    rw [z_ofC (by omega), z_ofS (by omega)]
    refine zpc_ck (zpc_ck (zpc_bv (fun t1 g1 => zpc_bv (fun x ex => ?_))))
    subst ex
    refine ih (i + 1) t1 (by omega) (by rw [g1]; exact zQ.wi hd (zcv_m (a := 0) (b := 8191) (by decide) (by omega) (by omega))) (fun j hj => ?_) k
    by_cases z : j = i
    · rw [z, g1, zsi_ej]
      show vp_nar .byte (t.1 14 i) = vp_nar .byte (μ.1 14 i)
      rw [hd.ro (k := 14) rfl]
    · rw [g1, zsi_nj z]; exact hin j (by omega)
theorem m_rs102 : ∀ (n i : Nat) (t : zSt), i ≤ 32768 → zQ [] [(6, 0, 32767)] [] [] μ t → (∀ j : Nat, j < i → t.1 6 j = vp_nar .byte (μ.1 15 j)) → (∀ t : zSt, zQ [] [(6, 0, 32767)] [] [] μ t → (∀ j : Nat, j < 32768 → t.1 6 j = vp_nar .byte (μ.1 15 j)) → zpc (fX12_restore_128 zfuel t 0) Q) → zpc (fX12_restore_102 n t (Int32.ofNat i)) Q := by
  intro n
  induction n with
  | zero => intro i t _ _ _ _; exact zpc_none
  | succ n ih =>
    intro i t hi hd hin k
    show zpc (fX12_restore_102_body (fX12_restore_102 n) t (Int32.ofNat i)) Q
    unfold fX12_restore_102_body
    refine zpc_if (fun q => ?_) (fun q => ?_)
    · have := (z_ofL (k := 32768) (by omega) rfl).mp q
      exact k t hd (fun j h1 => hin j (by omega))
    have hi2 : i < 32768 := by
      have : ¬ 32768 ≤ i := fun z => q ((z_ofL (c := 32768) (k := 32768) (i := i) (by omega) rfl).mpr z)
      omega
    rw [z_ofC (by omega), z_ofS (by omega)]
    refine zpc_ck (zpc_ck (zpc_bv (fun t1 g1 => zpc_bv (fun x ex => ?_))))
    subst ex
    refine ih (i + 1) t1 (by omega) (by rw [g1]; exact zQ.wi hd (zcv_m (a := 0) (b := 32767) (by decide) (by omega) (by omega))) (fun j hj => ?_) k
    by_cases z : j = i
    · rw [z, g1, zsi_ej]
      show vp_nar .byte (t.1 15 i) = vp_nar .byte (μ.1 15 i)
      rw [hd.ro (k := 15) rfl]
    · rw [g1, zsi_nj z]; exact hin j (by omega)
theorem m_rs128 : ∀ (n i : Nat) (t : zSt), i ≤ 16384 → zQ [] [(7, 0, 16383)] [] [] μ t → (∀ j : Nat, j < i → t.1 7 j = vp_nar .byte (μ.1 16 j)) → (∀ t : zSt, zQ [] [(7, 0, 16383)] [] [] μ t → (∀ j : Nat, j < 16384 → t.1 7 j = vp_nar .byte (μ.1 16 j)) → zpc (fX12_restore_155 zfuel t 0) Q) → zpc (fX12_restore_128 n t (Int32.ofNat i)) Q := by
  intro n
  induction n with
  | zero => intro i t _ _ _ _; exact zpc_none
  | succ n ih =>
    intro i t hi hd hin k
    show zpc (fX12_restore_128_body (fX12_restore_128 n) t (Int32.ofNat i)) Q
    unfold fX12_restore_128_body
    refine zpc_if (fun q => ?_) (fun q => ?_)
    · have := (z_ofL (k := 16384) (by omega) rfl).mp q
      exact k t hd (fun j h1 => hin j (by omega))
    have hi2 : i < 16384 := by
      have : ¬ 16384 ≤ i := fun z => q ((z_ofL (c := 16384) (k := 16384) (i := i) (by omega) rfl).mpr z)
      omega
    rw [z_ofC (by omega), z_ofS (by omega)]
    refine zpc_ck (zpc_ck (zpc_bv (fun t1 g1 => zpc_bv (fun x ex => ?_))))
    subst ex
    refine ih (i + 1) t1 (by omega) (by rw [g1]; exact zQ.wi hd (zcv_m (a := 0) (b := 16383) (by decide) (by omega) (by omega))) (fun j hj => ?_) k
    by_cases z : j = i
    · rw [z, g1, zsi_ej]
      show vp_nar .byte (t.1 16 i) = vp_nar .byte (μ.1 16 i)
      rw [hd.ro (k := 16) rfl]
    · rw [g1, zsi_nj z]; exact hin j (by omega)
theorem m_rs155 : ∀ (n i : Nat) (t : zSt), i ≤ 64 → zQ [] [(8, 0, 63)] [] [] μ t → (∀ j : Nat, j < i → t.1 8 j = vp_nar .byte (μ.1 17 j)) → (∀ t : zSt, zQ [] [(8, 0, 63)] [] [] μ t → (∀ j : Nat, j < 64 → t.1 8 j = vp_nar .byte (μ.1 17 j)) → zpc (fX12_restore_181 zfuel t 0) Q) → zpc (fX12_restore_155 n t (Int32.ofNat i)) Q := by
  intro n
  induction n with
  | zero => intro i t _ _ _ _; exact zpc_none
  | succ n ih =>
    intro i t hi hd hin k
    show zpc (fX12_restore_155_body (fX12_restore_155 n) t (Int32.ofNat i)) Q
    unfold fX12_restore_155_body
    refine zpc_if (fun q => ?_) (fun q => ?_)
    · have := (z_ofL (k := 64) (by omega) rfl).mp q
      exact k t hd (fun j h1 => hin j (by omega))
    have hi2 : i < 64 := by
      have : ¬ 64 ≤ i := fun z => q ((z_ofL (c := 64) (k := 64) (i := i) (by omega) rfl).mpr z)
      omega
    rw [z_ofC (by omega), z_ofS (by omega)]
    refine zpc_ck (zpc_ck (zpc_bv (fun t1 g1 => zpc_bv (fun x ex => ?_))))
    subst ex
    refine ih (i + 1) t1 (by omega) (by rw [g1]; exact zQ.wi hd (zcv_m (a := 0) (b := 63) (by decide) (by omega) (by omega))) (fun j hj => ?_) k
    by_cases z : j = i
    · rw [z, g1, zsi_ej]
      show vp_nar .byte (t.1 17 i) = vp_nar .byte (μ.1 17 i)
      rw [hd.ro (k := 17) rfl]
    · rw [g1, zsi_nj z]; exact hin j (by omega)
theorem m_rs181 : ∀ (n i : Nat) (t : zSt), i ≤ 61440 → zQ [] [(9, 0, 61439)] [] [] μ t → (∀ j : Nat, j < i → t.1 9 j = μ.1 18 j) → (∀ t : zSt, zQ [] [(9, 0, 61439)] [] [] μ t → (∀ j : Nat, j < 61440 → t.1 9 j = μ.1 18 j) → zpc (fX12_restore_207 zfuel t 0) Q) → zpc (fX12_restore_181 n t (Int32.ofNat i)) Q := by
  intro n
  induction n with
  | zero => intro i t _ _ _ _; exact zpc_none
  | succ n ih =>
    intro i t hi hd hin k
    show zpc (fX12_restore_181_body (fX12_restore_181 n) t (Int32.ofNat i)) Q
    unfold fX12_restore_181_body
    refine zpc_if (fun q => ?_) (fun q => ?_)
    · have := (z_ofL (k := 61440) (by omega) rfl).mp q
      exact k t hd (fun j h1 => hin j (by omega))
    have hi2 : i < 61440 := by
      have : ¬ 61440 ≤ i := fun z => q ((z_ofL (c := 61440) (k := 61440) (i := i) (by omega) rfl).mpr z)
      omega
    rw [z_ofC (by omega), z_ofS (by omega)]
    refine zpc_ck (zpc_ck (zpc_bv (fun t1 g1 => zpc_bv (fun x ex => ?_))))
    subst ex
    refine ih (i + 1) t1 (by omega) (by rw [g1]; exact zQ.wi hd (zcv_m (a := 0) (b := 61439) (by decide) (by omega) (by omega))) (fun j hj => ?_) k
    by_cases z : j = i
    · rw [z, g1, zsi_ej]
      show t.1 18 i = μ.1 18 i
      rw [hd.ro (k := 18) rfl]
    · rw [g1, zsi_nj z]; exact hin j (by omega)
theorem m_rs207 : ∀ (n i : Nat) (t : zSt), i ≤ 4096 → zQ [] [] [10, 11] [] μ t → zpc (fX12_restore_207 n t (Int32.ofNat i)) (fun r => zQ [] [] [10, 11] [] μ r) := by
  intro n
  induction n with
  | zero => intro i t _ _; exact zpc_none
  | succ n ih =>
    intro i t hi hd
    show zpc (fX12_restore_207_body (fX12_restore_207 n) t (Int32.ofNat i)) _
    unfold fX12_restore_207_body
    refine zpc_if (fun q => zpc_some hd) (fun q => ?_)
    have hi2 : i < 4096 := by
      have : ¬ 4096 ≤ i := fun z => q ((z_ofL (c := 4096) (k := 4096) (i := i) (by omega) rfl).mpr z)
      omega
    rw [z_ofC (by omega), z_ofS (by omega)]
    refine zpc_ck (zpc_ck (zpc_bv (fun t1 g1 => zpc_ck (zpc_ck (zpc_bv (fun t2 g2 => zpc_bv (fun x ex => ?_)))))))
    subst ex
    exact ih (i + 1) t2 (by omega) (by rw [g2, g1]; exact zQ.wl (zQ.wl hd rfl) rfl)
noncomputable def zMkk (μ r : zSt) : Prop := zQ [12, 14, 15, 16, 17, 18] [(0, 0, 0), (0, 19, 19)] [13, 19, 20] [] μ r ∧ (∀ j : Nat, j < 1048 → r.1 12 j = μ.1 3 j) ∧ (∀ j : Nat, j < 5 → r.2 13 j = μ.2 4 j) ∧ (∀ j : Nat, j < 8192 → r.1 14 j = vp_nar .byte (μ.1 5 j)) ∧ (∀ j : Nat, j < 32768 → r.1 15 j = vp_nar .byte (μ.1 6 j)) ∧ (∀ j : Nat, j < 16384 → r.1 16 j = vp_nar .byte (μ.1 7 j)) ∧ (∀ j : Nat, j < 64 → r.1 17 j = vp_nar .byte (μ.1 8 j)) ∧ (∀ j : Nat, j < 61440 → r.1 18 j = μ.1 9 j)
theorem m_save' : zpc (fX12_save_12 zfuel μ 0) (zMkk μ) := by
  refine m_sv12 (μ := μ) zfuel 0 μ (by decide) zQ.rf (fun j hj => absurd hj (by omega)) (fun u0 d0 v0 => ?_)
  refine m_sv39 (μ := u0) zfuel 0 u0 (by decide) zQ.rf (fun j hj => absurd hj (by omega)) (fun u1 d1 v1 => ?_)
  refine m_sv64 (μ := u1) zfuel 0 u1 (by decide) zQ.rf (fun j hj => absurd hj (by omega)) (fun u2 d2 v2 => ?_)
  refine m_sv91 (μ := u2) zfuel 0 u2 (by decide) zQ.rf (fun j hj => absurd hj (by omega)) (fun u3 d3 v3 => ?_)
  refine m_sv117 (μ := u3) zfuel 0 u3 (by decide) zQ.rf (fun j hj => absurd hj (by omega)) (fun u4 d4 v4 => ?_)
  refine m_sv144 (μ := u4) zfuel 0 u4 (by decide) zQ.rf (fun j hj => absurd hj (by omega)) (fun u5 d5 v5 => ?_)
  refine m_sv170 (μ := u5) zfuel 0 u5 (by decide) zQ.rf (fun j hj => absurd hj (by omega)) (fun u6 d6 v6 => ?_)
  refine zpc_mono (m_sv196 (μ := u6) zfuel 0 u6 (by decide) zQ.rf) (fun r d7 => ?_)
  have w0 : ∀ j : Nat, j < 1048 → r.1 12 j = μ.1 3 j := fun j hj => by
    rw [d7.ro (k := 12) rfl, d6.ro (k := 12) rfl, d5.ro (k := 12) rfl, d4.ro (k := 12) rfl, d3.ro (k := 12) rfl, d2.ro (k := 12) rfl, d1.ro (k := 12) rfl, v0 j hj]
  have w1 : ∀ j : Nat, j < 5 → r.2 13 j = μ.2 4 j := fun j hj => by
    rw [d7.rlo (k := 13) rfl, d6.rlo (k := 13) rfl, d5.rlo (k := 13) rfl, d4.rlo (k := 13) rfl, d3.rlo (k := 13) rfl, d2.rlo (k := 13) rfl, v1 j hj, d0.rlo (k := 4) rfl]
  have w2 : ∀ j : Nat, j < 8192 → r.1 14 j = vp_nar .byte (μ.1 5 j) := fun j hj => by
    rw [d7.ro (k := 14) rfl, d6.ro (k := 14) rfl, d5.ro (k := 14) rfl, d4.ro (k := 14) rfl, d3.ro (k := 14) rfl, v2 j hj, d1.ro (k := 5) rfl, d0.ro (k := 5) rfl]
  have w3 : ∀ j : Nat, j < 32768 → r.1 15 j = vp_nar .byte (μ.1 6 j) := fun j hj => by
    rw [d7.ro (k := 15) rfl, d6.ro (k := 15) rfl, d5.ro (k := 15) rfl, d4.ro (k := 15) rfl, v3 j hj, d2.ro (k := 6) rfl, d1.ro (k := 6) rfl, d0.ro (k := 6) rfl]
  have w4 : ∀ j : Nat, j < 16384 → r.1 16 j = vp_nar .byte (μ.1 7 j) := fun j hj => by
    rw [d7.ro (k := 16) rfl, d6.ro (k := 16) rfl, d5.ro (k := 16) rfl, v4 j hj, d3.ro (k := 7) rfl, d2.ro (k := 7) rfl, d1.ro (k := 7) rfl, d0.ro (k := 7) rfl]
  have w5 : ∀ j : Nat, j < 64 → r.1 17 j = vp_nar .byte (μ.1 8 j) := fun j hj => by
    rw [d7.ro (k := 17) rfl, d6.ro (k := 17) rfl, v5 j hj, d4.ro (k := 8) rfl, d3.ro (k := 8) rfl, d2.ro (k := 8) rfl, d1.ro (k := 8) rfl, d0.ro (k := 8) rfl]
  have w6 : ∀ j : Nat, j < 61440 → r.1 18 j = μ.1 9 j := fun j hj => by
    rw [d7.ro (k := 18) rfl, v6 j hj, d5.ro (k := 9) rfl, d4.ro (k := 9) rfl, d3.ro (k := 9) rfl, d2.ro (k := 9) rfl, d1.ro (k := 9) rfl, d0.ro (k := 9) rfl]
  refine ⟨?_, w0, w1, w2, w3, w4, w5, w6⟩
  have m0 := d0.mono (R' := [12, 14, 15, 16, 17, 18]) (A' := [(0, 0, 0), (0, 19, 19)]) (S' := [13, 19, 20]) (B' := []) rfl rfl
  have m1 := d1.mono (R' := [12, 14, 15, 16, 17, 18]) (A' := [(0, 0, 0), (0, 19, 19)]) (S' := [13, 19, 20]) (B' := []) rfl rfl
  have m2 := d2.mono (R' := [12, 14, 15, 16, 17, 18]) (A' := [(0, 0, 0), (0, 19, 19)]) (S' := [13, 19, 20]) (B' := []) rfl rfl
  have m3 := d3.mono (R' := [12, 14, 15, 16, 17, 18]) (A' := [(0, 0, 0), (0, 19, 19)]) (S' := [13, 19, 20]) (B' := []) rfl rfl
  have m4 := d4.mono (R' := [12, 14, 15, 16, 17, 18]) (A' := [(0, 0, 0), (0, 19, 19)]) (S' := [13, 19, 20]) (B' := []) rfl rfl
  have m5 := d5.mono (R' := [12, 14, 15, 16, 17, 18]) (A' := [(0, 0, 0), (0, 19, 19)]) (S' := [13, 19, 20]) (B' := []) rfl rfl
  have m6 := d6.mono (R' := [12, 14, 15, 16, 17, 18]) (A' := [(0, 0, 0), (0, 19, 19)]) (S' := [13, 19, 20]) (B' := []) rfl rfl
  have m7 := d7.mono (R' := [12, 14, 15, 16, 17, 18]) (A' := [(0, 0, 0), (0, 19, 19)]) (S' := [13, 19, 20]) (B' := []) rfl rfl
  exact ((((((m0.tr m1).tr m2).tr m3).tr m4).tr m5).tr m6).tr m7
theorem m_back : zpc (fX12_restore_23 zfuel μ 0) (fun r => zQ [] [] [10, 11] [] (zKm μ) r) := by
  refine m_rs23 (μ := μ) zfuel 0 μ (by decide) zQ.rf (fun j hj => absurd hj (by omega)) (fun u0 d0 v0 => ?_)
  refine m_rs50 (μ := u0) zfuel 0 u0 (by decide) zQ.rf (fun j hj => absurd hj (by omega)) (fun u1 d1 v1 => ?_)
  refine m_rs75 (μ := u1) zfuel 0 u1 (by decide) zQ.rf (fun j hj => absurd hj (by omega)) (fun u2 d2 v2 => ?_)
  refine m_rs102 (μ := u2) zfuel 0 u2 (by decide) zQ.rf (fun j hj => absurd hj (by omega)) (fun u3 d3 v3 => ?_)
  refine m_rs128 (μ := u3) zfuel 0 u3 (by decide) zQ.rf (fun j hj => absurd hj (by omega)) (fun u4 d4 v4 => ?_)
  refine m_rs155 (μ := u4) zfuel 0 u4 (by decide) zQ.rf (fun j hj => absurd hj (by omega)) (fun u5 d5 v5 => ?_)
  refine m_rs181 (μ := u5) zfuel 0 u5 (by decide) zQ.rf (fun j hj => absurd hj (by omega)) (fun u6 d6 v6 => ?_)
  refine zpc_mono (m_rs207 (μ := u6) zfuel 0 u6 (by decide) zQ.rf) (fun r d7 => ?_)
  have w0 : ∀ j : Nat, j < 1048 → r.1 3 j = μ.1 12 j := fun j hj => by
    rw [d7.ro (k := 3) rfl, d6.ro (k := 3) rfl, d5.ro (k := 3) rfl, d4.ro (k := 3) rfl, d3.ro (k := 3) rfl, d2.ro (k := 3) rfl, d1.ro (k := 3) rfl, v0 j hj]
  have w1 : ∀ j : Nat, j < 5 → r.2 4 j = μ.2 13 j := fun j hj => by
    rw [d7.rlo (k := 4) rfl, d6.rlo (k := 4) rfl, d5.rlo (k := 4) rfl, d4.rlo (k := 4) rfl, d3.rlo (k := 4) rfl, d2.rlo (k := 4) rfl, v1 j hj, d0.rlo (k := 13) rfl]
  have w2 : ∀ j : Nat, j < 8192 → r.1 5 j = vp_nar .byte (μ.1 14 j) := fun j hj => by
    rw [d7.ro (k := 5) rfl, d6.ro (k := 5) rfl, d5.ro (k := 5) rfl, d4.ro (k := 5) rfl, d3.ro (k := 5) rfl, v2 j hj, d1.ro (k := 14) rfl, d0.ro (k := 14) rfl]
  have w3 : ∀ j : Nat, j < 32768 → r.1 6 j = vp_nar .byte (μ.1 15 j) := fun j hj => by
    rw [d7.ro (k := 6) rfl, d6.ro (k := 6) rfl, d5.ro (k := 6) rfl, d4.ro (k := 6) rfl, v3 j hj, d2.ro (k := 15) rfl, d1.ro (k := 15) rfl, d0.ro (k := 15) rfl]
  have w4 : ∀ j : Nat, j < 16384 → r.1 7 j = vp_nar .byte (μ.1 16 j) := fun j hj => by
    rw [d7.ro (k := 7) rfl, d6.ro (k := 7) rfl, d5.ro (k := 7) rfl, v4 j hj, d3.ro (k := 16) rfl, d2.ro (k := 16) rfl, d1.ro (k := 16) rfl, d0.ro (k := 16) rfl]
  have w5 : ∀ j : Nat, j < 64 → r.1 8 j = vp_nar .byte (μ.1 17 j) := fun j hj => by
    rw [d7.ro (k := 8) rfl, d6.ro (k := 8) rfl, v5 j hj, d4.ro (k := 17) rfl, d3.ro (k := 17) rfl, d2.ro (k := 17) rfl, d1.ro (k := 17) rfl, d0.ro (k := 17) rfl]
  have w6 : ∀ j : Nat, j < 61440 → r.1 9 j = μ.1 18 j := fun j hj => by
    rw [d7.ro (k := 9) rfl, v6 j hj, d5.ro (k := 18) rfl, d4.ro (k := 18) rfl, d3.ro (k := 18) rfl, d2.ro (k := 18) rfl, d1.ro (k := 18) rfl, d0.ro (k := 18) rfl]
  have m0 := d0.mono (R' := []) (A' := [(0, 0, 0), (3, 0, 1047), (5, 0, 8191), (6, 0, 32767), (7, 0, 16383), (8, 0, 63), (9, 0, 61439)]) (S' := [10, 11]) (B' := [(4, 0, 4)]) rfl rfl
  have m1 := d1.mono (R' := []) (A' := [(0, 0, 0), (3, 0, 1047), (5, 0, 8191), (6, 0, 32767), (7, 0, 16383), (8, 0, 63), (9, 0, 61439)]) (S' := [10, 11]) (B' := [(4, 0, 4)]) rfl rfl
  have m2 := d2.mono (R' := []) (A' := [(0, 0, 0), (3, 0, 1047), (5, 0, 8191), (6, 0, 32767), (7, 0, 16383), (8, 0, 63), (9, 0, 61439)]) (S' := [10, 11]) (B' := [(4, 0, 4)]) rfl rfl
  have m3 := d3.mono (R' := []) (A' := [(0, 0, 0), (3, 0, 1047), (5, 0, 8191), (6, 0, 32767), (7, 0, 16383), (8, 0, 63), (9, 0, 61439)]) (S' := [10, 11]) (B' := [(4, 0, 4)]) rfl rfl
  have m4 := d4.mono (R' := []) (A' := [(0, 0, 0), (3, 0, 1047), (5, 0, 8191), (6, 0, 32767), (7, 0, 16383), (8, 0, 63), (9, 0, 61439)]) (S' := [10, 11]) (B' := [(4, 0, 4)]) rfl rfl
  have m5 := d5.mono (R' := []) (A' := [(0, 0, 0), (3, 0, 1047), (5, 0, 8191), (6, 0, 32767), (7, 0, 16383), (8, 0, 63), (9, 0, 61439)]) (S' := [10, 11]) (B' := [(4, 0, 4)]) rfl rfl
  have m6 := d6.mono (R' := []) (A' := [(0, 0, 0), (3, 0, 1047), (5, 0, 8191), (6, 0, 32767), (7, 0, 16383), (8, 0, 63), (9, 0, 61439)]) (S' := [10, 11]) (B' := [(4, 0, 4)]) rfl rfl
  have m7 := d7.mono (R' := []) (A' := [(0, 0, 0), (3, 0, 1047), (5, 0, 8191), (6, 0, 32767), (7, 0, 16383), (8, 0, 63), (9, 0, 61439)]) (S' := [10, 11]) (B' := [(4, 0, 4)]) rfl rfl
  have fr := ((((((m0.tr m1).tr m2).tr m3).tr m4).tr m5).tr m6).tr m7
  have z0 : r.1 0 0 = μ.1 0 0 := by rw [d7.ro (k := 0) rfl, d6.ro (k := 0) rfl, d5.ro (k := 0) rfl, d4.ro (k := 0) rfl, d3.ro (k := 0) rfl, d2.ro (k := 0) rfl, d1.ro (k := 0) rfl, d0.ro (k := 0) rfl]
  have vals : ∀ p ∈ zsm, ∀ i : Nat, i < p.2.2 → r.1 p.1 i = zmb p.1 (μ.1 p.2.1 i) := by
    unfold zsm
    exact List.forall_mem_cons.2 ⟨fun i hi => w6 i hi, List.forall_mem_cons.2 ⟨fun i hi => w5 i hi, List.forall_mem_cons.2 ⟨fun i hi => w4 i hi, List.forall_mem_cons.2 ⟨fun i hi => w3 i hi, List.forall_mem_cons.2 ⟨fun i hi => w2 i hi, List.forall_mem_cons.2 ⟨fun i hi => w0 i hi, fun _ h => absurd h List.not_mem_nil⟩⟩⟩⟩⟩⟩
  refine ⟨fun k j c => zkp_rev vals (fun z => ?_), fun k j c => zkp_rev (fun p hp i hi => ?_) (fun z => fr.2 k j ?_)⟩
  · by_cases y : k = 0 ∧ j = 0
    · rw [y.1, y.2]; exact z0
    refine fr.1 k j ?_
    unfold zcv
    show (false || _) = false
    rw [Bool.false_or]
    refine List.any_eq_false.mpr (fun e he q => ?_)
    rw [Bool.and_eq_true, Bool.and_eq_true] at q
    have n : ∀ e ∈ ([(0, 0, 0), (3, 0, 1047), (5, 0, 8191), (6, 0, 32767), (7, 0, 16383), (8, 0, 63), (9, 0, 61439)] : List (Nat × Nat × Nat)), e = (0, 0, 0) ∨ ∃ p ∈ zsm, p.1 = e.1 ∧ e.2.2 < p.2.2 := by decide +kernel
    have a3 := Nat.le_of_ble_eq_true q.2.2
    have a1 := Nat.eq_of_beq_eq_true q.1
    rcases n e he with x | ⟨p, hp, e1, e2⟩
    · subst x
      have a3 : j ≤ 0 := a3
      exact y ⟨a1.symm, by omega⟩
    · exact z p hp (e1.trans a1) (by omega)
  · rw [List.mem_singleton] at hp
    subst hp
    exact w1 i hi
  · unfold zcv at c ⊢
    rw [Bool.or_eq_false_iff] at c ⊢
    refine ⟨c.1, List.any_eq_false.mpr (fun e he q => ?_)⟩
    rw [List.mem_singleton] at he
    subst he
    rw [Bool.and_eq_true, Bool.and_eq_true] at q
    have a3 : j ≤ 4 := Nat.le_of_ble_eq_true q.2.2
    exact z (4, 13, 5) List.mem_cons_self (Nat.eq_of_beq_eq_true q.1) (by show j < 5; omega)
/-- frame of restoring, from the state itself -/
theorem m_backf : zpc (fX12_restore_23 zfuel μ 0) (fun r => zQ [3, 5, 6, 7, 8, 9] [] [4, 10, 11] [] μ r) := by
  refine m_rs23 (μ := μ) zfuel 0 μ (by decide) zQ.rf (fun j hj => absurd hj (by omega)) (fun u0 d0 v0 => ?_)
  refine m_rs50 (μ := u0) zfuel 0 u0 (by decide) zQ.rf (fun j hj => absurd hj (by omega)) (fun u1 d1 v1 => ?_)
  refine m_rs75 (μ := u1) zfuel 0 u1 (by decide) zQ.rf (fun j hj => absurd hj (by omega)) (fun u2 d2 v2 => ?_)
  refine m_rs102 (μ := u2) zfuel 0 u2 (by decide) zQ.rf (fun j hj => absurd hj (by omega)) (fun u3 d3 v3 => ?_)
  refine m_rs128 (μ := u3) zfuel 0 u3 (by decide) zQ.rf (fun j hj => absurd hj (by omega)) (fun u4 d4 v4 => ?_)
  refine m_rs155 (μ := u4) zfuel 0 u4 (by decide) zQ.rf (fun j hj => absurd hj (by omega)) (fun u5 d5 v5 => ?_)
  refine m_rs181 (μ := u5) zfuel 0 u5 (by decide) zQ.rf (fun j hj => absurd hj (by omega)) (fun u6 d6 v6 => ?_)
  refine zpc_mono (m_rs207 (μ := u6) zfuel 0 u6 (by decide) zQ.rf) (fun r d7 => ?_)
  have m0 := d0.mono (R' := [3, 5, 6, 7, 8, 9]) (A' := []) (S' := [4, 10, 11]) (B' := []) rfl rfl
  have m1 := d1.mono (R' := [3, 5, 6, 7, 8, 9]) (A' := []) (S' := [4, 10, 11]) (B' := []) rfl rfl
  have m2 := d2.mono (R' := [3, 5, 6, 7, 8, 9]) (A' := []) (S' := [4, 10, 11]) (B' := []) rfl rfl
  have m3 := d3.mono (R' := [3, 5, 6, 7, 8, 9]) (A' := []) (S' := [4, 10, 11]) (B' := []) rfl rfl
  have m4 := d4.mono (R' := [3, 5, 6, 7, 8, 9]) (A' := []) (S' := [4, 10, 11]) (B' := []) rfl rfl
  have m5 := d5.mono (R' := [3, 5, 6, 7, 8, 9]) (A' := []) (S' := [4, 10, 11]) (B' := []) rfl rfl
  have m6 := d6.mono (R' := [3, 5, 6, 7, 8, 9]) (A' := []) (S' := [4, 10, 11]) (B' := []) rfl rfl
  have m7 := d7.mono (R' := [3, 5, 6, 7, 8, 9]) (A' := []) (S' := [4, 10, 11]) (B' := []) rfl rfl
  exact ((((((m0.tr m1).tr m2).tr m3).tr m4).tr m5).tr m6).tr m7
end ZKC
end ZJN0
section ZJN1
/-! THE WHOLE RELATION BETWEEN TWO CALLS -/
section ZAL
variable {σ μ s t r : zSt} {B C : Int × Int × Int}
/-- bytes of the reference may be written otherwise -/
theorem zNow.msk (h : zNow B σ μ) (b : zQ [5, 6, 7, 8, 12, 14, 15, 16, 17, 18] [(0, 0, 0), (0, 19, 19)] [13, 19, 20] [] μ t) (e5 : ∀ j : Nat, j < 8192 → t.1 5 j &&& 255 = μ.1 5 j &&& 255) (e6 : ∀ j : Nat, j < 32768 → t.1 6 j &&& 255 = μ.1 6 j &&& 255) (e7 : ∀ j : Nat, j < 16384 → t.1 7 j &&& 255 = μ.1 7 j &&& 255) (e8 : ∀ j : Nat, j < 64 → t.1 8 j &&& 255 = μ.1 8 j &&& 255) : zNow B σ t := by
  obtain ⟨⟨⟨⟨m1, m2, m3, m4, m5, m6⟩, r1, r2, r3, r4, r5, r6⟩, hC, hJ, ⟨⟨hE, hG, hR, hL⟩, hj⟩⟩, hF, hW⟩ := h
  have g3 : t.1 3 = μ.1 3 := b.ro (k := 3) rfl
  have g2 : t.1 2 = μ.1 2 := b.ro (k := 2) rfl
  have g0 : ∀ j : Nat, 1 ≤ j → j ≤ 18 → t.1 0 j = μ.1 0 j := fun j h1 h2 => b.o (k := 0) (a := 1) (b := 18) rfl h1 h2
  have a0 : zQ [] [] [] [] σ σ := zQ.rf
  refine ⟨⟨⟨⟨fun j hj => ?_, fun j hj => ?_, fun j hj => ?_, ?_, ?_, ?_⟩, r1, r2, ?_, ?_, ?_, fun j j1 j2 => ?_⟩, ?_, ?_, ⟨⟨?_, hG, ?_, hL⟩, hj.kp a0 b rfl rfl⟩⟩, ?_, ?_⟩
  · rw [e5 j hj]; exact m1 j hj
  · rw [e6 j hj]; exact m2 j hj
  · rw [g3]; exact m3 j hj
  · rw [g3]; exact m4
  · exact m5.keep (fun _ _ => rfl) rfl (fun j hj => g0 j (by revert hj; simp only [List.mem_cons, List.not_mem_nil, or_false]; omega) (by revert hj; simp only [List.mem_cons, List.not_mem_nil, or_false]; omega)) g2
  · unfold zFil
    rw [g0 5 (by decide) (by decide), g0 6 (by decide) (by decide), g2]
    exact m6
  · rw [g0 6 (by decide) (by decide)]; exact r3
  · rw [g0 7 (by decide) (by decide)]; exact r4
  · rw [g0 7 (by decide) (by decide), g0 6 (by decide) (by decide)]; exact r5
  · rw [g3]; exact r6 j j1 j2
  · unfold zCq
    rw [g3]
    exact hC
  · unfold zJp
    rw [b.o (k := 0) (a := 31) (b := 31) rfl (j := 31) (by decide) (by decide)]
    exact hJ
  · refine zE_all (fun i hi => ?_) (fun i hi => ?_) (fun i hi => ?_) (fun i hi => ?_) (fun i hi => ?_) (fun i hi => ?_) (fun i hi => ?_) (fun i hi => ?_) (fun i hi => ?_) (fun i hi => ?_) (fun i hi => ?_) (fun i hi => ?_) (fun i hi => ?_) (fun i hi => ?_) (fun i hi => ?_) (fun i hi => ?_) (fun i hi => ?_) (fun i hi => ?_) (fun i hi => ?_)
    · rw [g3]
      exact hE (34, 0, 1, 3, 33, (-1)) (by decide +kernel) i hi
    · rw [g3]
      exact hE (34, 1, 5, 3, 37, (-1)) (by decide +kernel) i hi
    · rw [g3]
      exact hE (34, 6, 1, 3, 35, (-1)) (by decide +kernel) i hi
    · rw [g3]
      exact hE (34, 7, 5, 3, 42, (-1)) (by decide +kernel) i hi
    · rw [g3]
      exact hE (23, 0, 17, 3, 47, (-1)) (by decide +kernel) i hi
    · rw [g3]
      exact hE (23, 18, 4, 3, 64, (-1)) (by decide +kernel) i hi
    · rw [g3]
      exact hE (23, 26, 1, 3, 68, (-1)) (by decide +kernel) i hi
    · rw [e8 (0 + i) (by omega)]
      exact hE (23, 32, 64, 8, 0, 255) (by decide +kernel) i hi
    · rw [e7 (0 + i) (by omega)]
      exact hE (21, 0, 16384, 7, 0, 255) (by decide +kernel) i hi
    · rw [g3]
      exact hE (30, 0, 3, 3, 69, (-1)) (by decide +kernel) i hi
    · rw [g3]
      exact hE (30, 9, 5, 3, 78, (-1)) (by decide +kernel) i hi
    · rw [g3]
      exact hE (30, 17, 1, 3, 86, (-1)) (by decide +kernel) i hi
    · rw [g3]
      exact hE (30, 18, 1, 3, 34, (-1)) (by decide +kernel) i hi
    · rw [g3]
      exact hE (32, 0, 64, 3, 98, (-1)) (by decide +kernel) i hi
    · rw [g3]
      exact hE (32, 64, 1, 3, 163, (-1)) (by decide +kernel) i hi
    · rw [g3]
      exact hE (32, 68, 1, 3, 162, (-1)) (by decide +kernel) i hi
    · rw [g3]
      exact hE (40, 0, 8, 3, 90, (-1)) (by decide +kernel) i hi
    · rw [g3]
      exact hE (40, 8, 1, 3, 89, (-1)) (by decide +kernel) i hi
    · rw [b.ro (k := 9) rfl]
      exact hE (25, 0, 61440, 9, 0, (-1)) (by decide +kernel) i hi
  · unfold zRk
    rw [g0 3 (by decide) (by decide)]
    exact hR
  · unfold zF
    rw [g3]
    exact hF
  · unfold zWzz
    rw [g3]
    exact hW
/-! what is kept stays related while both go on -/
theorem zsv_tb : (zTb.all (fun q => zsv.any (fun p => Nat.beq p.1 q.1 && Nat.ble (q.2.1 + q.2.2.1) p.2.2))) = true := by decide +kernel
theorem zsm_tb : (zTb.all (fun q => zsm.any (fun p => Nat.beq p.1 q.2.2.2.1 && Nat.ble (q.2.2.2.2.1 + q.2.2.1) p.2.2))) = true := by decide +kernel
theorem zsv_gt : (zGt.all (fun q => zsv.any (fun p => Nat.beq p.1 q.1 && Nat.ble (q.2.1 + q.2.2.1) p.2.2))) = true := by decide +kernel
theorem zNow.sav (k : zNow B (zKc σ) (zKm μ)) (n : zNow C s t) (c : ∀ p ∈ zsv, s.1 p.2.1 = σ.1 p.2.1) (cl : s.2 39 = σ.2 39) (d : ∀ p ∈ zsm, t.1 p.2.1 = μ.1 p.2.1) (dl : t.2 13 = μ.2 13) (kd : t.1 0 3 = μ.1 0 3) : zNow (C.1, B.2.1, B.2.2) (zKc s) (zKm t) := by
  have eC : ∀ p ∈ zsv, ∀ j : Nat, j < p.2.2 → (zKc s).1 p.1 j = (zKc σ).1 p.1 j := fun p hp j hj => by
    rw [zKc_all p hp j hj, zKc_all p hp j hj, c p hp]
  have eM : ∀ p ∈ zsm, ∀ j : Nat, j < p.2.2 → (zKm t).1 p.1 j = (zKm μ).1 p.1 j := fun p hp j hj => by
    rw [zKm_all p hp j hj, zKm_all p hp j hj, d p hp]
  have fC : ∀ j : Nat, j < 7 → (zKc s).2 38 j = (zKc σ).2 38 j := fun j hj => by rw [zKc_l hj, zKc_l hj, cl]
  have fM : ∀ j : Nat, j < 5 → (zKm t).2 4 j = (zKm μ).2 4 j := fun j hj => by rw [zKm_l hj, zKm_l hj, dl]
  have c15 : ∀ j : Nat, j < 8192 → (zKc s).1 15 j = (zKc σ).1 15 j := fun j hj => eC (15, 16, 8192) (by decide +kernel) j hj
  have c17 : ∀ j : Nat, j < 32768 → (zKc s).1 17 j = (zKc σ).1 17 j := fun j hj => eC (17, 18, 32768) (by decide +kernel) j hj
  have c19 : ∀ j : Nat, j < 4 → (zKc s).1 19 j = (zKc σ).1 19 j := fun j hj => eC (19, 20, 4) (by decide +kernel) j hj
  have c23 : ∀ j : Nat, j < 96 → (zKc s).1 23 j = (zKc σ).1 23 j := fun j hj => eC (23, 24, 96) (by decide +kernel) j hj
  have c36 : ∀ j : Nat, j < 29 → (zKc s).1 36 j = (zKc σ).1 36 j := fun j hj => eC (36, 37, 29) (by decide +kernel) j hj
  have c42 : ∀ j : Nat, j < 770 → (zKc s).1 42 j = (zKc σ).1 42 j := fun j hj => eC (42, 43, 770) (by decide +kernel) j hj
  have d3 : ∀ j : Nat, j < 1048 → (zKm t).1 3 j = (zKm μ).1 3 j := fun j hj => eM (3, 12, 1048) (by decide +kernel) j hj
  have d5 : ∀ j : Nat, j < 8192 → (zKm t).1 5 j = (zKm μ).1 5 j := fun j hj => eM (5, 14, 8192) (by decide +kernel) j hj
  have d6 : ∀ j : Nat, j < 32768 → (zKm t).1 6 j = (zKm μ).1 6 j := fun j hj => eM (6, 15, 32768) (by decide +kernel) j hj
  obtain ⟨⟨⟨⟨m1, m2, m3, m4, m5, m6⟩, r1, r2, r3, r4, r5, r6⟩, hC, hJ, ⟨⟨hE, hG, hR, hL⟩, hP, hS, hT, hM⟩⟩, hF, hW⟩ := k
  obtain ⟨⟨⟨⟨n1, n2, n3, n4, n5, n6⟩, u1, u2, u3, u4, u5, u6⟩, iC, iJ, ⟨⟨iE, iG, iR, iL⟩, iP, iS, iT, iM⟩⟩, iF, iW⟩ := n
  have k3 : (zKm t).1 0 3 = (zKm μ).1 0 3 := kd
  refine ⟨⟨⟨⟨fun j hj => ?_, fun j hj => ?_, fun j hj => ?_, ?_, ?_, n6⟩, u1, u2, u3, u4, u5, fun j j1 j2 => ?_⟩, ⟨fun j hj j1 j20 => ?_, ?_, ?_, fun j hj => ?_⟩, iJ, ⟨⟨?_, ?_, iR, ?_⟩, ⟨?_, ?_, ?_, fun k r hk hr => ?_, fun k hk => ?_⟩, iS, ⟨?_, ?_, ?_, ?_, ?_⟩, ?_⟩⟩, ?_, ?_⟩
  · rw [c15 j hj, d5 j hj]; exact m1 j hj
  · rw [c17 j hj, d6 j hj]; exact m2 j hj
  · rw [c19 j (by omega), d3 (29 + j) (by omega)]; exact m3 j hj
  · rw [c19 3 (by decide), d3 32 (by decide)]; exact m4
  · refine zCart.keep n5 (fun j hj => ?_) ?_ (fun j hj => ?_) rfl
    · rfl
    · rcases z_tp13 (s.1 1 1) with z | z
      · rw [z]; rfl
      · rw [z]; rfl
    · rfl
  · rw [d3 j (by omega)]; exact r6 j j1 j2
  · rw [c36 j (by omega), d3 j (by omega)]; exact hC.1 j hj j1 j20
  · rw [c36 27 (by decide), d3 28 (by decide)]; exact hC.2.1
  · rw [c36 28 (by decide), d3 27 (by decide)]; exact hC.2.2.1
  · rw [c36 j (by omega)]; exact hC.2.2.2 j hj
  · refine hE.keep (fun q hq i hi => ?_) (fun q hq i hi => ?_)
    · obtain ⟨p, hp, z⟩ := List.any_eq_true.mp ((List.all_eq_true.mp zsv_tb) q hq)
      rw [Bool.and_eq_true] at z
      have z1 : p.1 = q.1 := Nat.eq_of_beq_eq_true z.1
      have z2 := Nat.le_of_ble_eq_true z.2
      rw [← z1]
      exact eC p hp _ (by omega)
    · obtain ⟨p, hp, z⟩ := List.any_eq_true.mp ((List.all_eq_true.mp zsm_tb) q hq)
      rw [Bool.and_eq_true] at z
      have z1 : p.1 = q.2.2.2.1 := Nat.eq_of_beq_eq_true z.1
      have z2 := Nat.le_of_ble_eq_true z.2
      rw [← z1]
      exact eM p hp _ (by omega)
  · intro k j a b q
    obtain ⟨g, hg, e1, e2, e3⟩ := zGf_mem q
    obtain ⟨p, hp, z⟩ := List.any_eq_true.mp ((List.all_eq_true.mp zsv_gt) g hg)
    rw [Bool.and_eq_true] at z
    have z1 : p.1 = g.1 := Nat.eq_of_beq_eq_true z.1
    have z2 := Nat.le_of_ble_eq_true z.2
    have w := eC p hp j (by omega)
    rw [z1, e1] at w
    rw [w]
    exact hG k j a b q
  · have x1 : (zKc s).1 2 1 = (zKc σ).1 2 1 := by
      have y1 : (zKc s).1 2 1 = (if (zKm t).1 0 3 = 1 then 313 else 262) := iR.2.2.2.2.2
      rw [y1, k3]
      exact hR.2.2.2.2.2.symm
    unfold zLn
    rw [c23 20 (by decide), x1]
    exact hL
  · rw [c42 769 (by decide), d3 171 (by decide)]; exact hP.1
  · rw [d3 171 (by decide)]; exact hP.2.1
  · rw [c42 768 (by decide)]; exact hP.2.2.1
  · rw [d3 171 (by decide)] at hk
    have q2 := hP.2.1.2
    rw [c42 768 (by decide), d3 (280 + 3 * k + r) (by omega), c42 _ (by omega)]
    exact hP.2.2.2.1 k r hk hr
  · rw [d3 171 (by decide)] at hk
    have q2 := hP.2.1.2
    rw [d3 (280 + 3 * k + 1) (by omega), d3 (280 + 3 * k + 2) (by omega), d3 (280 + 3 * k + 0) (by omega)]
    exact hP.2.2.2.2 k hk
  · rw [fC 0 (by decide), fM 0 (by decide)]; exact hT.1
  · rw [fC 1 (by decide), fM 1 (by decide)]; exact hT.2.1
  · rw [fC 2 (by decide), fM 2 (by decide)]; exact hT.2.2.1
  · rw [fM 2 (by decide)]; exact hT.2.2.2.1
  · rw [fM 2 (by decide)]; exact hT.2.2.2.2
  · show B.2.2 ≤ zMt (zKm t)
    unfold zMt
    rw [fM 2 (by decide), d3 66 (by decide), d3 67 (by decide), k3]
    exact hM
  · unfold zF
    rw [c36 1 (by decide), d3 1 (by decide)]
    exact hF
  · unfold zWzz
    rw [c36 20 (by decide), d3 20 (by decide)]
    exact hW
/-- both machines, tape and cartridge, what was kept -/
noncomputable def zAll (K : Int) (σ μ : zSt) : Prop := (∃ C : Int × Int × Int, C.1 ≤ K ∧ zNow C σ μ) ∧ zR6 σ μ ∧ (¬ σ.1 0 11 = 0 → ∃ C : Int × Int × Int, C.1 ≤ K ∧ zNow C (zKc σ) (zKm μ))
theorem zAll.go (h : zAll B.1 σ μ) {K : Int} (hB : B.1 ≤ K) (hC : C.1 ≤ K) (n : zNow C s t) (r6 : zR6 s t) (f : ¬ s.1 0 11 = 0 → ¬ σ.1 0 11 = 0 ∧ (∀ p ∈ zsv, s.1 p.2.1 = σ.1 p.2.1) ∧ s.2 39 = σ.2 39 ∧ (∀ p ∈ zsm, t.1 p.2.1 = μ.1 p.2.1) ∧ t.2 13 = μ.2 13 ∧ t.1 0 3 = μ.1 0 3) : zAll K s t := by
  refine ⟨⟨C, hC, n⟩, r6, fun q => ?_⟩
  obtain ⟨q1, q2, q3, q4, q5, q6⟩ := f q
  obtain ⟨D, hD, k⟩ := h.2.2 q1
  exact ⟨(C.1, D.2.1, D.2.2), hC, k.sav n q2 q3 q4 q5 q6⟩
theorem zR6.kp (h : zR6 σ μ) (a : zQ [3, 5, 7, 9, 10, 11, 12, 15, 17, 19, 21, 23, 25, 27, 28, 29, 30, 32, 34, 36, 40, 42, 44, 45] [] [5, 38, 46, 48] [] σ s) (b : zQ [3, 5, 6, 7, 8, 9, 21, 22, 23, 24, 25, 26] [(0, 0, 0), (0, 31, 33), (0, 39, 49)] [4, 10, 11] [(0, 30, 30)] μ t) : zR6 s t := by
  have k1 : s.1 1 = σ.1 1 := a.ro (k := 1) rfl
  have kt : ∀ w, s.1 (ztp w) = σ.1 (ztp w) := fun w => by
    rcases z_tp13 w with z | z
    · rw [z]; exact a.ro (k := 13) rfl
    · rw [z]; exact a.ro (k := 14) rfl
  have g0 : ∀ j : Nat, 1 ≤ j → j ≤ 18 → t.1 0 j = μ.1 0 j := fun j h1 h2 => b.o (k := 0) (a := 1) (b := 18) rfl h1 h2
  obtain ⟨h1, h2, h3, h4⟩ := h
  refine ⟨?_, fun j hj => ?_, ?_, ?_⟩
  · rw [k1, g0 2 (by decide) (by decide)]; exact h1
  · rw [g0 2 (by decide) (by decide)] at hj
    rw [k1, kt, b.ro (k := 1) rfl]
    exact h2 j hj
  · rw [k1]; exact h3
  · exact h4.keep (fun j _ => by rw [k1]) (kt _) (fun j hj => g0 j (by revert hj; simp only [List.mem_cons, List.not_mem_nil, or_false]; omega) (by revert hj; simp only [List.mem_cons, List.not_mem_nil, or_false]; omega)) (b.ro (k := 2) rfl)
theorem zAll.kp {K0 K : Int} (h : zAll K0 σ μ) (hK : K0 ≤ K) (hC : C.1 ≤ K) (n : zNow C s t) (a : zQ [3, 5, 7, 9, 10, 11, 12, 15, 17, 19, 21, 23, 25, 27, 28, 29, 30, 32, 34, 36, 40, 42, 44, 45] [] [5, 38, 46, 48] [] σ s) (b : zQ [3, 5, 6, 7, 8, 9, 21, 22, 23, 24, 25, 26] [(0, 0, 0), (0, 31, 33), (0, 39, 49)] [4, 10, 11] [(0, 30, 30)] μ t) : zAll K s t := by
  have e0 : s.1 0 11 = σ.1 0 11 := a.o (k := 0) (a := 11) (b := 11) rfl (by decide) (by decide)
  refine zAll.go (B := (K0, 0, 0)) h hK hC n (h.2.1.kp a b) (fun q => ⟨by rw [← e0]; exact q, ?_, a.rlo (k := 39) rfl, ?_, b.rlo (k := 13) rfl, b.o (k := 0) (a := 3) (b := 3) rfl (by decide) (by decide)⟩)
  · unfold zsv
    exact List.forall_mem_cons.2 ⟨a.ro (k := 43) rfl, List.forall_mem_cons.2 ⟨a.ro (k := 41) rfl, List.forall_mem_cons.2 ⟨a.ro (k := 37) rfl, List.forall_mem_cons.2 ⟨a.ro (k := 35) rfl, List.forall_mem_cons.2 ⟨a.ro (k := 33) rfl, List.forall_mem_cons.2 ⟨a.ro (k := 31) rfl, List.forall_mem_cons.2 ⟨a.ro (k := 26) rfl, List.forall_mem_cons.2 ⟨a.ro (k := 24) rfl, List.forall_mem_cons.2 ⟨a.ro (k := 22) rfl, List.forall_mem_cons.2 ⟨a.ro (k := 20) rfl, List.forall_mem_cons.2 ⟨a.ro (k := 18) rfl, List.forall_mem_cons.2 ⟨a.ro (k := 16) rfl, fun _ h => absurd h List.not_mem_nil⟩⟩⟩⟩⟩⟩⟩⟩⟩⟩⟩⟩
  · unfold zsm
    exact List.forall_mem_cons.2 ⟨b.ro (k := 18) rfl, List.forall_mem_cons.2 ⟨b.ro (k := 17) rfl, List.forall_mem_cons.2 ⟨b.ro (k := 16) rfl, List.forall_mem_cons.2 ⟨b.ro (k := 15) rfl, List.forall_mem_cons.2 ⟨b.ro (k := 14) rfl, List.forall_mem_cons.2 ⟨b.ro (k := 12) rfl, fun _ h => absurd h List.not_mem_nil⟩⟩⟩⟩⟩⟩
theorem zAll.tp {K : Int} (h : zAll K σ μ) (hC : C.1 ≤ K) (n : zNow C s t) (r6 : zR6 s t) (a : zQ [13, 14] [(1, 2, 2)] [] [] σ s) (b : zQ [1] [(0, 0, 0), (0, 2, 2)] [] [] μ t) : zAll K s t := by
  have e0 : s.1 0 11 = σ.1 0 11 := a.o (k := 0) (a := 11) (b := 11) rfl (by decide) (by decide)
  refine zAll.go (B := (K, 0, 0)) h (Int.le_refl _) hC n r6 (fun q => ⟨by rw [← e0]; exact q, ?_, a.rlo (k := 39) rfl, ?_, b.rlo (k := 13) rfl, b.o (k := 0) (a := 3) (b := 3) rfl (by decide) (by decide)⟩)
  · unfold zsv
    exact List.forall_mem_cons.2 ⟨a.ro (k := 43) rfl, List.forall_mem_cons.2 ⟨a.ro (k := 41) rfl, List.forall_mem_cons.2 ⟨a.ro (k := 37) rfl, List.forall_mem_cons.2 ⟨a.ro (k := 35) rfl, List.forall_mem_cons.2 ⟨a.ro (k := 33) rfl, List.forall_mem_cons.2 ⟨a.ro (k := 31) rfl, List.forall_mem_cons.2 ⟨a.ro (k := 26) rfl, List.forall_mem_cons.2 ⟨a.ro (k := 24) rfl, List.forall_mem_cons.2 ⟨a.ro (k := 22) rfl, List.forall_mem_cons.2 ⟨a.ro (k := 20) rfl, List.forall_mem_cons.2 ⟨a.ro (k := 18) rfl, List.forall_mem_cons.2 ⟨a.ro (k := 16) rfl, fun _ h => absurd h List.not_mem_nil⟩⟩⟩⟩⟩⟩⟩⟩⟩⟩⟩⟩
  · unfold zsm
    exact List.forall_mem_cons.2 ⟨b.ro (k := 18) rfl, List.forall_mem_cons.2 ⟨b.ro (k := 17) rfl, List.forall_mem_cons.2 ⟨b.ro (k := 16) rfl, List.forall_mem_cons.2 ⟨b.ro (k := 15) rfl, List.forall_mem_cons.2 ⟨b.ro (k := 14) rfl, List.forall_mem_cons.2 ⟨b.ro (k := 12) rfl, fun _ h => absurd h List.not_mem_nil⟩⟩⟩⟩⟩⟩
end ZAL
end ZJN1
section ZJN2
/-! ANSWERS -/
section ZAV
variable {σ μ s t : zSt} {B : Int × Int × Int}
theorem zNow.cp (h : zNow B σ μ) : zCp σ μ := by
  obtain ⟨hT, hF, hW⟩ := h
  obtain ⟨c1, c2, c3, c4⟩ := hT.2.1
  refine ⟨fun j hj => ?_, c2.symm, c3.symm, fun j hj => (c4 j (by omega)).1 hj, fun j h1 h2 => (c4 j (by omega)).2.1 h1 h2, fun j h1 h2 => (c4 j (by omega)).2.2.1 h1 h2⟩
  by_cases q1 : j = 1
  · subst q1; exact hF.symm
  · by_cases q2 : j = 20
    · subst q2; exact hW.symm
    · exact (c1 j hj q1 q2).symm
end ZAV
end ZJN2
section ZJN3
/-! more rows on what is kept -/
theorem zkp_at {α : Type} {g : Nat → α → α} {f : Nat → Nat → α} {f0 : Nat → Nat → α} {k j : Nat} (h0 : f k j = f0 k j) : ∀ {l : List (Nat × Nat × Nat)}, (∀ t ∈ l, t.1 = k → ∀ i : Nat, i < t.2.2 → g t.1 (f t.2.1 i) = f0 t.1 i) → zkp g f k j l = f0 k j
  | [], _ => h0
  | t :: l, h => by
    unfold zkp
    cases q : (Nat.beq t.1 k && Nat.blt j t.2.2) with
    | true =>
      rw [Bool.and_eq_true] at q
      have e : t.1 = k := Nat.eq_of_beq_eq_true q.1
      have z := h t List.mem_cons_self e j (Nat.le_of_ble_eq_true q.2)
      rw [e] at z
      exact z
    | false => exact zkp_at h0 (fun t ht => h t (List.mem_cons_of_mem _ ht))
theorem zpc_fails0' {β : Type} {σ : zSt} {c : Int32} {f : zSt → Int32 → Option β} {Q : β → Prop} (k : ∀ σ1, σ1 = zsi σ 0 0 0 → zpc (f σ1 0) Q) : zpc (zbi (fX12_fails σ 0 c) f) Q := by
  intro b eb
  have h : zp2 (some ()) (zbi (fX12_fails σ 0 c) f) (fun _ b => Q b) := zp2_fails0 (fun σ1 e => fun _ b _ eb => k σ1 e b eb)
  exact h () b rfl eb
theorem zKm_th {μ : zSt} {v : Int32} {k j : Nat} (h : ¬ (k = 0 ∧ j = 0)) : (zKm (zsi μ 0 0 v)).1 k j = (zKm μ).1 k j := by
  have g : ∀ l : List (Nat × Nat × Nat), (∀ t ∈ l, ¬ t.2.1 = 0) → zkp zmb (zsi μ 0 0 v).1 k j l = zkp zmb μ.1 k j l := by
    intro l
    induction l with
    | nil =>
      intro _
      show (zsi μ 0 0 v).1 k j = μ.1 k j
      exact zsi_off h
    | cons t l ih =>
      intro hl
      unfold zkp
      rw [zsi_ne (hl t List.mem_cons_self), ih (fun u hu => hl u (List.mem_cons_of_mem _ hu))]
  exact g zsm (by decide +kernel)
theorem zof_0 {j : Nat} (h : 1 ≤ j) : zof [3, 5, 6, 7, 8, 9] [(0, 0, 0)] 0 1 j = true := by
  show (true && ((!(true) || (Nat.blt 0 1 || Nat.blt j 0)) && true)) = true
  rfl
/-! FRESH STATES; SAVE, RESTORE -/
section ZF4
variable {σ μ s t : zSt} {B : Int × Int × Int} {K : Int}
theorem z_freshN {k c : Int32} {σ4 σ5 σ9 σ1 : zSt} {σ6 : Int32 → zSt} (ec : c = zKd k) (e4 : fX7_clear zS0 = some σ4) (e5 : fX10_clear zS0 = some σ5) (e6 : ∀ v, fX4_clear (zsi (zsi (zsi zS0 6 0 v) 34 10 1) 34 11 1) = some (σ6 v)) (e9 : fJ7_fill_53178_k44 zS0 (-1) = some σ9) (e : fX12_anew (zsi (zsi (zsi (zsi (zsi zS0 0 8 (-1)) 0 3 c) 3 44 0) 3 45 1) 3 46 1) = some σ1) : zNow (0, 0, 0) (zC1 k σ4 σ5 σ6 σ9) σ1 := by
  have a4 := c_clr7 σ4 e4
  have a5 := c_clr10 σ5 e5
  have a6 := c_clr4 (σ6 (if k = 2 then 1 else 0)) (e6 (if k = 2 then 1 else 0))
  have a9 : zQ [44] [] [] [] zS0 σ9 ∧ ∀ j : Nat, j < 32 → σ9.1 44 j = -1 := by
    unfold fJ7_fill_53178_k44 at e9
    exact c_f44 (σ := zS0) zfuel 0 zS0 (by decide) zQ.rf (fun j hj => absurd hj (by omega)) σ9 e9
  have b := m_anewx σ1 e
  have z0 : (0 : Int32).toInt = 0 := rfl
  have k30 : ∀ j, (zC1 k σ4 σ5 σ6 σ9).1 30 j = σ4.1 30 j := fun j => rfl
  have k32 : ∀ j, (zC1 k σ4 σ5 σ6 σ9).1 32 j = σ5.1 32 j := fun j => rfl
  have k34 : ∀ j, (zC1 k σ4 σ5 σ6 σ9).1 34 j = (σ6 (if k = 2 then 1 else 0)).1 34 j := fun j => rfl
  have k40 : ∀ j, (zC1 k σ4 σ5 σ6 σ9).1 40 j = 0 := fun j => (show (zC1 k σ4 σ5 σ6 σ9).1 40 j = σ9.1 40 j from rfl).trans (by rw [a9.1.ro (k := 40) rfl]; rfl)
  have k42 : ∀ j, (zC1 k σ4 σ5 σ6 σ9).1 42 j = 0 := fun j => (show (zC1 k σ4 σ5 σ6 σ9).1 42 j = σ9.1 42 j from rfl).trans (by rw [a9.1.ro (k := 42) rfl]; rfl)
  have k9 : (zC1 k σ4 σ5 σ6 σ9).1 9 5 = 0 := (show (zC1 k σ4 σ5 σ6 σ9).1 9 5 = σ9.1 9 5 from rfl).trans (by rw [a9.1.ro (k := 9) rfl]; rfl)
  have k44 : ∀ j : Nat, j < 32 → (zC1 k σ4 σ5 σ6 σ9).1 44 j = -1 := fun j hj => a9.2 j hj
  have p34 : ∀ j : Nat, 7 ≤ j → j ≤ 11 → (zC1 k σ4 σ5 σ6 σ9).1 34 j = (zsi (zsi (zsi zS0 6 0 (if k = 2 then 1 else 0)) 34 10 1) 34 11 1).1 34 j := fun j h1 h2 => by
    rw [k34, a6.1.o (k := 34) (a := 7) (b := 11) rfl h1 h2]
  have kd : zRk (zC1 k σ4 σ5 σ6 σ9) (zsi (zsi (zsi (zsi (zsi zS0 0 8 (-1)) 0 3 c) 3 44 0) 3 45 1) 3 46 1) := by
    have q : (zsi (zsi (zsi (zsi (zsi zS0 0 8 (-1)) 0 3 c) 3 44 0) 3 45 1) 3 46 1).1 0 3 = zKd k := ec
    have f2 : (if zKd k = 2 then (1 : Int32) else 0) = (if k = 2 then 1 else 0) := by
      unfold zKd
      by_cases h1 : k = 1
      · rw [if_pos h1, h1]
      · rw [if_neg h1]
        by_cases h2 : k = 2
        · rw [if_pos h2, h2]
        · rw [if_neg h2, if_neg h2]; rfl
    have f1 : (if zKd k = 1 then (313 : Int32) else 262) = (if k = 1 then 313 else 262) := by
      unfold zKd
      by_cases h1 : k = 1
      · rw [if_pos h1, h1]
      · rw [if_neg h1, if_neg h1]
        by_cases h2 : k = 2
        · rw [if_pos h2, h2]; rfl
        · rw [if_neg h2]; rfl
    unfold zRk
    rw [q]
    refine ⟨zKd_r k, ?_, ?_, ?_, ?_, ?_⟩
    · rw [f2]; rfl
    · rw [f2]; rfl
    · rw [f2]; rfl
    · rw [f2]
      have z := a6.1.ro (k := 6) rfl
      show (σ6 (if k = 2 then 1 else 0)).1 6 0 = _
      rw [z]
      rfl
    · rw [f1]; rfl
  have pr : zPr (0, 0, 0) (zC1 k σ4 σ5 σ6 σ9) (zsi (zsi (zsi (zsi (zsi zS0 0 8 (-1)) 0 3 c) 3 44 0) 3 45 1) 3 46 1) := by
    refine ⟨fun j hj => ?_, ⟨rfl, rfl, rfl, rfl, fun j hj => ?_, fun hj => ?_⟩, fun j j1 j2 => ?_, ⟨?_, ?_, ?_, ?_, Or.inl rfl⟩, Or.inl ⟨rfl, rfl⟩, ⟨fun i hi => ?_, fun i hi => ?_, fun i hi => ?_, fun i hi => rfl⟩, ⟨⟨?_, ?_, fun j h1 h2 => ?_⟩, ?_⟩, kd, ⟨?_, ?_, ?_, fun k r hk hr => ?_, fun k hk => ?_⟩, ⟨?_, ?_, ?_, ?_, fun j hj => ⟨fun q => ?_, fun _ => k44 j hj⟩⟩, ⟨rfl, rfl, rfl, ?_, ?_⟩⟩
    · show (0 : Int32) = 0 &&& 255
      decide
    · have hj : (j : Int) < (0 : Int32).toInt := hj
      rw [z0] at hj
      exfalso; omega
    · have hj : 0 ≤ (-1 : Int32).toInt := hj
      exact absurd hj (by decide)
    · have j2 : (j : Int) < 16384 * (0 : Int32).toInt := j2
      rw [z0] at j2
      exfalso; omega
    · exact zr_c (x := 0) (by decide)
    · exact zr_c (x := 0) (by decide)
    · exact zr_c (x := 0) (by decide)
    · exact zr_c (x := 0) (by decide)
    · rw [p34 (7 + i) (by omega) (by omega)]
      rcases (show i = 0 ∨ i = 1 ∨ i = 2 ∨ i = 3 ∨ i = 4 by omega) with rfl | rfl | rfl | rfl | rfl <;> rfl
    · rw [k40]
      rcases (show i = 0 ∨ i = 1 ∨ i = 2 ∨ i = 3 ∨ i = 4 ∨ i = 5 ∨ i = 6 ∨ i = 7 by omega) with rfl | rfl | rfl | rfl | rfl | rfl | rfl | rfl <;> rfl
    · rw [k40]
      obtain rfl : i = 0 := by omega
      rfl
    · rw [p34 7 (by decide) (by decide)]; exact zr_c (x := 0) (by decide)
    · rw [p34 8 (by decide) (by decide)]; exact zr_c (x := 0) (by decide)
    · rw [p34 j (by omega) h2]
      rcases (show j = 9 ∨ j = 10 ∨ j = 11 by omega) with rfl | rfl | rfl
      · exact zr_c (x := 0) (by decide)
      · exact zr_c (x := 1) (by decide)
      · exact zr_c (x := 1) (by decide)
    · rw [k40]; exact zr_c (by decide)
    · rw [k42]; rfl
    · exact zr_c (x := 0) (by decide)
    · rw [k42]; exact zr_c (by decide)
    · have hk : (k : Int) < (0 : Int32).toInt := hk
      rw [z0] at hk
      exfalso; omega
    · have hk : (k : Int) < (0 : Int32).toInt := hk
      rw [z0] at hk
      exfalso; omega
    · exact (by decide : 0 ≤ (0 : Int64).toInt)
    · exact (by decide : (0 : Int64).toInt ≤ 0)
    · rw [k9]; exact zr_c (by decide)
    · rw [k9]
      exact (by decide : (0 : Int32).toInt = (0 : Int64).toInt % 32)
    · have q : (j : Int) < (0 : Int64).toInt := q
      rw [show (0 : Int64).toInt = 0 from rfl] at q
      exfalso; omega
    · exact (by decide : 0 ≤ (0 : Int64).toInt)
    · exact (by decide : (0 : Int64).toInt ≤ 0)
  have cx : zCx (zC1 k σ4 σ5 σ6 σ9) (zC1 k σ4 σ5 σ6 σ9) := by
    refine ⟨zQ.rf, ⟨rfl, rfl, ?_, rfl⟩, fun j hj => rfl, fun j hj => rfl, fun j hj => ?_, fun j hj => ?_, ?_, ?_, fun j hj => ?_⟩
    · show (2 : Int32) = if (0 : Int32) = 2 then 0 else 2
      rw [if_neg (by decide)]
    · rw [k30]; exact a4.2 j hj
    · rw [k32]; exact a5.2.1 j hj
    · rw [k32]; exact a5.2.2
    · rw [k34, k34, k34, k34, k34, k34, k34]; exact a6.2
    · show (zsi (zsi zS0 7 4 6) 36 18 57328).1 36 j = _
      by_cases z : j = 18
      · rw [z, zsi_ej, if_pos rfl]
      · rw [zsi_nj z, if_neg z]; rfl
  refine pr.rst cx b.x (fun j hj => ?_)
  rw [b.1.ro (k := 5) rfl]
  show (0 : Int32) = 0 &&& 255
  decide
theorem z_freshA {k c : Int32} {σ4 σ5 σ9 σ1 : zSt} {σ6 : Int32 → zSt} (ec : c = zKd k) (e4 : fX7_clear zS0 = some σ4) (e5 : fX10_clear zS0 = some σ5) (e6 : ∀ v, fX4_clear (zsi (zsi (zsi zS0 6 0 v) 34 10 1) 34 11 1) = some (σ6 v)) (e9 : fJ7_fill_53178_k44 zS0 (-1) = some σ9) (e : fX12_anew (zsi (zsi (zsi (zsi (zsi zS0 0 8 (-1)) 0 3 c) 3 44 0) 3 45 1) 3 46 1) = some σ1) : zAll 0 (zC1 k σ4 σ5 σ6 σ9) σ1 := ⟨⟨(0, 0, 0), Int.le_refl _, z_freshN ec e4 e5 e6 e9 e⟩, z_fresh6 e, fun q => absurd rfl q⟩
/-! save, restore -/
theorem g_save (h : zAll K σ μ) : zp2 (fX11_save σ ) (fX12_save μ ) (zAll K) := by
  unfold fX12_save
  refine zp2_bvr (fun t1 e1 => zp2_ckr (zp2_bvr (fun t2 e2 => ?_)))
  intro a b ea eb
  have ha := k_save a ea
  have hb := m_save' (μ := t2) b eb
  obtain ⟨C, hC, n⟩ := h.1
  obtain ⟨b0, w3, w4, w5, w6, w7, w8, w9⟩ := hb
  have n2 : zNow C σ t2 := by
    rw [e2, e1]
    exact n.kp (zQ.rf (R := []) (A := []) (S := []) (B := [])) (zQ.wi (R := []) (A := [(0, 0, 0), (0, 19, 19)]) (S := []) (B := []) (zQ.wi zQ.rf rfl) rfl) (by decide +kernel) (by decide +kernel)
  have q1 := (zKept_q (σ := σ)).1
  have q2 : zQ [16, 18, 20, 22, 24, 26, 31, 33, 35, 37, 41, 43, 11, 12] [(0, 11, 11)] [39, 47, 49] [] σ a := by rw [ha]; exact zQ.wi q1 rfl
  have nn : zNow C a b := n2.kp q2 b0 (by decide +kernel) (by decide +kernel)
  have fr : zQ [12, 14, 15, 16, 17, 18] [(0, 0, 0), (0, 19, 19)] [13, 19, 20] [] μ b := by
    have f1 : zQ [12, 14, 15, 16, 17, 18] [(0, 0, 0), (0, 19, 19)] [13, 19, 20] [] μ t2 := by rw [e2, e1]; exact zQ.wi (zQ.wi zQ.rf rfl) rfl
    exact f1.tr b0
  refine ⟨⟨C, hC, nn⟩, ?_, fun _ => ⟨C, hC, ?_⟩⟩
  · -- tape and cartridge
    obtain ⟨h1, h2, h3, h4⟩ := h.2.1
    have k1 : a.1 1 = σ.1 1 := q2.ro (k := 1) rfl
    have kt : ∀ w, a.1 (ztp w) = σ.1 (ztp w) := fun w => by
      rcases z_tp13 w with z | z
      · rw [z]; exact q2.ro (k := 13) rfl
      · rw [z]; exact q2.ro (k := 14) rfl
    have g0 : ∀ j : Nat, 1 ≤ j → j ≤ 18 → b.1 0 j = μ.1 0 j := fun j h1 h2 => fr.o (k := 0) (a := 1) (b := 18) rfl h1 h2
    refine ⟨?_, fun j hj => ?_, ?_, ?_⟩
    · rw [k1, g0 2 (by decide) (by decide)]; exact h1
    · rw [g0 2 (by decide) (by decide)] at hj
      rw [k1, kt, fr.ro (k := 1) rfl]
      exact h2 j hj
    · rw [k1]; exact h3
    · exact h4.keep (fun j _ => by rw [k1]) (kt _) (fun j hj => g0 j (by revert hj; simp only [List.mem_cons, List.not_mem_nil, or_false]; omega) (by revert hj; simp only [List.mem_cons, List.not_mem_nil, or_false]; omega)) (fr.ro (k := 2) rfl)
  · -- what was kept
    have kc : zQ [16, 18, 20, 22, 24, 26, 31, 33, 35, 37, 41, 43, 11, 12] [(0, 11, 11)] [39, 47, 49] [] σ (zKc a) := by rw [ha]; exact zKept_k
    have n3 : zNow C (zKc a) t2 := n2.kp kc (zQ.rf (R := []) (A := []) (S := []) (B := [])) (by decide +kernel) (by decide +kernel)
    have vm : ∀ p ∈ zsm, ∀ i : Nat, i < p.2.2 → ¬ (5 ≤ p.1 ∧ p.1 ≤ 8) → zmb p.1 (b.1 p.2.1 i) = t2.1 p.1 i := by
      unfold zsm
      exact List.forall_mem_cons.2 ⟨fun i hi _ => w9 i hi, List.forall_mem_cons.2 ⟨fun i hi q => absurd ⟨by decide, by decide⟩ q, List.forall_mem_cons.2 ⟨fun i hi q => absurd ⟨by decide, by decide⟩ q, List.forall_mem_cons.2 ⟨fun i hi q => absurd ⟨by decide, by decide⟩ q, List.forall_mem_cons.2 ⟨fun i hi q => absurd ⟨by decide, by decide⟩ q, List.forall_mem_cons.2 ⟨fun i hi _ => w3 i hi, fun _ h => absurd h List.not_mem_nil⟩⟩⟩⟩⟩⟩
    have fm : zQ [5, 6, 7, 8, 12, 14, 15, 16, 17, 18] [(0, 0, 0), (0, 19, 19)] [13, 19, 20] [] t2 (zKm b) := by
      refine ⟨fun k j c => ?_, fun k j c => ?_⟩
      · by_cases q : 5 ≤ k ∧ k ≤ 8
        · rcases (show k = 5 ∨ k = 6 ∨ k = 7 ∨ k = 8 by omega) with rfl | rfl | rfl | rfl <;> exact Bool.noConfusion (show true = false from c)
        · have b0' := (b0.mono (R' := [5, 6, 7, 8, 12, 14, 15, 16, 17, 18]) (A' := [(0, 0, 0), (0, 19, 19)]) (S' := [13, 19, 20]) (B' := []) rfl rfl).1 k j c
          refine zkp_at (k := k) b0' (fun p hp e i hi => ?_)
          have z := vm p hp i hi (fun y => q (by rw [← e]; exact y))
          exact z
      · refine zkp_of (b0.2 k j c) (fun p hp i hi => ?_)
        rw [List.mem_singleton] at hp
        subst hp
        exact w4 i hi
    refine n3.msk fm (fun j hj => ?_) (fun j hj => ?_) (fun j hj => ?_) (fun j hj => ?_)
    · rw [zKm_5 hj, z_nar, w5 j hj, z_nar]
    · rw [zKm_6 hj, z_nar, w6 j hj, z_nar]
    · rw [zKm_7 hj, z_nar, w7 j hj, z_nar]
    · rw [zKm_8 hj, z_nar, w8 j hj, z_nar]
theorem g_restore (h : zAll K σ μ) (hf : σ.1 0 11 = 0 ↔ μ.1 0 19 = 0) : zp2 (fX11_restore σ ) (fX12_restore μ ) (fun r r' => zAll K (zRus r) r') := by
  by_cases q : σ.1 0 11 = 0
  · unfold fX11_restore fX12_restore fX12_restore_13
    refine zp2_ifl (fun _ => ?_) (fun z => absurd q z)
    refine zp2_ifr (fun _ => ?_) (fun z => absurd (hf.mp q) z)
    refine zp2_fails1 (fun t1 e1 => zp2_ifr (fun z => absurd z (by decide)) (fun _ => zp2_some ?_))
    obtain ⟨C, hC, n⟩ := h.1
    rw [e1]
    refine ⟨⟨C, hC, n.th⟩, h.2.1.thr rfl, fun z => absurd q z⟩
  · intro a b ea eb
    have ha := c_restore q a ea
    subst ha
    obtain ⟨C, hC, n⟩ := h.2.2 q
    obtain ⟨C0, hC0, n0⟩ := h.1
    have nq : ¬ μ.1 0 19 = 0 := fun z => q (hf.mpr z)
    obtain ⟨k1, k2⟩ : zQ [] [(0, 0, 0)] [10, 11] [] (zKm μ) b ∧ zQ [3, 5, 6, 7, 8, 9] [(0, 0, 0)] [4, 10, 11] [] μ b := by
      have hb : zpc (fX12_restore μ ) (fun r => zQ [] [(0, 0, 0)] [10, 11] [] (zKm μ) r ∧ zQ [3, 5, 6, 7, 8, 9] [(0, 0, 0)] [4, 10, 11] [] μ r) := by
        unfold fX12_restore fX12_restore_13
        refine zpc_if (fun z => absurd z nq) (fun _ => zpc_fails0' (fun t1 e1 => zpc_if (fun _ => ?_) (fun z => absurd rfl z)))
        refine zpc_mono (zpc_and m_back m_backf) (fun r p => ?_)
        have f0 : zQ [] [(0, 0, 0)] [10, 11] [] (zKm μ) (zKm t1) := by
          rw [e1]
          exact ⟨fun k j c => zKm_th (fun z => by rw [z.1, z.2] at c; cases c), fun k j _ => rfl⟩
        have f1 : zQ [3, 5, 6, 7, 8, 9] [(0, 0, 0)] [4, 10, 11] [] μ t1 := by rw [e1]; exact zQ.wi zQ.rf rfl
        exact ⟨f0.tr (p.1.mono rfl rfl), f1.tr (p.2.mono rfl rfl)⟩
      exact hb b eb
    have nn : zNow C (zBack σ) b := n.kp zBack_k k1 (by decide +kernel) (by decide +kernel)
    have q1 := (zBack_q (σ := σ)).1
    have e0 : (zBack σ).1 0 11 = σ.1 0 11 := q1.o (k := 0) (a := 11) (b := 11) rfl (by decide) (by decide)
    have c1 : (zBack σ).1 1 = σ.1 1 := q1.ro (k := 1) rfl
    have kt : ∀ w, (zBack σ).1 (ztp w) = σ.1 (ztp w) := fun w => by
      rcases z_tp13 w with z | z
      · rw [z]; exact q1.ro (k := 13) rfl
      · rw [z]; exact q1.ro (k := 14) rfl
    have g0 : ∀ j : Nat, 1 ≤ j → b.1 0 j = μ.1 0 j := fun j h1 => k2.o (k := 0) (a := 1) (b := j) (zof_0 h1) h1 (Nat.le_refl _)
    show zAll K (zBack σ) b
    refine zAll.go (B := (K, 0, 0)) h (Int.le_refl _) hC nn ?_ (fun z => ⟨by rw [← e0]; exact z, ?_, q1.rlo (k := 39) rfl, ?_, k2.rlo (k := 13) rfl, g0 3 (by decide)⟩)
    · obtain ⟨h1, h2, h3, h4⟩ := h.2.1
      refine ⟨?_, fun j hj => ?_, ?_, ?_⟩
      · rw [c1, g0 2 (by decide)]; exact h1
      · rw [g0 2 (by decide)] at hj
        rw [c1, kt, k2.ro (k := 1) rfl]
        exact h2 j hj
      · rw [c1]; exact h3
      · exact h4.keep (fun j _ => by rw [c1]) (kt _) (fun j hj => g0 j (by revert hj; simp only [List.mem_cons, List.not_mem_nil, or_false]; omega)) (k2.ro (k := 2) rfl)
    · unfold zsv
      exact List.forall_mem_cons.2 ⟨q1.ro (k := 43) rfl, List.forall_mem_cons.2 ⟨q1.ro (k := 41) rfl, List.forall_mem_cons.2 ⟨q1.ro (k := 37) rfl, List.forall_mem_cons.2 ⟨q1.ro (k := 35) rfl, List.forall_mem_cons.2 ⟨q1.ro (k := 33) rfl, List.forall_mem_cons.2 ⟨q1.ro (k := 31) rfl, List.forall_mem_cons.2 ⟨q1.ro (k := 26) rfl, List.forall_mem_cons.2 ⟨q1.ro (k := 24) rfl, List.forall_mem_cons.2 ⟨q1.ro (k := 22) rfl, List.forall_mem_cons.2 ⟨q1.ro (k := 20) rfl, List.forall_mem_cons.2 ⟨q1.ro (k := 18) rfl, List.forall_mem_cons.2 ⟨q1.ro (k := 16) rfl, fun _ h => absurd h List.not_mem_nil⟩⟩⟩⟩⟩⟩⟩⟩⟩⟩⟩⟩
    · unfold zsm
      exact List.forall_mem_cons.2 ⟨k2.ro (k := 18) rfl, List.forall_mem_cons.2 ⟨k2.ro (k := 17) rfl, List.forall_mem_cons.2 ⟨k2.ro (k := 16) rfl, List.forall_mem_cons.2 ⟨k2.ro (k := 15) rfl, List.forall_mem_cons.2 ⟨k2.ro (k := 14) rfl, List.forall_mem_cons.2 ⟨k2.ro (k := 12) rfl, fun _ h => absurd h List.not_mem_nil⟩⟩⟩⟩⟩⟩
end ZF4
end ZJN3
section ZJN4
theorem fi_fX2_batteryIsIn_25 {σ0 : zSt} {σ : zSt} {s0 : Int32} (h : (zQ [] [] [] []) σ0 σ) : zpc (fX2_batteryIsIn_25 σ s0) (fun r => (zQ [] [] [] []) σ0 (r.1)) := by
  unfold fX2_batteryIsIn_25
  exact zpc_ck (zpc_some h)
theorem fi_fX2_batteryIsIn_24 {σ0 : zSt} {σ : zSt} (h : (zQ [] [] [] []) σ0 σ) : zpc (fX2_batteryIsIn_24 σ) (fun r => (zQ [] [] [] []) σ0 (r.1)) := by
  unfold fX2_batteryIsIn_24
  exact fi_fX2_batteryIsIn_25 h
theorem fi_fX2_batteryIsIn {σ0 : zSt} {σ : zSt} (h : (zQ [] [] [] []) σ0 σ) : zpc (fX2_batteryIsIn σ) (fun r => (zQ [] [] [] []) σ0 (r.1)) := by
  unfold fX2_batteryIsIn
  exact zpc_if (fun _ => zpc_ck (zpc_if (fun _ => fi_fX2_batteryIsIn_24 h) (fun _ => fi_fX2_batteryIsIn_25 h))) (fun _ => fi_fX2_batteryIsIn_24 h)
theorem fi_fX2_batteryPlace {σ0 : zSt} {σ : zSt} {x1 : Int32} (h : (zQ [] [] [] []) σ0 σ) : zpc (fX2_batteryPlace σ x1) (fun r => (zQ [] [] [] []) σ0 (r.1)) := by
  unfold fX2_batteryPlace
  exact zpc_ck (zpc_some h)
theorem fi_fX2_read_169 {σ0 : zSt} {σ : zSt} {s0 : Int32} (h : (zQ [] [] [] []) σ0 σ) : zpc (fX2_read_169 σ s0) (fun r => (zQ [] [] [] []) σ0 (r.1)) := by
  unfold fX2_read_169
  exact zpc_some h
theorem fi_fX2_read_144 {σ0 : zSt} {σ : zSt} {x3 : Int32} (h : (zQ [] [] [] []) σ0 σ) : zpc (fX2_read_144 σ x3) (fun r => (zQ [] [] [] []) σ0 (r.1)) := by
  unfold fX2_read_144
  exact zpc_if (fun _ => fi_fX2_read_169 h) (fun _ => zpc_ck (fi_fX2_read_169 h))
theorem fi_fX2_read_126 {σ0 : zSt} {σ : zSt} {x2 : Int32} {x6 : Int32} (h : (zQ [] [] [] []) σ0 σ) : zpc (fX2_read_126 σ x2 x6) (fun r => (zQ [] [] [] []) σ0 (r.1)) := by
  unfold fX2_read_126
  exact zpc_ck (zpc_bv (fun v1 _ => fi_fX2_read_144 h))
theorem fi_fX2_read_106 {σ0 : zSt} {σ : zSt} {x2 : Int32} {s0 : Int32} (h : (zQ [] [] [] []) σ0 σ) : zpc (fX2_read_106 σ x2 s0) (fun r => (zQ [] [] [] []) σ0 (r.1)) := by
  unfold fX2_read_106
  exact zpc_if (fun _ => zpc_if (fun _ => fi_fX2_read_126 h) (fun _ => fi_fX2_read_126 h)) (fun _ => fi_fX2_read_126 h)
theorem fi_fX2_read_87 {σ0 : zSt} {σ : zSt} {x2 : Int32} {x4 : Int32} {s0 : Int32} (h : (zQ [] [] [] []) σ0 σ) : zpc (fX2_read_87 σ x2 x4 s0) (fun r => (zQ [] [] [] []) σ0 (r.1)) := by
  unfold fX2_read_87
  exact zpc_if (fun _ => zpc_ck (fi_fX2_read_106 h)) (fun _ => fi_fX2_read_106 h)
theorem fi_fX2_read_86 {σ0 : zSt} {σ : zSt} {x2 : Int32} {x4 : Int32} (h : (zQ [] [] [] []) σ0 σ) : zpc (fX2_read_86 σ x2 x4) (fun r => (zQ [] [] [] []) σ0 (r.1)) := by
  unfold fX2_read_86
  exact fi_fX2_read_87 h
theorem fi_fX2_read_62 {σ0 : zSt} {σ : zSt} {x2 : Int32} (h : (zQ [] [] [] []) σ0 σ) : zpc (fX2_read_62 σ x2) (fun r => (zQ [] [] [] []) σ0 (r.1)) := by
  unfold fX2_read_62
  exact zpc_bv (fun v2 _ => zpc_if (fun _ => zpc_if (fun _ => fi_fX2_read_86 h) (fun _ => fi_fX2_read_87 h)) (fun _ => fi_fX2_read_86 h))
theorem fi_fX2_read {σ0 : zSt} {σ : zSt} {x1 : Int32} (h : (zQ [] [] [] []) σ0 σ) : zpc (fX2_read σ x1) (fun r => (zQ [] [] [] []) σ0 (r.1)) := by
  unfold fX2_read
  exact zpc_bv (fun v3 _ => zpc_if (fun _ => zpc_if (fun _ => fi_fX2_read_144 h) (fun _ => zpc_if (fun _ => fi_fX2_read_144 h) (fun _ => zpc_if (fun _ => fi_fX2_read_62 h) (fun _ => zpc_bi (fi_fX2_batteryIsIn h) (fun σ4 v5 hσ4 => zpc_if (fun _ => fi_fX2_read_62 hσ4) (fun _ => zpc_bi (fi_fX2_batteryPlace hσ4) (fun σ6 v7 hσ6 => zpc_ck (zpc_some hσ6)))))))) (fun _ => zpc_ck (zpc_some h)))
theorem fI_fX12_ofBank {σ0 : zSt} {σ : zSt} {x1 : Int32} {x2 : Int32} (h : (zQ [] [] [] []) σ0 σ) : zpc (fX12_ofBank σ x1 x2) (fun r => (zQ [] [] [] []) σ0 (r.1)) := by
  unfold fX12_ofBank
  exact zpc_ck (zpc_ck (zpc_ck (zpc_some h)))
theorem fI_fX12_isBattery_38 {σ0 : zSt} {σ : zSt} {s0 : Int32} (h : (zQ [] [] [] []) σ0 σ) : zpc (fX12_isBattery_38 σ s0) (fun r => (zQ [] [] [] []) σ0 (r.1)) := by
  unfold fX12_isBattery_38
  exact zpc_ck (zpc_some h)
theorem fI_fX12_isBattery_37 {σ0 : zSt} {σ : zSt} (h : (zQ [] [] [] []) σ0 σ) : zpc (fX12_isBattery_37 σ) (fun r => (zQ [] [] [] []) σ0 (r.1)) := by
  unfold fX12_isBattery_37
  exact fI_fX12_isBattery_38 h
theorem fI_fX12_isBattery {σ0 : zSt} {σ : zSt} {x1 : Int32} (h : (zQ [] [] [] []) σ0 σ) : zpc (fX12_isBattery σ x1) (fun r => (zQ [] [] [] []) σ0 (r.1)) := by
  unfold fX12_isBattery
  exact zpc_if (fun _ => zpc_ck (zpc_if (fun _ => fI_fX12_isBattery_37 h) (fun _ => zpc_if (fun _ => fI_fX12_isBattery_37 h) (fun _ => zpc_if (fun _ => fI_fX12_isBattery_37 h) (fun _ => fI_fX12_isBattery_38 h))))) (fun _ => fI_fX12_isBattery_37 h)
theorem fI_fX12_batteryAt_23 {σ0 : zSt} {σ : zSt} {s0 : Int32} {s1 : Int32} (h : (zQ [] [] [] []) σ0 σ) : zpc (fX12_batteryAt_23 σ s0 s1) (fun r => (zQ [] [] [] []) σ0 (r.1)) := by
  unfold fX12_batteryAt_23
  exact zpc_some h
theorem fI_fX12_batteryAt {σ0 : zSt} {σ : zSt} {x1 : Int32} (h : (zQ [] [] [] []) σ0 σ) : zpc (fX12_batteryAt σ x1) (fun r => (zQ [] [] [] []) σ0 (r.1)) := by
  unfold fX12_batteryAt
  exact zpc_ck (zpc_if (fun _ => fI_fX12_batteryAt_23 h) (fun _ => fI_fX12_batteryAt_23 h))
theorem fI_fX12_read_80 {σ0 : zSt} {σ : zSt} {s0 : Int32} (h : (zQ [] [] [] []) σ0 σ) : zpc (fX12_read_80 σ s0) (fun r => (zQ [] [] [] []) σ0 (r.1)) := by
  unfold fX12_read_80
  exact zpc_some h
theorem fI_fX12_read_111 {σ0 : zSt} {σ : zSt} {x2 : Int32} {s0 : Int32} (h : (zQ [] [] [] []) σ0 σ) : zpc (fX12_read_111 σ x2 s0) (fun r => (zQ [] [] [] []) σ0 (r.1)) := by
  unfold fX12_read_111
  exact zpc_bi (fI_fX12_ofBank h) (fun σ1 v2 hσ1 => zpc_some hσ1)
theorem fI_fX12_read_138 {σ0 : zSt} {σ : zSt} {x2 : Int32} (h : (zQ [] [] [] []) σ0 σ) : zpc (fX12_read_138 σ x2) (fun r => (zQ [] [] [] []) σ0 (r.1)) := by
  unfold fX12_read_138
  exact zpc_ck (zpc_ck (zpc_bi (fI_fX12_ofBank h) (fun σ3 v4 hσ3 => zpc_some hσ3)))
theorem fI_fX12_read {σ0 : zSt} {σ : zSt} {x1 : Int32} (h : (zQ [] [] [] []) σ0 σ) : zpc (fX12_read σ x1) (fun r => (zQ [] [] [] []) σ0 (r.1)) := by
  unfold fX12_read
  exact zpc_bv (fun v5 _ => zpc_if (fun _ => zpc_bi (fI_fX12_isBattery h) (fun σ6 v7 hσ6 => zpc_if (fun _ => zpc_if (fun _ => zpc_if (fun _ => fI_fX12_read_80 hσ6) (fun _ => zpc_ck (fI_fX12_read_80 hσ6))) (fun _ => zpc_if (fun _ => zpc_if (fun _ => zpc_ck (fI_fX12_read_111 hσ6)) (fun _ => zpc_ck (fI_fX12_read_111 hσ6))) (fun _ => zpc_if (fun _ => zpc_if (fun _ => fI_fX12_read_138 hσ6) (fun _ => zpc_bi (fI_fX12_ofBank hσ6) (fun σ8 v9 hσ8 => zpc_some hσ8))) (fun _ => fI_fX12_read_138 hσ6)))) (fun _ => zpc_bi (fI_fX12_batteryAt hσ6) (fun σ10 v11 hσ10 => zpc_ck (zpc_some hσ10))))) (fun _ => zpc_ck (zpc_ck (zpc_some h))))
end ZJN4
section ZJN5
/-! THE TELLER: HOW MANY SIGNS, HOW MANY BYTES -/
theorem zpc_ckh {α : Type} {b : Bool} {x : Option α} {Q : α → Prop} (h : b = true → zpc x Q) : zpc (zck b x) Q := by
  cases b with
  | true => exact h rfl
  | false => exact zpc_none
theorem zkL_all : ∀ n : Fin 179, zkL n.val ≤ 1000 := by decide +kernel
theorem zkL_le {n : Nat} (h : decide (n < zNK) = true) : zkL n ≤ 1000 := zkL_all ⟨n, of_decide_eq_true h⟩
theorem zkN_i {n : Nat} (h : zkL n ≤ 1000) : (zkN n).toInt = (zkL n : Nat) := z_ofI (by omega)
section ZTE
variable {σ μ s t : zSt} {x y z p b i l : Int32}
noncomputable def zTln (k : Nat) (a b : Int) : Prop := b ≤ 32 ∧ (b = a + (k : Int) ∨ (b = 32 ∧ 32 ≤ a + (k : Int)))
noncomputable def zTs (k c : Nat) (σ s : zSt) : Prop := zQ [45] [(10, 2, 2), (10, 4, 4)] [] [] σ s ∧ (zr 0 32 (σ.1 10 2) → 0 ≤ (σ.1 10 4).toInt → (σ.1 10 4).toInt + (c : Int) ≤ 1000 → zTln k (σ.1 10 2).toInt (s.1 10 2).toInt ∧ (s.1 10 4).toInt = (σ.1 10 4).toInt + (c : Int))
theorem zTs.rf : zTs 0 0 σ σ := ⟨zQ.rf, fun x y z => ⟨⟨x.2, Or.inl (by omega)⟩, by omega⟩⟩
theorem zTs.tr {a b c d : Nat} (h : zTs a b σ s) (g : zTs c d s t) : zTs (a + c) (b + d) σ t := by
  obtain ⟨h1, h2⟩ := h
  obtain ⟨g1, g2⟩ := g
  refine ⟨h1.tr g1, fun x y z => ?_⟩
  obtain ⟨⟨u1, u2⟩, u3⟩ := h2 x y (by omega)
  have x0 := x.1
  have x1 := x.2
  obtain ⟨⟨v1, v2⟩, v3⟩ := g2 ⟨by omega, u1⟩ (by omega) (by omega)
  exact ⟨⟨v1, by omega⟩, by omega⟩
theorem zTsb {o : Option zSt} {f : zSt → Option zSt} {a b c d : Nat} (h : zpc o (zTs a b σ)) (k : ∀ s, zTs a b σ s → zpc (f s) (zTs c d s)) : zpc (zbu o f) (zTs (a + c) (b + d) σ) := zpc_bu h (fun s hs => zpc_mono (k s hs) (fun r q => zTs.tr hs q))
theorem zTsi {o : Option (zSt × Int32)} {f : zSt → Int32 → Option zSt} {a b c d : Nat} (h : zpc o (fun r => zTs a b σ r.1)) (k : ∀ s v, zTs a b σ s → zpc (f s v) (zTs c d s)) : zpc (zbi o f) (zTs (a + c) (b + d) σ) := zpc_bi h (fun s v hs => zpc_mono (k s v hs) (fun r q => zTs.tr hs q))
theorem zTsif {q : Prop} {d1 d2 d3 : Decidable q} {A B : Option zSt} {a b c d : Nat} (h1 : q → zpc A (zTs a b σ)) (h2 : ¬ q → zpc B (zTs c d σ)) : zpc (@ite _ q d1 A B) (zTs (@ite _ q d2 a c) (@ite _ q d3 b d) σ) := by
  by_cases z : q
  · rw [if_pos z, if_pos z, if_pos z]; exact h1 z
  · rw [if_neg z, if_neg z, if_neg z]; exact h2 z
noncomputable def zEc (x y z p b : Int32) (σ : zSt) : Prop := σ.1 10 5 = x ∧ σ.1 10 6 = y ∧ σ.1 10 7 = z ∧ σ.1 10 8 = p ∧ σ.1 10 9 = b
theorem zEc.kp {k c : Nat} (e : zEc x y z p b σ) (h : zTs k c σ s) : zEc x y z p b s := by
  have g : ∀ j : Nat, 5 ≤ j → j ≤ 9 → s.1 10 j = σ.1 10 j := fun j h1 h2 => h.1.o (k := 10) (a := 5) (b := 9) rfl h1 h2
  unfold zEc
  rw [g 5 (by decide) (by decide), g 6 (by decide) (by decide), g 7 (by decide) (by decide), g 8 (by decide) (by decide), g 9 (by decide) (by decide)]
  exact e
theorem tc_sign {v : Int32} : zpc (fX8_putSign σ v) (zTs 1 0 σ) := by
  unfold fX8_putSign fX8_putSign_29
  have c1 : (1 : Int32).toInt = 1 := rfl
  refine zpc_if (fun q => zpc_some ⟨zQ.rf, fun x y z => ?_⟩) (fun q => zpc_ck (zpc_bv (fun s1 e1 => zpc_bv (fun s2 e2 => zpc_some ?_))))
  · have q1 : 32 ≤ (σ.1 10 2).toInt := Int32.le_iff_toInt_le.mp q
    have x2 := x.2
    exact ⟨⟨by omega, by omega⟩, by omega⟩
  · have g1 : zgi s1 10 2 = σ.1 10 2 := by rw [e1]; rfl
    rw [g1] at e2
    have l2 : s2.1 10 2 = σ.1 10 2 + 1 := by rw [e2, zsi_ej]
    have l4 : s2.1 10 4 = σ.1 10 4 := by rw [e2, zsi_nj (by decide), e1, zsi_ne (by decide)]
    refine ⟨by rw [e2, e1]; exact zQ.wi (zQ.wi zQ.rf rfl) rfl, fun x y z => ?_⟩
    have q1 : (σ.1 10 2).toInt < 32 := Int32.lt_iff_toInt_lt.mp (z_nle q)
    have t1 := z_tadd x (zr_c (lo := 1) (hi := 1) (x := 1) (by decide)) (by decide)
    have x0 := x.1
    rw [l2, l4, t1, c1]
    exact ⟨⟨by omega, by omega⟩, by omega⟩
theorem tc_take : zpc (fX8_take σ ) (fun r => zTs 0 1 σ r.1) := by
  unfold fX8_take
  have c1 : (1 : Int32).toInt = 1 := rfl
  refine zpc_bi (fi_fX2_read (σ0 := σ) zQ.rf) (fun s1 v e => zpc_bv (fun s2 e2 => zpc_some ?_))
  have e1 : s1 = σ := zQ_eq e
  rw [e1] at e2
  have e2 : s2 = zsi σ 10 4 (σ.1 10 4 + 1) := e2
  have l2 : s2.1 10 2 = σ.1 10 2 := by rw [e2, zsi_nj (by decide)]
  have l4 : s2.1 10 4 = σ.1 10 4 + 1 := by rw [e2, zsi_ej]
  show zTs 0 1 σ s2
  refine ⟨by rw [e2]; exact zQ.wi zQ.rf rfl, fun x y z => ?_⟩
  have t1 := z_tadd (x := σ.1 10 4) (y := 1) (a := 0) (b := 1000) ⟨y, by omega⟩ (zr_c (lo := 1) (hi := 1) (x := 1) (by decide)) (by decide)
  have x2 := x.2
  rw [l2, l4, t1, c1]
  exact ⟨⟨by omega, by omega⟩, by omega⟩
/-- the signs of the k-th name -/
noncomputable def zNmq (n : Nat) (k : Int32) : Nat → Nat → Int32 → Nat
  | 0, _, _ => 0
  | m + 1, i, q => if zkC n i = 59 then zNmq n k m (i + 1) (q + 1) else (if q = k then 1 else 0) + zNmq n k m (i + 1) q
theorem tc_name5 {n : Nat} {k : Int32} : ∀ (f m i : Nat) (q : Int32) (σ : zSt), m + i = zkL n → zpc (fX8_putName_5 f σ n k q (Int32.ofNat i)) (zTs (zNmq n k m i q) 0 σ) := by
  intro f
  induction f with
  | zero => intro m i q σ _; exact zpc_none
  | succ f ih =>
    intro m i q σ hm
    show zpc (fX8_putName_5_body (fX8_putName_5 f) σ n k q (Int32.ofNat i)) _
    unfold fX8_putName_5_body fX8_putName_46
    refine zpc_ckh (fun hb => ?_)
    have hl := zkL_le hb
    have hN := zkN_i hl
    refine zpc_if (fun c => ?_) (fun c => ?_)
    · have c1 := (z_ofL (i := i) (by omega) hN).mp c
      obtain rfl : m = 0 := by omega
      exact zpc_some zTs.rf
    · have c1 : ¬ zkL n ≤ i := fun u => c ((z_ofL (i := i) (by omega) hN).mpr u)
      obtain ⟨m, rfl⟩ : ∃ m', m = m' + 1 := ⟨m - 1, by omega⟩
      have e : zNmq n k (m + 1) i q = if zkC n i = 59 then zNmq n k m (i + 1) (q + 1) else (if q = k then 1 else 0) + zNmq n k m (i + 1) q := rfl
      rw [e, z_ofC (by omega), z_ofS (by omega)]
      refine zpc_ck (zpc_ck (zpc_if (fun d => ?_) (fun d => zpc_if (fun u => ?_) (fun u => ?_))))
      · rw [if_pos d]
        refine zpc_bv (fun v ev => zpc_bv (fun w ew => ?_))
        subst ev
        subst ew
        exact ih m (i + 1) (q + 1) σ (by omega)
      · rw [if_neg d, if_pos u]
        refine zpc_ck (zpc_ck (zpc_bu tc_sign (fun s1 h1 => zpc_bv (fun w ew => ?_))))
        subst ew
        exact zpc_mono (ih m (i + 1) q s1 (by omega)) (fun r g => zTs.tr h1 g)
      · rw [if_neg d, if_neg u, Nat.zero_add]
        refine zpc_bv (fun w ew => ?_)
        subst ew
        exact ih m (i + 1) q σ (by omega)
theorem tc_name {n : Nat} {k : Int32} : zpc (fX8_putName σ n k) (zTs (zNmq n k (zkL n) 0 0) 0 σ) := by
  unfold fX8_putName
  exact tc_name5 zfuel (zkL n) 0 0 σ (by omega)
noncomputable def k_fX8_putByte : Nat := (1 + (1 + 0))
noncomputable def t_fX8_putByte : Nat := (0 + (0 + 0))
theorem tc_fX8_putByte (e : zEc x y z p b σ) {x1 : Int32} : zpc (fX8_putByte σ x1) (zTs k_fX8_putByte t_fX8_putByte σ) := by
  unfold fX8_putByte k_fX8_putByte t_fX8_putByte
  refine zpc_ck ?_
  refine zpc_ck ?_
  refine zTsb (show zpc (fX8_putSign σ (zkC 1 ((x1 >>> ((4 : Int32) &&& 31)) &&& 15).toNatClampNeg)) (zTs 1 0 σ) from tc_sign) (fun σ1 hσ1 => ?_)
  have eσ1 := e.kp hσ1
  refine zpc_ck ?_
  refine zpc_ck ?_
  refine zTsb (show zpc (fX8_putSign σ1 (zkC 1 (x1 &&& 15).toNatClampNeg)) (zTs 1 0 σ1) from tc_sign) (fun σ2 hσ2 => ?_)
  exact zpc_some zTs.rf
noncomputable def k_fX8_putWord : Nat := (k_fX8_putByte + (k_fX8_putByte + 0))
noncomputable def t_fX8_putWord : Nat := (t_fX8_putByte + (t_fX8_putByte + 0))
theorem tc_fX8_putWord (e : zEc x y z p b σ) {x1 : Int32} : zpc (fX8_putWord σ x1) (zTs k_fX8_putWord t_fX8_putWord σ) := by
  unfold fX8_putWord k_fX8_putWord t_fX8_putWord
  refine zTsb (show zpc (fX8_putByte σ ((x1 >>> ((8 : Int32) &&& 31)) &&& 255)) (zTs k_fX8_putByte t_fX8_putByte σ) from tc_fX8_putByte e) (fun σ1 hσ1 => ?_)
  have eσ1 := e.kp hσ1
  refine zTsb (show zpc (fX8_putByte σ1 (x1 &&& 255)) (zTs k_fX8_putByte t_fX8_putByte σ1) from tc_fX8_putByte eσ1) (fun σ2 hσ2 => ?_)
  exact zpc_some zTs.rf
noncomputable def k_fX8_putHl_35 : Nat := (1 + 0)
noncomputable def t_fX8_putHl_35 : Nat := (0 + 0)
theorem tc_fX8_putHl_35 (e : zEc x y z p b σ) {s0 : Int32} : zpc (fX8_putHl_35 σ s0) (zTs k_fX8_putHl_35 t_fX8_putHl_35 σ) := by
  unfold fX8_putHl_35 k_fX8_putHl_35 t_fX8_putHl_35
  refine zTsb (show zpc (fX8_putSign σ s0) (zTs 1 0 σ) from tc_sign) (fun σ1 hσ1 => ?_)
  exact zpc_some zTs.rf
noncomputable def k_fX8_putHl_15 : Nat := (1 + k_fX8_putHl_35)
noncomputable def t_fX8_putHl_15 : Nat := (0 + t_fX8_putHl_35)
theorem tc_fX8_putHl_15 (e : zEc x y z p b σ) {s0 : Int32} : zpc (fX8_putHl_15 σ s0) (zTs k_fX8_putHl_15 t_fX8_putHl_15 σ) := by
  unfold fX8_putHl_15 k_fX8_putHl_15 t_fX8_putHl_15
  refine zTsb (show zpc (fX8_putSign σ s0) (zTs 1 0 σ) from tc_sign) (fun σ2 hσ2 => ?_)
  have eσ2 := e.kp hσ2
  rw [show zgi σ2 10 8 = p from eσ2.2.2.2.1]
  refine zpc_if (fun _ => ?_) (fun _ => ?_)
  · skip
    exact (show zpc (fX8_putHl_35 σ2 108) (zTs k_fX8_putHl_35 t_fX8_putHl_35 σ2) from tc_fX8_putHl_35 eσ2)
  · skip
    exact (show zpc (fX8_putHl_35 σ2 p) (zTs k_fX8_putHl_35 t_fX8_putHl_35 σ2) from tc_fX8_putHl_35 eσ2)
noncomputable def k_fX8_putHl : Nat := k_fX8_putHl_15
noncomputable def t_fX8_putHl : Nat := t_fX8_putHl_15
theorem tc_fX8_putHl (e : zEc x y z p b σ) : zpc (fX8_putHl σ ) (zTs k_fX8_putHl t_fX8_putHl σ) := by
  unfold fX8_putHl k_fX8_putHl t_fX8_putHl
  rw [show zgi σ 10 8 = p from e.2.2.2.1]
  refine zpc_if (fun _ => ?_) (fun _ => ?_)
  · skip
    exact (show zpc (fX8_putHl_15 σ 104) (zTs k_fX8_putHl_15 t_fX8_putHl_15 σ) from tc_fX8_putHl_15 e)
  · skip
    exact (show zpc (fX8_putHl_15 σ 105) (zTs k_fX8_putHl_15 t_fX8_putHl_15 σ) from tc_fX8_putHl_15 e)
noncomputable def k_fX8_putPlace_45 : Nat := (k_fX8_putByte + (1 + 0))
noncomputable def t_fX8_putPlace_45 : Nat := (t_fX8_putByte + (0 + 0))
theorem tc_fX8_putPlace_45 (e : zEc x y z p b σ) {s0 : Int32} : zpc (fX8_putPlace_45 σ s0) (zTs k_fX8_putPlace_45 t_fX8_putPlace_45 σ) := by
  unfold fX8_putPlace_45 k_fX8_putPlace_45 t_fX8_putPlace_45
  refine zTsb (show zpc (fX8_putByte σ s0) (zTs k_fX8_putByte t_fX8_putByte σ) from tc_fX8_putByte e) (fun σ1 hσ1 => ?_)
  have eσ1 := e.kp hσ1
  refine zTsb (show zpc (fX8_putSign σ1 41) (zTs 1 0 σ1) from tc_sign) (fun σ2 hσ2 => ?_)
  exact zpc_some zTs.rf
noncomputable def k_fX8_putPlace_25 : Nat := (1 + k_fX8_putPlace_45)
noncomputable def t_fX8_putPlace_25 : Nat := (0 + t_fX8_putPlace_45)
theorem tc_fX8_putPlace_25 (e : zEc x y z p b σ) {x1 : Int32} {s0 : Int32} : zpc (fX8_putPlace_25 σ x1 s0) (zTs k_fX8_putPlace_25 t_fX8_putPlace_25 σ) := by
  unfold fX8_putPlace_25 k_fX8_putPlace_25 t_fX8_putPlace_25
  refine zTsb (show zpc (fX8_putSign σ s0) (zTs 1 0 σ) from tc_sign) (fun σ3 hσ3 => ?_)
  have eσ3 := e.kp hσ3
  refine zpc_if (fun _ => ?_) (fun _ => ?_)
  · skip
    exact (show zpc (fX8_putPlace_45 σ3 (256 - x1)) (zTs k_fX8_putPlace_45 t_fX8_putPlace_45 σ3) from tc_fX8_putPlace_45 eσ3)
  · skip
    exact (show zpc (fX8_putPlace_45 σ3 x1) (zTs k_fX8_putPlace_45 t_fX8_putPlace_45 σ3) from tc_fX8_putPlace_45 eσ3)
noncomputable def k_fX8_putPlace : Nat := (1 + (k_fX8_putHl + k_fX8_putPlace_25))
noncomputable def t_fX8_putPlace : Nat := (0 + (t_fX8_putHl + t_fX8_putPlace_25))
theorem tc_fX8_putPlace (e : zEc x y z p b σ) {x1 : Int32} : zpc (fX8_putPlace σ x1) (zTs k_fX8_putPlace t_fX8_putPlace σ) := by
  unfold fX8_putPlace k_fX8_putPlace t_fX8_putPlace
  refine zTsb (show zpc (fX8_putSign σ 40) (zTs 1 0 σ) from tc_sign) (fun σ4 hσ4 => ?_)
  have eσ4 := e.kp hσ4
  refine zTsb (show zpc (fX8_putHl σ4) (zTs k_fX8_putHl t_fX8_putHl σ4) from tc_fX8_putHl eσ4) (fun σ5 hσ5 => ?_)
  have eσ5 := eσ4.kp hσ5
  refine zpc_if (fun _ => ?_) (fun _ => ?_)
  · skip
    exact (show zpc (fX8_putPlace_25 σ5 x1 45) (zTs k_fX8_putPlace_25 t_fX8_putPlace_25 σ5) from tc_fX8_putPlace_25 eσ5)
  · skip
    exact (show zpc (fX8_putPlace_25 σ5 x1 43) (zTs k_fX8_putPlace_25 t_fX8_putPlace_25 σ5) from tc_fX8_putPlace_25 eσ5)
noncomputable def k_fX8_putOne_78 : Nat := 0
noncomputable def t_fX8_putOne_78 : Nat := 0
theorem tc_fX8_putOne_78 (e : zEc x y z p b σ) : zpc (fX8_putOne_78 σ ) (zTs k_fX8_putOne_78 t_fX8_putOne_78 σ) := by
  unfold fX8_putOne_78 k_fX8_putOne_78 t_fX8_putOne_78
  exact zpc_some zTs.rf
noncomputable def k_fX8_putOne_71 (x1 : Int32) : Nat := ((zNmq 2 x1 (zkL 2) 0 0) + k_fX8_putOne_78)
noncomputable def t_fX8_putOne_71 (x1 : Int32) : Nat := (0 + t_fX8_putOne_78)
theorem tc_fX8_putOne_71 (e : zEc x y z p b σ) {x1 : Int32} : zpc (fX8_putOne_71 σ x1) (zTs (k_fX8_putOne_71 x1) (t_fX8_putOne_71 x1) σ) := by
  unfold fX8_putOne_71 k_fX8_putOne_71 t_fX8_putOne_71
  refine zTsb (show zpc (fX8_putName σ 2 x1) (zTs (zNmq 2 x1 (zkL 2) 0 0) 0 σ) from tc_name) (fun σ1 hσ1 => ?_)
  have eσ1 := e.kp hσ1
  exact (show zpc (fX8_putOne_78 σ1) (zTs k_fX8_putOne_78 t_fX8_putOne_78 σ1) from tc_fX8_putOne_78 eσ1)
noncomputable def k_fX8_putOne_65 : Nat := (1 + k_fX8_putOne_78)
noncomputable def t_fX8_putOne_65 : Nat := (0 + t_fX8_putOne_78)
theorem tc_fX8_putOne_65 (e : zEc x y z p b σ) {s0 : Int32} : zpc (fX8_putOne_65 σ s0) (zTs k_fX8_putOne_65 t_fX8_putOne_65 σ) := by
  unfold fX8_putOne_65 k_fX8_putOne_65 t_fX8_putOne_65
  refine zTsb (show zpc (fX8_putSign σ s0) (zTs 1 0 σ) from tc_sign) (fun σ2 hσ2 => ?_)
  have eσ2 := e.kp hσ2
  exact (show zpc (fX8_putOne_78 σ2) (zTs k_fX8_putOne_78 t_fX8_putOne_78 σ2) from tc_fX8_putOne_78 eσ2)
noncomputable def k_fX8_putOne_34 (p : Int32) (b : Int32) (x1 : Int32) : Nat := (if p = (0 : Int32) then (k_fX8_putOne_71 x1) else (if b = (0 : Int32) then (k_fX8_putHl + k_fX8_putOne_65) else (k_fX8_putOne_71 x1)))
noncomputable def t_fX8_putOne_34 (p : Int32) (b : Int32) (x1 : Int32) : Nat := (if p = (0 : Int32) then (t_fX8_putOne_71 x1) else (if b = (0 : Int32) then (t_fX8_putHl + t_fX8_putOne_65) else (t_fX8_putOne_71 x1)))
theorem tc_fX8_putOne_34 (e : zEc x y z p b σ) {x1 : Int32} : zpc (fX8_putOne_34 σ x1) (zTs (k_fX8_putOne_34 p b x1) (t_fX8_putOne_34 p b x1) σ) := by
  unfold fX8_putOne_34 k_fX8_putOne_34 t_fX8_putOne_34
  rw [show zgi σ 10 8 = p from e.2.2.2.1]
  rw [show zgi σ 10 9 = b from e.2.2.2.2]
  refine zTsif (fun _ => ?_) (fun _ => ?_)
  · skip
    exact (show zpc (fX8_putOne_71 σ x1) (zTs (k_fX8_putOne_71 x1) (t_fX8_putOne_71 x1) σ) from tc_fX8_putOne_71 e)
  · skip
    refine zTsif (fun _ => ?_) (fun _ => ?_)
    · skip
      refine zTsb (show zpc (fX8_putHl σ) (zTs k_fX8_putHl t_fX8_putHl σ) from tc_fX8_putHl e) (fun σ3 hσ3 => ?_)
      have eσ3 := e.kp hσ3
      refine zpc_if (fun _ => ?_) (fun _ => ?_)
      · skip
        exact (show zpc (fX8_putOne_65 σ3 104) (zTs k_fX8_putOne_65 t_fX8_putOne_65 σ3) from tc_fX8_putOne_65 eσ3)
      · skip
        exact (show zpc (fX8_putOne_65 σ3 108) (zTs k_fX8_putOne_65 t_fX8_putOne_65 σ3) from tc_fX8_putOne_65 eσ3)
    · skip
      exact (show zpc (fX8_putOne_71 σ x1) (zTs (k_fX8_putOne_71 x1) (t_fX8_putOne_71 x1) σ) from tc_fX8_putOne_71 e)
noncomputable def k_fX8_putOne_24 (p : Int32) (b : Int32) (x1 : Int32) : Nat := (if x1 = (4 : Int32) then (k_fX8_putOne_34 p b x1) else (if x1 = (5 : Int32) then (k_fX8_putOne_34 p b x1) else (k_fX8_putOne_71 x1)))
noncomputable def t_fX8_putOne_24 (p : Int32) (b : Int32) (x1 : Int32) : Nat := (if x1 = (4 : Int32) then (t_fX8_putOne_34 p b x1) else (if x1 = (5 : Int32) then (t_fX8_putOne_34 p b x1) else (t_fX8_putOne_71 x1)))
theorem tc_fX8_putOne_24 (e : zEc x y z p b σ) {x1 : Int32} : zpc (fX8_putOne_24 σ x1) (zTs (k_fX8_putOne_24 p b x1) (t_fX8_putOne_24 p b x1) σ) := by
  unfold fX8_putOne_24 k_fX8_putOne_24 t_fX8_putOne_24
  refine zTsif (fun _ => ?_) (fun _ => ?_)
  · skip
    exact (show zpc (fX8_putOne_34 σ x1) (zTs (k_fX8_putOne_34 p b x1) (t_fX8_putOne_34 p b x1) σ) from tc_fX8_putOne_34 e)
  · skip
    refine zTsif (fun _ => ?_) (fun _ => ?_)
    · skip
      exact (show zpc (fX8_putOne_34 σ x1) (zTs (k_fX8_putOne_34 p b x1) (t_fX8_putOne_34 p b x1) σ) from tc_fX8_putOne_34 e)
    · skip
      exact (show zpc (fX8_putOne_71 σ x1) (zTs (k_fX8_putOne_71 x1) (t_fX8_putOne_71 x1) σ) from tc_fX8_putOne_71 e)
noncomputable def k_fX8_putOne (p : Int32) (b : Int32) (x1 : Int32) : Nat := (if x1 = (6 : Int32) then (if p = (0 : Int32) then (k_fX8_putOne_24 p b x1) else (0 + (k_fX8_putPlace + k_fX8_putOne_78))) else (k_fX8_putOne_24 p b x1))
noncomputable def t_fX8_putOne (p : Int32) (b : Int32) (x1 : Int32) : Nat := (if x1 = (6 : Int32) then (if p = (0 : Int32) then (t_fX8_putOne_24 p b x1) else (1 + (t_fX8_putPlace + t_fX8_putOne_78))) else (t_fX8_putOne_24 p b x1))
theorem tc_fX8_putOne (e : zEc x y z p b σ) {x1 : Int32} : zpc (fX8_putOne σ x1) (zTs (k_fX8_putOne p b x1) (t_fX8_putOne p b x1) σ) := by
  unfold fX8_putOne k_fX8_putOne t_fX8_putOne
  rw [show zgi σ 10 8 = p from e.2.2.2.1]
  refine zTsif (fun _ => ?_) (fun _ => ?_)
  · skip
    refine zTsif (fun _ => ?_) (fun _ => ?_)
    · skip
      exact (show zpc (fX8_putOne_24 σ x1) (zTs (k_fX8_putOne_24 p b x1) (t_fX8_putOne_24 p b x1) σ) from tc_fX8_putOne_24 e)
    · skip
      refine zTsi (show zpc (fX8_take σ) (fun r => zTs 0 1 σ r.1) from tc_take) (fun σ4 v5 hσ4 => ?_)
      have eσ4 := e.kp hσ4
      refine zTsb (show zpc (fX8_putPlace σ4 v5) (zTs k_fX8_putPlace t_fX8_putPlace σ4) from tc_fX8_putPlace eσ4) (fun σ6 hσ6 => ?_)
      have eσ6 := eσ4.kp hσ6
      exact (show zpc (fX8_putOne_78 σ6) (zTs k_fX8_putOne_78 t_fX8_putOne_78 σ6) from tc_fX8_putOne_78 eσ6)
  · skip
    exact (show zpc (fX8_putOne_24 σ x1) (zTs (k_fX8_putOne_24 p b x1) (t_fX8_putOne_24 p b x1) σ) from tc_fX8_putOne_24 e)
noncomputable def k_fX8_putTurned_59 : Nat := 0
noncomputable def t_fX8_putTurned_59 : Nat := 0
theorem tc_fX8_putTurned_59 (e : zEc x y z p b σ) : zpc (fX8_putTurned_59 σ ) (zTs k_fX8_putTurned_59 t_fX8_putTurned_59 σ) := by
  unfold fX8_putTurned_59 k_fX8_putTurned_59 t_fX8_putTurned_59
  exact zpc_some zTs.rf
noncomputable def k_fX8_putTurned (x : Int32) (z : Int32) (p : Int32) : Nat := (if p = (0 : Int32) then ((zNmq 2 z (zkL 2) 0 0) + 0) else (k_fX8_putPlace + (if x = (1 : Int32) then k_fX8_putTurned_59 else (if z = (6 : Int32) then k_fX8_putTurned_59 else (1 + ((zNmq 2 z (zkL 2) 0 0) + k_fX8_putTurned_59))))))
noncomputable def t_fX8_putTurned (x : Int32) (z : Int32) (p : Int32) : Nat := (if p = (0 : Int32) then (0 + 0) else (t_fX8_putPlace + (if x = (1 : Int32) then t_fX8_putTurned_59 else (if z = (6 : Int32) then t_fX8_putTurned_59 else (0 + (0 + t_fX8_putTurned_59))))))
theorem tc_fX8_putTurned (e : zEc x y z p b σ) : zpc (fX8_putTurned σ ) (zTs (k_fX8_putTurned x z p) (t_fX8_putTurned x z p) σ) := by
  unfold fX8_putTurned k_fX8_putTurned t_fX8_putTurned
  rw [show zgi σ 10 7 = z from e.2.2.1]
  rw [show zgi σ 10 8 = p from e.2.2.2.1]
  refine zTsif (fun _ => ?_) (fun _ => ?_)
  · skip
    refine zTsb (show zpc (fX8_putName σ 2 z) (zTs (zNmq 2 z (zkL 2) 0 0) 0 σ) from tc_name) (fun σ4 hσ4 => ?_)
    exact zpc_some zTs.rf
  · skip
    refine zTsb (show zpc (fX8_putPlace σ (zgi σ 10 10)) (zTs k_fX8_putPlace t_fX8_putPlace σ) from tc_fX8_putPlace e) (fun σ1 hσ1 => ?_)
    have eσ1 := e.kp hσ1
    rw [show zgi σ1 10 5 = x from eσ1.1]
    rw [show zgi σ1 10 7 = z from eσ1.2.2.1]
    refine zTsif (fun _ => ?_) (fun _ => ?_)
    · skip
      exact (show zpc (fX8_putTurned_59 σ1) (zTs k_fX8_putTurned_59 t_fX8_putTurned_59 σ1) from tc_fX8_putTurned_59 eσ1)
    · skip
      refine zTsif (fun _ => ?_) (fun _ => ?_)
      · skip
        exact (show zpc (fX8_putTurned_59 σ1) (zTs k_fX8_putTurned_59 t_fX8_putTurned_59 σ1) from tc_fX8_putTurned_59 eσ1)
      · skip
        refine zTsb (show zpc (fX8_putSign σ1 44) (zTs 1 0 σ1) from tc_sign) (fun σ2 hσ2 => ?_)
        have eσ2 := eσ1.kp hσ2
        rw [show zgi σ2 10 7 = z from eσ2.2.2.1]
        refine zTsb (show zpc (fX8_putName σ2 2 z) (zTs (zNmq 2 z (zkL 2) 0 0) 0 σ2) from tc_name) (fun σ3 hσ3 => ?_)
        have eσ3 := eσ2.kp hσ3
        exact (show zpc (fX8_putTurned_59 σ3) (zTs k_fX8_putTurned_59 t_fX8_putTurned_59 σ3) from tc_fX8_putTurned_59 eσ3)
noncomputable def k_fX8_putPair_28 : Nat := 0
noncomputable def t_fX8_putPair_28 : Nat := 0
theorem tc_fX8_putPair_28 (e : zEc x y z p b σ) : zpc (fX8_putPair_28 σ ) (zTs k_fX8_putPair_28 t_fX8_putPair_28 σ) := by
  unfold fX8_putPair_28 k_fX8_putPair_28 t_fX8_putPair_28
  exact zpc_some zTs.rf
noncomputable def k_fX8_putPair (y : Int32) (n1 : Nat) : Nat := (if (y >>> ((1 : Int32) &&& (31 : Int32))) = (2 : Int32) then (k_fX8_putHl + k_fX8_putPair_28) else ((zNmq n1 (y >>> ((1 : Int32) &&& (31 : Int32))) (zkL n1) 0 0) + k_fX8_putPair_28))
noncomputable def t_fX8_putPair (y : Int32) (n1 : Nat) : Nat := (if (y >>> ((1 : Int32) &&& (31 : Int32))) = (2 : Int32) then (t_fX8_putHl + t_fX8_putPair_28) else (0 + t_fX8_putPair_28))
theorem tc_fX8_putPair (e : zEc x y z p b σ) {n1 : Nat} : zpc (fX8_putPair σ n1) (zTs (k_fX8_putPair y n1) (t_fX8_putPair y n1) σ) := by
  unfold fX8_putPair k_fX8_putPair t_fX8_putPair
  rw [show zgi σ 10 6 = y from e.2.1]
  refine zTsif (fun _ => ?_) (fun _ => ?_)
  · skip
    refine zTsb (show zpc (fX8_putHl σ) (zTs k_fX8_putHl t_fX8_putHl σ) from tc_fX8_putHl e) (fun σ2 hσ2 => ?_)
    have eσ2 := e.kp hσ2
    exact (show zpc (fX8_putPair_28 σ2) (zTs k_fX8_putPair_28 t_fX8_putPair_28 σ2) from tc_fX8_putPair_28 eσ2)
  · skip
    refine zTsb (show zpc (fX8_putName σ n1 (y >>> ((1 : Int32) &&& 31))) (zTs (zNmq n1 (y >>> ((1 : Int32) &&& (31 : Int32))) (zkL n1) 0 0) 0 σ) from tc_name) (fun σ1 hσ1 => ?_)
    have eσ1 := e.kp hσ1
    exact (show zpc (fX8_putPair_28 σ1) (zTs k_fX8_putPair_28 t_fX8_putPair_28 σ1) from tc_fX8_putPair_28 eσ1)
noncomputable def k_fX8_putMeant_275 : Nat := 0
noncomputable def t_fX8_putMeant_275 : Nat := 0
theorem tc_fX8_putMeant_275 (e : zEc x y z p b σ) : zpc (fX8_putMeant_275 σ ) (zTs k_fX8_putMeant_275 t_fX8_putMeant_275 σ) := by
  unfold fX8_putMeant_275 k_fX8_putMeant_275 t_fX8_putMeant_275
  exact zpc_some zTs.rf
noncomputable def k_fX8_putMeant_256 : Nat := (0 + (k_fX8_putWord + k_fX8_putMeant_275))
noncomputable def t_fX8_putMeant_256 : Nat := (1 + (t_fX8_putWord + t_fX8_putMeant_275))
theorem tc_fX8_putMeant_256 (e : zEc x y z p b σ) : zpc (fX8_putMeant_256 σ ) (zTs k_fX8_putMeant_256 t_fX8_putMeant_256 σ) := by
  unfold fX8_putMeant_256 k_fX8_putMeant_256 t_fX8_putMeant_256
  refine zTsi (show zpc (fX8_take σ) (fun r => zTs 0 1 σ r.1) from tc_take) (fun σ1 v2 hσ1 => ?_)
  have eσ1 := e.kp hσ1
  refine zTsb (show zpc (fX8_putWord σ1 ((v2.toInt8.toInt32 + (zgi σ1 10 3)) + (zgi σ1 10 4))) (zTs k_fX8_putWord t_fX8_putWord σ1) from tc_fX8_putWord eσ1) (fun σ3 hσ3 => ?_)
  have eσ3 := eσ1.kp hσ3
  exact (show zpc (fX8_putMeant_275 σ3) (zTs k_fX8_putMeant_275 t_fX8_putMeant_275 σ3) from tc_fX8_putMeant_275 eσ3)
noncomputable def k_fX8_putMeant (x : Int32) (y : Int32) (z : Int32) (p : Int32) (b : Int32) (x1 : Int32) : Nat := (if x1 = (66 : Int32) then (1 + k_fX8_putMeant_275) else (if x1 = (67 : Int32) then ((zNmq 5 y (zkL 5) 0 0) + k_fX8_putMeant_275) else (if x1 = (68 : Int32) then ((zNmq 5 (y - (4 : Int32)) (zkL 5) 0 0) + k_fX8_putMeant_275) else (if x1 = (69 : Int32) then k_fX8_putMeant_256 else (if x1 = (70 : Int32) then k_fX8_putMeant_256 else (if x1 = (71 : Int32) then k_fX8_putMeant_256 else (if x1 = (72 : Int32) then k_fX8_putMeant_256 else (if x1 = (73 : Int32) then k_fX8_putMeant_256 else (if x1 = (74 : Int32) then (k_fX8_putHl + k_fX8_putMeant_275) else (if x1 = (75 : Int32) then k_fX8_putMeant_256 else (if x1 = (76 : Int32) then k_fX8_putMeant_256 else (if x1 = (77 : Int32) then k_fX8_putMeant_256 else (if x1 = (78 : Int32) then (0 + (k_fX8_putByte + k_fX8_putMeant_275)) else (if x1 = (79 : Int32) then k_fX8_putMeant_256 else (if x1 = (80 : Int32) then ((k_fX8_putPair y 3) + k_fX8_putMeant_275) else (if x1 = (81 : Int32) then ((k_fX8_putPair y 4) + k_fX8_putMeant_275) else (if x1 = (82 : Int32) then k_fX8_putMeant_256 else (if x1 = (83 : Int32) then k_fX8_putMeant_256 else (if x1 = (84 : Int32) then ((k_fX8_putTurned x z p) + k_fX8_putMeant_275) else (if x1 = (85 : Int32) then k_fX8_putMeant_256 else (if x1 = (86 : Int32) then (k_fX8_putByte + k_fX8_putMeant_275) else (if x1 = (87 : Int32) then (0 + (0 + (k_fX8_putWord + k_fX8_putMeant_275))) else (if x1 = (88 : Int32) then k_fX8_putMeant_256 else (if x1 = (89 : Int32) then ((k_fX8_putOne p b y) + k_fX8_putMeant_275) else (if x1 = (90 : Int32) then ((k_fX8_putOne p b z) + k_fX8_putMeant_275) else k_fX8_putMeant_256)))))))))))))))))))))))))
noncomputable def t_fX8_putMeant (x : Int32) (y : Int32) (z : Int32) (p : Int32) (b : Int32) (x1 : Int32) : Nat := (if x1 = (66 : Int32) then (0 + t_fX8_putMeant_275) else (if x1 = (67 : Int32) then (0 + t_fX8_putMeant_275) else (if x1 = (68 : Int32) then (0 + t_fX8_putMeant_275) else (if x1 = (69 : Int32) then t_fX8_putMeant_256 else (if x1 = (70 : Int32) then t_fX8_putMeant_256 else (if x1 = (71 : Int32) then t_fX8_putMeant_256 else (if x1 = (72 : Int32) then t_fX8_putMeant_256 else (if x1 = (73 : Int32) then t_fX8_putMeant_256 else (if x1 = (74 : Int32) then (t_fX8_putHl + t_fX8_putMeant_275) else (if x1 = (75 : Int32) then t_fX8_putMeant_256 else (if x1 = (76 : Int32) then t_fX8_putMeant_256 else (if x1 = (77 : Int32) then t_fX8_putMeant_256 else (if x1 = (78 : Int32) then (1 + (t_fX8_putByte + t_fX8_putMeant_275)) else (if x1 = (79 : Int32) then t_fX8_putMeant_256 else (if x1 = (80 : Int32) then ((t_fX8_putPair y 3) + t_fX8_putMeant_275) else (if x1 = (81 : Int32) then ((t_fX8_putPair y 4) + t_fX8_putMeant_275) else (if x1 = (82 : Int32) then t_fX8_putMeant_256 else (if x1 = (83 : Int32) then t_fX8_putMeant_256 else (if x1 = (84 : Int32) then ((t_fX8_putTurned x z p) + t_fX8_putMeant_275) else (if x1 = (85 : Int32) then t_fX8_putMeant_256 else (if x1 = (86 : Int32) then (t_fX8_putByte + t_fX8_putMeant_275) else (if x1 = (87 : Int32) then (1 + (1 + (t_fX8_putWord + t_fX8_putMeant_275))) else (if x1 = (88 : Int32) then t_fX8_putMeant_256 else (if x1 = (89 : Int32) then ((t_fX8_putOne p b y) + t_fX8_putMeant_275) else (if x1 = (90 : Int32) then ((t_fX8_putOne p b z) + t_fX8_putMeant_275) else t_fX8_putMeant_256)))))))))))))))))))))))))
theorem tc_fX8_putMeant (e : zEc x y z p b σ) {x1 : Int32} : zpc (fX8_putMeant σ x1) (zTs (k_fX8_putMeant x y z p b x1) (t_fX8_putMeant x y z p b x1) σ) := by
  unfold fX8_putMeant k_fX8_putMeant t_fX8_putMeant
  rw [show zgi σ 10 6 = y from e.2.1]
  rw [show zgi σ 10 7 = z from e.2.2.1]
  refine zTsif (fun _ => ?_) (fun _ => ?_)
  · skip
    refine zTsb (show zpc (fX8_putSign σ (48 + y)) (zTs 1 0 σ) from tc_sign) (fun σ4 hσ4 => ?_)
    have eσ4 := e.kp hσ4
    exact (show zpc (fX8_putMeant_275 σ4) (zTs k_fX8_putMeant_275 t_fX8_putMeant_275 σ4) from tc_fX8_putMeant_275 eσ4)
  · skip
    refine zTsif (fun _ => ?_) (fun _ => ?_)
    · skip
      refine zTsb (show zpc (fX8_putName σ 5 y) (zTs (zNmq 5 y (zkL 5) 0 0) 0 σ) from tc_name) (fun σ5 hσ5 => ?_)
      have eσ5 := e.kp hσ5
      exact (show zpc (fX8_putMeant_275 σ5) (zTs k_fX8_putMeant_275 t_fX8_putMeant_275 σ5) from tc_fX8_putMeant_275 eσ5)
    · skip
      refine zTsif (fun _ => ?_) (fun _ => ?_)
      · skip
        refine zTsb (show zpc (fX8_putName σ 5 (y - 4)) (zTs (zNmq 5 (y - (4 : Int32)) (zkL 5) 0 0) 0 σ) from tc_name) (fun σ6 hσ6 => ?_)
        have eσ6 := e.kp hσ6
        exact (show zpc (fX8_putMeant_275 σ6) (zTs k_fX8_putMeant_275 t_fX8_putMeant_275 σ6) from tc_fX8_putMeant_275 eσ6)
      · skip
        refine zTsif (fun _ => ?_) (fun _ => ?_)
        · skip
          exact (show zpc (fX8_putMeant_256 σ) (zTs k_fX8_putMeant_256 t_fX8_putMeant_256 σ) from tc_fX8_putMeant_256 e)
        · skip
          refine zTsif (fun _ => ?_) (fun _ => ?_)
          · skip
            exact (show zpc (fX8_putMeant_256 σ) (zTs k_fX8_putMeant_256 t_fX8_putMeant_256 σ) from tc_fX8_putMeant_256 e)
          · skip
            refine zTsif (fun _ => ?_) (fun _ => ?_)
            · skip
              exact (show zpc (fX8_putMeant_256 σ) (zTs k_fX8_putMeant_256 t_fX8_putMeant_256 σ) from tc_fX8_putMeant_256 e)
            · skip
              refine zTsif (fun _ => ?_) (fun _ => ?_)
              · skip
                exact (show zpc (fX8_putMeant_256 σ) (zTs k_fX8_putMeant_256 t_fX8_putMeant_256 σ) from tc_fX8_putMeant_256 e)
              · skip
                refine zTsif (fun _ => ?_) (fun _ => ?_)
                · skip
                  exact (show zpc (fX8_putMeant_256 σ) (zTs k_fX8_putMeant_256 t_fX8_putMeant_256 σ) from tc_fX8_putMeant_256 e)
                · skip
                  refine zTsif (fun _ => ?_) (fun _ => ?_)
                  · skip
                    refine zTsb (show zpc (fX8_putHl σ) (zTs k_fX8_putHl t_fX8_putHl σ) from tc_fX8_putHl e) (fun σ7 hσ7 => ?_)
                    have eσ7 := e.kp hσ7
                    exact (show zpc (fX8_putMeant_275 σ7) (zTs k_fX8_putMeant_275 t_fX8_putMeant_275 σ7) from tc_fX8_putMeant_275 eσ7)
                  · skip
                    refine zTsif (fun _ => ?_) (fun _ => ?_)
                    · skip
                      exact (show zpc (fX8_putMeant_256 σ) (zTs k_fX8_putMeant_256 t_fX8_putMeant_256 σ) from tc_fX8_putMeant_256 e)
                    · skip
                      refine zTsif (fun _ => ?_) (fun _ => ?_)
                      · skip
                        exact (show zpc (fX8_putMeant_256 σ) (zTs k_fX8_putMeant_256 t_fX8_putMeant_256 σ) from tc_fX8_putMeant_256 e)
                      · skip
                        refine zTsif (fun _ => ?_) (fun _ => ?_)
                        · skip
                          exact (show zpc (fX8_putMeant_256 σ) (zTs k_fX8_putMeant_256 t_fX8_putMeant_256 σ) from tc_fX8_putMeant_256 e)
                        · skip
                          refine zTsif (fun _ => ?_) (fun _ => ?_)
                          · skip
                            refine zTsi (show zpc (fX8_take σ) (fun r => zTs 0 1 σ r.1) from tc_take) (fun σ8 v9 hσ8 => ?_)
                            have eσ8 := e.kp hσ8
                            refine zTsb (show zpc (fX8_putByte σ8 v9) (zTs k_fX8_putByte t_fX8_putByte σ8) from tc_fX8_putByte eσ8) (fun σ10 hσ10 => ?_)
                            have eσ10 := eσ8.kp hσ10
                            exact (show zpc (fX8_putMeant_275 σ10) (zTs k_fX8_putMeant_275 t_fX8_putMeant_275 σ10) from tc_fX8_putMeant_275 eσ10)
                          · skip
                            refine zTsif (fun _ => ?_) (fun _ => ?_)
                            · skip
                              exact (show zpc (fX8_putMeant_256 σ) (zTs k_fX8_putMeant_256 t_fX8_putMeant_256 σ) from tc_fX8_putMeant_256 e)
                            · skip
                              refine zTsif (fun _ => ?_) (fun _ => ?_)
                              · skip
                                refine zTsb (show zpc (fX8_putPair σ 3) (zTs (k_fX8_putPair y 3) (t_fX8_putPair y 3) σ) from tc_fX8_putPair e) (fun σ11 hσ11 => ?_)
                                have eσ11 := e.kp hσ11
                                exact (show zpc (fX8_putMeant_275 σ11) (zTs k_fX8_putMeant_275 t_fX8_putMeant_275 σ11) from tc_fX8_putMeant_275 eσ11)
                              · skip
                                refine zTsif (fun _ => ?_) (fun _ => ?_)
                                · skip
                                  refine zTsb (show zpc (fX8_putPair σ 4) (zTs (k_fX8_putPair y 4) (t_fX8_putPair y 4) σ) from tc_fX8_putPair e) (fun σ12 hσ12 => ?_)
                                  have eσ12 := e.kp hσ12
                                  exact (show zpc (fX8_putMeant_275 σ12) (zTs k_fX8_putMeant_275 t_fX8_putMeant_275 σ12) from tc_fX8_putMeant_275 eσ12)
                                · skip
                                  refine zTsif (fun _ => ?_) (fun _ => ?_)
                                  · skip
                                    exact (show zpc (fX8_putMeant_256 σ) (zTs k_fX8_putMeant_256 t_fX8_putMeant_256 σ) from tc_fX8_putMeant_256 e)
                                  · skip
                                    refine zTsif (fun _ => ?_) (fun _ => ?_)
                                    · skip
                                      exact (show zpc (fX8_putMeant_256 σ) (zTs k_fX8_putMeant_256 t_fX8_putMeant_256 σ) from tc_fX8_putMeant_256 e)
                                    · skip
                                      refine zTsif (fun _ => ?_) (fun _ => ?_)
                                      · skip
                                        refine zTsb (show zpc (fX8_putTurned σ) (zTs (k_fX8_putTurned x z p) (t_fX8_putTurned x z p) σ) from tc_fX8_putTurned e) (fun σ13 hσ13 => ?_)
                                        have eσ13 := e.kp hσ13
                                        exact (show zpc (fX8_putMeant_275 σ13) (zTs k_fX8_putMeant_275 t_fX8_putMeant_275 σ13) from tc_fX8_putMeant_275 eσ13)
                                      · skip
                                        refine zTsif (fun _ => ?_) (fun _ => ?_)
                                        · skip
                                          exact (show zpc (fX8_putMeant_256 σ) (zTs k_fX8_putMeant_256 t_fX8_putMeant_256 σ) from tc_fX8_putMeant_256 e)
                                        · skip
                                          refine zTsif (fun _ => ?_) (fun _ => ?_)
                                          · skip
                                            refine zTsb (show zpc (fX8_putByte σ (8 * y)) (zTs k_fX8_putByte t_fX8_putByte σ) from tc_fX8_putByte e) (fun σ14 hσ14 => ?_)
                                            have eσ14 := e.kp hσ14
                                            exact (show zpc (fX8_putMeant_275 σ14) (zTs k_fX8_putMeant_275 t_fX8_putMeant_275 σ14) from tc_fX8_putMeant_275 eσ14)
                                          · skip
                                            refine zTsif (fun _ => ?_) (fun _ => ?_)
                                            · skip
                                              refine zTsi (show zpc (fX8_take σ) (fun r => zTs 0 1 σ r.1) from tc_take) (fun σ15 v16 hσ15 => ?_)
                                              have eσ15 := e.kp hσ15
                                              refine zTsi (show zpc (fX8_take σ15) (fun r => zTs 0 1 σ15 r.1) from tc_take) (fun σ17 v18 hσ17 => ?_)
                                              have eσ17 := eσ15.kp hσ17
                                              refine zTsb (show zpc (fX8_putWord σ17 (v16 ||| (v18 <<< ((8 : Int32) &&& 31)))) (zTs k_fX8_putWord t_fX8_putWord σ17) from tc_fX8_putWord eσ17) (fun σ19 hσ19 => ?_)
                                              have eσ19 := eσ17.kp hσ19
                                              exact (show zpc (fX8_putMeant_275 σ19) (zTs k_fX8_putMeant_275 t_fX8_putMeant_275 σ19) from tc_fX8_putMeant_275 eσ19)
                                            · skip
                                              refine zTsif (fun _ => ?_) (fun _ => ?_)
                                              · skip
                                                exact (show zpc (fX8_putMeant_256 σ) (zTs k_fX8_putMeant_256 t_fX8_putMeant_256 σ) from tc_fX8_putMeant_256 e)
                                              · skip
                                                refine zTsif (fun _ => ?_) (fun _ => ?_)
                                                · skip
                                                  refine zTsb (show zpc (fX8_putOne σ y) (zTs (k_fX8_putOne p b y) (t_fX8_putOne p b y) σ) from tc_fX8_putOne e) (fun σ20 hσ20 => ?_)
                                                  have eσ20 := e.kp hσ20
                                                  exact (show zpc (fX8_putMeant_275 σ20) (zTs k_fX8_putMeant_275 t_fX8_putMeant_275 σ20) from tc_fX8_putMeant_275 eσ20)
                                                · skip
                                                  refine zTsif (fun _ => ?_) (fun _ => ?_)
                                                  · skip
                                                    refine zTsb (show zpc (fX8_putOne σ z) (zTs (k_fX8_putOne p b z) (t_fX8_putOne p b z) σ) from tc_fX8_putOne e) (fun σ21 hσ21 => ?_)
                                                    have eσ21 := e.kp hσ21
                                                    exact (show zpc (fX8_putMeant_275 σ21) (zTs k_fX8_putMeant_275 t_fX8_putMeant_275 σ21) from tc_fX8_putMeant_275 eσ21)
                                                  · skip
                                                    exact (show zpc (fX8_putMeant_256 σ) (zTs k_fX8_putMeant_256 t_fX8_putMeant_256 σ) from tc_fX8_putMeant_256 e)
/-- the signs, the bytes of one pattern -/
noncomputable def zgK (x y z p b c : Int32) : Nat := if c < 65 then 1 else if 90 < c then 1 else k_fX8_putMeant x y z p b c
noncomputable def zgT (x y z p b c : Int32) : Nat := if c < 65 then 0 else if 90 < c then 0 else t_fX8_putMeant x y z p b c
noncomputable def zMq (n : Nat) (g : Int32 → Nat) (r : Int32) : Nat → Nat → Int32 → Nat
  | 0, _, _ => 0
  | m + 1, i, q => if zkC n i = 59 then zMq n g r m (i + 1) (q + 1) else (if q = r then g (zkC n i) else 0) + zMq n g r m (i + 1) q
noncomputable def zPt (n : Nat) : Nat → Nat → Int32 → Int32
  | 0, _, w => w
  | m + 1, i, w => zPt n m (i + 1) (if zkC n i = 59 then w + 1 else w + 0)
theorem tc_put41 {n : Nat} {w : Int32} : ∀ (f m i : Nat) (q : Int32) (σ : zSt), zEc x y z p b σ → m + i = zkL n → zpc (fX8_put_41 f σ n w q (Int32.ofNat i)) (zTs (zMq n (zgK x y z p b) (zrem y w) m i q) (zMq n (zgT x y z p b) (zrem y w) m i q) σ) := by
  intro f
  induction f with
  | zero => intro m i q σ _ _; exact zpc_none
  | succ f ih =>
    intro m i q σ he hm
    show zpc (fX8_put_41_body (fX8_put_41 f) σ n w q (Int32.ofNat i)) _
    unfold fX8_put_41_body fX8_put_104 fX8_put_110
    rw [show zgi σ 10 6 = y from he.2.1]
    refine zpc_ckh (fun hb => ?_)
    have hl := zkL_le hb
    have hN := zkN_i hl
    refine zpc_if (fun c => ?_) (fun c => ?_)
    · have c1 := (z_ofL (i := i) (by omega) hN).mp c
      obtain rfl : m = 0 := by omega
      exact zpc_some zTs.rf
    · have c1 : ¬ zkL n ≤ i := fun u => c ((z_ofL (i := i) (by omega) hN).mpr u)
      obtain ⟨m, rfl⟩ : ∃ m', m = m' + 1 := ⟨m - 1, by omega⟩
      have eg : ∀ g : Int32 → Nat, zMq n g (zrem y w) (m + 1) i q = if zkC n i = 59 then zMq n g (zrem y w) m (i + 1) (q + 1) else (if q = zrem y w then g (zkC n i) else 0) + zMq n g (zrem y w) m (i + 1) q := fun g => rfl
      rw [eg, eg, z_ofC (by omega), z_ofS (by omega)]
      refine zpc_ck (zpc_ck (zpc_bv (fun v5 e5 => ?_)))
      subst e5
      refine zpc_if (fun d => ?_) (fun d => zpc_ck (zpc_if (fun u => ?_) (fun u => ?_)))
      · rw [if_pos d, if_pos d]
        refine zpc_bv (fun v ev => zpc_bv (fun v2 ew => ?_))
        subst ev
        subst ew
        exact ih m (i + 1) (q + 1) σ he (by omega)
      · rw [if_neg d, if_neg d, if_pos u, if_pos u]
        unfold zgK zgT
        refine zpc_if (fun r1 => ?_) (fun r1 => zpc_if (fun r2 => ?_) (fun r2 => ?_))
        · rw [if_pos r1, if_pos r1]
          refine zpc_bu tc_sign (fun s1 h1 => zpc_bv (fun v2 ew => ?_))
          subst ew
          exact zpc_mono (ih m (i + 1) q s1 (he.kp h1) (by omega)) (fun r g => zTs.tr h1 g)
        · rw [if_neg r1, if_neg r1, if_pos r2, if_pos r2]
          refine zpc_bu tc_sign (fun s1 h1 => zpc_bv (fun v2 ew => ?_))
          subst ew
          exact zpc_mono (ih m (i + 1) q s1 (he.kp h1) (by omega)) (fun r g => zTs.tr h1 g)
        · rw [if_neg r1, if_neg r1, if_neg r2, if_neg r2]
          refine zpc_bu (tc_fX8_putMeant he) (fun s1 h1 => zpc_bv (fun v2 ew => ?_))
          subst ew
          exact zpc_mono (ih m (i + 1) q s1 (he.kp h1) (by omega)) (fun r g => zTs.tr h1 g)
      · rw [if_neg d, if_neg d, if_neg u, if_neg u, Nat.zero_add, Nat.zero_add]
        refine zpc_bv (fun v2 ew => ?_)
        subst ew
        exact ih m (i + 1) q σ he (by omega)
noncomputable def zPkq (n : Nat) (x y z p b : Int32) : Nat := zMq n (zgK x y z p b) (zrem y (zPt n (zkL n) 0 1)) (zkL n) 0 0
noncomputable def zPc (n : Nat) (x y z p b : Int32) : Nat := zMq n (zgT x y z p b) (zrem y (zPt n (zkL n) 0 1)) (zkL n) 0 0
theorem tc_put4 {n : Nat} : ∀ (f m i : Nat) (w : Int32) (σ : zSt), zEc x y z p b σ → m + i = zkL n → zpc (fX8_put_4 f σ n w (Int32.ofNat i)) (zTs (zMq n (zgK x y z p b) (zrem y (zPt n m i w)) (zkL n) 0 0) (zMq n (zgT x y z p b) (zrem y (zPt n m i w)) (zkL n) 0 0) σ) := by
  intro f
  induction f with
  | zero => intro m i w σ _ _; exact zpc_none
  | succ f ih =>
    intro m i w σ he hm
    show zpc (fX8_put_4_body (fX8_put_4 f) σ n w (Int32.ofNat i)) _
    unfold fX8_put_4_body fX8_put_28
    refine zpc_ckh (fun hb => ?_)
    have hl := zkL_le hb
    have hN := zkN_i hl
    refine zpc_if (fun c => ?_) (fun c => ?_)
    · have c1 := (z_ofL (i := i) (by omega) hN).mp c
      obtain rfl : m = 0 := by omega
      exact tc_put41 zfuel (zkL n) 0 0 σ he (by omega)
    · have c1 : ¬ zkL n ≤ i := fun u => c ((z_ofL (i := i) (by omega) hN).mpr u)
      obtain ⟨m, rfl⟩ : ∃ m', m = m' + 1 := ⟨m - 1, by omega⟩
      have e : zPt n (m + 1) i w = zPt n m (i + 1) (if zkC n i = 59 then w + 1 else w + 0) := rfl
      rw [e, z_ofC (by omega), z_ofS (by omega)]
      refine zpc_ck (zpc_ck (zpc_if (fun d => ?_) (fun d => ?_)))
      · rw [if_pos d]
        refine zpc_bv (fun v ev => zpc_bv (fun v2 ew => ?_))
        subst ev
        subst ew
        exact ih m (i + 1) (w + 1) σ he (by omega)
      · rw [if_neg d]
        refine zpc_bv (fun v ev => zpc_bv (fun v2 ew => ?_))
        subst ev
        subst ew
        exact ih m (i + 1) (w + 0) σ he (by omega)
theorem tc_put {n : Nat} (he : zEc x y z p b σ) : zpc (fX8_put σ n) (zTs (zPkq n x y z p b) (zPc n x y z p b) σ) := by
  unfold fX8_put
  exact tc_put4 zfuel (zkL n) 0 1 σ he (by omega)
end ZTE
end ZJN5
section ZJN6
/-! THE TELLER OF THE REFERENCE -/
section ZTF
variable {σ μ s t : zSt} {i l : Int32}
noncomputable def zTm (k c : Nat) (σ s : zSt) : Prop := zQ [26] [(0, 39, 40)] [] [] σ s ∧ (0 ≤ (σ.1 0 39).toInt → (σ.1 0 39).toInt + (k : Int) ≤ 1000 → 0 ≤ (σ.1 0 40).toInt → (σ.1 0 40).toInt + (c : Int) ≤ 100000 → (s.1 0 39).toInt = (σ.1 0 39).toInt + (k : Int) ∧ (s.1 0 40).toInt = (σ.1 0 40).toInt + (c : Int))
theorem zTm.rf : zTm 0 0 σ σ := ⟨zQ.rf, fun _ _ _ _ => ⟨by omega, by omega⟩⟩
theorem zTm.tr {a b c d : Nat} (h : zTm a b σ s) (g : zTm c d s t) : zTm (a + c) (b + d) σ t := by
  obtain ⟨h1, h2⟩ := h
  obtain ⟨g1, g2⟩ := g
  refine ⟨h1.tr g1, fun w x y z => ?_⟩
  obtain ⟨u1, u2⟩ := h2 w (by omega) y (by omega)
  obtain ⟨v1, v2⟩ := g2 (by omega) (by omega) (by omega) (by omega)
  exact ⟨by omega, by omega⟩
theorem zTmb {o : Option zSt} {f : zSt → Option zSt} {a b c d : Nat} (h : zpc o (zTm a b σ)) (k : ∀ s, zTm a b σ s → zpc (f s) (zTm c d s)) : zpc (zbu o f) (zTm (a + c) (b + d) σ) := zpc_bu h (fun s hs => zpc_mono (k s hs) (fun r q => zTm.tr hs q))
theorem zTmi {o : Option (zSt × Int32)} {f : zSt → Int32 → Option zSt} {a b c d : Nat} (h : zpc o (fun r => zTm a b σ r.1)) (k : ∀ s v, zTm a b σ s → zpc (f s v) (zTm c d s)) : zpc (zbi o f) (zTm (a + c) (b + d) σ) := zpc_bi h (fun s v hs => zpc_mono (k s v hs) (fun r q => zTm.tr hs q))
theorem zTmif {q : Prop} {d1 d2 d3 : Decidable q} {A B : Option zSt} {a b c d : Nat} (h1 : q → zpc A (zTm a b σ)) (h2 : ¬ q → zpc B (zTm c d σ)) : zpc (@ite _ q d1 A B) (zTm (@ite _ q d2 a c) (@ite _ q d3 b d) σ) := by
  by_cases z : q
  · rw [if_pos z, if_pos z, if_pos z]; exact h1 z
  · rw [if_neg z, if_neg z, if_neg z]; exact h2 z
noncomputable def zEm (i l : Int32) (σ : zSt) : Prop := σ.1 0 41 = i ∧ σ.1 0 42 = l
theorem zEm.kp {k c : Nat} (e : zEm i l σ) (h : zTm k c σ s) : zEm i l s := by
  have g : ∀ j : Nat, 41 ≤ j → j ≤ 42 → s.1 0 j = σ.1 0 j := fun j h1 h2 => h.1.o (k := 0) (a := 41) (b := 42) rfl h1 h2
  unfold zEm
  rw [g 41 (by decide) (by decide), g 42 (by decide) (by decide)]
  exact e
/-- one sign -/
theorem tm_one {j : Nat} {v : Int32} {s1 s2 : zSt} (e1 : s1 = zsi σ 26 j v) (e2 : s2 = zsi s1 0 39 (zgi s1 0 39 + 1)) : zTm 1 0 σ s2 := by
  have c1 : (1 : Int32).toInt = 1 := rfl
  have g1 : zgi s1 0 39 = σ.1 0 39 := by rw [e1]; rfl
  rw [g1] at e2
  have l2 : s2.1 0 39 = σ.1 0 39 + 1 := by rw [e2, zsi_ej]
  have l4 : s2.1 0 40 = σ.1 0 40 := by rw [e2, zsi_nj (by decide), e1, zsi_ne (by decide)]
  refine ⟨by rw [e2, e1]; exact zQ.wi (zQ.wi zQ.rf rfl) rfl, fun w x y z => ?_⟩
  have t1 := z_tadd (x := σ.1 0 39) (y := 1) (a := 0) (b := 1000) ⟨w, by omega⟩ (zr_c (lo := 1) (hi := 1) (x := 1) (by decide)) (by decide)
  rw [l2, l4, t1, c1]
  exact ⟨by omega, by omega⟩
theorem tm_taken : zpc (fX12_taken σ ) (fun r => zTm 0 1 σ r.1) := by
  unfold fX12_taken
  have c1 : (1 : Int32).toInt = 1 := rfl
  refine zpc_bi (fI_fX12_read (σ0 := σ) zQ.rf) (fun s1 v e => zpc_bv (fun s2 e2 => zpc_some ?_))
  have e1 : s1 = σ := zQ_eq e
  rw [e1] at e2
  have e2 : s2 = zsi σ 0 40 (σ.1 0 40 + 1) := e2
  have l2 : s2.1 0 39 = σ.1 0 39 := by rw [e2, zsi_nj (by decide)]
  have l4 : s2.1 0 40 = σ.1 0 40 + 1 := by rw [e2, zsi_ej]
  show zTm 0 1 σ s2
  refine ⟨by rw [e2]; exact zQ.wi zQ.rf rfl, fun w x y z => ?_⟩
  have t1 := z_tadd (x := σ.1 0 40) (y := 1) (a := 0) (b := 100000) ⟨y, by omega⟩ (zr_c (lo := 1) (hi := 1) (x := 1) (by decide)) (by decide)
  rw [l2, l4, t1, c1]
  exact ⟨by omega, by omega⟩
theorem tm_word : zpc (fX12_takenWord σ ) (fun r => zTm 0 2 σ r.1) := by
  unfold fX12_takenWord
  exact zpc_bi tm_taken (fun s1 v1 h1 => zpc_bi tm_taken (fun s2 v2 h2 => zpc_some (zTm.tr h1 h2)))
theorem tm_signed {v : Int32} : zpc (fX12_signed σ v) (fun r => zTm 0 0 σ r.1) := by
  unfold fX12_signed fX12_signed_16
  exact zpc_if (fun _ => zpc_some zTm.rf) (fun _ => zpc_some zTm.rf)
theorem tm_say2 {n : Nat} : ∀ (f m i : Nat) (σ : zSt), m + i = zkL n → zpc (fX12_say_2 f σ n (Int32.ofNat i)) (zTm m 0 σ) := by
  intro f
  induction f with
  | zero => intro m i σ _; exact zpc_none
  | succ f ih =>
    intro m i σ hm
    show zpc (fX12_say_2_body (fX12_say_2 f) σ n (Int32.ofNat i)) _
    unfold fX12_say_2_body
    refine zpc_ckh (fun hb => ?_)
    have hl := zkL_le hb
    have hN := zkN_i hl
    refine zpc_if (fun c => ?_) (fun c => ?_)
    · have c1 := (z_ofL (i := i) (by omega) hN).mp c
      obtain rfl : m = 0 := by omega
      exact zpc_some zTm.rf
    · have c1 : ¬ zkL n ≤ i := fun u => c ((z_ofL (i := i) (by omega) hN).mpr u)
      obtain ⟨m, rfl⟩ : ∃ m', m = m' + 1 := ⟨m - 1, by omega⟩
      rw [z_ofC (by omega), z_ofS (by omega)]
      refine zpc_ck (zpc_ck (zpc_ck (zpc_bv (fun s1 e1 => zpc_bv (fun s2 e2 => zpc_bv (fun v ev => ?_))))))
      subst ev
      refine zpc_mono (ih m (i + 1) s2 (by omega)) (fun r g => ?_)
      have q := zTm.tr (tm_one e1 e2) g
      rw [Nat.add_comm 1 m] at q
      exact q
theorem tm_say {n : Nat} : zpc (fX12_say σ n) (zTm (zkL n) 0 σ) := by
  unfold fX12_say
  exact tm_say2 zfuel (zkL n) 0 σ (by omega)
theorem tm_hexl {v : Int32} : ∀ (f m : Nat) (x3 : Int32) (σ : zSt), m ≤ 100 → x3.toInt = (m : Int) - 1 → zpc (fX12_hex_4 f σ v x3) (zTm m 0 σ) := by
  intro f
  induction f with
  | zero => intro m x3 σ _ _; exact zpc_none
  | succ f ih =>
    intro m x3 σ hm hx
    show zpc (fX12_hex_4_body (fX12_hex_4 f) σ v x3) _
    unfold fX12_hex_4_body fX12_hex_49
    have c0 : (0 : Int32).toInt = 0 := rfl
    refine zpc_if (fun c => ?_) (fun c => zpc_bv (fun v4 _ => ?_))
    · have c1 := Int32.lt_iff_toInt_lt.mp c
      obtain rfl : m = 0 := by omega
      exact zpc_some zTm.rf
    · have c1 := Int32.le_iff_toInt_le.mp (z_nlt c)
      obtain ⟨m, rfl⟩ : ∃ m', m = m' + 1 := ⟨m - 1, by omega⟩
      have t1 := z_tadd (x := x3) (y := -1) (a := 0) (b := 100) ⟨by omega, by omega⟩ (zr_c (lo := -1) (hi := -1) (x := -1) (by decide)) (by decide)
      have cm : (-1 : Int32).toInt = -1 := rfl
      have go : ∀ {s1 s2 : zSt} {j : Nat} {u : Int32}, s1 = zsi σ 26 j u → s2 = zsi s1 0 39 (zgi s1 0 39 + 1) → zpc (fX12_hex_4 f s2 v (x3 + (-1))) (zTm (m + 1) 0 σ) := fun e1 e2 => by
        refine zpc_mono (ih m _ _ (by omega) (by rw [t1, cm, hx]; omega)) (fun r g => ?_)
        have q := zTm.tr (tm_one e1 e2) g
        rw [Nat.add_comm 1 m] at q
        exact q
      refine zpc_if (fun _ => zpc_ck (zpc_bv (fun s1 e1 => zpc_bv (fun s2 e2 => zpc_bv (fun w ew => ?_))))) (fun _ => zpc_ck (zpc_bv (fun s1 e1 => zpc_bv (fun s2 e2 => zpc_bv (fun w ew => ?_)))))
      · subst ew; exact go e1 e2
      · subst ew; exact go e1 e2
theorem tm_hex1 {v : Int32} : zpc (fX12_hex σ v 1) (zTm 1 0 σ) := by
  unfold fX12_hex
  exact zpc_bv (fun w ew => by rw [ew]; exact tm_hexl zfuel 1 _ σ (by decide) (by decide))
theorem tm_hex2 {v : Int32} : zpc (fX12_hex σ v 2) (zTm 2 0 σ) := by
  unfold fX12_hex
  exact zpc_bv (fun w ew => by rw [ew]; exact tm_hexl zfuel 2 _ σ (by decide) (by decide))
theorem tm_hex4 {v : Int32} : zpc (fX12_hex σ v 4) (zTm 4 0 σ) := by
  unfold fX12_hex
  exact zpc_bv (fun w ew => by rw [ew]; exact tm_hexl zfuel 4 _ σ (by decide) (by decide))
noncomputable def k_fX12_sayHl_31 (n_s0 : Nat) : Nat := (n_s0 + 0)
noncomputable def t_fX12_sayHl_31 (n_s0 : Nat) : Nat := (0 + 0)
theorem tm_fX12_sayHl_31 (e : zEm i l σ) {s0 : Nat} : zpc (fX12_sayHl_31 σ s0) (zTm (k_fX12_sayHl_31 (zkL s0)) (t_fX12_sayHl_31 (zkL s0)) σ) := by
  unfold fX12_sayHl_31 k_fX12_sayHl_31 t_fX12_sayHl_31
  refine zTmb (show zpc (fX12_say σ s0) (zTm (zkL s0) 0 σ) from tm_say) (fun σ1 hσ1 => ?_)
  exact zpc_some zTm.rf
noncomputable def k_fX12_sayHl : Nat := (k_fX12_sayHl_31 2)
noncomputable def t_fX12_sayHl : Nat := (t_fX12_sayHl_31 2)
theorem tm_fX12_sayHl (e : zEm i l σ) : zpc (fX12_sayHl σ ) (zTm k_fX12_sayHl t_fX12_sayHl σ) := by
  unfold fX12_sayHl k_fX12_sayHl t_fX12_sayHl
  rw [show zgi σ 0 41 = i from e.1]
  refine zpc_if (fun _ => ?_) (fun _ => ?_)
  · skip
    exact (show zpc (fX12_sayHl_31 σ 90) (zTm (k_fX12_sayHl_31 2) (t_fX12_sayHl_31 2) σ) from tm_fX12_sayHl_31 e)
  · skip
    refine zpc_if (fun _ => ?_) (fun _ => ?_)
    · skip
      exact (show zpc (fX12_sayHl_31 σ 91) (zTm (k_fX12_sayHl_31 2) (t_fX12_sayHl_31 2) σ) from tm_fX12_sayHl_31 e)
    · skip
      exact (show zpc (fX12_sayHl_31 σ 92) (zTm (k_fX12_sayHl_31 2) (t_fX12_sayHl_31 2) σ) from tm_fX12_sayHl_31 e)
noncomputable def k_fX12_sayPlace_76 : Nat := (2 + (1 + 0))
noncomputable def t_fX12_sayPlace_76 : Nat := (0 + (0 + 0))
theorem tm_fX12_sayPlace_76 (e : zEm i l σ) {s0 : Int32} : zpc (fX12_sayPlace_76 σ s0) (zTm k_fX12_sayPlace_76 t_fX12_sayPlace_76 σ) := by
  unfold fX12_sayPlace_76 k_fX12_sayPlace_76 t_fX12_sayPlace_76
  refine zTmb (show zpc (fX12_hex σ s0 2) (zTm 2 0 σ) from tm_hex2) (fun σ1 hσ1 => ?_)
  have eσ1 := e.kp hσ1
  refine zTmb (show zpc (fX12_say σ1 89) (zTm 1 0 σ1) from tm_say) (fun σ2 hσ2 => ?_)
  exact zpc_some zTm.rf
noncomputable def k_fX12_sayPlace_53 (n_s0 : Nat) : Nat := (n_s0 + k_fX12_sayPlace_76)
noncomputable def t_fX12_sayPlace_53 (n_s0 : Nat) : Nat := (0 + t_fX12_sayPlace_76)
theorem tm_fX12_sayPlace_53 (e : zEm i l σ) {s0 : Nat} : zpc (fX12_sayPlace_53 σ s0) (zTm (k_fX12_sayPlace_53 (zkL s0)) (t_fX12_sayPlace_53 (zkL s0)) σ) := by
  unfold fX12_sayPlace_53 k_fX12_sayPlace_53 t_fX12_sayPlace_53
  refine zTmb (show zpc (fX12_say σ s0) (zTm (zkL s0) 0 σ) from tm_say) (fun σ3 hσ3 => ?_)
  have eσ3 := e.kp hσ3
  refine zpc_if (fun _ => ?_) (fun _ => ?_)
  · skip
    exact (show zpc (fX12_sayPlace_76 σ3 (zgi σ3 0 43)) (zTm k_fX12_sayPlace_76 t_fX12_sayPlace_76 σ3) from tm_fX12_sayPlace_76 eσ3)
  · skip
    exact (show zpc (fX12_sayPlace_76 σ3 (-(zgi σ3 0 43))) (zTm k_fX12_sayPlace_76 t_fX12_sayPlace_76 σ3) from tm_fX12_sayPlace_76 eσ3)
noncomputable def k_fX12_sayPlace_33 (n_s0 : Nat) : Nat := (n_s0 + (k_fX12_sayPlace_53 1))
noncomputable def t_fX12_sayPlace_33 (n_s0 : Nat) : Nat := (0 + (t_fX12_sayPlace_53 1))
theorem tm_fX12_sayPlace_33 (e : zEm i l σ) {s0 : Nat} : zpc (fX12_sayPlace_33 σ s0) (zTm (k_fX12_sayPlace_33 (zkL s0)) (t_fX12_sayPlace_33 (zkL s0)) σ) := by
  unfold fX12_sayPlace_33 k_fX12_sayPlace_33 t_fX12_sayPlace_33
  refine zTmb (show zpc (fX12_say σ s0) (zTm (zkL s0) 0 σ) from tm_say) (fun σ4 hσ4 => ?_)
  have eσ4 := e.kp hσ4
  refine zpc_if (fun _ => ?_) (fun _ => ?_)
  · skip
    exact (show zpc (fX12_sayPlace_53 σ4 88) (zTm (k_fX12_sayPlace_53 1) (t_fX12_sayPlace_53 1) σ4) from tm_fX12_sayPlace_53 eσ4)
  · skip
    exact (show zpc (fX12_sayPlace_53 σ4 87) (zTm (k_fX12_sayPlace_53 1) (t_fX12_sayPlace_53 1) σ4) from tm_fX12_sayPlace_53 eσ4)
noncomputable def k_fX12_sayPlace (l : Int32) : Nat := (if l = (0 : Int32) then (4 + 0) else (k_fX12_sayPlace_33 3))
noncomputable def t_fX12_sayPlace (l : Int32) : Nat := (if l = (0 : Int32) then (0 + 0) else (t_fX12_sayPlace_33 3))
theorem tm_fX12_sayPlace (e : zEm i l σ) : zpc (fX12_sayPlace σ ) (zTm (k_fX12_sayPlace l) (t_fX12_sayPlace l) σ) := by
  unfold fX12_sayPlace k_fX12_sayPlace t_fX12_sayPlace
  rw [show zgi σ 0 41 = i from e.1]
  rw [show zgi σ 0 42 = l from e.2]
  refine zTmif (fun _ => ?_) (fun _ => ?_)
  · skip
    refine zTmb (show zpc (fX12_say σ 84) (zTm 4 0 σ) from tm_say) (fun σ5 hσ5 => ?_)
    exact zpc_some zTm.rf
  · skip
    refine zpc_if (fun _ => ?_) (fun _ => ?_)
    · skip
      exact (show zpc (fX12_sayPlace_33 σ 85) (zTm (k_fX12_sayPlace_33 3) (t_fX12_sayPlace_33 3) σ) from tm_fX12_sayPlace_33 e)
    · skip
      exact (show zpc (fX12_sayPlace_33 σ 86) (zTm (k_fX12_sayPlace_33 3) (t_fX12_sayPlace_33 3) σ) from tm_fX12_sayPlace_33 e)
noncomputable def k_fX12_sayR_108 (n_s0 : Nat) : Nat := (n_s0 + 0)
noncomputable def t_fX12_sayR_108 (n_s0 : Nat) : Nat := (0 + 0)
theorem tm_fX12_sayR_108 (e : zEm i l σ) {s0 : Nat} : zpc (fX12_sayR_108 σ s0) (zTm (k_fX12_sayR_108 (zkL s0)) (t_fX12_sayR_108 (zkL s0)) σ) := by
  unfold fX12_sayR_108 k_fX12_sayR_108 t_fX12_sayR_108
  refine zTmb (show zpc (fX12_say σ s0) (zTm (zkL s0) 0 σ) from tm_say) (fun σ1 hσ1 => ?_)
  exact zpc_some zTm.rf
noncomputable def k_fX12_sayR_39 : Nat := (k_fX12_sayR_108 1)
noncomputable def t_fX12_sayR_39 : Nat := (t_fX12_sayR_108 1)
theorem tm_fX12_sayR_39 (e : zEm i l σ) {x1 : Int32} : zpc (fX12_sayR_39 σ x1) (zTm k_fX12_sayR_39 t_fX12_sayR_39 σ) := by
  unfold fX12_sayR_39 k_fX12_sayR_39 t_fX12_sayR_39
  refine zpc_if (fun _ => ?_) (fun _ => ?_)
  · skip
    exact (show zpc (fX12_sayR_108 σ 93) (zTm (k_fX12_sayR_108 1) (t_fX12_sayR_108 1) σ) from tm_fX12_sayR_108 e)
  · skip
    refine zpc_if (fun _ => ?_) (fun _ => ?_)
    · skip
      exact (show zpc (fX12_sayR_108 σ 94) (zTm (k_fX12_sayR_108 1) (t_fX12_sayR_108 1) σ) from tm_fX12_sayR_108 e)
    · skip
      refine zpc_if (fun _ => ?_) (fun _ => ?_)
      · skip
        exact (show zpc (fX12_sayR_108 σ 95) (zTm (k_fX12_sayR_108 1) (t_fX12_sayR_108 1) σ) from tm_fX12_sayR_108 e)
      · skip
        refine zpc_if (fun _ => ?_) (fun _ => ?_)
        · skip
          exact (show zpc (fX12_sayR_108 σ 96) (zTm (k_fX12_sayR_108 1) (t_fX12_sayR_108 1) σ) from tm_fX12_sayR_108 e)
        · skip
          refine zpc_if (fun _ => ?_) (fun _ => ?_)
          · skip
            exact (show zpc (fX12_sayR_108 σ 97) (zTm (k_fX12_sayR_108 1) (t_fX12_sayR_108 1) σ) from tm_fX12_sayR_108 e)
          · skip
            refine zpc_if (fun _ => ?_) (fun _ => ?_)
            · skip
              exact (show zpc (fX12_sayR_108 σ 98) (zTm (k_fX12_sayR_108 1) (t_fX12_sayR_108 1) σ) from tm_fX12_sayR_108 e)
            · skip
              exact (show zpc (fX12_sayR_108 σ 99) (zTm (k_fX12_sayR_108 1) (t_fX12_sayR_108 1) σ) from tm_fX12_sayR_108 e)
noncomputable def k_fX12_sayR_35 : Nat := (k_fX12_sayHl + k_fX12_sayR_39)
noncomputable def t_fX12_sayR_35 : Nat := (t_fX12_sayHl + t_fX12_sayR_39)
theorem tm_fX12_sayR_35 (e : zEm i l σ) {x1 : Int32} : zpc (fX12_sayR_35 σ x1) (zTm k_fX12_sayR_35 t_fX12_sayR_35 σ) := by
  unfold fX12_sayR_35 k_fX12_sayR_35 t_fX12_sayR_35
  refine zTmb (show zpc (fX12_sayHl σ) (zTm k_fX12_sayHl t_fX12_sayHl σ) from tm_fX12_sayHl e) (fun σ2 hσ2 => ?_)
  have eσ2 := e.kp hσ2
  exact (show zpc (fX12_sayR_39 σ2 x1) (zTm k_fX12_sayR_39 t_fX12_sayR_39 σ2) from tm_fX12_sayR_39 eσ2)
noncomputable def k_fX12_sayR (i : Int32) (l : Int32) (x1 : Int32) : Nat := (if x1 = (6 : Int32) then ((k_fX12_sayPlace l) + 0) else (if i ≤ (0 : Int32) then k_fX12_sayR_39 else (if l = (0 : Int32) then (if x1 = (4 : Int32) then k_fX12_sayR_35 else (if x1 = (5 : Int32) then k_fX12_sayR_35 else k_fX12_sayR_39)) else k_fX12_sayR_39)))
noncomputable def t_fX12_sayR (i : Int32) (l : Int32) (x1 : Int32) : Nat := (if x1 = (6 : Int32) then ((t_fX12_sayPlace l) + 0) else (if i ≤ (0 : Int32) then t_fX12_sayR_39 else (if l = (0 : Int32) then (if x1 = (4 : Int32) then t_fX12_sayR_35 else (if x1 = (5 : Int32) then t_fX12_sayR_35 else t_fX12_sayR_39)) else t_fX12_sayR_39)))
theorem tm_fX12_sayR (e : zEm i l σ) {x1 : Int32} : zpc (fX12_sayR σ x1) (zTm (k_fX12_sayR i l x1) (t_fX12_sayR i l x1) σ) := by
  unfold fX12_sayR k_fX12_sayR t_fX12_sayR
  rw [show zgi σ 0 41 = i from e.1]
  rw [show zgi σ 0 42 = l from e.2]
  refine zTmif (fun _ => ?_) (fun _ => ?_)
  · skip
    refine zTmb (show zpc (fX12_sayPlace σ) (zTm (k_fX12_sayPlace l) (t_fX12_sayPlace l) σ) from tm_fX12_sayPlace e) (fun σ3 hσ3 => ?_)
    exact zpc_some zTm.rf
  · skip
    refine zTmif (fun _ => ?_) (fun _ => ?_)
    · skip
      exact (show zpc (fX12_sayR_39 σ x1) (zTm k_fX12_sayR_39 t_fX12_sayR_39 σ) from tm_fX12_sayR_39 e)
    · skip
      refine zTmif (fun _ => ?_) (fun _ => ?_)
      · skip
        refine zTmif (fun _ => ?_) (fun _ => ?_)
        · skip
          exact (show zpc (fX12_sayR_35 σ x1) (zTm k_fX12_sayR_35 t_fX12_sayR_35 σ) from tm_fX12_sayR_35 e)
        · skip
          refine zTmif (fun _ => ?_) (fun _ => ?_)
          · skip
            exact (show zpc (fX12_sayR_35 σ x1) (zTm k_fX12_sayR_35 t_fX12_sayR_35 σ) from tm_fX12_sayR_35 e)
          · skip
            exact (show zpc (fX12_sayR_39 σ x1) (zTm k_fX12_sayR_39 t_fX12_sayR_39 σ) from tm_fX12_sayR_39 e)
      · skip
        exact (show zpc (fX12_sayR_39 σ x1) (zTm k_fX12_sayR_39 t_fX12_sayR_39 σ) from tm_fX12_sayR_39 e)
noncomputable def k_fX12_sayRp_50 : Nat := 0
noncomputable def t_fX12_sayRp_50 : Nat := 0
theorem tm_fX12_sayRp_50 (e : zEm i l σ) : zpc (fX12_sayRp_50 σ ) (zTm k_fX12_sayRp_50 t_fX12_sayRp_50 σ) := by
  unfold fX12_sayRp_50 k_fX12_sayRp_50 t_fX12_sayRp_50
  exact zpc_some zTm.rf
noncomputable def k_fX12_sayRp_47 (n_s0 : Nat) : Nat := (n_s0 + k_fX12_sayRp_50)
noncomputable def t_fX12_sayRp_47 (n_s0 : Nat) : Nat := (0 + t_fX12_sayRp_50)
theorem tm_fX12_sayRp_47 (e : zEm i l σ) {s0 : Nat} : zpc (fX12_sayRp_47 σ s0) (zTm (k_fX12_sayRp_47 (zkL s0)) (t_fX12_sayRp_47 (zkL s0)) σ) := by
  unfold fX12_sayRp_47 k_fX12_sayRp_47 t_fX12_sayRp_47
  refine zTmb (show zpc (fX12_say σ s0) (zTm (zkL s0) 0 σ) from tm_say) (fun σ1 hσ1 => ?_)
  have eσ1 := e.kp hσ1
  exact (show zpc (fX12_sayRp_50 σ1) (zTm k_fX12_sayRp_50 t_fX12_sayRp_50 σ1) from tm_fX12_sayRp_50 eσ1)
noncomputable def k_fX12_sayRp (x1 : Int32) : Nat := (if x1 = (2 : Int32) then (k_fX12_sayHl + k_fX12_sayRp_50) else (k_fX12_sayRp_47 2))
noncomputable def t_fX12_sayRp (x1 : Int32) : Nat := (if x1 = (2 : Int32) then (t_fX12_sayHl + t_fX12_sayRp_50) else (t_fX12_sayRp_47 2))
theorem tm_fX12_sayRp (e : zEm i l σ) {x1 : Int32} {x2 : Int32} : zpc (fX12_sayRp σ x1 x2) (zTm (k_fX12_sayRp x1) (t_fX12_sayRp x1) σ) := by
  unfold fX12_sayRp k_fX12_sayRp t_fX12_sayRp
  refine zTmif (fun _ => ?_) (fun _ => ?_)
  · skip
    refine zTmb (show zpc (fX12_sayHl σ) (zTm k_fX12_sayHl t_fX12_sayHl σ) from tm_fX12_sayHl e) (fun σ2 hσ2 => ?_)
    have eσ2 := e.kp hσ2
    exact (show zpc (fX12_sayRp_50 σ2) (zTm k_fX12_sayRp_50 t_fX12_sayRp_50 σ2) from tm_fX12_sayRp_50 eσ2)
  · skip
    refine zpc_if (fun _ => ?_) (fun _ => ?_)
    · skip
      exact (show zpc (fX12_sayRp_47 σ 112) (zTm (k_fX12_sayRp_47 2) (t_fX12_sayRp_47 2) σ) from tm_fX12_sayRp_47 e)
    · skip
      refine zpc_if (fun _ => ?_) (fun _ => ?_)
      · skip
        exact (show zpc (fX12_sayRp_47 σ 113) (zTm (k_fX12_sayRp_47 2) (t_fX12_sayRp_47 2) σ) from tm_fX12_sayRp_47 e)
      · skip
        refine zpc_if (fun _ => ?_) (fun _ => ?_)
        · skip
          exact (show zpc (fX12_sayRp_47 σ 115) (zTm (k_fX12_sayRp_47 2) (t_fX12_sayRp_47 2) σ) from tm_fX12_sayRp_47 e)
        · skip
          exact (show zpc (fX12_sayRp_47 σ 114) (zTm (k_fX12_sayRp_47 2) (t_fX12_sayRp_47 2) σ) from tm_fX12_sayRp_47 e)
noncomputable def k_fX12_sayCc_81 (n_s0 : Nat) : Nat := (n_s0 + 0)
noncomputable def t_fX12_sayCc_81 (n_s0 : Nat) : Nat := (0 + 0)
theorem tm_fX12_sayCc_81 (e : zEm i l σ) {s0 : Nat} : zpc (fX12_sayCc_81 σ s0) (zTm (k_fX12_sayCc_81 (zkL s0)) (t_fX12_sayCc_81 (zkL s0)) σ) := by
  unfold fX12_sayCc_81 k_fX12_sayCc_81 t_fX12_sayCc_81
  refine zTmb (show zpc (fX12_say σ s0) (zTm (zkL s0) 0 σ) from tm_say) (fun σ1 hσ1 => ?_)
  exact zpc_some zTm.rf
noncomputable def k_fX12_sayCc (x1 : Int32) : Nat := (if x1 = (0 : Int32) then (k_fX12_sayCc_81 2) else (if x1 = (1 : Int32) then (k_fX12_sayCc_81 1) else (if x1 = (2 : Int32) then (k_fX12_sayCc_81 2) else (if x1 = (3 : Int32) then (k_fX12_sayCc_81 1) else (if x1 = (4 : Int32) then (k_fX12_sayCc_81 2) else (if x1 = (5 : Int32) then (k_fX12_sayCc_81 2) else (k_fX12_sayCc_81 1)))))))
noncomputable def t_fX12_sayCc (x1 : Int32) : Nat := (if x1 = (0 : Int32) then (t_fX12_sayCc_81 2) else (if x1 = (1 : Int32) then (t_fX12_sayCc_81 1) else (if x1 = (2 : Int32) then (t_fX12_sayCc_81 2) else (if x1 = (3 : Int32) then (t_fX12_sayCc_81 1) else (if x1 = (4 : Int32) then (t_fX12_sayCc_81 2) else (if x1 = (5 : Int32) then (t_fX12_sayCc_81 2) else (t_fX12_sayCc_81 1)))))))
theorem tm_fX12_sayCc (e : zEm i l σ) {x1 : Int32} : zpc (fX12_sayCc σ x1) (zTm (k_fX12_sayCc x1) (t_fX12_sayCc x1) σ) := by
  unfold fX12_sayCc k_fX12_sayCc t_fX12_sayCc
  refine zTmif (fun _ => ?_) (fun _ => ?_)
  · skip
    exact (show zpc (fX12_sayCc_81 σ 103) (zTm (k_fX12_sayCc_81 2) (t_fX12_sayCc_81 2) σ) from tm_fX12_sayCc_81 e)
  · skip
    refine zTmif (fun _ => ?_) (fun _ => ?_)
    · skip
      exact (show zpc (fX12_sayCc_81 σ 104) (zTm (k_fX12_sayCc_81 1) (t_fX12_sayCc_81 1) σ) from tm_fX12_sayCc_81 e)
    · skip
      refine zTmif (fun _ => ?_) (fun _ => ?_)
      · skip
        exact (show zpc (fX12_sayCc_81 σ 105) (zTm (k_fX12_sayCc_81 2) (t_fX12_sayCc_81 2) σ) from tm_fX12_sayCc_81 e)
      · skip
        refine zTmif (fun _ => ?_) (fun _ => ?_)
        · skip
          exact (show zpc (fX12_sayCc_81 σ 94) (zTm (k_fX12_sayCc_81 1) (t_fX12_sayCc_81 1) σ) from tm_fX12_sayCc_81 e)
        · skip
          refine zTmif (fun _ => ?_) (fun _ => ?_)
          · skip
            exact (show zpc (fX12_sayCc_81 σ 106) (zTm (k_fX12_sayCc_81 2) (t_fX12_sayCc_81 2) σ) from tm_fX12_sayCc_81 e)
          · skip
            refine zTmif (fun _ => ?_) (fun _ => ?_)
            · skip
              exact (show zpc (fX12_sayCc_81 σ 107) (zTm (k_fX12_sayCc_81 2) (t_fX12_sayCc_81 2) σ) from tm_fX12_sayCc_81 e)
            · skip
              refine zpc_if (fun _ => ?_) (fun _ => ?_)
              · skip
                exact (show zpc (fX12_sayCc_81 σ 108) (zTm (k_fX12_sayCc_81 1) (t_fX12_sayCc_81 1) σ) from tm_fX12_sayCc_81 e)
              · skip
                exact (show zpc (fX12_sayCc_81 σ 109) (zTm (k_fX12_sayCc_81 1) (t_fX12_sayCc_81 1) σ) from tm_fX12_sayCc_81 e)
noncomputable def k_fX12_sayPlaced : Nat := (1 + (4 + (1 + 0)))
noncomputable def t_fX12_sayPlaced : Nat := (0 + (0 + (0 + 0)))
theorem tm_fX12_sayPlaced (e : zEm i l σ) {x1 : Int32} : zpc (fX12_sayPlaced σ x1) (zTm k_fX12_sayPlaced t_fX12_sayPlaced σ) := by
  unfold fX12_sayPlaced k_fX12_sayPlaced t_fX12_sayPlaced
  refine zTmb (show zpc (fX12_say σ 120) (zTm 1 0 σ) from tm_say) (fun σ1 hσ1 => ?_)
  have eσ1 := e.kp hσ1
  refine zTmb (show zpc (fX12_hex σ1 x1 4) (zTm 4 0 σ1) from tm_hex4) (fun σ2 hσ2 => ?_)
  have eσ2 := eσ1.kp hσ2
  refine zTmb (show zpc (fX12_say σ2 89) (zTm 1 0 σ2) from tm_say) (fun σ3 hσ3 => ?_)
  exact zpc_some zTm.rf
noncomputable def k_fX12_sayJump : Nat := (0 + (0 + (4 + 0)))
noncomputable def t_fX12_sayJump : Nat := (1 + (0 + (0 + 0)))
theorem tm_fX12_sayJump (e : zEm i l σ) : zpc (fX12_sayJump σ ) (zTm k_fX12_sayJump t_fX12_sayJump σ) := by
  unfold fX12_sayJump k_fX12_sayJump t_fX12_sayJump
  refine zTmi (show zpc (fX12_taken σ) (fun r => zTm 0 1 σ r.1) from tm_taken) (fun σ1 v2 hσ1 => ?_)
  have eσ1 := e.kp hσ1
  refine zTmi (show zpc (fX12_signed σ1 v2) (fun r => zTm 0 0 σ1 r.1) from tm_signed) (fun σ3 v4 hσ3 => ?_)
  have eσ3 := eσ1.kp hσ3
  refine zTmb (show zpc (fX12_hex σ3 (((zgi σ3 0 40) + v4) &&& 65535) 4) (zTm 4 0 σ3) from tm_hex4) (fun σ5 hσ5 => ?_)
  exact zpc_some zTm.rf
noncomputable def k_fX12_sayDo_81 (n_s0 : Nat) : Nat := (n_s0 + 0)
noncomputable def t_fX12_sayDo_81 (n_s0 : Nat) : Nat := (0 + 0)
theorem tm_fX12_sayDo_81 (e : zEm i l σ) {s0 : Nat} : zpc (fX12_sayDo_81 σ s0) (zTm (k_fX12_sayDo_81 (zkL s0)) (t_fX12_sayDo_81 (zkL s0)) σ) := by
  unfold fX12_sayDo_81 k_fX12_sayDo_81 t_fX12_sayDo_81
  refine zTmb (show zpc (fX12_say σ s0) (zTm (zkL s0) 0 σ) from tm_say) (fun σ1 hσ1 => ?_)
  exact zpc_some zTm.rf
noncomputable def k_fX12_sayDo (x1 : Int32) : Nat := (if x1 = (0 : Int32) then (k_fX12_sayDo_81 4) else (if x1 = (1 : Int32) then (k_fX12_sayDo_81 4) else (if x1 = (2 : Int32) then (k_fX12_sayDo_81 4) else (if x1 = (3 : Int32) then (k_fX12_sayDo_81 4) else (if x1 = (4 : Int32) then (k_fX12_sayDo_81 4) else (if x1 = (5 : Int32) then (k_fX12_sayDo_81 4) else (k_fX12_sayDo_81 3)))))))
noncomputable def t_fX12_sayDo (x1 : Int32) : Nat := (if x1 = (0 : Int32) then (t_fX12_sayDo_81 4) else (if x1 = (1 : Int32) then (t_fX12_sayDo_81 4) else (if x1 = (2 : Int32) then (t_fX12_sayDo_81 4) else (if x1 = (3 : Int32) then (t_fX12_sayDo_81 4) else (if x1 = (4 : Int32) then (t_fX12_sayDo_81 4) else (if x1 = (5 : Int32) then (t_fX12_sayDo_81 4) else (t_fX12_sayDo_81 3)))))))
theorem tm_fX12_sayDo (e : zEm i l σ) {x1 : Int32} : zpc (fX12_sayDo σ x1) (zTm (k_fX12_sayDo x1) (t_fX12_sayDo x1) σ) := by
  unfold fX12_sayDo k_fX12_sayDo t_fX12_sayDo
  refine zTmif (fun _ => ?_) (fun _ => ?_)
  · skip
    exact (show zpc (fX12_sayDo_81 σ 110) (zTm (k_fX12_sayDo_81 4) (t_fX12_sayDo_81 4) σ) from tm_fX12_sayDo_81 e)
  · skip
    refine zTmif (fun _ => ?_) (fun _ => ?_)
    · skip
      exact (show zpc (fX12_sayDo_81 σ 130) (zTm (k_fX12_sayDo_81 4) (t_fX12_sayDo_81 4) σ) from tm_fX12_sayDo_81 e)
    · skip
      refine zTmif (fun _ => ?_) (fun _ => ?_)
      · skip
        exact (show zpc (fX12_sayDo_81 σ 131) (zTm (k_fX12_sayDo_81 4) (t_fX12_sayDo_81 4) σ) from tm_fX12_sayDo_81 e)
      · skip
        refine zTmif (fun _ => ?_) (fun _ => ?_)
        · skip
          exact (show zpc (fX12_sayDo_81 σ 132) (zTm (k_fX12_sayDo_81 4) (t_fX12_sayDo_81 4) σ) from tm_fX12_sayDo_81 e)
        · skip
          refine zTmif (fun _ => ?_) (fun _ => ?_)
          · skip
            exact (show zpc (fX12_sayDo_81 σ 133) (zTm (k_fX12_sayDo_81 4) (t_fX12_sayDo_81 4) σ) from tm_fX12_sayDo_81 e)
          · skip
            refine zTmif (fun _ => ?_) (fun _ => ?_)
            · skip
              exact (show zpc (fX12_sayDo_81 σ 134) (zTm (k_fX12_sayDo_81 4) (t_fX12_sayDo_81 4) σ) from tm_fX12_sayDo_81 e)
            · skip
              refine zpc_if (fun _ => ?_) (fun _ => ?_)
              · skip
                exact (show zpc (fX12_sayDo_81 σ 135) (zTm (k_fX12_sayDo_81 3) (t_fX12_sayDo_81 3) σ) from tm_fX12_sayDo_81 e)
              · skip
                exact (show zpc (fX12_sayDo_81 σ 136) (zTm (k_fX12_sayDo_81 3) (t_fX12_sayDo_81 3) σ) from tm_fX12_sayDo_81 e)
noncomputable def k_fX12_sayTurn_146 (i : Int32) (l : Int32) (x1 : Int32) : Nat := ((k_fX12_sayR i l (x1 &&& (7 : Int32))) + 0)
noncomputable def t_fX12_sayTurn_146 (i : Int32) (l : Int32) (x1 : Int32) : Nat := ((t_fX12_sayR i l (x1 &&& (7 : Int32))) + 0)
theorem tm_fX12_sayTurn_146 (e : zEm i l σ) {x1 : Int32} : zpc (fX12_sayTurn_146 σ x1) (zTm (k_fX12_sayTurn_146 i l x1) (t_fX12_sayTurn_146 i l x1) σ) := by
  unfold fX12_sayTurn_146 k_fX12_sayTurn_146 t_fX12_sayTurn_146
  refine zTmb (show zpc (fX12_sayR σ (x1 &&& 7)) (zTm (k_fX12_sayR i l (x1 &&& (7 : Int32))) (t_fX12_sayR i l (x1 &&& (7 : Int32))) σ) from tm_fX12_sayR e) (fun σ1 hσ1 => ?_)
  exact zpc_some zTm.rf
noncomputable def k_fX12_sayTurn_94 (i : Int32) (l : Int32) (x1 : Int32) (n_s0 : Nat) : Nat := (n_s0 + (k_fX12_sayTurn_146 i l x1))
noncomputable def t_fX12_sayTurn_94 (i : Int32) (l : Int32) (x1 : Int32) (n_s0 : Nat) : Nat := (0 + (t_fX12_sayTurn_146 i l x1))
theorem tm_fX12_sayTurn_94 (e : zEm i l σ) {x1 : Int32} {s0 : Nat} : zpc (fX12_sayTurn_94 σ x1 s0) (zTm (k_fX12_sayTurn_94 i l x1 (zkL s0)) (t_fX12_sayTurn_94 i l x1 (zkL s0)) σ) := by
  unfold fX12_sayTurn_94 k_fX12_sayTurn_94 t_fX12_sayTurn_94
  refine zTmb (show zpc (fX12_say σ s0) (zTm (zkL s0) 0 σ) from tm_say) (fun σ2 hσ2 => ?_)
  have eσ2 := e.kp hσ2
  exact (show zpc (fX12_sayTurn_146 σ2 x1) (zTm (k_fX12_sayTurn_146 i l x1) (t_fX12_sayTurn_146 i l x1) σ2) from tm_fX12_sayTurn_146 eσ2)
noncomputable def k_fX12_sayTurn_130 (i : Int32) (l : Int32) (x1 : Int32) (n_s0 : Nat) : Nat := (n_s0 + (1 + (1 + (k_fX12_sayTurn_146 i l x1))))
noncomputable def t_fX12_sayTurn_130 (i : Int32) (l : Int32) (x1 : Int32) (n_s0 : Nat) : Nat := (0 + (0 + (0 + (t_fX12_sayTurn_146 i l x1))))
theorem tm_fX12_sayTurn_130 (e : zEm i l σ) {x1 : Int32} {x2 : Int32} {s0 : Nat} : zpc (fX12_sayTurn_130 σ x1 x2 s0) (zTm (k_fX12_sayTurn_130 i l x1 (zkL s0)) (t_fX12_sayTurn_130 i l x1 (zkL s0)) σ) := by
  unfold fX12_sayTurn_130 k_fX12_sayTurn_130 t_fX12_sayTurn_130
  refine zTmb (show zpc (fX12_say σ s0) (zTm (zkL s0) 0 σ) from tm_say) (fun σ3 hσ3 => ?_)
  have eσ3 := e.kp hσ3
  refine zTmb (show zpc (fX12_hex σ3 x2 1) (zTm 1 0 σ3) from tm_hex1) (fun σ4 hσ4 => ?_)
  have eσ4 := eσ3.kp hσ4
  refine zTmb (show zpc (fX12_say σ4 83) (zTm 1 0 σ4) from tm_say) (fun σ5 hσ5 => ?_)
  have eσ5 := eσ4.kp hσ5
  exact (show zpc (fX12_sayTurn_146 σ5 x1) (zTm (k_fX12_sayTurn_146 i l x1) (t_fX12_sayTurn_146 i l x1) σ5) from tm_fX12_sayTurn_146 eσ5)
noncomputable def k_fX12_sayTurn (i : Int32) (l : Int32) (x1 : Int32) : Nat := (if (64 : Int32) ≤ x1 then (k_fX12_sayTurn_130 i l x1 4) else (if ((x1 >>> ((3 : Int32) &&& (31 : Int32))) &&& (7 : Int32)) = (0 : Int32) then (k_fX12_sayTurn_94 i l x1 4) else (if ((x1 >>> ((3 : Int32) &&& (31 : Int32))) &&& (7 : Int32)) = (1 : Int32) then (k_fX12_sayTurn_94 i l x1 4) else (if ((x1 >>> ((3 : Int32) &&& (31 : Int32))) &&& (7 : Int32)) = (2 : Int32) then (k_fX12_sayTurn_94 i l x1 3) else (if ((x1 >>> ((3 : Int32) &&& (31 : Int32))) &&& (7 : Int32)) = (3 : Int32) then (k_fX12_sayTurn_94 i l x1 3) else (k_fX12_sayTurn_94 i l x1 4))))))
noncomputable def t_fX12_sayTurn (i : Int32) (l : Int32) (x1 : Int32) : Nat := (if (64 : Int32) ≤ x1 then (t_fX12_sayTurn_130 i l x1 4) else (if ((x1 >>> ((3 : Int32) &&& (31 : Int32))) &&& (7 : Int32)) = (0 : Int32) then (t_fX12_sayTurn_94 i l x1 4) else (if ((x1 >>> ((3 : Int32) &&& (31 : Int32))) &&& (7 : Int32)) = (1 : Int32) then (t_fX12_sayTurn_94 i l x1 4) else (if ((x1 >>> ((3 : Int32) &&& (31 : Int32))) &&& (7 : Int32)) = (2 : Int32) then (t_fX12_sayTurn_94 i l x1 3) else (if ((x1 >>> ((3 : Int32) &&& (31 : Int32))) &&& (7 : Int32)) = (3 : Int32) then (t_fX12_sayTurn_94 i l x1 3) else (t_fX12_sayTurn_94 i l x1 4))))))
theorem tm_fX12_sayTurn (e : zEm i l σ) {x1 : Int32} : zpc (fX12_sayTurn σ x1) (zTm (k_fX12_sayTurn i l x1) (t_fX12_sayTurn i l x1) σ) := by
  unfold fX12_sayTurn k_fX12_sayTurn t_fX12_sayTurn
  refine zpc_bv (fun v6 ev6 => ?_)
  subst ev6
  refine zTmif (fun _ => ?_) (fun _ => ?_)
  · skip
    refine zpc_if (fun _ => ?_) (fun _ => ?_)
    · skip
      refine zpc_if (fun _ => ?_) (fun _ => ?_)
      · skip
        exact (show zpc (fX12_sayTurn_130 σ x1 ((x1 >>> ((3 : Int32) &&& 31)) &&& 7) 82) (zTm (k_fX12_sayTurn_130 i l x1 4) (t_fX12_sayTurn_130 i l x1 4) σ) from tm_fX12_sayTurn_130 e)
      · skip
        exact (show zpc (fX12_sayTurn_130 σ x1 ((x1 >>> ((3 : Int32) &&& 31)) &&& 7) 81) (zTm (k_fX12_sayTurn_130 i l x1 4) (t_fX12_sayTurn_130 i l x1 4) σ) from tm_fX12_sayTurn_130 e)
    · skip
      exact (show zpc (fX12_sayTurn_130 σ x1 ((x1 >>> ((3 : Int32) &&& 31)) &&& 7) 80) (zTm (k_fX12_sayTurn_130 i l x1 4) (t_fX12_sayTurn_130 i l x1 4) σ) from tm_fX12_sayTurn_130 e)
  · skip
    refine zTmif (fun _ => ?_) (fun _ => ?_)
    · skip
      exact (show zpc (fX12_sayTurn_94 σ x1 72) (zTm (k_fX12_sayTurn_94 i l x1 4) (t_fX12_sayTurn_94 i l x1 4) σ) from tm_fX12_sayTurn_94 e)
    · skip
      refine zTmif (fun _ => ?_) (fun _ => ?_)
      · skip
        exact (show zpc (fX12_sayTurn_94 σ x1 73) (zTm (k_fX12_sayTurn_94 i l x1 4) (t_fX12_sayTurn_94 i l x1 4) σ) from tm_fX12_sayTurn_94 e)
      · skip
        refine zTmif (fun _ => ?_) (fun _ => ?_)
        · skip
          exact (show zpc (fX12_sayTurn_94 σ x1 74) (zTm (k_fX12_sayTurn_94 i l x1 3) (t_fX12_sayTurn_94 i l x1 3) σ) from tm_fX12_sayTurn_94 e)
        · skip
          refine zTmif (fun _ => ?_) (fun _ => ?_)
          · skip
            exact (show zpc (fX12_sayTurn_94 σ x1 75) (zTm (k_fX12_sayTurn_94 i l x1 3) (t_fX12_sayTurn_94 i l x1 3) σ) from tm_fX12_sayTurn_94 e)
          · skip
            refine zpc_if (fun _ => ?_) (fun _ => ?_)
            · skip
              exact (show zpc (fX12_sayTurn_94 σ x1 76) (zTm (k_fX12_sayTurn_94 i l x1 4) (t_fX12_sayTurn_94 i l x1 4) σ) from tm_fX12_sayTurn_94 e)
            · skip
              refine zpc_if (fun _ => ?_) (fun _ => ?_)
              · skip
                exact (show zpc (fX12_sayTurn_94 σ x1 77) (zTm (k_fX12_sayTurn_94 i l x1 4) (t_fX12_sayTurn_94 i l x1 4) σ) from tm_fX12_sayTurn_94 e)
              · skip
                refine zpc_if (fun _ => ?_) (fun _ => ?_)
                · skip
                  exact (show zpc (fX12_sayTurn_94 σ x1 78) (zTm (k_fX12_sayTurn_94 i l x1 4) (t_fX12_sayTurn_94 i l x1 4) σ) from tm_fX12_sayTurn_94 e)
                · skip
                  exact (show zpc (fX12_sayTurn_94 σ x1 79) (zTm (k_fX12_sayTurn_94 i l x1 4) (t_fX12_sayTurn_94 i l x1 4) σ) from tm_fX12_sayTurn_94 e)
noncomputable def k_fX12_sayZero_301 : Nat := 0
noncomputable def t_fX12_sayZero_301 : Nat := 0
theorem tm_fX12_sayZero_301 (e : zEm i l σ) : zpc (fX12_sayZero_301 σ ) (zTm k_fX12_sayZero_301 t_fX12_sayZero_301 σ) := by
  unfold fX12_sayZero_301 k_fX12_sayZero_301 t_fX12_sayZero_301
  exact zpc_some zTm.rf
noncomputable def k_fX12_sayZero_80 (x1 : Int32) : Nat := (if x1 ≤ (1 : Int32) then k_fX12_sayZero_301 else (k_fX12_sayJump + k_fX12_sayZero_301))
noncomputable def t_fX12_sayZero_80 (x1 : Int32) : Nat := (if x1 ≤ (1 : Int32) then t_fX12_sayZero_301 else (t_fX12_sayJump + t_fX12_sayZero_301))
theorem tm_fX12_sayZero_80 (e : zEm i l σ) {x1 : Int32} : zpc (fX12_sayZero_80 σ x1) (zTm (k_fX12_sayZero_80 x1) (t_fX12_sayZero_80 x1) σ) := by
  unfold fX12_sayZero_80 k_fX12_sayZero_80 t_fX12_sayZero_80
  refine zTmif (fun _ => ?_) (fun _ => ?_)
  · skip
    exact (show zpc (fX12_sayZero_301 σ) (zTm k_fX12_sayZero_301 t_fX12_sayZero_301 σ) from tm_fX12_sayZero_301 e)
  · skip
    refine zTmb (show zpc (fX12_sayJump σ) (zTm k_fX12_sayJump t_fX12_sayJump σ) from tm_fX12_sayJump e) (fun σ1 hσ1 => ?_)
    have eσ1 := e.kp hσ1
    exact (show zpc (fX12_sayZero_301 σ1) (zTm k_fX12_sayZero_301 t_fX12_sayZero_301 σ1) from tm_fX12_sayZero_301 eσ1)
noncomputable def k_fX12_sayZero_58 (x1 : Int32) (n_s0 : Nat) : Nat := (n_s0 + (if x1 ≤ (3 : Int32) then (k_fX12_sayZero_80 x1) else ((k_fX12_sayCc (x1 - (4 : Int32))) + (1 + (k_fX12_sayZero_80 x1)))))
noncomputable def t_fX12_sayZero_58 (x1 : Int32) (n_s0 : Nat) : Nat := (0 + (if x1 ≤ (3 : Int32) then (t_fX12_sayZero_80 x1) else ((t_fX12_sayCc (x1 - (4 : Int32))) + (0 + (t_fX12_sayZero_80 x1)))))
theorem tm_fX12_sayZero_58 (e : zEm i l σ) {x1 : Int32} {s0 : Nat} : zpc (fX12_sayZero_58 σ x1 s0) (zTm (k_fX12_sayZero_58 x1 (zkL s0)) (t_fX12_sayZero_58 x1 (zkL s0)) σ) := by
  unfold fX12_sayZero_58 k_fX12_sayZero_58 t_fX12_sayZero_58
  refine zTmb (show zpc (fX12_say σ s0) (zTm (zkL s0) 0 σ) from tm_say) (fun σ2 hσ2 => ?_)
  have eσ2 := e.kp hσ2
  refine zTmif (fun _ => ?_) (fun _ => ?_)
  · skip
    exact (show zpc (fX12_sayZero_80 σ2 x1) (zTm (k_fX12_sayZero_80 x1) (t_fX12_sayZero_80 x1) σ2) from tm_fX12_sayZero_80 eσ2)
  · skip
    refine zTmb (show zpc (fX12_sayCc σ2 (x1 - 4)) (zTm (k_fX12_sayCc (x1 - (4 : Int32))) (t_fX12_sayCc (x1 - (4 : Int32))) σ2) from tm_fX12_sayCc eσ2) (fun σ3 hσ3 => ?_)
    have eσ3 := eσ2.kp hσ3
    refine zTmb (show zpc (fX12_say σ3 83) (zTm 1 0 σ3) from tm_say) (fun σ4 hσ4 => ?_)
    have eσ4 := eσ3.kp hσ4
    exact (show zpc (fX12_sayZero_80 σ4 x1) (zTm (k_fX12_sayZero_80 x1) (t_fX12_sayZero_80 x1) σ4) from tm_fX12_sayZero_80 eσ4)
noncomputable def k_fX12_sayZero_133 (x3 : Int32) (x4 : Int32) : Nat := (1 + (if x4 = (0 : Int32) then (0 + (4 + k_fX12_sayZero_301)) else ((k_fX12_sayRp x3) + k_fX12_sayZero_301)))
noncomputable def t_fX12_sayZero_133 (x3 : Int32) (x4 : Int32) : Nat := (0 + (if x4 = (0 : Int32) then (2 + (0 + t_fX12_sayZero_301)) else ((t_fX12_sayRp x3) + t_fX12_sayZero_301)))
theorem tm_fX12_sayZero_133 (e : zEm i l σ) {x3 : Int32} {x4 : Int32} : zpc (fX12_sayZero_133 σ x3 x4) (zTm (k_fX12_sayZero_133 x3 x4) (t_fX12_sayZero_133 x3 x4) σ) := by
  unfold fX12_sayZero_133 k_fX12_sayZero_133 t_fX12_sayZero_133
  refine zTmb (show zpc (fX12_say σ 83) (zTm 1 0 σ) from tm_say) (fun σ5 hσ5 => ?_)
  have eσ5 := e.kp hσ5
  refine zTmif (fun _ => ?_) (fun _ => ?_)
  · skip
    refine zTmi (show zpc (fX12_takenWord σ5) (fun r => zTm 0 2 σ5 r.1) from tm_word) (fun σ6 v7 hσ6 => ?_)
    have eσ6 := eσ5.kp hσ6
    refine zTmb (show zpc (fX12_hex σ6 v7 4) (zTm 4 0 σ6) from tm_hex4) (fun σ8 hσ8 => ?_)
    have eσ8 := eσ6.kp hσ8
    exact (show zpc (fX12_sayZero_301 σ8) (zTm k_fX12_sayZero_301 t_fX12_sayZero_301 σ8) from tm_fX12_sayZero_301 eσ8)
  · skip
    refine zTmb (show zpc (fX12_sayRp σ5 x3 0) (zTm (k_fX12_sayRp x3) (t_fX12_sayRp x3) σ5) from tm_fX12_sayRp eσ5) (fun σ9 hσ9 => ?_)
    have eσ9 := eσ5.kp hσ9
    exact (show zpc (fX12_sayZero_301 σ9) (zTm k_fX12_sayZero_301 t_fX12_sayZero_301 σ9) from tm_fX12_sayZero_301 eσ9)
noncomputable def k_fX12_sayZero_112 (x3 : Int32) (x4 : Int32) (n_s0 : Nat) : Nat := (n_s0 + (if x4 = (0 : Int32) then ((k_fX12_sayRp x3) + (k_fX12_sayZero_133 x3 x4)) else (k_fX12_sayHl + (k_fX12_sayZero_133 x3 x4))))
noncomputable def t_fX12_sayZero_112 (x3 : Int32) (x4 : Int32) (n_s0 : Nat) : Nat := (0 + (if x4 = (0 : Int32) then ((t_fX12_sayRp x3) + (t_fX12_sayZero_133 x3 x4)) else (t_fX12_sayHl + (t_fX12_sayZero_133 x3 x4))))
theorem tm_fX12_sayZero_112 (e : zEm i l σ) {x3 : Int32} {x4 : Int32} {s0 : Nat} : zpc (fX12_sayZero_112 σ x3 x4 s0) (zTm (k_fX12_sayZero_112 x3 x4 (zkL s0)) (t_fX12_sayZero_112 x3 x4 (zkL s0)) σ) := by
  unfold fX12_sayZero_112 k_fX12_sayZero_112 t_fX12_sayZero_112
  refine zTmb (show zpc (fX12_say σ s0) (zTm (zkL s0) 0 σ) from tm_say) (fun σ10 hσ10 => ?_)
  have eσ10 := e.kp hσ10
  refine zTmif (fun _ => ?_) (fun _ => ?_)
  · skip
    refine zTmb (show zpc (fX12_sayRp σ10 x3 0) (zTm (k_fX12_sayRp x3) (t_fX12_sayRp x3) σ10) from tm_fX12_sayRp eσ10) (fun σ11 hσ11 => ?_)
    have eσ11 := eσ10.kp hσ11
    exact (show zpc (fX12_sayZero_133 σ11 x3 x4) (zTm (k_fX12_sayZero_133 x3 x4) (t_fX12_sayZero_133 x3 x4) σ11) from tm_fX12_sayZero_133 eσ11)
  · skip
    refine zTmb (show zpc (fX12_sayHl σ10) (zTm k_fX12_sayHl t_fX12_sayHl σ10) from tm_fX12_sayHl eσ10) (fun σ12 hσ12 => ?_)
    have eσ12 := eσ10.kp hσ12
    exact (show zpc (fX12_sayZero_133 σ12 x3 x4) (zTm (k_fX12_sayZero_133 x3 x4) (t_fX12_sayZero_133 x3 x4) σ12) from tm_fX12_sayZero_133 eσ12)
noncomputable def k_fX12_sayZero_186 (x3 : Int32) (n_s0 : Nat) : Nat := (n_s0 + ((k_fX12_sayRp x3) + k_fX12_sayZero_301))
noncomputable def t_fX12_sayZero_186 (x3 : Int32) (n_s0 : Nat) : Nat := (0 + ((t_fX12_sayRp x3) + t_fX12_sayZero_301))
theorem tm_fX12_sayZero_186 (e : zEm i l σ) {x3 : Int32} {s0 : Nat} : zpc (fX12_sayZero_186 σ x3 s0) (zTm (k_fX12_sayZero_186 x3 (zkL s0)) (t_fX12_sayZero_186 x3 (zkL s0)) σ) := by
  unfold fX12_sayZero_186 k_fX12_sayZero_186 t_fX12_sayZero_186
  refine zTmb (show zpc (fX12_say σ s0) (zTm (zkL s0) 0 σ) from tm_say) (fun σ13 hσ13 => ?_)
  have eσ13 := e.kp hσ13
  refine zTmb (show zpc (fX12_sayRp σ13 x3 0) (zTm (k_fX12_sayRp x3) (t_fX12_sayRp x3) σ13) from tm_fX12_sayRp eσ13) (fun σ14 hσ14 => ?_)
  have eσ14 := eσ13.kp hσ14
  exact (show zpc (fX12_sayZero_301 σ14) (zTm k_fX12_sayZero_301 t_fX12_sayZero_301 σ14) from tm_fX12_sayZero_301 eσ14)
noncomputable def k_fX12_sayZero_269 (x3 : Int32) (x4 : Int32) : Nat := (if x4 = (0 : Int32) then (1 + (if x3 = (2 : Int32) then (k_fX12_sayHl + k_fX12_sayZero_301) else (1 + k_fX12_sayZero_301))) else 0)
noncomputable def t_fX12_sayZero_269 (x3 : Int32) (x4 : Int32) : Nat := (if x4 = (0 : Int32) then (0 + (if x3 = (2 : Int32) then (t_fX12_sayHl + t_fX12_sayZero_301) else (0 + t_fX12_sayZero_301))) else 0)
theorem tm_fX12_sayZero_269 (e : zEm i l σ) {x3 : Int32} {x4 : Int32} : zpc (fX12_sayZero_269 σ x3 x4) (zTm (k_fX12_sayZero_269 x3 x4) (t_fX12_sayZero_269 x3 x4) σ) := by
  unfold fX12_sayZero_269 k_fX12_sayZero_269 t_fX12_sayZero_269
  refine zTmif (fun _ => ?_) (fun _ => ?_)
  · skip
    refine zTmb (show zpc (fX12_say σ 83) (zTm 1 0 σ) from tm_say) (fun σ15 hσ15 => ?_)
    have eσ15 := e.kp hσ15
    refine zTmif (fun _ => ?_) (fun _ => ?_)
    · skip
      refine zTmb (show zpc (fX12_sayHl σ15) (zTm k_fX12_sayHl t_fX12_sayHl σ15) from tm_fX12_sayHl eσ15) (fun σ17 hσ17 => ?_)
      have eσ17 := eσ15.kp hσ17
      exact (show zpc (fX12_sayZero_301 σ17) (zTm k_fX12_sayZero_301 t_fX12_sayZero_301 σ17) from tm_fX12_sayZero_301 eσ17)
    · skip
      refine zTmb (show zpc (fX12_say σ15 99) (zTm 1 0 σ15) from tm_say) (fun σ16 hσ16 => ?_)
      have eσ16 := eσ15.kp hσ16
      exact (show zpc (fX12_sayZero_301 σ16) (zTm k_fX12_sayZero_301 t_fX12_sayZero_301 σ16) from tm_fX12_sayZero_301 eσ16)
  · skip
    exact zpc_some zTm.rf
noncomputable def k_fX12_sayZero_255 (x3 : Int32) (x4 : Int32) (n_s0 : Nat) : Nat := (n_s0 + (k_fX12_sayZero_269 x3 x4))
noncomputable def t_fX12_sayZero_255 (x3 : Int32) (x4 : Int32) (n_s0 : Nat) : Nat := (0 + (t_fX12_sayZero_269 x3 x4))
theorem tm_fX12_sayZero_255 (e : zEm i l σ) {x3 : Int32} {x4 : Int32} {s0 : Nat} : zpc (fX12_sayZero_255 σ x3 x4 s0) (zTm (k_fX12_sayZero_255 x3 x4 (zkL s0)) (t_fX12_sayZero_255 x3 x4 (zkL s0)) σ) := by
  unfold fX12_sayZero_255 k_fX12_sayZero_255 t_fX12_sayZero_255
  refine zTmb (show zpc (fX12_say σ s0) (zTm (zkL s0) 0 σ) from tm_say) (fun σ18 hσ18 => ?_)
  have eσ18 := e.kp hσ18
  exact (show zpc (fX12_sayZero_269 σ18 x3 x4) (zTm (k_fX12_sayZero_269 x3 x4) (t_fX12_sayZero_269 x3 x4) σ18) from tm_fX12_sayZero_269 eσ18)
noncomputable def k_fX12_sayZero_236 (x3 : Int32) (x4 : Int32) : Nat := (if (2 : Int32) ≤ x3 then (0 + (k_fX12_sayPlaced + (k_fX12_sayZero_269 x3 x4))) else (k_fX12_sayZero_255 x3 x4 4))
noncomputable def t_fX12_sayZero_236 (x3 : Int32) (x4 : Int32) : Nat := (if (2 : Int32) ≤ x3 then (2 + (t_fX12_sayPlaced + (t_fX12_sayZero_269 x3 x4))) else (t_fX12_sayZero_255 x3 x4 4))
theorem tm_fX12_sayZero_236 (e : zEm i l σ) {x3 : Int32} {x4 : Int32} : zpc (fX12_sayZero_236 σ x3 x4) (zTm (k_fX12_sayZero_236 x3 x4) (t_fX12_sayZero_236 x3 x4) σ) := by
  unfold fX12_sayZero_236 k_fX12_sayZero_236 t_fX12_sayZero_236
  refine zTmif (fun _ => ?_) (fun _ => ?_)
  · skip
    refine zTmi (show zpc (fX12_takenWord σ) (fun r => zTm 0 2 σ r.1) from tm_word) (fun σ19 v20 hσ19 => ?_)
    have eσ19 := e.kp hσ19
    refine zTmb (show zpc (fX12_sayPlaced σ19 v20) (zTm k_fX12_sayPlaced t_fX12_sayPlaced σ19) from tm_fX12_sayPlaced eσ19) (fun σ21 hσ21 => ?_)
    have eσ21 := eσ19.kp hσ21
    exact (show zpc (fX12_sayZero_269 σ21 x3 x4) (zTm (k_fX12_sayZero_269 x3 x4) (t_fX12_sayZero_269 x3 x4) σ21) from tm_fX12_sayZero_269 eσ21)
  · skip
    refine zpc_if (fun _ => ?_) (fun _ => ?_)
    · skip
      exact (show zpc (fX12_sayZero_255 σ x3 x4 118) (zTm (k_fX12_sayZero_255 x3 x4 4) (t_fX12_sayZero_255 x3 x4 4) σ) from tm_fX12_sayZero_255 e)
    · skip
      exact (show zpc (fX12_sayZero_255 σ x3 x4 119) (zTm (k_fX12_sayZero_255 x3 x4 4) (t_fX12_sayZero_255 x3 x4 4) σ) from tm_fX12_sayZero_255 e)
noncomputable def k_fX12_sayZero_229 (x3 : Int32) (x4 : Int32) : Nat := (1 + (k_fX12_sayZero_236 x3 x4))
noncomputable def t_fX12_sayZero_229 (x3 : Int32) (x4 : Int32) : Nat := (0 + (t_fX12_sayZero_236 x3 x4))
theorem tm_fX12_sayZero_229 (e : zEm i l σ) {x3 : Int32} {x4 : Int32} : zpc (fX12_sayZero_229 σ x3 x4) (zTm (k_fX12_sayZero_229 x3 x4) (t_fX12_sayZero_229 x3 x4) σ) := by
  unfold fX12_sayZero_229 k_fX12_sayZero_229 t_fX12_sayZero_229
  refine zTmb (show zpc (fX12_say σ 83) (zTm 1 0 σ) from tm_say) (fun σ22 hσ22 => ?_)
  have eσ22 := e.kp hσ22
  exact (show zpc (fX12_sayZero_236 σ22 x3 x4) (zTm (k_fX12_sayZero_236 x3 x4) (t_fX12_sayZero_236 x3 x4) σ22) from tm_fX12_sayZero_236 eσ22)
noncomputable def k_fX12_sayZero_16 (x1 : Int32) (x2 : Int32) (x3 : Int32) (s0 : Int32) : Nat := (if x2 = (0 : Int32) then (if x1 = (0 : Int32) then (k_fX12_sayZero_58 x1 3) else (if x1 = (1 : Int32) then (k_fX12_sayZero_58 x1 9) else (if x1 = (2 : Int32) then (k_fX12_sayZero_58 x1 5) else (k_fX12_sayZero_58 x1 3)))) else (if x2 = (1 : Int32) then (if s0 = (0 : Int32) then (k_fX12_sayZero_112 x3 s0 3) else (k_fX12_sayZero_112 x3 s0 4)) else (if x2 = (3 : Int32) then (k_fX12_sayZero_186 x3 4) else (3 + (if s0 = (0 : Int32) then (k_fX12_sayZero_236 x3 s0) else (if x3 = (2 : Int32) then (k_fX12_sayHl + (k_fX12_sayZero_229 x3 s0)) else (1 + (k_fX12_sayZero_229 x3 s0))))))))
noncomputable def t_fX12_sayZero_16 (x1 : Int32) (x2 : Int32) (x3 : Int32) (s0 : Int32) : Nat := (if x2 = (0 : Int32) then (if x1 = (0 : Int32) then (t_fX12_sayZero_58 x1 3) else (if x1 = (1 : Int32) then (t_fX12_sayZero_58 x1 9) else (if x1 = (2 : Int32) then (t_fX12_sayZero_58 x1 5) else (t_fX12_sayZero_58 x1 3)))) else (if x2 = (1 : Int32) then (if s0 = (0 : Int32) then (t_fX12_sayZero_112 x3 s0 3) else (t_fX12_sayZero_112 x3 s0 4)) else (if x2 = (3 : Int32) then (t_fX12_sayZero_186 x3 4) else (0 + (if s0 = (0 : Int32) then (t_fX12_sayZero_236 x3 s0) else (if x3 = (2 : Int32) then (t_fX12_sayHl + (t_fX12_sayZero_229 x3 s0)) else (0 + (t_fX12_sayZero_229 x3 s0))))))))
theorem tm_fX12_sayZero_16 (e : zEm i l σ) {x1 : Int32} {x2 : Int32} {x3 : Int32} {s0 : Int32} : zpc (fX12_sayZero_16 σ x1 x2 x3 s0) (zTm (k_fX12_sayZero_16 x1 x2 x3 s0) (t_fX12_sayZero_16 x1 x2 x3 s0) σ) := by
  unfold fX12_sayZero_16 k_fX12_sayZero_16 t_fX12_sayZero_16
  refine zTmif (fun _ => ?_) (fun _ => ?_)
  · skip
    refine zTmif (fun _ => ?_) (fun _ => ?_)
    · skip
      exact (show zpc (fX12_sayZero_58 σ x1 71) (zTm (k_fX12_sayZero_58 x1 3) (t_fX12_sayZero_58 x1 3) σ) from tm_fX12_sayZero_58 e)
    · skip
      refine zTmif (fun _ => ?_) (fun _ => ?_)
      · skip
        exact (show zpc (fX12_sayZero_58 σ x1 100) (zTm (k_fX12_sayZero_58 x1 9) (t_fX12_sayZero_58 x1 9) σ) from tm_fX12_sayZero_58 e)
      · skip
        refine zTmif (fun _ => ?_) (fun _ => ?_)
        · skip
          exact (show zpc (fX12_sayZero_58 σ x1 101) (zTm (k_fX12_sayZero_58 x1 5) (t_fX12_sayZero_58 x1 5) σ) from tm_fX12_sayZero_58 e)
        · skip
          exact (show zpc (fX12_sayZero_58 σ x1 102) (zTm (k_fX12_sayZero_58 x1 3) (t_fX12_sayZero_58 x1 3) σ) from tm_fX12_sayZero_58 e)
  · skip
    refine zTmif (fun _ => ?_) (fun _ => ?_)
    · skip
      refine zTmif (fun _ => ?_) (fun _ => ?_)
      · skip
        exact (show zpc (fX12_sayZero_112 σ x3 s0 111) (zTm (k_fX12_sayZero_112 x3 s0 3) (t_fX12_sayZero_112 x3 s0 3) σ) from tm_fX12_sayZero_112 e)
      · skip
        exact (show zpc (fX12_sayZero_112 σ x3 s0 110) (zTm (k_fX12_sayZero_112 x3 s0 4) (t_fX12_sayZero_112 x3 s0 4) σ) from tm_fX12_sayZero_112 e)
    · skip
      refine zTmif (fun _ => ?_) (fun _ => ?_)
      · skip
        refine zpc_if (fun _ => ?_) (fun _ => ?_)
        · skip
          exact (show zpc (fX12_sayZero_186 σ x3 117) (zTm (k_fX12_sayZero_186 x3 4) (t_fX12_sayZero_186 x3 4) σ) from tm_fX12_sayZero_186 e)
        · skip
          exact (show zpc (fX12_sayZero_186 σ x3 116) (zTm (k_fX12_sayZero_186 x3 4) (t_fX12_sayZero_186 x3 4) σ) from tm_fX12_sayZero_186 e)
      · skip
        refine zTmb (show zpc (fX12_say σ 111) (zTm 3 0 σ) from tm_say) (fun σ23 hσ23 => ?_)
        have eσ23 := e.kp hσ23
        refine zTmif (fun _ => ?_) (fun _ => ?_)
        · skip
          exact (show zpc (fX12_sayZero_236 σ23 x3 s0) (zTm (k_fX12_sayZero_236 x3 s0) (t_fX12_sayZero_236 x3 s0) σ23) from tm_fX12_sayZero_236 eσ23)
        · skip
          refine zTmif (fun _ => ?_) (fun _ => ?_)
          · skip
            refine zTmb (show zpc (fX12_sayHl σ23) (zTm k_fX12_sayHl t_fX12_sayHl σ23) from tm_fX12_sayHl eσ23) (fun σ25 hσ25 => ?_)
            have eσ25 := eσ23.kp hσ25
            exact (show zpc (fX12_sayZero_229 σ25 x3 s0) (zTm (k_fX12_sayZero_229 x3 s0) (t_fX12_sayZero_229 x3 s0) σ25) from tm_fX12_sayZero_229 eσ25)
          · skip
            refine zTmb (show zpc (fX12_say σ23 99) (zTm 1 0 σ23) from tm_say) (fun σ24 hσ24 => ?_)
            have eσ24 := eσ23.kp hσ24
            exact (show zpc (fX12_sayZero_229 σ24 x3 s0) (zTm (k_fX12_sayZero_229 x3 s0) (t_fX12_sayZero_229 x3 s0) σ24) from tm_fX12_sayZero_229 eσ24)
noncomputable def k_fX12_sayZero (x1 : Int32) (x2 : Int32) : Nat := (if (zrem x1 (2 : Int32)) = (1 : Int32) then (k_fX12_sayZero_16 x1 x2 (x1 >>> ((1 : Int32) &&& (31 : Int32))) (1 : Int32)) else (k_fX12_sayZero_16 x1 x2 (x1 >>> ((1 : Int32) &&& (31 : Int32))) (0 : Int32)))
noncomputable def t_fX12_sayZero (x1 : Int32) (x2 : Int32) : Nat := (if (zrem x1 (2 : Int32)) = (1 : Int32) then (t_fX12_sayZero_16 x1 x2 (x1 >>> ((1 : Int32) &&& (31 : Int32))) (1 : Int32)) else (t_fX12_sayZero_16 x1 x2 (x1 >>> ((1 : Int32) &&& (31 : Int32))) (0 : Int32)))
theorem tm_fX12_sayZero (e : zEm i l σ) {x1 : Int32} {x2 : Int32} : zpc (fX12_sayZero σ x1 x2) (zTm (k_fX12_sayZero x1 x2) (t_fX12_sayZero x1 x2) σ) := by
  unfold fX12_sayZero k_fX12_sayZero t_fX12_sayZero
  refine zpc_bv (fun v26 ev26 => ?_)
  subst ev26
  refine zpc_ck ?_
  refine zTmif (fun _ => ?_) (fun _ => ?_)
  · skip
    exact (show zpc (fX12_sayZero_16 σ x1 x2 (x1 >>> ((1 : Int32) &&& 31)) 1) (zTm (k_fX12_sayZero_16 x1 x2 (x1 >>> ((1 : Int32) &&& (31 : Int32))) (1 : Int32)) (t_fX12_sayZero_16 x1 x2 (x1 >>> ((1 : Int32) &&& (31 : Int32))) (1 : Int32)) σ) from tm_fX12_sayZero_16 e)
  · skip
    exact (show zpc (fX12_sayZero_16 σ x1 x2 (x1 >>> ((1 : Int32) &&& 31)) 0) (zTm (k_fX12_sayZero_16 x1 x2 (x1 >>> ((1 : Int32) &&& (31 : Int32))) (0 : Int32)) (t_fX12_sayZero_16 x1 x2 (x1 >>> ((1 : Int32) &&& (31 : Int32))) (0 : Int32)) σ) from tm_fX12_sayZero_16 e)
noncomputable def k_fX12_saySingle_87 (n_s0 : Nat) : Nat := (n_s0 + 0)
noncomputable def t_fX12_saySingle_87 (n_s0 : Nat) : Nat := (0 + 0)
theorem tm_fX12_saySingle_87 (e : zEm i l σ) {s0 : Nat} : zpc (fX12_saySingle_87 σ s0) (zTm (k_fX12_saySingle_87 (zkL s0)) (t_fX12_saySingle_87 (zkL s0)) σ) := by
  unfold fX12_saySingle_87 k_fX12_saySingle_87 t_fX12_saySingle_87
  refine zTmb (show zpc (fX12_say σ s0) (zTm (zkL s0) 0 σ) from tm_say) (fun σ1 hσ1 => ?_)
  exact zpc_some zTm.rf
noncomputable def k_fX12_saySingle_117 (i : Int32) (l : Int32) (x1 : Int32) (x2 : Int32) (n_s0 : Nat) : Nat := (n_s0 + ((k_fX12_sayR i l x1) + (if (6 : Int32) ≤ x2 then (1 + (0 + (2 + 0))) else 0)))
noncomputable def t_fX12_saySingle_117 (i : Int32) (l : Int32) (x1 : Int32) (x2 : Int32) (n_s0 : Nat) : Nat := (0 + ((t_fX12_sayR i l x1) + (if (6 : Int32) ≤ x2 then (0 + (1 + (0 + 0))) else 0)))
theorem tm_fX12_saySingle_117 (e : zEm i l σ) {x1 : Int32} {x2 : Int32} {s0 : Nat} : zpc (fX12_saySingle_117 σ x1 x2 s0) (zTm (k_fX12_saySingle_117 i l x1 x2 (zkL s0)) (t_fX12_saySingle_117 i l x1 x2 (zkL s0)) σ) := by
  unfold fX12_saySingle_117 k_fX12_saySingle_117 t_fX12_saySingle_117
  refine zTmb (show zpc (fX12_say σ s0) (zTm (zkL s0) 0 σ) from tm_say) (fun σ2 hσ2 => ?_)
  have eσ2 := e.kp hσ2
  refine zTmb (show zpc (fX12_sayR σ2 x1) (zTm (k_fX12_sayR i l x1) (t_fX12_sayR i l x1) σ2) from tm_fX12_sayR eσ2) (fun σ3 hσ3 => ?_)
  have eσ3 := eσ2.kp hσ3
  refine zTmif (fun _ => ?_) (fun _ => ?_)
  · skip
    refine zTmb (show zpc (fX12_say σ3 83) (zTm 1 0 σ3) from tm_say) (fun σ4 hσ4 => ?_)
    have eσ4 := eσ3.kp hσ4
    refine zTmi (show zpc (fX12_taken σ4) (fun r => zTm 0 1 σ4 r.1) from tm_taken) (fun σ5 v6 hσ5 => ?_)
    have eσ5 := eσ4.kp hσ5
    refine zTmb (show zpc (fX12_hex σ5 v6 2) (zTm 2 0 σ5) from tm_hex2) (fun σ7 hσ7 => ?_)
    exact zpc_some zTm.rf
  · skip
    exact zpc_some zTm.rf
noncomputable def k_fX12_saySingle (i : Int32) (l : Int32) (x1 : Int32) (x2 : Int32) : Nat := (if x2 = (7 : Int32) then (if x1 = (0 : Int32) then (k_fX12_saySingle_87 4) else (if x1 = (1 : Int32) then (k_fX12_saySingle_87 4) else (k_fX12_saySingle_87 3))) else (if x2 = (4 : Int32) then (k_fX12_saySingle_117 i l x1 x2 4) else (if x2 = (5 : Int32) then (k_fX12_saySingle_117 i l x1 x2 4) else (k_fX12_saySingle_117 i l x1 x2 3))))
noncomputable def t_fX12_saySingle (i : Int32) (l : Int32) (x1 : Int32) (x2 : Int32) : Nat := (if x2 = (7 : Int32) then (if x1 = (0 : Int32) then (t_fX12_saySingle_87 4) else (if x1 = (1 : Int32) then (t_fX12_saySingle_87 4) else (t_fX12_saySingle_87 3))) else (if x2 = (4 : Int32) then (t_fX12_saySingle_117 i l x1 x2 4) else (if x2 = (5 : Int32) then (t_fX12_saySingle_117 i l x1 x2 4) else (t_fX12_saySingle_117 i l x1 x2 3))))
theorem tm_fX12_saySingle (e : zEm i l σ) {x1 : Int32} {x2 : Int32} : zpc (fX12_saySingle σ x1 x2) (zTm (k_fX12_saySingle i l x1 x2) (t_fX12_saySingle i l x1 x2) σ) := by
  unfold fX12_saySingle k_fX12_saySingle t_fX12_saySingle
  refine zTmif (fun _ => ?_) (fun _ => ?_)
  · skip
    refine zTmif (fun _ => ?_) (fun _ => ?_)
    · skip
      exact (show zpc (fX12_saySingle_87 σ 121) (zTm (k_fX12_saySingle_87 4) (t_fX12_saySingle_87 4) σ) from tm_fX12_saySingle_87 e)
    · skip
      refine zTmif (fun _ => ?_) (fun _ => ?_)
      · skip
        exact (show zpc (fX12_saySingle_87 σ 122) (zTm (k_fX12_saySingle_87 4) (t_fX12_saySingle_87 4) σ) from tm_fX12_saySingle_87 e)
      · skip
        refine zpc_if (fun _ => ?_) (fun _ => ?_)
        · skip
          exact (show zpc (fX12_saySingle_87 σ 123) (zTm (k_fX12_saySingle_87 3) (t_fX12_saySingle_87 3) σ) from tm_fX12_saySingle_87 e)
        · skip
          refine zpc_if (fun _ => ?_) (fun _ => ?_)
          · skip
            exact (show zpc (fX12_saySingle_87 σ 124) (zTm (k_fX12_saySingle_87 3) (t_fX12_saySingle_87 3) σ) from tm_fX12_saySingle_87 e)
          · skip
            refine zpc_if (fun _ => ?_) (fun _ => ?_)
            · skip
              exact (show zpc (fX12_saySingle_87 σ 125) (zTm (k_fX12_saySingle_87 3) (t_fX12_saySingle_87 3) σ) from tm_fX12_saySingle_87 e)
            · skip
              refine zpc_if (fun _ => ?_) (fun _ => ?_)
              · skip
                exact (show zpc (fX12_saySingle_87 σ 126) (zTm (k_fX12_saySingle_87 3) (t_fX12_saySingle_87 3) σ) from tm_fX12_saySingle_87 e)
              · skip
                refine zpc_if (fun _ => ?_) (fun _ => ?_)
                · skip
                  exact (show zpc (fX12_saySingle_87 σ 127) (zTm (k_fX12_saySingle_87 3) (t_fX12_saySingle_87 3) σ) from tm_fX12_saySingle_87 e)
                · skip
                  exact (show zpc (fX12_saySingle_87 σ 128) (zTm (k_fX12_saySingle_87 3) (t_fX12_saySingle_87 3) σ) from tm_fX12_saySingle_87 e)
  · skip
    refine zTmif (fun _ => ?_) (fun _ => ?_)
    · skip
      exact (show zpc (fX12_saySingle_117 σ x1 x2 117) (zTm (k_fX12_saySingle_117 i l x1 x2 4) (t_fX12_saySingle_117 i l x1 x2 4) σ) from tm_fX12_saySingle_117 e)
    · skip
      refine zTmif (fun _ => ?_) (fun _ => ?_)
      · skip
        exact (show zpc (fX12_saySingle_117 σ x1 x2 116) (zTm (k_fX12_saySingle_117 i l x1 x2 4) (t_fX12_saySingle_117 i l x1 x2 4) σ) from tm_fX12_saySingle_117 e)
      · skip
        exact (show zpc (fX12_saySingle_117 σ x1 x2 111) (zTm (k_fX12_saySingle_117 i l x1 x2 3) (t_fX12_saySingle_117 i l x1 x2 3) σ) from tm_fX12_saySingle_117 e)
noncomputable def k_fX12_sayThree_266 : Nat := 0
noncomputable def t_fX12_sayThree_266 : Nat := 0
theorem tm_fX12_sayThree_266 (e : zEm i l σ) : zpc (fX12_sayThree_266 σ ) (zTm k_fX12_sayThree_266 t_fX12_sayThree_266 σ) := by
  unfold fX12_sayThree_266 k_fX12_sayThree_266 t_fX12_sayThree_266
  exact zpc_some zTm.rf
noncomputable def k_fX12_sayThree_103 (x3 : Int32) : Nat := (if x3 = (2 : Int32) then (1 + k_fX12_sayThree_266) else k_fX12_sayThree_266)
noncomputable def t_fX12_sayThree_103 (x3 : Int32) : Nat := (if x3 = (2 : Int32) then (0 + t_fX12_sayThree_266) else t_fX12_sayThree_266)
theorem tm_fX12_sayThree_103 (e : zEm i l σ) {x3 : Int32} : zpc (fX12_sayThree_103 σ x3) (zTm (k_fX12_sayThree_103 x3) (t_fX12_sayThree_103 x3) σ) := by
  unfold fX12_sayThree_103 k_fX12_sayThree_103 t_fX12_sayThree_103
  refine zTmif (fun _ => ?_) (fun _ => ?_)
  · skip
    refine zTmb (show zpc (fX12_say σ 89) (zTm 1 0 σ) from tm_say) (fun σ1 hσ1 => ?_)
    have eσ1 := e.kp hσ1
    exact (show zpc (fX12_sayThree_266 σ1) (zTm k_fX12_sayThree_266 t_fX12_sayThree_266 σ1) from tm_fX12_sayThree_266 eσ1)
  · skip
    exact (show zpc (fX12_sayThree_266 σ) (zTm k_fX12_sayThree_266 t_fX12_sayThree_266 σ) from tm_fX12_sayThree_266 e)
noncomputable def k_fX12_sayThree_91 (x3 : Int32) (n_s0 : Nat) : Nat := (n_s0 + (if x3 ≤ (1 : Int32) then (k_fX12_sayThree_103 x3) else (k_fX12_sayHl + (k_fX12_sayThree_103 x3))))
noncomputable def t_fX12_sayThree_91 (x3 : Int32) (n_s0 : Nat) : Nat := (0 + (if x3 ≤ (1 : Int32) then (t_fX12_sayThree_103 x3) else (t_fX12_sayHl + (t_fX12_sayThree_103 x3))))
theorem tm_fX12_sayThree_91 (e : zEm i l σ) {x3 : Int32} {s0 : Nat} : zpc (fX12_sayThree_91 σ x3 s0) (zTm (k_fX12_sayThree_91 x3 (zkL s0)) (t_fX12_sayThree_91 x3 (zkL s0)) σ) := by
  unfold fX12_sayThree_91 k_fX12_sayThree_91 t_fX12_sayThree_91
  refine zTmb (show zpc (fX12_say σ s0) (zTm (zkL s0) 0 σ) from tm_say) (fun σ2 hσ2 => ?_)
  have eσ2 := e.kp hσ2
  refine zTmif (fun _ => ?_) (fun _ => ?_)
  · skip
    exact (show zpc (fX12_sayThree_103 σ2 x3) (zTm (k_fX12_sayThree_103 x3) (t_fX12_sayThree_103 x3) σ2) from tm_fX12_sayThree_103 eσ2)
  · skip
    refine zTmb (show zpc (fX12_sayHl σ2) (zTm k_fX12_sayHl t_fX12_sayHl σ2) from tm_fX12_sayHl eσ2) (fun σ3 hσ3 => ?_)
    have eσ3 := eσ2.kp hσ3
    exact (show zpc (fX12_sayThree_103 σ3 x3) (zTm (k_fX12_sayThree_103 x3) (t_fX12_sayThree_103 x3) σ3) from tm_fX12_sayThree_103 eσ3)
noncomputable def k_fX12_sayThree_151 : Nat := (0 + (4 + k_fX12_sayThree_266))
noncomputable def t_fX12_sayThree_151 : Nat := (2 + (0 + t_fX12_sayThree_266))
theorem tm_fX12_sayThree_151 (e : zEm i l σ) : zpc (fX12_sayThree_151 σ ) (zTm k_fX12_sayThree_151 t_fX12_sayThree_151 σ) := by
  unfold fX12_sayThree_151 k_fX12_sayThree_151 t_fX12_sayThree_151
  refine zTmi (show zpc (fX12_takenWord σ) (fun r => zTm 0 2 σ r.1) from tm_word) (fun σ4 v5 hσ4 => ?_)
  have eσ4 := e.kp hσ4
  refine zTmb (show zpc (fX12_hex σ4 v5 4) (zTm 4 0 σ4) from tm_hex4) (fun σ6 hσ6 => ?_)
  have eσ6 := eσ4.kp hσ6
  exact (show zpc (fX12_sayThree_266 σ6) (zTm k_fX12_sayThree_266 t_fX12_sayThree_266 σ6) from tm_fX12_sayThree_266 eσ6)
noncomputable def k_fX12_sayThree_127 (x1 : Int32) (x2 : Int32) : Nat := (3 + (if x2 = (2 : Int32) then ((k_fX12_sayCc x1) + (1 + k_fX12_sayThree_151)) else k_fX12_sayThree_151))
noncomputable def t_fX12_sayThree_127 (x1 : Int32) (x2 : Int32) : Nat := (0 + (if x2 = (2 : Int32) then ((t_fX12_sayCc x1) + (0 + t_fX12_sayThree_151)) else t_fX12_sayThree_151))
theorem tm_fX12_sayThree_127 (e : zEm i l σ) {x1 : Int32} {x2 : Int32} : zpc (fX12_sayThree_127 σ x1 x2) (zTm (k_fX12_sayThree_127 x1 x2) (t_fX12_sayThree_127 x1 x2) σ) := by
  unfold fX12_sayThree_127 k_fX12_sayThree_127 t_fX12_sayThree_127
  refine zTmb (show zpc (fX12_say σ 143) (zTm 3 0 σ) from tm_say) (fun σ7 hσ7 => ?_)
  have eσ7 := e.kp hσ7
  refine zTmif (fun _ => ?_) (fun _ => ?_)
  · skip
    refine zTmb (show zpc (fX12_sayCc σ7 x1) (zTm (k_fX12_sayCc x1) (t_fX12_sayCc x1) σ7) from tm_fX12_sayCc eσ7) (fun σ8 hσ8 => ?_)
    have eσ8 := eσ7.kp hσ8
    refine zTmb (show zpc (fX12_say σ8 83) (zTm 1 0 σ8) from tm_say) (fun σ9 hσ9 => ?_)
    have eσ9 := eσ8.kp hσ9
    exact (show zpc (fX12_sayThree_151 σ9) (zTm k_fX12_sayThree_151 t_fX12_sayThree_151 σ9) from tm_fX12_sayThree_151 eσ9)
  · skip
    exact (show zpc (fX12_sayThree_151 σ7) (zTm k_fX12_sayThree_151 t_fX12_sayThree_151 σ7) from tm_fX12_sayThree_151 eσ7)
noncomputable def k_fX12_sayThree_210 (n_s0 : Nat) : Nat := (n_s0 + k_fX12_sayThree_266)
noncomputable def t_fX12_sayThree_210 (n_s0 : Nat) : Nat := (0 + t_fX12_sayThree_266)
theorem tm_fX12_sayThree_210 (e : zEm i l σ) {s0 : Nat} : zpc (fX12_sayThree_210 σ s0) (zTm (k_fX12_sayThree_210 (zkL s0)) (t_fX12_sayThree_210 (zkL s0)) σ) := by
  unfold fX12_sayThree_210 k_fX12_sayThree_210 t_fX12_sayThree_210
  refine zTmb (show zpc (fX12_say σ s0) (zTm (zkL s0) 0 σ) from tm_say) (fun σ10 hσ10 => ?_)
  have eσ10 := e.kp hσ10
  exact (show zpc (fX12_sayThree_266 σ10) (zTm k_fX12_sayThree_266 t_fX12_sayThree_266 σ10) from tm_fX12_sayThree_266 eσ10)
noncomputable def k_fX12_sayThree_183 (x1 : Int32) (n_s0 : Nat) : Nat := (n_s0 + (0 + (2 + (if x1 = (2 : Int32) then (k_fX12_sayThree_210 3) else (k_fX12_sayThree_210 1)))))
noncomputable def t_fX12_sayThree_183 (x1 : Int32) (n_s0 : Nat) : Nat := (0 + (1 + (0 + (if x1 = (2 : Int32) then (t_fX12_sayThree_210 3) else (t_fX12_sayThree_210 1)))))
theorem tm_fX12_sayThree_183 (e : zEm i l σ) {x1 : Int32} {s0 : Nat} : zpc (fX12_sayThree_183 σ x1 s0) (zTm (k_fX12_sayThree_183 x1 (zkL s0)) (t_fX12_sayThree_183 x1 (zkL s0)) σ) := by
  unfold fX12_sayThree_183 k_fX12_sayThree_183 t_fX12_sayThree_183
  refine zTmb (show zpc (fX12_say σ s0) (zTm (zkL s0) 0 σ) from tm_say) (fun σ11 hσ11 => ?_)
  have eσ11 := e.kp hσ11
  refine zTmi (show zpc (fX12_taken σ11) (fun r => zTm 0 1 σ11 r.1) from tm_taken) (fun σ12 v13 hσ12 => ?_)
  have eσ12 := eσ11.kp hσ12
  refine zTmb (show zpc (fX12_hex σ12 v13 2) (zTm 2 0 σ12) from tm_hex2) (fun σ14 hσ14 => ?_)
  have eσ14 := eσ12.kp hσ14
  refine zTmif (fun _ => ?_) (fun _ => ?_)
  · skip
    exact (show zpc (fX12_sayThree_210 σ14 146) (zTm (k_fX12_sayThree_210 3) (t_fX12_sayThree_210 3) σ14) from tm_fX12_sayThree_210 eσ14)
  · skip
    exact (show zpc (fX12_sayThree_210 σ14 89) (zTm (k_fX12_sayThree_210 1) (t_fX12_sayThree_210 1) σ14) from tm_fX12_sayThree_210 eσ14)
noncomputable def k_fX12_sayThree_254 (x1 : Int32) (n_s0 : Nat) : Nat := (n_s0 + (if x1 = (4 : Int32) then (k_fX12_sayHl + k_fX12_sayThree_266) else k_fX12_sayThree_266))
noncomputable def t_fX12_sayThree_254 (x1 : Int32) (n_s0 : Nat) : Nat := (0 + (if x1 = (4 : Int32) then (t_fX12_sayHl + t_fX12_sayThree_266) else t_fX12_sayThree_266))
theorem tm_fX12_sayThree_254 (e : zEm i l σ) {x1 : Int32} {s0 : Nat} : zpc (fX12_sayThree_254 σ x1 s0) (zTm (k_fX12_sayThree_254 x1 (zkL s0)) (t_fX12_sayThree_254 x1 (zkL s0)) σ) := by
  unfold fX12_sayThree_254 k_fX12_sayThree_254 t_fX12_sayThree_254
  refine zTmb (show zpc (fX12_say σ s0) (zTm (zkL s0) 0 σ) from tm_say) (fun σ15 hσ15 => ?_)
  have eσ15 := e.kp hσ15
  refine zTmif (fun _ => ?_) (fun _ => ?_)
  · skip
    refine zTmb (show zpc (fX12_sayHl σ15) (zTm k_fX12_sayHl t_fX12_sayHl σ15) from tm_fX12_sayHl eσ15) (fun σ16 hσ16 => ?_)
    have eσ16 := eσ15.kp hσ16
    exact (show zpc (fX12_sayThree_266 σ16) (zTm k_fX12_sayThree_266 t_fX12_sayThree_266 σ16) from tm_fX12_sayThree_266 eσ16)
  · skip
    exact (show zpc (fX12_sayThree_266 σ15) (zTm k_fX12_sayThree_266 t_fX12_sayThree_266 σ15) from tm_fX12_sayThree_266 eσ15)
noncomputable def k_fX12_sayThree_50 (x1 : Int32) (x2 : Int32) (x3 : Int32) : Nat := (if x2 = (1 : Int32) then (if x3 = (0 : Int32) then (k_fX12_sayThree_91 x3 3) else (if x3 = (1 : Int32) then (k_fX12_sayThree_91 x3 3) else (if x3 = (2 : Int32) then (k_fX12_sayThree_91 x3 4) else (k_fX12_sayThree_91 x3 6)))) else (if x2 = (2 : Int32) then (k_fX12_sayThree_127 x1 x2) else (if x1 = (0 : Int32) then (k_fX12_sayThree_127 x1 x2) else (if (4 : Int32) ≤ x1 then (if x1 = (4 : Int32) then (k_fX12_sayThree_254 x1 8) else (if x1 = (5 : Int32) then (k_fX12_sayThree_254 x1 8) else (k_fX12_sayThree_254 x1 2))) else (if x1 = (2 : Int32) then (k_fX12_sayThree_183 x1 5) else (k_fX12_sayThree_183 x1 6))))))
noncomputable def t_fX12_sayThree_50 (x1 : Int32) (x2 : Int32) (x3 : Int32) : Nat := (if x2 = (1 : Int32) then (if x3 = (0 : Int32) then (t_fX12_sayThree_91 x3 3) else (if x3 = (1 : Int32) then (t_fX12_sayThree_91 x3 3) else (if x3 = (2 : Int32) then (t_fX12_sayThree_91 x3 4) else (t_fX12_sayThree_91 x3 6)))) else (if x2 = (2 : Int32) then (t_fX12_sayThree_127 x1 x2) else (if x1 = (0 : Int32) then (t_fX12_sayThree_127 x1 x2) else (if (4 : Int32) ≤ x1 then (if x1 = (4 : Int32) then (t_fX12_sayThree_254 x1 8) else (if x1 = (5 : Int32) then (t_fX12_sayThree_254 x1 8) else (t_fX12_sayThree_254 x1 2))) else (if x1 = (2 : Int32) then (t_fX12_sayThree_183 x1 5) else (t_fX12_sayThree_183 x1 6))))))
theorem tm_fX12_sayThree_50 (e : zEm i l σ) {x1 : Int32} {x2 : Int32} {x3 : Int32} : zpc (fX12_sayThree_50 σ x1 x2 x3) (zTm (k_fX12_sayThree_50 x1 x2 x3) (t_fX12_sayThree_50 x1 x2 x3) σ) := by
  unfold fX12_sayThree_50 k_fX12_sayThree_50 t_fX12_sayThree_50
  refine zTmif (fun _ => ?_) (fun _ => ?_)
  · skip
    refine zTmif (fun _ => ?_) (fun _ => ?_)
    · skip
      exact (show zpc (fX12_sayThree_91 σ x3 139) (zTm (k_fX12_sayThree_91 x3 3) (t_fX12_sayThree_91 x3 3) σ) from tm_fX12_sayThree_91 e)
    · skip
      refine zTmif (fun _ => ?_) (fun _ => ?_)
      · skip
        exact (show zpc (fX12_sayThree_91 σ x3 140) (zTm (k_fX12_sayThree_91 x3 3) (t_fX12_sayThree_91 x3 3) σ) from tm_fX12_sayThree_91 e)
      · skip
        refine zTmif (fun _ => ?_) (fun _ => ?_)
        · skip
          exact (show zpc (fX12_sayThree_91 σ x3 141) (zTm (k_fX12_sayThree_91 x3 4) (t_fX12_sayThree_91 x3 4) σ) from tm_fX12_sayThree_91 e)
        · skip
          exact (show zpc (fX12_sayThree_91 σ x3 142) (zTm (k_fX12_sayThree_91 x3 6) (t_fX12_sayThree_91 x3 6) σ) from tm_fX12_sayThree_91 e)
  · skip
    refine zTmif (fun _ => ?_) (fun _ => ?_)
    · skip
      exact (show zpc (fX12_sayThree_127 σ x1 x2) (zTm (k_fX12_sayThree_127 x1 x2) (t_fX12_sayThree_127 x1 x2) σ) from tm_fX12_sayThree_127 e)
    · skip
      refine zTmif (fun _ => ?_) (fun _ => ?_)
      · skip
        exact (show zpc (fX12_sayThree_127 σ x1 x2) (zTm (k_fX12_sayThree_127 x1 x2) (t_fX12_sayThree_127 x1 x2) σ) from tm_fX12_sayThree_127 e)
      · skip
        refine zTmif (fun _ => ?_) (fun _ => ?_)
        · skip
          refine zTmif (fun _ => ?_) (fun _ => ?_)
          · skip
            exact (show zpc (fX12_sayThree_254 σ x1 147) (zTm (k_fX12_sayThree_254 x1 8) (t_fX12_sayThree_254 x1 8) σ) from tm_fX12_sayThree_254 e)
          · skip
            refine zTmif (fun _ => ?_) (fun _ => ?_)
            · skip
              exact (show zpc (fX12_sayThree_254 σ x1 148) (zTm (k_fX12_sayThree_254 x1 8) (t_fX12_sayThree_254 x1 8) σ) from tm_fX12_sayThree_254 e)
            · skip
              refine zpc_if (fun _ => ?_) (fun _ => ?_)
              · skip
                exact (show zpc (fX12_sayThree_254 σ x1 149) (zTm (k_fX12_sayThree_254 x1 2) (t_fX12_sayThree_254 x1 2) σ) from tm_fX12_sayThree_254 e)
              · skip
                exact (show zpc (fX12_sayThree_254 σ x1 150) (zTm (k_fX12_sayThree_254 x1 2) (t_fX12_sayThree_254 x1 2) σ) from tm_fX12_sayThree_254 e)
        · skip
          refine zTmif (fun _ => ?_) (fun _ => ?_)
          · skip
            exact (show zpc (fX12_sayThree_183 σ x1 144) (zTm (k_fX12_sayThree_183 x1 5) (t_fX12_sayThree_183 x1 5) σ) from tm_fX12_sayThree_183 e)
          · skip
            exact (show zpc (fX12_sayThree_183 σ x1 145) (zTm (k_fX12_sayThree_183 x1 6) (t_fX12_sayThree_183 x1 6) σ) from tm_fX12_sayThree_183 e)
noncomputable def k_fX12_sayThree (x1 : Int32) (x2 : Int32) : Nat := (if x2 = (0 : Int32) then (4 + ((k_fX12_sayCc x1) + k_fX12_sayThree_266)) else (if x2 = (1 : Int32) then (if (zrem x1 (2 : Int32)) = (0 : Int32) then (4 + ((k_fX12_sayRp (x1 >>> ((1 : Int32) &&& (31 : Int32)))) + k_fX12_sayThree_266)) else (k_fX12_sayThree_50 x1 x2 (x1 >>> ((1 : Int32) &&& (31 : Int32))))) else (k_fX12_sayThree_50 x1 x2 (x1 >>> ((1 : Int32) &&& (31 : Int32))))))
noncomputable def t_fX12_sayThree (x1 : Int32) (x2 : Int32) : Nat := (if x2 = (0 : Int32) then (0 + ((t_fX12_sayCc x1) + t_fX12_sayThree_266)) else (if x2 = (1 : Int32) then (if (zrem x1 (2 : Int32)) = (0 : Int32) then (0 + ((t_fX12_sayRp (x1 >>> ((1 : Int32) &&& (31 : Int32)))) + t_fX12_sayThree_266)) else (t_fX12_sayThree_50 x1 x2 (x1 >>> ((1 : Int32) &&& (31 : Int32))))) else (t_fX12_sayThree_50 x1 x2 (x1 >>> ((1 : Int32) &&& (31 : Int32))))))
theorem tm_fX12_sayThree (e : zEm i l σ) {x1 : Int32} {x2 : Int32} : zpc (fX12_sayThree σ x1 x2) (zTm (k_fX12_sayThree x1 x2) (t_fX12_sayThree x1 x2) σ) := by
  unfold fX12_sayThree k_fX12_sayThree t_fX12_sayThree
  refine zpc_bv (fun v17 ev17 => ?_)
  subst ev17
  refine zTmif (fun _ => ?_) (fun _ => ?_)
  · skip
    refine zTmb (show zpc (fX12_say σ 137) (zTm 4 0 σ) from tm_say) (fun σ20 hσ20 => ?_)
    have eσ20 := e.kp hσ20
    refine zTmb (show zpc (fX12_sayCc σ20 x1) (zTm (k_fX12_sayCc x1) (t_fX12_sayCc x1) σ20) from tm_fX12_sayCc eσ20) (fun σ21 hσ21 => ?_)
    have eσ21 := eσ20.kp hσ21
    exact (show zpc (fX12_sayThree_266 σ21) (zTm k_fX12_sayThree_266 t_fX12_sayThree_266 σ21) from tm_fX12_sayThree_266 eσ21)
  · skip
    refine zTmif (fun _ => ?_) (fun _ => ?_)
    · skip
      refine zpc_ck ?_
      refine zTmif (fun _ => ?_) (fun _ => ?_)
      · skip
        refine zTmb (show zpc (fX12_say σ 138) (zTm 4 0 σ) from tm_say) (fun σ18 hσ18 => ?_)
        have eσ18 := e.kp hσ18
        refine zTmb (show zpc (fX12_sayRp σ18 (x1 >>> ((1 : Int32) &&& 31)) 1) (zTm (k_fX12_sayRp (x1 >>> ((1 : Int32) &&& (31 : Int32)))) (t_fX12_sayRp (x1 >>> ((1 : Int32) &&& (31 : Int32)))) σ18) from tm_fX12_sayRp eσ18) (fun σ19 hσ19 => ?_)
        have eσ19 := eσ18.kp hσ19
        exact (show zpc (fX12_sayThree_266 σ19) (zTm k_fX12_sayThree_266 t_fX12_sayThree_266 σ19) from tm_fX12_sayThree_266 eσ19)
      · skip
        exact (show zpc (fX12_sayThree_50 σ x1 x2 (x1 >>> ((1 : Int32) &&& 31))) (zTm (k_fX12_sayThree_50 x1 x2 (x1 >>> ((1 : Int32) &&& (31 : Int32)))) (t_fX12_sayThree_50 x1 x2 (x1 >>> ((1 : Int32) &&& (31 : Int32)))) σ) from tm_fX12_sayThree_50 e)
    · skip
      exact (show zpc (fX12_sayThree_50 σ x1 x2 (x1 >>> ((1 : Int32) &&& 31))) (zTm (k_fX12_sayThree_50 x1 x2 (x1 >>> ((1 : Int32) &&& (31 : Int32)))) (t_fX12_sayThree_50 x1 x2 (x1 >>> ((1 : Int32) &&& (31 : Int32)))) σ) from tm_fX12_sayThree_50 e)
noncomputable def k_fX12_sayLast_115 : Nat := 0
noncomputable def t_fX12_sayLast_115 : Nat := 0
theorem tm_fX12_sayLast_115 (e : zEm i l σ) : zpc (fX12_sayLast_115 σ ) (zTm k_fX12_sayLast_115 t_fX12_sayLast_115 σ) := by
  unfold fX12_sayLast_115 k_fX12_sayLast_115 t_fX12_sayLast_115
  exact zpc_some zTm.rf
noncomputable def k_fX12_sayLast_43 : Nat := (0 + (4 + k_fX12_sayLast_115))
noncomputable def t_fX12_sayLast_43 : Nat := (2 + (0 + t_fX12_sayLast_115))
theorem tm_fX12_sayLast_43 (e : zEm i l σ) : zpc (fX12_sayLast_43 σ ) (zTm k_fX12_sayLast_43 t_fX12_sayLast_43 σ) := by
  unfold fX12_sayLast_43 k_fX12_sayLast_43 t_fX12_sayLast_43
  refine zTmi (show zpc (fX12_takenWord σ) (fun r => zTm 0 2 σ r.1) from tm_word) (fun σ1 v2 hσ1 => ?_)
  have eσ1 := e.kp hσ1
  refine zTmb (show zpc (fX12_hex σ1 v2 4) (zTm 4 0 σ1) from tm_hex4) (fun σ3 hσ3 => ?_)
  have eσ3 := eσ1.kp hσ3
  exact (show zpc (fX12_sayLast_115 σ3) (zTm k_fX12_sayLast_115 t_fX12_sayLast_115 σ3) from tm_fX12_sayLast_115 eσ3)
noncomputable def k_fX12_sayLast_19 (x1 : Int32) (x2 : Int32) : Nat := (5 + (if x2 = (4 : Int32) then ((k_fX12_sayCc x1) + (1 + k_fX12_sayLast_43)) else k_fX12_sayLast_43))
noncomputable def t_fX12_sayLast_19 (x1 : Int32) (x2 : Int32) : Nat := (0 + (if x2 = (4 : Int32) then ((t_fX12_sayCc x1) + (0 + t_fX12_sayLast_43)) else t_fX12_sayLast_43))
theorem tm_fX12_sayLast_19 (e : zEm i l σ) {x1 : Int32} {x2 : Int32} : zpc (fX12_sayLast_19 σ x1 x2) (zTm (k_fX12_sayLast_19 x1 x2) (t_fX12_sayLast_19 x1 x2) σ) := by
  unfold fX12_sayLast_19 k_fX12_sayLast_19 t_fX12_sayLast_19
  refine zTmb (show zpc (fX12_say σ 151) (zTm 5 0 σ) from tm_say) (fun σ4 hσ4 => ?_)
  have eσ4 := e.kp hσ4
  refine zTmif (fun _ => ?_) (fun _ => ?_)
  · skip
    refine zTmb (show zpc (fX12_sayCc σ4 x1) (zTm (k_fX12_sayCc x1) (t_fX12_sayCc x1) σ4) from tm_fX12_sayCc eσ4) (fun σ5 hσ5 => ?_)
    have eσ5 := eσ4.kp hσ5
    refine zTmb (show zpc (fX12_say σ5 83) (zTm 1 0 σ5) from tm_say) (fun σ6 hσ6 => ?_)
    have eσ6 := eσ5.kp hσ6
    exact (show zpc (fX12_sayLast_43 σ6) (zTm k_fX12_sayLast_43 t_fX12_sayLast_43 σ6) from tm_fX12_sayLast_43 eσ6)
  · skip
    exact (show zpc (fX12_sayLast_43 σ4) (zTm k_fX12_sayLast_43 t_fX12_sayLast_43 σ4) from tm_fX12_sayLast_43 eσ4)
noncomputable def k_fX12_sayLast_55 (x1 : Int32) (x2 : Int32) (x3 : Int32) : Nat := (if x2 = (5 : Int32) then (5 + ((k_fX12_sayRp x3) + k_fX12_sayLast_115)) else (if x2 = (6 : Int32) then ((k_fX12_sayDo x1) + (0 + (2 + k_fX12_sayLast_115))) else (4 + (2 + k_fX12_sayLast_115))))
noncomputable def t_fX12_sayLast_55 (x1 : Int32) (x2 : Int32) (x3 : Int32) : Nat := (if x2 = (5 : Int32) then (0 + ((t_fX12_sayRp x3) + t_fX12_sayLast_115)) else (if x2 = (6 : Int32) then ((t_fX12_sayDo x1) + (1 + (0 + t_fX12_sayLast_115))) else (0 + (0 + t_fX12_sayLast_115))))
theorem tm_fX12_sayLast_55 (e : zEm i l σ) {x1 : Int32} {x2 : Int32} {x3 : Int32} : zpc (fX12_sayLast_55 σ x1 x2 x3) (zTm (k_fX12_sayLast_55 x1 x2 x3) (t_fX12_sayLast_55 x1 x2 x3) σ) := by
  unfold fX12_sayLast_55 k_fX12_sayLast_55 t_fX12_sayLast_55
  refine zTmif (fun _ => ?_) (fun _ => ?_)
  · skip
    refine zTmb (show zpc (fX12_say σ 152) (zTm 5 0 σ) from tm_say) (fun σ13 hσ13 => ?_)
    have eσ13 := e.kp hσ13
    refine zTmb (show zpc (fX12_sayRp σ13 x3 1) (zTm (k_fX12_sayRp x3) (t_fX12_sayRp x3) σ13) from tm_fX12_sayRp eσ13) (fun σ14 hσ14 => ?_)
    have eσ14 := eσ13.kp hσ14
    exact (show zpc (fX12_sayLast_115 σ14) (zTm k_fX12_sayLast_115 t_fX12_sayLast_115 σ14) from tm_fX12_sayLast_115 eσ14)
  · skip
    refine zTmif (fun _ => ?_) (fun _ => ?_)
    · skip
      refine zTmb (show zpc (fX12_sayDo σ x1) (zTm (k_fX12_sayDo x1) (t_fX12_sayDo x1) σ) from tm_fX12_sayDo e) (fun σ9 hσ9 => ?_)
      have eσ9 := e.kp hσ9
      refine zTmi (show zpc (fX12_taken σ9) (fun r => zTm 0 1 σ9 r.1) from tm_taken) (fun σ10 v11 hσ10 => ?_)
      have eσ10 := eσ9.kp hσ10
      refine zTmb (show zpc (fX12_hex σ10 v11 2) (zTm 2 0 σ10) from tm_hex2) (fun σ12 hσ12 => ?_)
      have eσ12 := eσ10.kp hσ12
      exact (show zpc (fX12_sayLast_115 σ12) (zTm k_fX12_sayLast_115 t_fX12_sayLast_115 σ12) from tm_fX12_sayLast_115 eσ12)
    · skip
      refine zTmb (show zpc (fX12_say σ 153) (zTm 4 0 σ) from tm_say) (fun σ7 hσ7 => ?_)
      have eσ7 := e.kp hσ7
      refine zTmb (show zpc (fX12_hex σ7 (8 * x1) 2) (zTm 2 0 σ7) from tm_hex2) (fun σ8 hσ8 => ?_)
      have eσ8 := eσ7.kp hσ8
      exact (show zpc (fX12_sayLast_115 σ8) (zTm k_fX12_sayLast_115 t_fX12_sayLast_115 σ8) from tm_fX12_sayLast_115 eσ8)
noncomputable def k_fX12_sayLast (x1 : Int32) (x2 : Int32) : Nat := (if x2 = (4 : Int32) then (k_fX12_sayLast_19 x1 x2) else (if x2 = (5 : Int32) then (if x1 = (1 : Int32) then (k_fX12_sayLast_19 x1 x2) else (k_fX12_sayLast_55 x1 x2 (x1 >>> ((1 : Int32) &&& (31 : Int32))))) else (k_fX12_sayLast_55 x1 x2 (x1 >>> ((1 : Int32) &&& (31 : Int32))))))
noncomputable def t_fX12_sayLast (x1 : Int32) (x2 : Int32) : Nat := (if x2 = (4 : Int32) then (t_fX12_sayLast_19 x1 x2) else (if x2 = (5 : Int32) then (if x1 = (1 : Int32) then (t_fX12_sayLast_19 x1 x2) else (t_fX12_sayLast_55 x1 x2 (x1 >>> ((1 : Int32) &&& (31 : Int32))))) else (t_fX12_sayLast_55 x1 x2 (x1 >>> ((1 : Int32) &&& (31 : Int32))))))
theorem tm_fX12_sayLast (e : zEm i l σ) {x1 : Int32} {x2 : Int32} : zpc (fX12_sayLast σ x1 x2) (zTm (k_fX12_sayLast x1 x2) (t_fX12_sayLast x1 x2) σ) := by
  unfold fX12_sayLast k_fX12_sayLast t_fX12_sayLast
  refine zpc_bv (fun v15 ev15 => ?_)
  subst ev15
  refine zTmif (fun _ => ?_) (fun _ => ?_)
  · skip
    exact (show zpc (fX12_sayLast_19 σ x1 x2) (zTm (k_fX12_sayLast_19 x1 x2) (t_fX12_sayLast_19 x1 x2) σ) from tm_fX12_sayLast_19 e)
  · skip
    refine zTmif (fun _ => ?_) (fun _ => ?_)
    · skip
      refine zTmif (fun _ => ?_) (fun _ => ?_)
      · skip
        exact (show zpc (fX12_sayLast_19 σ x1 x2) (zTm (k_fX12_sayLast_19 x1 x2) (t_fX12_sayLast_19 x1 x2) σ) from tm_fX12_sayLast_19 e)
      · skip
        exact (show zpc (fX12_sayLast_55 σ x1 x2 (x1 >>> ((1 : Int32) &&& 31))) (zTm (k_fX12_sayLast_55 x1 x2 (x1 >>> ((1 : Int32) &&& (31 : Int32)))) (t_fX12_sayLast_55 x1 x2 (x1 >>> ((1 : Int32) &&& (31 : Int32)))) σ) from tm_fX12_sayLast_55 e)
    · skip
      exact (show zpc (fX12_sayLast_55 σ x1 x2 (x1 >>> ((1 : Int32) &&& 31))) (zTm (k_fX12_sayLast_55 x1 x2 (x1 >>> ((1 : Int32) &&& (31 : Int32)))) (t_fX12_sayLast_55 x1 x2 (x1 >>> ((1 : Int32) &&& (31 : Int32)))) σ) from tm_fX12_sayLast_55 e)
noncomputable def k_fX12_sayPlain_137 : Nat := 0
noncomputable def t_fX12_sayPlain_137 : Nat := 0
theorem tm_fX12_sayPlain_137 (e : zEm i l σ) : zpc (fX12_sayPlain_137 σ ) (zTm k_fX12_sayPlain_137 t_fX12_sayPlain_137 σ) := by
  unfold fX12_sayPlain_137 k_fX12_sayPlain_137 t_fX12_sayPlain_137
  exact zpc_some zTm.rf
noncomputable def k_fX12_sayPlain_32 (i : Int32) (l : Int32) (x1 : Int32) (x2 : Int32) (x3 : Int32) : Nat := (if (64 : Int32) ≤ x1 then (if x1 = (118 : Int32) then (4 + k_fX12_sayPlain_137) else (if (128 : Int32) ≤ x1 then (if (192 : Int32) ≤ x1 then (if (4 : Int32) ≤ x3 then ((k_fX12_sayLast x2 x3) + k_fX12_sayPlain_137) else ((k_fX12_sayThree x2 x3) + k_fX12_sayPlain_137)) else ((k_fX12_sayDo x2) + ((k_fX12_sayR i l x3) + k_fX12_sayPlain_137))) else (3 + ((k_fX12_sayR i l x2) + (1 + ((k_fX12_sayR i l x3) + k_fX12_sayPlain_137)))))) else ((k_fX12_saySingle i l x2 x3) + k_fX12_sayPlain_137))
noncomputable def t_fX12_sayPlain_32 (i : Int32) (l : Int32) (x1 : Int32) (x2 : Int32) (x3 : Int32) : Nat := (if (64 : Int32) ≤ x1 then (if x1 = (118 : Int32) then (0 + t_fX12_sayPlain_137) else (if (128 : Int32) ≤ x1 then (if (192 : Int32) ≤ x1 then (if (4 : Int32) ≤ x3 then ((t_fX12_sayLast x2 x3) + t_fX12_sayPlain_137) else ((t_fX12_sayThree x2 x3) + t_fX12_sayPlain_137)) else ((t_fX12_sayDo x2) + ((t_fX12_sayR i l x3) + t_fX12_sayPlain_137))) else (0 + ((t_fX12_sayR i l x2) + (0 + ((t_fX12_sayR i l x3) + t_fX12_sayPlain_137)))))) else ((t_fX12_saySingle i l x2 x3) + t_fX12_sayPlain_137))
theorem tm_fX12_sayPlain_32 (e : zEm i l σ) {x1 : Int32} {x2 : Int32} {x3 : Int32} : zpc (fX12_sayPlain_32 σ x1 x2 x3) (zTm (k_fX12_sayPlain_32 i l x1 x2 x3) (t_fX12_sayPlain_32 i l x1 x2 x3) σ) := by
  unfold fX12_sayPlain_32 k_fX12_sayPlain_32 t_fX12_sayPlain_32
  refine zTmif (fun _ => ?_) (fun _ => ?_)
  · skip
    refine zTmif (fun _ => ?_) (fun _ => ?_)
    · skip
      refine zTmb (show zpc (fX12_say σ 129) (zTm 4 0 σ) from tm_say) (fun σ9 hσ9 => ?_)
      have eσ9 := e.kp hσ9
      exact (show zpc (fX12_sayPlain_137 σ9) (zTm k_fX12_sayPlain_137 t_fX12_sayPlain_137 σ9) from tm_fX12_sayPlain_137 eσ9)
    · skip
      refine zTmif (fun _ => ?_) (fun _ => ?_)
      · skip
        refine zTmif (fun _ => ?_) (fun _ => ?_)
        · skip
          refine zTmif (fun _ => ?_) (fun _ => ?_)
          · skip
            refine zTmb (show zpc (fX12_sayLast σ x2 x3) (zTm (k_fX12_sayLast x2 x3) (t_fX12_sayLast x2 x3) σ) from tm_fX12_sayLast e) (fun σ1 hσ1 => ?_)
            have eσ1 := e.kp hσ1
            exact (show zpc (fX12_sayPlain_137 σ1) (zTm k_fX12_sayPlain_137 t_fX12_sayPlain_137 σ1) from tm_fX12_sayPlain_137 eσ1)
          · skip
            refine zTmb (show zpc (fX12_sayThree σ x2 x3) (zTm (k_fX12_sayThree x2 x3) (t_fX12_sayThree x2 x3) σ) from tm_fX12_sayThree e) (fun σ2 hσ2 => ?_)
            have eσ2 := e.kp hσ2
            exact (show zpc (fX12_sayPlain_137 σ2) (zTm k_fX12_sayPlain_137 t_fX12_sayPlain_137 σ2) from tm_fX12_sayPlain_137 eσ2)
        · skip
          refine zTmb (show zpc (fX12_sayDo σ x2) (zTm (k_fX12_sayDo x2) (t_fX12_sayDo x2) σ) from tm_fX12_sayDo e) (fun σ3 hσ3 => ?_)
          have eσ3 := e.kp hσ3
          refine zTmb (show zpc (fX12_sayR σ3 x3) (zTm (k_fX12_sayR i l x3) (t_fX12_sayR i l x3) σ3) from tm_fX12_sayR eσ3) (fun σ4 hσ4 => ?_)
          have eσ4 := eσ3.kp hσ4
          exact (show zpc (fX12_sayPlain_137 σ4) (zTm k_fX12_sayPlain_137 t_fX12_sayPlain_137 σ4) from tm_fX12_sayPlain_137 eσ4)
      · skip
        refine zTmb (show zpc (fX12_say σ 111) (zTm 3 0 σ) from tm_say) (fun σ5 hσ5 => ?_)
        have eσ5 := e.kp hσ5
        refine zTmb (show zpc (fX12_sayR σ5 x2) (zTm (k_fX12_sayR i l x2) (t_fX12_sayR i l x2) σ5) from tm_fX12_sayR eσ5) (fun σ6 hσ6 => ?_)
        have eσ6 := eσ5.kp hσ6
        refine zTmb (show zpc (fX12_say σ6 83) (zTm 1 0 σ6) from tm_say) (fun σ7 hσ7 => ?_)
        have eσ7 := eσ6.kp hσ7
        refine zTmb (show zpc (fX12_sayR σ7 x3) (zTm (k_fX12_sayR i l x3) (t_fX12_sayR i l x3) σ7) from tm_fX12_sayR eσ7) (fun σ8 hσ8 => ?_)
        have eσ8 := eσ7.kp hσ8
        exact (show zpc (fX12_sayPlain_137 σ8) (zTm k_fX12_sayPlain_137 t_fX12_sayPlain_137 σ8) from tm_fX12_sayPlain_137 eσ8)
  · skip
    refine zTmb (show zpc (fX12_saySingle σ x2 x3) (zTm (k_fX12_saySingle i l x2 x3) (t_fX12_saySingle i l x2 x3) σ) from tm_fX12_saySingle e) (fun σ10 hσ10 => ?_)
    have eσ10 := e.kp hσ10
    exact (show zpc (fX12_sayPlain_137 σ10) (zTm k_fX12_sayPlain_137 t_fX12_sayPlain_137 σ10) from tm_fX12_sayPlain_137 eσ10)
noncomputable def k_fX12_sayPlain (i : Int32) (l : Int32) (x1 : Int32) : Nat := (if (64 : Int32) ≤ x1 then (k_fX12_sayPlain_32 i l x1 ((x1 >>> ((3 : Int32) &&& (31 : Int32))) &&& (7 : Int32)) (x1 &&& (7 : Int32))) else (if (4 : Int32) ≤ (x1 &&& (7 : Int32)) then (k_fX12_sayPlain_32 i l x1 ((x1 >>> ((3 : Int32) &&& (31 : Int32))) &&& (7 : Int32)) (x1 &&& (7 : Int32))) else ((k_fX12_sayZero ((x1 >>> ((3 : Int32) &&& (31 : Int32))) &&& (7 : Int32)) (x1 &&& (7 : Int32))) + k_fX12_sayPlain_137)))
noncomputable def t_fX12_sayPlain (i : Int32) (l : Int32) (x1 : Int32) : Nat := (if (64 : Int32) ≤ x1 then (t_fX12_sayPlain_32 i l x1 ((x1 >>> ((3 : Int32) &&& (31 : Int32))) &&& (7 : Int32)) (x1 &&& (7 : Int32))) else (if (4 : Int32) ≤ (x1 &&& (7 : Int32)) then (t_fX12_sayPlain_32 i l x1 ((x1 >>> ((3 : Int32) &&& (31 : Int32))) &&& (7 : Int32)) (x1 &&& (7 : Int32))) else ((t_fX12_sayZero ((x1 >>> ((3 : Int32) &&& (31 : Int32))) &&& (7 : Int32)) (x1 &&& (7 : Int32))) + t_fX12_sayPlain_137)))
theorem tm_fX12_sayPlain (e : zEm i l σ) {x1 : Int32} : zpc (fX12_sayPlain σ x1) (zTm (k_fX12_sayPlain i l x1) (t_fX12_sayPlain i l x1) σ) := by
  unfold fX12_sayPlain k_fX12_sayPlain t_fX12_sayPlain
  refine zpc_bv (fun v11 ev11 => ?_)
  subst ev11
  refine zpc_bv (fun v12 ev12 => ?_)
  subst ev12
  refine zTmif (fun _ => ?_) (fun _ => ?_)
  · skip
    exact (show zpc (fX12_sayPlain_32 σ x1 ((x1 >>> ((3 : Int32) &&& 31)) &&& 7) (x1 &&& 7)) (zTm (k_fX12_sayPlain_32 i l x1 ((x1 >>> ((3 : Int32) &&& (31 : Int32))) &&& (7 : Int32)) (x1 &&& (7 : Int32))) (t_fX12_sayPlain_32 i l x1 ((x1 >>> ((3 : Int32) &&& (31 : Int32))) &&& (7 : Int32)) (x1 &&& (7 : Int32))) σ) from tm_fX12_sayPlain_32 e)
  · skip
    refine zTmif (fun _ => ?_) (fun _ => ?_)
    · skip
      exact (show zpc (fX12_sayPlain_32 σ x1 ((x1 >>> ((3 : Int32) &&& 31)) &&& 7) (x1 &&& 7)) (zTm (k_fX12_sayPlain_32 i l x1 ((x1 >>> ((3 : Int32) &&& (31 : Int32))) &&& (7 : Int32)) (x1 &&& (7 : Int32))) (t_fX12_sayPlain_32 i l x1 ((x1 >>> ((3 : Int32) &&& (31 : Int32))) &&& (7 : Int32)) (x1 &&& (7 : Int32))) σ) from tm_fX12_sayPlain_32 e)
    · skip
      refine zTmb (show zpc (fX12_sayZero σ ((x1 >>> ((3 : Int32) &&& 31)) &&& 7) (x1 &&& 7)) (zTm (k_fX12_sayZero ((x1 >>> ((3 : Int32) &&& (31 : Int32))) &&& (7 : Int32)) (x1 &&& (7 : Int32))) (t_fX12_sayZero ((x1 >>> ((3 : Int32) &&& (31 : Int32))) &&& (7 : Int32)) (x1 &&& (7 : Int32))) σ) from tm_fX12_sayZero e) (fun σ13 hσ13 => ?_)
      have eσ13 := e.kp hσ13
      exact (show zpc (fX12_sayPlain_137 σ13) (zTm k_fX12_sayPlain_137 t_fX12_sayPlain_137 σ13) from tm_fX12_sayPlain_137 eσ13)
noncomputable def k_fX12_sayOdd_155 : Nat := 0
noncomputable def t_fX12_sayOdd_155 : Nat := 0
theorem tm_fX12_sayOdd_155 (e : zEm i l σ) : zpc (fX12_sayOdd_155 σ ) (zTm k_fX12_sayOdd_155 t_fX12_sayOdd_155 σ) := by
  unfold fX12_sayOdd_155 k_fX12_sayOdd_155 t_fX12_sayOdd_155
  exact zpc_some zTm.rf
noncomputable def k_fX12_sayOdd_35 (n_s0 : Nat) : Nat := (n_s0 + k_fX12_sayOdd_155)
noncomputable def t_fX12_sayOdd_35 (n_s0 : Nat) : Nat := (0 + t_fX12_sayOdd_155)
theorem tm_fX12_sayOdd_35 (e : zEm i l σ) {s0 : Nat} : zpc (fX12_sayOdd_35 σ s0) (zTm (k_fX12_sayOdd_35 (zkL s0)) (t_fX12_sayOdd_35 (zkL s0)) σ) := by
  unfold fX12_sayOdd_35 k_fX12_sayOdd_35 t_fX12_sayOdd_35
  refine zTmb (show zpc (fX12_say σ s0) (zTm (zkL s0) 0 σ) from tm_say) (fun σ1 hσ1 => ?_)
  have eσ1 := e.kp hσ1
  exact (show zpc (fX12_sayOdd_155 σ1) (zTm k_fX12_sayOdd_155 t_fX12_sayOdd_155 σ1) from tm_fX12_sayOdd_155 eσ1)
noncomputable def k_fX12_sayOdd_77 (n_s0 : Nat) : Nat := (n_s0 + k_fX12_sayOdd_155)
noncomputable def t_fX12_sayOdd_77 (n_s0 : Nat) : Nat := (0 + t_fX12_sayOdd_155)
theorem tm_fX12_sayOdd_77 (e : zEm i l σ) {s0 : Nat} : zpc (fX12_sayOdd_77 σ s0) (zTm (k_fX12_sayOdd_77 (zkL s0)) (t_fX12_sayOdd_77 (zkL s0)) σ) := by
  unfold fX12_sayOdd_77 k_fX12_sayOdd_77 t_fX12_sayOdd_77
  refine zTmb (show zpc (fX12_say σ s0) (zTm (zkL s0) 0 σ) from tm_say) (fun σ2 hσ2 => ?_)
  have eσ2 := e.kp hσ2
  exact (show zpc (fX12_sayOdd_155 σ2) (zTm k_fX12_sayOdd_155 t_fX12_sayOdd_155 σ2) from tm_fX12_sayOdd_155 eσ2)
noncomputable def k_fX12_sayOdd_152 (n_s0 : Nat) : Nat := (n_s0 + k_fX12_sayOdd_155)
noncomputable def t_fX12_sayOdd_152 (n_s0 : Nat) : Nat := (0 + t_fX12_sayOdd_155)
theorem tm_fX12_sayOdd_152 (e : zEm i l σ) {s0 : Nat} : zpc (fX12_sayOdd_152 σ s0) (zTm (k_fX12_sayOdd_152 (zkL s0)) (t_fX12_sayOdd_152 (zkL s0)) σ) := by
  unfold fX12_sayOdd_152 k_fX12_sayOdd_152 t_fX12_sayOdd_152
  refine zTmb (show zpc (fX12_say σ s0) (zTm (zkL s0) 0 σ) from tm_say) (fun σ3 hσ3 => ?_)
  have eσ3 := e.kp hσ3
  exact (show zpc (fX12_sayOdd_155 σ3) (zTm k_fX12_sayOdd_155 t_fX12_sayOdd_155 σ3) from tm_fX12_sayOdd_155 eσ3)
noncomputable def k_fX12_sayOdd (x1 : Int32) (x2 : Int32) : Nat := (if x2 = (4 : Int32) then (3 + k_fX12_sayOdd_155) else (if x2 = (5 : Int32) then (k_fX12_sayOdd_35 4) else (if x2 = (6 : Int32) then (k_fX12_sayOdd_77 4) else (if x1 = (0 : Int32) then (k_fX12_sayOdd_152 6) else (if x1 = (1 : Int32) then (k_fX12_sayOdd_152 6) else (if x1 = (2 : Int32) then (k_fX12_sayOdd_152 6) else (if x1 = (3 : Int32) then (k_fX12_sayOdd_152 6) else (k_fX12_sayOdd_152 3))))))))
noncomputable def t_fX12_sayOdd (x1 : Int32) (x2 : Int32) : Nat := (if x2 = (4 : Int32) then (0 + t_fX12_sayOdd_155) else (if x2 = (5 : Int32) then (t_fX12_sayOdd_35 4) else (if x2 = (6 : Int32) then (t_fX12_sayOdd_77 4) else (if x1 = (0 : Int32) then (t_fX12_sayOdd_152 6) else (if x1 = (1 : Int32) then (t_fX12_sayOdd_152 6) else (if x1 = (2 : Int32) then (t_fX12_sayOdd_152 6) else (if x1 = (3 : Int32) then (t_fX12_sayOdd_152 6) else (t_fX12_sayOdd_152 3))))))))
theorem tm_fX12_sayOdd (e : zEm i l σ) {x1 : Int32} {x2 : Int32} : zpc (fX12_sayOdd σ x1 x2) (zTm (k_fX12_sayOdd x1 x2) (t_fX12_sayOdd x1 x2) σ) := by
  unfold fX12_sayOdd k_fX12_sayOdd t_fX12_sayOdd
  refine zTmif (fun _ => ?_) (fun _ => ?_)
  · skip
    refine zTmb (show zpc (fX12_say σ 167) (zTm 3 0 σ) from tm_say) (fun σ4 hσ4 => ?_)
    have eσ4 := e.kp hσ4
    exact (show zpc (fX12_sayOdd_155 σ4) (zTm k_fX12_sayOdd_155 t_fX12_sayOdd_155 σ4) from tm_fX12_sayOdd_155 eσ4)
  · skip
    refine zTmif (fun _ => ?_) (fun _ => ?_)
    · skip
      refine zpc_if (fun _ => ?_) (fun _ => ?_)
      · skip
        exact (show zpc (fX12_sayOdd_35 σ 168) (zTm (k_fX12_sayOdd_35 4) (t_fX12_sayOdd_35 4) σ) from tm_fX12_sayOdd_35 e)
      · skip
        exact (show zpc (fX12_sayOdd_35 σ 169) (zTm (k_fX12_sayOdd_35 4) (t_fX12_sayOdd_35 4) σ) from tm_fX12_sayOdd_35 e)
    · skip
      refine zTmif (fun _ => ?_) (fun _ => ?_)
      · skip
        refine zpc_ck ?_
        refine zpc_if (fun _ => ?_) (fun _ => ?_)
        · skip
          refine zpc_ck ?_
          refine zpc_if (fun _ => ?_) (fun _ => ?_)
          · skip
            exact (show zpc (fX12_sayOdd_77 σ 171) (zTm (k_fX12_sayOdd_77 4) (t_fX12_sayOdd_77 4) σ) from tm_fX12_sayOdd_77 e)
          · skip
            exact (show zpc (fX12_sayOdd_77 σ 172) (zTm (k_fX12_sayOdd_77 4) (t_fX12_sayOdd_77 4) σ) from tm_fX12_sayOdd_77 e)
        · skip
          exact (show zpc (fX12_sayOdd_77 σ 170) (zTm (k_fX12_sayOdd_77 4) (t_fX12_sayOdd_77 4) σ) from tm_fX12_sayOdd_77 e)
      · skip
        refine zTmif (fun _ => ?_) (fun _ => ?_)
        · skip
          exact (show zpc (fX12_sayOdd_152 σ 173) (zTm (k_fX12_sayOdd_152 6) (t_fX12_sayOdd_152 6) σ) from tm_fX12_sayOdd_152 e)
        · skip
          refine zTmif (fun _ => ?_) (fun _ => ?_)
          · skip
            exact (show zpc (fX12_sayOdd_152 σ 174) (zTm (k_fX12_sayOdd_152 6) (t_fX12_sayOdd_152 6) σ) from tm_fX12_sayOdd_152 e)
          · skip
            refine zTmif (fun _ => ?_) (fun _ => ?_)
            · skip
              exact (show zpc (fX12_sayOdd_152 σ 175) (zTm (k_fX12_sayOdd_152 6) (t_fX12_sayOdd_152 6) σ) from tm_fX12_sayOdd_152 e)
            · skip
              refine zTmif (fun _ => ?_) (fun _ => ?_)
              · skip
                exact (show zpc (fX12_sayOdd_152 σ 176) (zTm (k_fX12_sayOdd_152 6) (t_fX12_sayOdd_152 6) σ) from tm_fX12_sayOdd_152 e)
              · skip
                refine zpc_if (fun _ => ?_) (fun _ => ?_)
                · skip
                  exact (show zpc (fX12_sayOdd_152 σ 177) (zTm (k_fX12_sayOdd_152 3) (t_fX12_sayOdd_152 3) σ) from tm_fX12_sayOdd_152 e)
                · skip
                  refine zpc_if (fun _ => ?_) (fun _ => ?_)
                  · skip
                    exact (show zpc (fX12_sayOdd_152 σ 178) (zTm (k_fX12_sayOdd_152 3) (t_fX12_sayOdd_152 3) σ) from tm_fX12_sayOdd_152 e)
                  · skip
                    exact (show zpc (fX12_sayOdd_152 σ 71) (zTm (k_fX12_sayOdd_152 3) (t_fX12_sayOdd_152 3) σ) from tm_fX12_sayOdd_152 e)
noncomputable def k_fX12_sayMore_325 : Nat := 0
noncomputable def t_fX12_sayMore_325 : Nat := 0
theorem tm_fX12_sayMore_325 (e : zEm i l σ) : zpc (fX12_sayMore_325 σ ) (zTm k_fX12_sayMore_325 t_fX12_sayMore_325 σ) := by
  unfold fX12_sayMore_325 k_fX12_sayMore_325 t_fX12_sayMore_325
  exact zpc_some zTm.rf
noncomputable def k_fX12_sayMore_164 : Nat := (3 + k_fX12_sayMore_325)
noncomputable def t_fX12_sayMore_164 : Nat := (0 + t_fX12_sayMore_325)
theorem tm_fX12_sayMore_164 (e : zEm i l σ) : zpc (fX12_sayMore_164 σ ) (zTm k_fX12_sayMore_164 t_fX12_sayMore_164 σ) := by
  unfold fX12_sayMore_164 k_fX12_sayMore_164 t_fX12_sayMore_164
  refine zTmb (show zpc (fX12_say σ 162) (zTm 3 0 σ) from tm_say) (fun σ1 hσ1 => ?_)
  have eσ1 := e.kp hσ1
  exact (show zpc (fX12_sayMore_325 σ1) (zTm k_fX12_sayMore_325 t_fX12_sayMore_325 σ1) from tm_fX12_sayMore_325 eσ1)
noncomputable def k_fX12_sayMore_231 (x2 : Int32) (n_s0 : Nat) : Nat := (n_s0 + ((k_fX12_sayRp (x2 >>> ((1 : Int32) &&& (31 : Int32)))) + k_fX12_sayMore_325))
noncomputable def t_fX12_sayMore_231 (x2 : Int32) (n_s0 : Nat) : Nat := (0 + ((t_fX12_sayRp (x2 >>> ((1 : Int32) &&& (31 : Int32)))) + t_fX12_sayMore_325))
theorem tm_fX12_sayMore_231 (e : zEm i l σ) {x2 : Int32} {s0 : Nat} : zpc (fX12_sayMore_231 σ x2 s0) (zTm (k_fX12_sayMore_231 x2 (zkL s0)) (t_fX12_sayMore_231 x2 (zkL s0)) σ) := by
  unfold fX12_sayMore_231 k_fX12_sayMore_231 t_fX12_sayMore_231
  refine zTmb (show zpc (fX12_say σ s0) (zTm (zkL s0) 0 σ) from tm_say) (fun σ2 hσ2 => ?_)
  have eσ2 := e.kp hσ2
  refine zTmb (show zpc (fX12_sayRp σ2 (x2 >>> ((1 : Int32) &&& 31)) 0) (zTm (k_fX12_sayRp (x2 >>> ((1 : Int32) &&& (31 : Int32)))) (t_fX12_sayRp (x2 >>> ((1 : Int32) &&& (31 : Int32)))) σ2) from tm_fX12_sayRp eσ2) (fun σ3 hσ3 => ?_)
  have eσ3 := eσ2.kp hσ3
  exact (show zpc (fX12_sayMore_325 σ3) (zTm k_fX12_sayMore_325 t_fX12_sayMore_325 σ3) from tm_fX12_sayMore_325 eσ3)
noncomputable def k_fX12_sayMore_316 : Nat := k_fX12_sayMore_325
noncomputable def t_fX12_sayMore_316 : Nat := t_fX12_sayMore_325
theorem tm_fX12_sayMore_316 (e : zEm i l σ) : zpc (fX12_sayMore_316 σ ) (zTm k_fX12_sayMore_316 t_fX12_sayMore_316 σ) := by
  unfold fX12_sayMore_316 k_fX12_sayMore_316 t_fX12_sayMore_316
  exact (show zpc (fX12_sayMore_325 σ) (zTm k_fX12_sayMore_325 t_fX12_sayMore_325 σ) from tm_fX12_sayMore_325 e)
noncomputable def k_fX12_sayMore_286 (x2 : Int32) : Nat := (1 + (if (zrem x2 (2 : Int32)) = (0 : Int32) then ((k_fX12_sayRp (x2 >>> ((1 : Int32) &&& (31 : Int32)))) + k_fX12_sayMore_316) else (k_fX12_sayPlaced + k_fX12_sayMore_316)))
noncomputable def t_fX12_sayMore_286 (x2 : Int32) : Nat := (0 + (if (zrem x2 (2 : Int32)) = (0 : Int32) then ((t_fX12_sayRp (x2 >>> ((1 : Int32) &&& (31 : Int32)))) + t_fX12_sayMore_316) else (t_fX12_sayPlaced + t_fX12_sayMore_316)))
theorem tm_fX12_sayMore_286 (e : zEm i l σ) {x2 : Int32} {x5 : Int32} : zpc (fX12_sayMore_286 σ x2 x5) (zTm (k_fX12_sayMore_286 x2) (t_fX12_sayMore_286 x2) σ) := by
  unfold fX12_sayMore_286 k_fX12_sayMore_286 t_fX12_sayMore_286
  refine zTmb (show zpc (fX12_say σ 83) (zTm 1 0 σ) from tm_say) (fun σ4 hσ4 => ?_)
  have eσ4 := e.kp hσ4
  refine zpc_ck ?_
  refine zTmif (fun _ => ?_) (fun _ => ?_)
  · skip
    refine zTmb (show zpc (fX12_sayRp σ4 (x2 >>> ((1 : Int32) &&& 31)) 0) (zTm (k_fX12_sayRp (x2 >>> ((1 : Int32) &&& (31 : Int32)))) (t_fX12_sayRp (x2 >>> ((1 : Int32) &&& (31 : Int32)))) σ4) from tm_fX12_sayRp eσ4) (fun σ6 hσ6 => ?_)
    have eσ6 := eσ4.kp hσ6
    exact (show zpc (fX12_sayMore_316 σ6) (zTm k_fX12_sayMore_316 t_fX12_sayMore_316 σ6) from tm_fX12_sayMore_316 eσ6)
  · skip
    refine zTmb (show zpc (fX12_sayPlaced σ4 x5) (zTm k_fX12_sayPlaced t_fX12_sayPlaced σ4) from tm_fX12_sayPlaced eσ4) (fun σ5 hσ5 => ?_)
    have eσ5 := eσ4.kp hσ5
    exact (show zpc (fX12_sayMore_316 σ5) (zTm k_fX12_sayMore_316 t_fX12_sayMore_316 σ5) from tm_fX12_sayMore_316 eσ5)
noncomputable def k_fX12_sayMore_119 (i : Int32) (l : Int32) (x2 : Int32) (x3 : Int32) (x4 : Int32) : Nat := (if x4 = (1 : Int32) then (if x3 = (0 : Int32) then (3 + (if x2 = (6 : Int32) then k_fX12_sayMore_164 else ((k_fX12_sayR i l x2) + (1 + k_fX12_sayMore_164)))) else (if x3 = (1 : Int32) then (8 + (if x2 = (6 : Int32) then (1 + k_fX12_sayMore_325) else ((k_fX12_sayR i l x2) + k_fX12_sayMore_325))) else (if x3 = (2 : Int32) then (k_fX12_sayMore_231 x2 7) else (if x3 = (3 : Int32) then (3 + (0 + (if (zrem x2 (2 : Int32)) = (0 : Int32) then (k_fX12_sayPlaced + (k_fX12_sayMore_286 x2)) else ((k_fX12_sayRp (x2 >>> ((1 : Int32) &&& (31 : Int32)))) + (k_fX12_sayMore_286 x2))))) else ((k_fX12_sayOdd x2 x3) + k_fX12_sayMore_325))))) else (3 + k_fX12_sayMore_325))
noncomputable def t_fX12_sayMore_119 (i : Int32) (l : Int32) (x2 : Int32) (x3 : Int32) (x4 : Int32) : Nat := (if x4 = (1 : Int32) then (if x3 = (0 : Int32) then (0 + (if x2 = (6 : Int32) then t_fX12_sayMore_164 else ((t_fX12_sayR i l x2) + (0 + t_fX12_sayMore_164)))) else (if x3 = (1 : Int32) then (0 + (if x2 = (6 : Int32) then (0 + t_fX12_sayMore_325) else ((t_fX12_sayR i l x2) + t_fX12_sayMore_325))) else (if x3 = (2 : Int32) then (t_fX12_sayMore_231 x2 7) else (if x3 = (3 : Int32) then (0 + (2 + (if (zrem x2 (2 : Int32)) = (0 : Int32) then (t_fX12_sayPlaced + (t_fX12_sayMore_286 x2)) else ((t_fX12_sayRp (x2 >>> ((1 : Int32) &&& (31 : Int32)))) + (t_fX12_sayMore_286 x2))))) else ((t_fX12_sayOdd x2 x3) + t_fX12_sayMore_325))))) else (0 + t_fX12_sayMore_325))
theorem tm_fX12_sayMore_119 (e : zEm i l σ) {x2 : Int32} {x3 : Int32} {x4 : Int32} : zpc (fX12_sayMore_119 σ x2 x3 x4) (zTm (k_fX12_sayMore_119 i l x2 x3 x4) (t_fX12_sayMore_119 i l x2 x3 x4) σ) := by
  unfold fX12_sayMore_119 k_fX12_sayMore_119 t_fX12_sayMore_119
  refine zTmif (fun _ => ?_) (fun _ => ?_)
  · skip
    refine zTmif (fun _ => ?_) (fun _ => ?_)
    · skip
      refine zTmb (show zpc (fX12_say σ 161) (zTm 3 0 σ) from tm_say) (fun σ16 hσ16 => ?_)
      have eσ16 := e.kp hσ16
      refine zTmif (fun _ => ?_) (fun _ => ?_)
      · skip
        exact (show zpc (fX12_sayMore_164 σ16) (zTm k_fX12_sayMore_164 t_fX12_sayMore_164 σ16) from tm_fX12_sayMore_164 eσ16)
      · skip
        refine zTmb (show zpc (fX12_sayR σ16 x2) (zTm (k_fX12_sayR i l x2) (t_fX12_sayR i l x2) σ16) from tm_fX12_sayR eσ16) (fun σ17 hσ17 => ?_)
        have eσ17 := eσ16.kp hσ17
        refine zTmb (show zpc (fX12_say σ17 83) (zTm 1 0 σ17) from tm_say) (fun σ18 hσ18 => ?_)
        have eσ18 := eσ17.kp hσ18
        exact (show zpc (fX12_sayMore_164 σ18) (zTm k_fX12_sayMore_164 t_fX12_sayMore_164 σ18) from tm_fX12_sayMore_164 eσ18)
    · skip
      refine zTmif (fun _ => ?_) (fun _ => ?_)
      · skip
        refine zTmb (show zpc (fX12_say σ 163) (zTm 8 0 σ) from tm_say) (fun σ13 hσ13 => ?_)
        have eσ13 := e.kp hσ13
        refine zTmif (fun _ => ?_) (fun _ => ?_)
        · skip
          refine zTmb (show zpc (fX12_say σ13 164) (zTm 1 0 σ13) from tm_say) (fun σ15 hσ15 => ?_)
          have eσ15 := eσ13.kp hσ15
          exact (show zpc (fX12_sayMore_325 σ15) (zTm k_fX12_sayMore_325 t_fX12_sayMore_325 σ15) from tm_fX12_sayMore_325 eσ15)
        · skip
          refine zTmb (show zpc (fX12_sayR σ13 x2) (zTm (k_fX12_sayR i l x2) (t_fX12_sayR i l x2) σ13) from tm_fX12_sayR eσ13) (fun σ14 hσ14 => ?_)
          have eσ14 := eσ13.kp hσ14
          exact (show zpc (fX12_sayMore_325 σ14) (zTm k_fX12_sayMore_325 t_fX12_sayMore_325 σ14) from tm_fX12_sayMore_325 eσ14)
      · skip
        refine zTmif (fun _ => ?_) (fun _ => ?_)
        · skip
          refine zpc_ck ?_
          refine zpc_if (fun _ => ?_) (fun _ => ?_)
          · skip
            exact (show zpc (fX12_sayMore_231 σ x2 165) (zTm (k_fX12_sayMore_231 x2 7) (t_fX12_sayMore_231 x2 7) σ) from tm_fX12_sayMore_231 e)
          · skip
            exact (show zpc (fX12_sayMore_231 σ x2 166) (zTm (k_fX12_sayMore_231 x2 7) (t_fX12_sayMore_231 x2 7) σ) from tm_fX12_sayMore_231 e)
        · skip
          refine zTmif (fun _ => ?_) (fun _ => ?_)
          · skip
            refine zTmb (show zpc (fX12_say σ 111) (zTm 3 0 σ) from tm_say) (fun σ8 hσ8 => ?_)
            have eσ8 := e.kp hσ8
            refine zTmi (show zpc (fX12_takenWord σ8) (fun r => zTm 0 2 σ8 r.1) from tm_word) (fun σ9 v10 hσ9 => ?_)
            have eσ9 := eσ8.kp hσ9
            refine zpc_ck ?_
            refine zTmif (fun _ => ?_) (fun _ => ?_)
            · skip
              refine zTmb (show zpc (fX12_sayPlaced σ9 v10) (zTm k_fX12_sayPlaced t_fX12_sayPlaced σ9) from tm_fX12_sayPlaced eσ9) (fun σ12 hσ12 => ?_)
              have eσ12 := eσ9.kp hσ12
              exact (show zpc (fX12_sayMore_286 σ12 x2 v10) (zTm (k_fX12_sayMore_286 x2) (t_fX12_sayMore_286 x2) σ12) from tm_fX12_sayMore_286 eσ12)
            · skip
              refine zTmb (show zpc (fX12_sayRp σ9 (x2 >>> ((1 : Int32) &&& 31)) 0) (zTm (k_fX12_sayRp (x2 >>> ((1 : Int32) &&& (31 : Int32)))) (t_fX12_sayRp (x2 >>> ((1 : Int32) &&& (31 : Int32)))) σ9) from tm_fX12_sayRp eσ9) (fun σ11 hσ11 => ?_)
              have eσ11 := eσ9.kp hσ11
              exact (show zpc (fX12_sayMore_286 σ11 x2 v10) (zTm (k_fX12_sayMore_286 x2) (t_fX12_sayMore_286 x2) σ11) from tm_fX12_sayMore_286 eσ11)
          · skip
            refine zTmb (show zpc (fX12_sayOdd σ x2 x3) (zTm (k_fX12_sayOdd x2 x3) (t_fX12_sayOdd x2 x3) σ) from tm_fX12_sayOdd e) (fun σ7 hσ7 => ?_)
            have eσ7 := e.kp hσ7
            exact (show zpc (fX12_sayMore_325 σ7) (zTm k_fX12_sayMore_325 t_fX12_sayMore_325 σ7) from tm_fX12_sayMore_325 eσ7)
  · skip
    refine zTmb (show zpc (fX12_say σ 71) (zTm 3 0 σ) from tm_say) (fun σ19 hσ19 => ?_)
    have eσ19 := e.kp hσ19
    exact (show zpc (fX12_sayMore_325 σ19) (zTm k_fX12_sayMore_325 t_fX12_sayMore_325 σ19) from tm_fX12_sayMore_325 eσ19)
noncomputable def k_fX12_sayMore_101 (x2 : Int32) (n_s0 : Nat) : Nat := (n_s0 + (if x2 ≤ (5 : Int32) then k_fX12_sayMore_325 else (1 + k_fX12_sayMore_325)))
noncomputable def t_fX12_sayMore_101 (x2 : Int32) (n_s0 : Nat) : Nat := (0 + (if x2 ≤ (5 : Int32) then t_fX12_sayMore_325 else (0 + t_fX12_sayMore_325)))
theorem tm_fX12_sayMore_101 (e : zEm i l σ) {x2 : Int32} {s0 : Nat} : zpc (fX12_sayMore_101 σ x2 s0) (zTm (k_fX12_sayMore_101 x2 (zkL s0)) (t_fX12_sayMore_101 x2 (zkL s0)) σ) := by
  unfold fX12_sayMore_101 k_fX12_sayMore_101 t_fX12_sayMore_101
  refine zTmb (show zpc (fX12_say σ s0) (zTm (zkL s0) 0 σ) from tm_say) (fun σ20 hσ20 => ?_)
  have eσ20 := e.kp hσ20
  refine zTmif (fun _ => ?_) (fun _ => ?_)
  · skip
    exact (show zpc (fX12_sayMore_325 σ20) (zTm k_fX12_sayMore_325 t_fX12_sayMore_325 σ20) from tm_fX12_sayMore_325 eσ20)
  · skip
    refine zTmb (show zpc (fX12_say σ20 160) (zTm 1 0 σ20) from tm_say) (fun σ21 hσ21 => ?_)
    have eσ21 := eσ20.kp hσ21
    exact (show zpc (fX12_sayMore_325 σ21) (zTm k_fX12_sayMore_325 t_fX12_sayMore_325 σ21) from tm_fX12_sayMore_325 eσ21)
noncomputable def k_fX12_sayMore_82 (x2 : Int32) (n_s0 : Nat) : Nat := (n_s0 + (k_fX12_sayMore_101 x2 1))
noncomputable def t_fX12_sayMore_82 (x2 : Int32) (n_s0 : Nat) : Nat := (0 + (t_fX12_sayMore_101 x2 1))
theorem tm_fX12_sayMore_82 (e : zEm i l σ) {x2 : Int32} {s0 : Nat} : zpc (fX12_sayMore_82 σ x2 s0) (zTm (k_fX12_sayMore_82 x2 (zkL s0)) (t_fX12_sayMore_82 x2 (zkL s0)) σ) := by
  unfold fX12_sayMore_82 k_fX12_sayMore_82 t_fX12_sayMore_82
  refine zTmb (show zpc (fX12_say σ s0) (zTm (zkL s0) 0 σ) from tm_say) (fun σ22 hσ22 => ?_)
  have eσ22 := e.kp hσ22
  refine zpc_ck ?_
  refine zpc_if (fun _ => ?_) (fun _ => ?_)
  · skip
    exact (show zpc (fX12_sayMore_101 σ22 x2 159) (zTm (k_fX12_sayMore_101 x2 1) (t_fX12_sayMore_101 x2 1) σ22) from tm_fX12_sayMore_101 eσ22)
  · skip
    exact (show zpc (fX12_sayMore_101 σ22 x2 95) (zTm (k_fX12_sayMore_101 x2 1) (t_fX12_sayMore_101 x2 1) σ22) from tm_fX12_sayMore_101 eσ22)
noncomputable def k_fX12_sayMore (i : Int32) (l : Int32) (x1 : Int32) : Nat := (if (x1 >>> ((6 : Int32) &&& (31 : Int32))) = (2 : Int32) then (if ((x1 >>> ((3 : Int32) &&& (31 : Int32))) &&& (7 : Int32)) ≤ (3 : Int32) then (k_fX12_sayMore_119 i l ((x1 >>> ((3 : Int32) &&& (31 : Int32))) &&& (7 : Int32)) (x1 &&& (7 : Int32)) (x1 >>> ((6 : Int32) &&& (31 : Int32)))) else (if (4 : Int32) ≤ (x1 &&& (7 : Int32)) then (k_fX12_sayMore_119 i l ((x1 >>> ((3 : Int32) &&& (31 : Int32))) &&& (7 : Int32)) (x1 &&& (7 : Int32)) (x1 >>> ((6 : Int32) &&& (31 : Int32)))) else (if (x1 &&& (7 : Int32)) = (0 : Int32) then (k_fX12_sayMore_82 ((x1 >>> ((3 : Int32) &&& (31 : Int32))) &&& (7 : Int32)) 2) else (if (x1 &&& (7 : Int32)) = (1 : Int32) then (k_fX12_sayMore_82 ((x1 >>> ((3 : Int32) &&& (31 : Int32))) &&& (7 : Int32)) 2) else (if (x1 &&& (7 : Int32)) = (2 : Int32) then (k_fX12_sayMore_82 ((x1 >>> ((3 : Int32) &&& (31 : Int32))) &&& (7 : Int32)) 2) else (if (6 : Int32) ≤ ((x1 >>> ((3 : Int32) &&& (31 : Int32))) &&& (7 : Int32)) then (k_fX12_sayMore_82 ((x1 >>> ((3 : Int32) &&& (31 : Int32))) &&& (7 : Int32)) 2) else (k_fX12_sayMore_82 ((x1 >>> ((3 : Int32) &&& (31 : Int32))) &&& (7 : Int32)) 3))))))) else (k_fX12_sayMore_119 i l ((x1 >>> ((3 : Int32) &&& (31 : Int32))) &&& (7 : Int32)) (x1 &&& (7 : Int32)) (x1 >>> ((6 : Int32) &&& (31 : Int32)))))
noncomputable def t_fX12_sayMore (i : Int32) (l : Int32) (x1 : Int32) : Nat := (if (x1 >>> ((6 : Int32) &&& (31 : Int32))) = (2 : Int32) then (if ((x1 >>> ((3 : Int32) &&& (31 : Int32))) &&& (7 : Int32)) ≤ (3 : Int32) then (t_fX12_sayMore_119 i l ((x1 >>> ((3 : Int32) &&& (31 : Int32))) &&& (7 : Int32)) (x1 &&& (7 : Int32)) (x1 >>> ((6 : Int32) &&& (31 : Int32)))) else (if (4 : Int32) ≤ (x1 &&& (7 : Int32)) then (t_fX12_sayMore_119 i l ((x1 >>> ((3 : Int32) &&& (31 : Int32))) &&& (7 : Int32)) (x1 &&& (7 : Int32)) (x1 >>> ((6 : Int32) &&& (31 : Int32)))) else (if (x1 &&& (7 : Int32)) = (0 : Int32) then (t_fX12_sayMore_82 ((x1 >>> ((3 : Int32) &&& (31 : Int32))) &&& (7 : Int32)) 2) else (if (x1 &&& (7 : Int32)) = (1 : Int32) then (t_fX12_sayMore_82 ((x1 >>> ((3 : Int32) &&& (31 : Int32))) &&& (7 : Int32)) 2) else (if (x1 &&& (7 : Int32)) = (2 : Int32) then (t_fX12_sayMore_82 ((x1 >>> ((3 : Int32) &&& (31 : Int32))) &&& (7 : Int32)) 2) else (if (6 : Int32) ≤ ((x1 >>> ((3 : Int32) &&& (31 : Int32))) &&& (7 : Int32)) then (t_fX12_sayMore_82 ((x1 >>> ((3 : Int32) &&& (31 : Int32))) &&& (7 : Int32)) 2) else (t_fX12_sayMore_82 ((x1 >>> ((3 : Int32) &&& (31 : Int32))) &&& (7 : Int32)) 3))))))) else (t_fX12_sayMore_119 i l ((x1 >>> ((3 : Int32) &&& (31 : Int32))) &&& (7 : Int32)) (x1 &&& (7 : Int32)) (x1 >>> ((6 : Int32) &&& (31 : Int32)))))
theorem tm_fX12_sayMore (e : zEm i l σ) {x1 : Int32} : zpc (fX12_sayMore σ x1) (zTm (k_fX12_sayMore i l x1) (t_fX12_sayMore i l x1) σ) := by
  unfold fX12_sayMore k_fX12_sayMore t_fX12_sayMore
  refine zpc_bv (fun v23 ev23 => ?_)
  subst ev23
  refine zpc_bv (fun v24 ev24 => ?_)
  subst ev24
  refine zpc_bv (fun v25 ev25 => ?_)
  subst ev25
  refine zTmif (fun _ => ?_) (fun _ => ?_)
  · skip
    refine zTmif (fun _ => ?_) (fun _ => ?_)
    · skip
      exact (show zpc (fX12_sayMore_119 σ ((x1 >>> ((3 : Int32) &&& 31)) &&& 7) (x1 &&& 7) (x1 >>> ((6 : Int32) &&& 31))) (zTm (k_fX12_sayMore_119 i l ((x1 >>> ((3 : Int32) &&& (31 : Int32))) &&& (7 : Int32)) (x1 &&& (7 : Int32)) (x1 >>> ((6 : Int32) &&& (31 : Int32)))) (t_fX12_sayMore_119 i l ((x1 >>> ((3 : Int32) &&& (31 : Int32))) &&& (7 : Int32)) (x1 &&& (7 : Int32)) (x1 >>> ((6 : Int32) &&& (31 : Int32)))) σ) from tm_fX12_sayMore_119 e)
    · skip
      refine zTmif (fun _ => ?_) (fun _ => ?_)
      · skip
        exact (show zpc (fX12_sayMore_119 σ ((x1 >>> ((3 : Int32) &&& 31)) &&& 7) (x1 &&& 7) (x1 >>> ((6 : Int32) &&& 31))) (zTm (k_fX12_sayMore_119 i l ((x1 >>> ((3 : Int32) &&& (31 : Int32))) &&& (7 : Int32)) (x1 &&& (7 : Int32)) (x1 >>> ((6 : Int32) &&& (31 : Int32)))) (t_fX12_sayMore_119 i l ((x1 >>> ((3 : Int32) &&& (31 : Int32))) &&& (7 : Int32)) (x1 &&& (7 : Int32)) (x1 >>> ((6 : Int32) &&& (31 : Int32)))) σ) from tm_fX12_sayMore_119 e)
      · skip
        refine zTmif (fun _ => ?_) (fun _ => ?_)
        · skip
          exact (show zpc (fX12_sayMore_82 σ ((x1 >>> ((3 : Int32) &&& 31)) &&& 7) 154) (zTm (k_fX12_sayMore_82 ((x1 >>> ((3 : Int32) &&& (31 : Int32))) &&& (7 : Int32)) 2) (t_fX12_sayMore_82 ((x1 >>> ((3 : Int32) &&& (31 : Int32))) &&& (7 : Int32)) 2) σ) from tm_fX12_sayMore_82 e)
        · skip
          refine zTmif (fun _ => ?_) (fun _ => ?_)
          · skip
            exact (show zpc (fX12_sayMore_82 σ ((x1 >>> ((3 : Int32) &&& 31)) &&& 7) 155) (zTm (k_fX12_sayMore_82 ((x1 >>> ((3 : Int32) &&& (31 : Int32))) &&& (7 : Int32)) 2) (t_fX12_sayMore_82 ((x1 >>> ((3 : Int32) &&& (31 : Int32))) &&& (7 : Int32)) 2) σ) from tm_fX12_sayMore_82 e)
          · skip
            refine zTmif (fun _ => ?_) (fun _ => ?_)
            · skip
              exact (show zpc (fX12_sayMore_82 σ ((x1 >>> ((3 : Int32) &&& 31)) &&& 7) 156) (zTm (k_fX12_sayMore_82 ((x1 >>> ((3 : Int32) &&& (31 : Int32))) &&& (7 : Int32)) 2) (t_fX12_sayMore_82 ((x1 >>> ((3 : Int32) &&& (31 : Int32))) &&& (7 : Int32)) 2) σ) from tm_fX12_sayMore_82 e)
            · skip
              refine zTmif (fun _ => ?_) (fun _ => ?_)
              · skip
                exact (show zpc (fX12_sayMore_82 σ ((x1 >>> ((3 : Int32) &&& 31)) &&& 7) 158) (zTm (k_fX12_sayMore_82 ((x1 >>> ((3 : Int32) &&& (31 : Int32))) &&& (7 : Int32)) 2) (t_fX12_sayMore_82 ((x1 >>> ((3 : Int32) &&& (31 : Int32))) &&& (7 : Int32)) 2) σ) from tm_fX12_sayMore_82 e)
              · skip
                exact (show zpc (fX12_sayMore_82 σ ((x1 >>> ((3 : Int32) &&& 31)) &&& 7) 157) (zTm (k_fX12_sayMore_82 ((x1 >>> ((3 : Int32) &&& (31 : Int32))) &&& (7 : Int32)) 3) (t_fX12_sayMore_82 ((x1 >>> ((3 : Int32) &&& (31 : Int32))) &&& (7 : Int32)) 3) σ) from tm_fX12_sayMore_82 e)
  · skip
    exact (show zpc (fX12_sayMore_119 σ ((x1 >>> ((3 : Int32) &&& 31)) &&& 7) (x1 &&& 7) (x1 >>> ((6 : Int32) &&& 31))) (zTm (k_fX12_sayMore_119 i l ((x1 >>> ((3 : Int32) &&& (31 : Int32))) &&& (7 : Int32)) (x1 &&& (7 : Int32)) (x1 >>> ((6 : Int32) &&& (31 : Int32)))) (t_fX12_sayMore_119 i l ((x1 >>> ((3 : Int32) &&& (31 : Int32))) &&& (7 : Int32)) (x1 &&& (7 : Int32)) (x1 >>> ((6 : Int32) &&& (31 : Int32)))) σ) from tm_fX12_sayMore_119 e)
end ZTF
end ZJN6
section ZJN7
/-! TELL OF BOTH -/
theorem zpKif {α : Type} {σ : zSt} {q : Prop} {d1 d2 : Decidable q} {A B : Option (zSt × α)} {a b : α} (h1 : q → zpc A (fun r => r = (σ, a))) (h2 : ¬ q → zpc B (fun r => r = (σ, b))) : zpc (@ite _ q d1 A B) (fun r => r = (σ, @ite _ q d2 a b)) := by
  by_cases z : q
  · rw [if_pos z, if_pos z]; exact h1 z
  · rw [if_neg z, if_neg z]; exact h2 z
theorem zpc_self {α : Type} {o : Option α} : zpc o (fun r => o = some r) := fun r e => e
theorem zrem_1 (y : Int32) : zrem y 1 = 0 := by
  unfold zrem
  rw [Int32.div_one, Int32.mul_one, Int32.sub_self]
/-! which pattern -/
noncomputable def zN1 (z : Int32) : Nat := if z = 0 then 25 else if z = 1 then 26 else if z = 2 then 27 else if z = 3 then 28 else if z = 4 then 29 else if z = 5 then 30 else if z = 6 then 31 else 32
noncomputable def zN4 (z : Int32) : Nat := if z = 0 then 36 else if z = 1 then 37 else if z = 2 then 38 else if z = 3 then 39 else if z = 4 then 40 else if z = 5 then 41 else if z = 6 then 42 else 43
noncomputable def zNt (x : Int32) : Nat := if x = 0 then 6 else if x = 1 then 7 else if x = 2 then 8 else 9
noncomputable def zNb1 (s : Int32) : Nat := if s = 0 then 10 else if s = 1 then 11 else if s = 2 then 12 else if s = 3 then 13 else 0
noncomputable def zNb (y z : Int32) : Nat := if 4 ≤ y then zNb1 z else zNb1 7
noncomputable def zNeq (x y z : Int32) : Nat := if x = 1 then (if z = 0 then (if y = 6 then 14 else 15) else if z = 1 then (if y = 6 then 16 else 17) else if z = 2 then 18 else if z = 3 then 19 else if z = 4 then 20 else if z = 5 then (if y = 1 then 21 else 22) else if z = 6 then 23 else 24) else 0
noncomputable def zNo (v : Int32) : Nat := if (v >>> ((6 : Int32) &&& 31)) = 0 then zN1 (v &&& 7) else if (v >>> ((6 : Int32) &&& 31)) = 1 then (if v = 118 then 33 else 34) else if (v >>> ((6 : Int32) &&& 31)) = 2 then 35 else zN4 (v &&& 7)
section ZT3
variable {σ μ s t : zSt} {v x y z p b : Int32}
theorem tc_first : zpc (fX8_firstPatterns σ ) (fun r => r = (σ, zN1 (zgi σ 10 7))) := by
  unfold fX8_firstPatterns zN1
  exact zpKif (fun _ => zpc_some rfl) (fun _ => zpKif (fun _ => zpc_some rfl) (fun _ => zpKif (fun _ => zpc_some rfl) (fun _ => zpKif (fun _ => zpc_some rfl) (fun _ => zpKif (fun _ => zpc_some rfl) (fun _ => zpKif (fun _ => zpc_some rfl) (fun _ => zpKif (fun _ => zpc_some rfl) (fun _ => zpc_some rfl)))))))
theorem tc_last : zpc (fX8_lastPatterns σ ) (fun r => r = (σ, zN4 (zgi σ 10 7))) := by
  unfold fX8_lastPatterns zN4
  exact zpKif (fun _ => zpc_some rfl) (fun _ => zpKif (fun _ => zpc_some rfl) (fun _ => zpKif (fun _ => zpc_some rfl) (fun _ => zpKif (fun _ => zpc_some rfl) (fun _ => zpKif (fun _ => zpc_some rfl) (fun _ => zpKif (fun _ => zpc_some rfl) (fun _ => zpKif (fun _ => zpc_some rfl) (fun _ => zpc_some rfl)))))))
theorem tc_turn : zpc (fX8_turnPatterns σ ) (fun r => r = (σ, zNt (zgi σ 10 5))) := by
  unfold fX8_turnPatterns zNt
  exact zpKif (fun _ => zpc_some rfl) (fun _ => zpKif (fun _ => zpc_some rfl) (fun _ => zpKif (fun _ => zpc_some rfl) (fun _ => zpc_some rfl)))
theorem tc_block : zpc (fX8_blockPatterns σ ) (fun r => r = (σ, zNb (zgi σ 10 6) (zgi σ 10 7))) := by
  have go : ∀ w, zpc (fX8_blockPatterns_17 σ w) (fun r => r = (σ, zNb1 w)) := fun w => by
    unfold fX8_blockPatterns_17 zNb1
    exact zpKif (fun _ => zpc_some rfl) (fun _ => zpKif (fun _ => zpc_some rfl) (fun _ => zpKif (fun _ => zpc_some rfl) (fun _ => zpKif (fun _ => zpc_some rfl) (fun _ => zpc_some rfl))))
  unfold fX8_blockPatterns zNb
  exact zpKif (fun _ => go _) (fun _ => go _)
theorem tc_more : zpc (fX8_morePatterns σ ) (fun r => r = (σ, zNeq (zgi σ 10 5) (zgi σ 10 6) (zgi σ 10 7))) := by
  unfold fX8_morePatterns fX8_morePatterns_114 fX8_morePatterns_89 fX8_morePatterns_72 zNeq
  exact zpKif (fun _ => zpKif (fun _ => zpKif (fun _ => zpc_some rfl) (fun _ => zpc_some rfl)) (fun _ => zpKif (fun _ => zpKif (fun _ => zpc_some rfl) (fun _ => zpc_some rfl)) (fun _ => zpKif (fun _ => zpc_some rfl) (fun _ => zpKif (fun _ => zpc_some rfl) (fun _ => zpKif (fun _ => zpc_some rfl) (fun _ => zpKif (fun _ => zpKif (fun _ => zpc_some rfl) (fun _ => zpc_some rfl)) (fun _ => zpKif (fun _ => zpc_some rfl) (fun _ => zpc_some rfl)))))))) (fun _ => zpc_some rfl)
/-- an op parted -/
noncomputable def zSpq (σ : zSt) (v : Int32) : zSt := zsi (zsi (zsi σ 10 5 (v >>> ((6 : Int32) &&& 31))) 10 6 ((v >>> ((3 : Int32) &&& 31)) &&& 7)) 10 7 (v &&& 7)
theorem tc_split : zpc (fX8_split σ v) (fun r => r = zSpq σ v) := by
  unfold fX8_split
  exact zpc_bv (fun s1 e1 => zpc_bv (fun s2 e2 => zpc_bv (fun s3 e3 => zpc_some (by rw [e3, e2, e1]; rfl))))
theorem zSpq_e : zEc (v >>> ((6 : Int32) &&& 31)) ((v >>> ((3 : Int32) &&& 31)) &&& 7) (v &&& 7) (σ.1 10 8) (σ.1 10 9) (zSpq σ v) := ⟨rfl, rfl, rfl, rfl, rfl⟩
/-- one byte taken, exactly -/
theorem tc_takeE : zpc (fX8_take σ ) (fun r => r.1 = zsi σ 10 4 (σ.1 10 4 + 1) ∧ fX2_read σ (σ.1 10 3 + σ.1 10 4) = some (σ, r.2)) := by
  unfold fX8_take
  refine zpc_bi (P := fun r => zQ [] [] [] [] σ r.1 ∧ fX2_read σ (σ.1 10 3 + σ.1 10 4) = some r) (zpc_and (fi_fX2_read (σ0 := σ) zQ.rf) zpc_self) (fun s1 v e => zpc_bv (fun s2 e2 => zpc_some ?_))
  have e1 : s1 = σ := zQ_eq e.1
  rw [e1] at e2
  refine ⟨e2, ?_⟩
  have e3 := e.2
  rw [e1] at e3
  exact e3
/-- what is told of an op: signs, bytes -/
noncomputable def zSumq (k c : Nat) (r : zSt × Int32) : Prop := c ≤ 100 → zTln k 0 (r.1.1 10 2).toInt ∧ r.2.toInt = (c : Int)
theorem tc_fin {n m : Nat} (he : zEc x y z p b s) (e2 : s.1 10 2 = 0) (e4 : (s.1 10 4).toInt = (m : Int)) (hm : m ≤ 10) : zpc (zbu (fX8_put s n) (fun σ4 => some (σ4, zgi σ4 10 4))) (zSumq (zPkq n x y z p b) (m + zPc n x y z p b)) := by
  refine zpc_bu (tc_put he) (fun s2 h2 => zpc_some (fun hc => ?_))
  obtain ⟨u1, u2⟩ := h2.2 (by rw [e2]; exact zr_c (by decide)) (by rw [e4]; omega) (by rw [e4]; omega)
  rw [e2] at u1
  rw [e4] at u2
  refine ⟨u1, ?_⟩
  show (s2.1 10 4).toInt = _
  rw [u2]
  omega
/-- an op without CB, ED -/
theorem tc_plain {m : Nat} (h1 : ¬ v = 203) (h2 : ¬ v = 237) (ep : σ.1 10 8 = p) (eb : σ.1 10 9 = b) (e2 : σ.1 10 2 = 0) (e4 : (σ.1 10 4).toInt = (m : Int)) (hm : m ≤ 10) : zpc (fX8_write_124 σ v) (zSumq (zPkq (zNo v) (v >>> ((6 : Int32) &&& 31)) ((v >>> ((3 : Int32) &&& 31)) &&& 7) (v &&& 7) p b) (m + zPc (zNo v) (v >>> ((6 : Int32) &&& 31)) ((v >>> ((3 : Int32) &&& 31)) &&& 7) (v &&& 7) p b)) := by
  unfold fX8_write_124
  refine zpc_bk (P := fun r => r = (zSpq σ v, zNo v)) ?_ (fun s n e => ?_)
  · unfold fX8_patternsOf fX8_patternsOf_126 zNo
    refine zpc_if (fun q => absurd q h1) (fun _ => zpc_if (fun q => absurd q h2) (fun _ => zpc_bu tc_split (fun s1 e1 => ?_)))
    subst e1
    rw [show zgi (zSpq σ v) 10 5 = (v >>> ((6 : Int32) &&& 31)) from rfl]
    refine zpKif (fun _ => zpc_bk tc_first (fun s2 n2 q => zpc_some ?_)) (fun _ => zpKif (fun _ => zpKif (fun _ => zpc_some rfl) (fun _ => zpc_some rfl)) (fun _ => zpKif (fun _ => zpc_some rfl) (fun _ => zpc_bk tc_last (fun s2 n2 q => zpc_some ?_))))
    · exact q.trans rfl
    · exact q.trans rfl
  cases e
  have he := zSpq_e (σ := σ) (v := v)
  rw [ep, eb] at he
  exact tc_fin he e2 e4 hm
/-- behind CB -/
theorem tc_23 {m : Nat} {d : Int32} (ep : σ.1 10 8 = p) (eb : σ.1 10 9 = b) (e2 : σ.1 10 2 = 0) (e4 : (σ.1 10 4 + 1).toInt = (m : Int)) (hm : m ≤ 10) : zpc (zbk (fX8_patternsOf_23 σ d) (fun σ2 v3 => zbu (fX8_put σ2 v3) (fun σ4 => some (σ4, zgi σ4 10 4)))) (fun r => ∃ s1 v, zQ [10] [] [] [] σ s1 ∧ fX2_read s1 (σ.1 10 3 + σ.1 10 4) = some (s1, v) ∧ zSumq (zPkq (zNt (v >>> ((6 : Int32) &&& 31))) (v >>> ((6 : Int32) &&& 31)) ((v >>> ((3 : Int32) &&& 31)) &&& 7) (v &&& 7) p b) (m + zPc (zNt (v >>> ((6 : Int32) &&& 31))) (v >>> ((6 : Int32) &&& 31)) ((v >>> ((3 : Int32) &&& 31)) &&& 7) (v &&& 7) p b) r) := by
  unfold fX8_patternsOf_23
  refine zpc_bk (P := fun r => ∃ v, fX2_read (zsi σ 10 10 d) (σ.1 10 3 + σ.1 10 4) = some (zsi σ 10 10 d, v) ∧ r = (zSpq (zsi (zsi σ 10 10 d) 10 4 (σ.1 10 4 + 1)) v, zNt (v >>> ((6 : Int32) &&& 31)))) ?_ (fun s n e => ?_)
  · refine zpc_bv (fun s1 e1 => zpc_bi (tc_takeE (σ := s1)) (fun s2 v3 q => zpc_bu tc_split (fun s4 e4 => zpc_bk tc_turn (fun s5 n6 e5 => zpc_some ?_))))
    subst e1
    obtain ⟨q1, q2⟩ := q
    have q1 : s2 = zsi (zsi σ 10 10 d) 10 4 (σ.1 10 4 + 1) := q1
    refine ⟨v3, q2, ?_⟩
    rw [e5, e4, q1]
    rfl
  · obtain ⟨v, f, e⟩ := e
    cases e
    have he := zSpq_e (σ := zsi (zsi σ 10 10 d) 10 4 (σ.1 10 4 + 1)) (v := v)
    rw [show (zsi (zsi σ 10 10 d) 10 4 (σ.1 10 4 + 1)).1 10 8 = p from ep, show (zsi (zsi σ 10 10 d) 10 4 (σ.1 10 4 + 1)).1 10 9 = b from eb] at he
    refine zpc_mono (tc_fin he e2 ?_ hm) (fun r g => ⟨zsi σ 10 10 d, v, zQ.wi zQ.rf rfl, f, g⟩)
    show ((zsi (zsi σ 10 10 d) 10 4 (σ.1 10 4 + 1)).1 10 4).toInt = _
    rw [zsi_ej]
    exact e4
/-- behind ED -/
theorem tc_ed {m : Nat} (ep : σ.1 10 8 = p) (eb : σ.1 10 9 = b) (e2 : σ.1 10 2 = 0) (e4 : (σ.1 10 4 + 1).toInt = (m : Int)) (hm : m ≤ 10) : zpc (fX8_write_124 σ 237) (fun r => ∃ v, fX2_read σ (σ.1 10 3 + σ.1 10 4) = some (σ, v) ∧ zSumq (zPkq (if (v >>> ((6 : Int32) &&& 31)) = 2 then zNb ((v >>> ((3 : Int32) &&& 31)) &&& 7) (v &&& 7) else zNeq (v >>> ((6 : Int32) &&& 31)) ((v >>> ((3 : Int32) &&& 31)) &&& 7) (v &&& 7)) (v >>> ((6 : Int32) &&& 31)) ((v >>> ((3 : Int32) &&& 31)) &&& 7) (v &&& 7) p b) (m + zPc (if (v >>> ((6 : Int32) &&& 31)) = 2 then zNb ((v >>> ((3 : Int32) &&& 31)) &&& 7) (v &&& 7) else zNeq (v >>> ((6 : Int32) &&& 31)) ((v >>> ((3 : Int32) &&& 31)) &&& 7) (v &&& 7)) (v >>> ((6 : Int32) &&& 31)) ((v >>> ((3 : Int32) &&& 31)) &&& 7) (v &&& 7) p b) r) := by
  unfold fX8_write_124
  refine zpc_bk (P := fun r => ∃ v, fX2_read σ (σ.1 10 3 + σ.1 10 4) = some (σ, v) ∧ r = (zSpq (zsi σ 10 4 (σ.1 10 4 + 1)) v, if (v >>> ((6 : Int32) &&& 31)) = 2 then zNb ((v >>> ((3 : Int32) &&& 31)) &&& 7) (v &&& 7) else zNeq (v >>> ((6 : Int32) &&& 31)) ((v >>> ((3 : Int32) &&& 31)) &&& 7) (v &&& 7))) ?_ (fun s n e => ?_)
  · unfold fX8_patternsOf fX8_patternsOf_73
    refine zpc_if (fun q => absurd q (by decide)) (fun _ => zpc_if (fun _ => ?_) (fun q => absurd rfl q))
    refine zpc_bi tc_takeE (fun s2 v3 q => zpc_bu tc_split (fun s4 e4 => ?_))
    obtain ⟨q1, q2⟩ := q
    have q1 : s2 = zsi σ 10 4 (σ.1 10 4 + 1) := q1
    subst e4
    subst q1
    refine zpc_mono (Q := fun r => ∃ v, fX2_read σ (σ.1 10 3 + σ.1 10 4) = some (σ, v) ∧ r = (zSpq (zsi σ 10 4 (σ.1 10 4 + 1)) v, if (v >>> ((6 : Int32) &&& 31)) = 2 then zNb ((v >>> ((3 : Int32) &&& 31)) &&& 7) (v &&& 7) else zNeq (v >>> ((6 : Int32) &&& 31)) ((v >>> ((3 : Int32) &&& 31)) &&& 7) (v &&& 7))) (P := fun r => r = (zSpq (zsi σ 10 4 (σ.1 10 4 + 1)) v3, if (v3 >>> ((6 : Int32) &&& 31)) = 2 then zNb ((v3 >>> ((3 : Int32) &&& 31)) &&& 7) (v3 &&& 7) else zNeq (v3 >>> ((6 : Int32) &&& 31)) ((v3 >>> ((3 : Int32) &&& 31)) &&& 7) (v3 &&& 7))) ?_ (fun r g => ⟨v3, q2, g⟩)
    rw [show zgi (zSpq (zsi σ 10 4 (σ.1 10 4 + 1)) v3) 10 5 = (v3 >>> ((6 : Int32) &&& 31)) from rfl]
    refine zpKif (fun _ => zpc_bk tc_block (fun s5 n6 g => zpc_some ?_)) (fun _ => zpc_bk tc_more (fun s5 n6 g => zpc_some ?_))
    · exact g.trans rfl
    · exact g.trans rfl
  · obtain ⟨v, f, e⟩ := e
    cases e
    have he := zSpq_e (σ := zsi σ 10 4 (σ.1 10 4 + 1)) (v := v)
    rw [show (zsi σ 10 4 (σ.1 10 4 + 1)).1 10 8 = p from ep, show (zsi σ 10 4 (σ.1 10 4 + 1)).1 10 9 = b from eb] at he
    refine zpc_mono (tc_fin he e2 ?_ hm) (fun r g => ⟨v, f, g⟩)
    show ((zsi σ 10 4 (σ.1 10 4 + 1)).1 10 4).toInt = _
    rw [zsi_ej]
    exact e4
/-- does M come in -/
noncomputable def zMp9 (v a r : Int32) : Int32 := if (v >>> ((6 : Int32) &&& 31)) = 0 then (if a = 0 then 0 else if (v &&& 7) < 4 then 0 else if 6 < (v &&& 7) then 0 else 1) else if (v >>> ((6 : Int32) &&& 31)) = 1 then (if a = r then 0 else 1) else if (v >>> ((6 : Int32) &&& 31)) = 2 then r else 0
noncomputable def zMp4 (v a : Int32) : Int32 := if (v &&& 7) = 6 then zMp9 v a 1 else zMp9 v a 0
noncomputable def zMp (v : Int32) : Int32 := if (v &&& 56) = 48 then zMp4 v 1 else zMp4 v 0
theorem tc_mp : zpc (fX5_meansPlace σ v) (fun r => r = (σ, zMp v)) := by
  have g9 : ∀ a r, zpc (fX5_meansPlace_29 σ v a r) (fun q => q = (σ, zMp9 v a r)) := fun a r => by
    unfold fX5_meansPlace_29 fX5_meansPlace_97 fX5_meansPlace_85 fX5_meansPlace_86 zMp9
    exact zpKif (fun _ => zpKif (fun _ => zpc_ck (zpc_some rfl)) (fun _ => zpKif (fun _ => zpc_ck (zpc_some rfl)) (fun _ => zpKif (fun _ => zpc_ck (zpc_some rfl)) (fun _ => zpc_ck (zpc_some rfl))))) (fun _ => zpKif (fun _ => zpKif (fun _ => zpc_ck (zpc_some rfl)) (fun _ => zpc_ck (zpc_some rfl))) (fun _ => zpKif (fun _ => zpc_ck (zpc_some rfl)) (fun _ => zpc_ck (zpc_some rfl))))
  have g4 : ∀ a, zpc (fX5_meansPlace_14 σ v a) (fun q => q = (σ, zMp4 v a)) := fun a => by
    unfold fX5_meansPlace_14 zMp4
    exact zpKif (fun _ => g9 a 1) (fun _ => g9 a 0)
  unfold fX5_meansPlace zMp
  exact zpKif (fun _ => g4 1) (fun _ => g4 0)
/-- 'nop' for a prefix that means nothing -/
theorem tc_82 {m : Nat} (e2 : σ.1 10 2 = 0) (e4 : (σ.1 10 4).toInt = (m : Int)) (hm : m ≤ 10) : zpc (fX8_write_82 σ ) (zSumq 3 (m + 0)) := by
  unfold fX8_write_82
  have h := tc_fin (s := σ) (n := 0) (x := σ.1 10 5) (y := σ.1 10 6) (z := σ.1 10 7) (p := σ.1 10 8) (b := σ.1 10 9) ⟨rfl, rfl, rfl, rfl, rfl⟩ e2 e4 hm
  have k1 : zPkq 0 (σ.1 10 5) (σ.1 10 6) (σ.1 10 7) (σ.1 10 8) (σ.1 10 9) = 3 := by
    unfold zPkq
    rw [show zPt 0 (zkL 0) 0 1 = 1 by decide +kernel, zrem_1]
    rfl
  have k2 : zPc 0 (σ.1 10 5) (σ.1 10 6) (σ.1 10 7) (σ.1 10 8) (σ.1 10 9) = 0 := by
    unfold zPc
    rw [show zPt 0 (zkL 0) 0 1 = 1 by decide +kernel, zrem_1]
    rfl
  rw [k1, k2] at h
  exact h
end ZT3
end ZJN7
section ZJN8
/-! TELL OF BOTH: JOINED -/
theorem zbk_bi {α : Type} {o : Option (zSt × Int32)} {g : zSt → Int32 → Option (zSt × Nat)} {F : zSt → Nat → Option α} : zbk (zbi o g) F = zbi o (fun s v => zbk (g s v) F) := by cases o <;> rfl
noncomputable def zW3 (A p0 : Int32) (σ : zSt) (r : zSt × Int32) : Prop := ∃ s2 w, zQ [10] [] [] [] σ s2 ∧ fX2_read s2 (A + (0 + 1)) = some (s2, w) ∧ ((¬ w = 203 ∧ ¬ w = 237 ∧ zSumq (zPkq (zNo w) (w >>> ((6 : Int32) &&& 31)) ((w >>> ((3 : Int32) &&& 31)) &&& 7) (w &&& 7) p0 (zMp w)) (2 + (zPc (zNo w) (w >>> ((6 : Int32) &&& 31)) ((w >>> ((3 : Int32) &&& 31)) &&& 7) (w &&& 7) p0 (zMp w))) r) ∨ (w = 203 ∧ ∃ s3 u, zQ [10] [] [] [] σ s3 ∧ fX2_read s3 (A + ((0 + 1 + 1) + 1)) = some (s3, u) ∧ zSumq (zPkq (zNt (u >>> ((6 : Int32) &&& 31))) (u >>> ((6 : Int32) &&& 31)) ((u >>> ((3 : Int32) &&& 31)) &&& 7) (u &&& 7) p0 0) (4 + (zPc (zNt (u >>> ((6 : Int32) &&& 31))) (u >>> ((6 : Int32) &&& 31)) ((u >>> ((3 : Int32) &&& 31)) &&& 7) (u &&& 7) p0 0)) r) ∨ w = 237)
noncomputable def zW2 (A v0 : Int32) (σ : zSt) (r : zSt × Int32) : Prop := (¬ v0 = 221 ∧ ¬ v0 = 253 ∧ ¬ v0 = 203 ∧ ¬ v0 = 237 ∧ zSumq (zPkq (zNo v0) (v0 >>> ((6 : Int32) &&& 31)) ((v0 >>> ((3 : Int32) &&& 31)) &&& 7) (v0 &&& 7) 0 0) (1 + (zPc (zNo v0) (v0 >>> ((6 : Int32) &&& 31)) ((v0 >>> ((3 : Int32) &&& 31)) &&& 7) (v0 &&& 7) 0 0)) r) ∨ (v0 = 203 ∧ ∃ s1 v, zQ [10] [] [] [] σ s1 ∧ fX2_read s1 (A + (0 + 1)) = some (s1, v) ∧ zSumq (zPkq (zNt (v >>> ((6 : Int32) &&& 31))) (v >>> ((6 : Int32) &&& 31)) ((v >>> ((3 : Int32) &&& 31)) &&& 7) (v &&& 7) 0 0) (2 + (zPc (zNt (v >>> ((6 : Int32) &&& 31))) (v >>> ((6 : Int32) &&& 31)) ((v >>> ((3 : Int32) &&& 31)) &&& 7) (v &&& 7) 0 0)) r) ∨ (v0 = 237 ∧ ∃ s1 v, zQ [10] [] [] [] σ s1 ∧ fX2_read s1 (A + (0 + 1)) = some (s1, v) ∧ zSumq (zPkq (if (v >>> ((6 : Int32) &&& 31)) = 2 then zNb ((v >>> ((3 : Int32) &&& 31)) &&& 7) (v &&& 7) else zNeq (v >>> ((6 : Int32) &&& 31)) ((v >>> ((3 : Int32) &&& 31)) &&& 7) (v &&& 7)) (v >>> ((6 : Int32) &&& 31)) ((v >>> ((3 : Int32) &&& 31)) &&& 7) (v &&& 7) 0 0) (2 + (zPc (if (v >>> ((6 : Int32) &&& 31)) = 2 then zNb ((v >>> ((3 : Int32) &&& 31)) &&& 7) (v &&& 7) else zNeq (v >>> ((6 : Int32) &&& 31)) ((v >>> ((3 : Int32) &&& 31)) &&& 7) (v &&& 7)) (v >>> ((6 : Int32) &&& 31)) ((v >>> ((3 : Int32) &&& 31)) &&& 7) (v &&& 7) 0 0)) r) ∨ (∃ p0, ((v0 = 221 ∧ p0 = 120) ∨ (v0 = 253 ∧ p0 = 121)) ∧ ∃ s1 v, zQ [10] [] [] [] σ s1 ∧ fX2_read s1 (A + 1) = some (s1, v) ∧ (((v = 221 ∨ v = 237 ∨ v = 253) ∧ zSumq 3 (1 + 0) r) ∨ (¬ v = 221 ∧ ¬ v = 237 ∧ ¬ v = 253 ∧ zW3 A p0 σ r)))
section ZT4
variable {σ σ0 μ s t : zSt} {v x A p0 : Int32}
theorem tc_cb0 {m : Nat} (ep : σ.1 10 8 = 0) (eb : σ.1 10 9 = 0) (e2 : σ.1 10 2 = 0) (e4 : (σ.1 10 4 + 1).toInt = (m : Int)) (hm : m ≤ 10) : zpc (fX8_write_124 σ 203) (fun r => ∃ s1 v, zQ [10] [] [] [] σ s1 ∧ fX2_read s1 (σ.1 10 3 + σ.1 10 4) = some (s1, v) ∧ zSumq (zPkq (zNt (v >>> ((6 : Int32) &&& 31))) (v >>> ((6 : Int32) &&& 31)) ((v >>> ((3 : Int32) &&& 31)) &&& 7) (v &&& 7) 0 0) (m + (zPc (zNt (v >>> ((6 : Int32) &&& 31))) (v >>> ((6 : Int32) &&& 31)) ((v >>> ((3 : Int32) &&& 31)) &&& 7) (v &&& 7) 0 0)) r) := by
  unfold fX8_write_124 fX8_patternsOf
  rw [if_pos rfl, if_pos (show zgi σ 10 8 = 0 from ep)]
  exact tc_23 ep eb e2 e4 hm
theorem tc_cbp {m : Nat} (hp : ¬ p0 = 0) (ep : σ.1 10 8 = p0) (eb : σ.1 10 9 = 0) (e2 : σ.1 10 2 = 0) (e4 : (σ.1 10 4 + 1 + 1).toInt = (m : Int)) (hm : m ≤ 10) : zpc (fX8_write_124 σ 203) (fun r => ∃ s1 v, zQ [10] [] [] [] σ s1 ∧ fX2_read s1 (σ.1 10 3 + (σ.1 10 4 + 1)) = some (s1, v) ∧ zSumq (zPkq (zNt (v >>> ((6 : Int32) &&& 31))) (v >>> ((6 : Int32) &&& 31)) ((v >>> ((3 : Int32) &&& 31)) &&& 7) (v &&& 7) p0 0) (m + (zPc (zNt (v >>> ((6 : Int32) &&& 31))) (v >>> ((6 : Int32) &&& 31)) ((v >>> ((3 : Int32) &&& 31)) &&& 7) (v &&& 7) p0 0)) r) := by
  unfold fX8_write_124 fX8_patternsOf
  rw [if_pos rfl, if_neg (show ¬ zgi σ 10 8 = 0 by rw [show zgi σ 10 8 = p0 from ep]; exact hp), zbk_bi]
  refine zpc_bi tc_takeE (fun s1 d q => ?_)
  have q1 : s1 = zsi σ 10 4 (σ.1 10 4 + 1) := q.1
  have g4 : s1.1 10 4 = σ.1 10 4 + 1 := by rw [q1, zsi_ej]
  have g3 : s1.1 10 3 = σ.1 10 3 := by rw [q1, zsi_nj (by decide)]
  have gq : zQ [10] [] [] [] σ s1 := by rw [q1]; exact zQ.wi zQ.rf rfl
  refine zpc_mono (tc_23 (σ := s1) (p := p0) (b := 0) (m := m) (d := d) ?_ ?_ ?_ ?_ hm) (fun r g => ?_)
  · rw [q1, zsi_nj (by decide)]; exact ep
  · rw [q1, zsi_nj (by decide)]; exact eb
  · rw [q1, zsi_nj (by decide)]; exact e2
  · rw [g4]; exact e4
  · obtain ⟨s2, u, a, c, d⟩ := g
    rw [g3, g4] at c
    exact ⟨s2, u, gq.tr a, c, d⟩
theorem tc_108 (hp : ¬ p0 = 0) (fq : zQ [10] [] [] [] σ0 σ) (f3 : σ.1 10 3 = A) (f4 : σ.1 10 4 = 0 + 1) (f2 : σ.1 10 2 = 0) : zpc (fX8_write_108 σ p0) (zW3 A p0 σ0) := by
  unfold fX8_write_108
  refine zpc_bv (fun s5 e5 => zpc_bi tc_takeE (fun s6 w q => zpc_bi tc_mp (fun s8 m8 e8 => zpc_ck (zpc_bv (fun s10 e10 => ?_)))))
  cases e8
  obtain ⟨q1, q2⟩ := q
  have h3 : s5.1 10 3 = A := by rw [e5, zsi_nj (by decide)]; exact f3
  have h4 : s5.1 10 4 = 0 + 1 := by rw [e5, zsi_nj (by decide)]; exact f4
  have q1 : s6 = zsi s5 10 4 (s5.1 10 4 + 1) := q1
  rw [h4] at q1
  have q2 : fX2_read s5 (s5.1 10 3 + s5.1 10 4) = some (s5, w) := q2
  rw [h3, h4] at q2
  have fq5 : zQ [10] [] [] [] σ0 s5 := by rw [e5]; exact zQ.wi fq rfl
  have fq10 : zQ [10] [] [] [] σ0 s10 := by rw [e10, q1]; exact zQ.wi (zQ.wi fq5 rfl) rfl
  have k8 : s10.1 10 8 = p0 := by rw [e10, zsi_nj (by decide), q1, zsi_nj (by decide), e5, zsi_ej]
  have k9 : s10.1 10 9 = zMp w := by rw [e10, zsi_ej]
  have k2 : s10.1 10 2 = 0 := by rw [e10, zsi_nj (by decide), q1, zsi_nj (by decide), e5, zsi_nj (by decide)]; exact f2
  have k3 : s10.1 10 3 = A := by rw [e10, zsi_nj (by decide), q1, zsi_nj (by decide)]; exact h3
  have k4 : s10.1 10 4 = 0 + 1 + 1 := by rw [e10, zsi_nj (by decide), q1, zsi_ej]
  by_cases c1 : w = 203
  · subst c1
    have m0 : zMp 203 = 0 := by decide
    rw [m0] at k9
    refine zpc_mono (tc_cbp (m := 4) hp k8 k9 k2 (by rw [k4]; decide) (by decide)) (fun r g => ?_)
    obtain ⟨s3, u, a, c, d⟩ := g
    rw [k3, k4] at c
    exact ⟨s5, 203, fq5, q2, Or.inr (Or.inl ⟨rfl, s3, u, fq10.tr a, c, d⟩)⟩
  by_cases c2 : w = 237
  · exact fun r _ => ⟨s5, w, fq5, q2, Or.inr (Or.inr c2)⟩
  refine zpc_mono (tc_plain (m := 2) c1 c2 k8 k9 k2 (by rw [k4]; decide) (by decide)) (fun r g => ⟨s5, w, fq5, q2, Or.inl ⟨c1, c2, g⟩⟩)
theorem tc_47 (hv : (v = 221 ∧ p0 = 120) ∨ (v = 253 ∧ p0 = 121)) (fq : zQ [10] [] [] [] σ0 σ) (f3 : σ.1 10 3 = A) (f4 : σ.1 10 4 = 0 + 1) (f2 : σ.1 10 2 = 0) : zpc (fX8_write_47 σ v) (zW2 A v σ0) := by
  unfold fX8_write_47
  rw [show zgi σ 10 3 = A from f3]
  refine zpc_bi (P := fun r => zQ [] [] [] [] σ r.1 ∧ fX2_read σ (A + 1) = some r) (zpc_and (fi_fX2_read (σ0 := σ) zQ.rf) zpc_self) (fun s1 w e => ?_)
  have e1 : s1 = σ := zQ_eq e.1
  have e2 := e.2
  rw [e1] at e2
  rw [e1]
  have e82 := tc_82 (σ := σ) (m := 1) f2 (by rw [f4]; decide) (by decide)
  refine zpc_if (fun c => zpc_mono e82 (fun r g => Or.inr (Or.inr (Or.inr ⟨p0, hv, σ, w, fq, e2, Or.inl ⟨Or.inl c, g⟩⟩)))) (fun c1 => zpc_if (fun c => zpc_mono e82 (fun r g => Or.inr (Or.inr (Or.inr ⟨p0, hv, σ, w, fq, e2, Or.inl ⟨Or.inr (Or.inl c), g⟩⟩)))) (fun c2 => zpc_if (fun c => zpc_mono e82 (fun r g => Or.inr (Or.inr (Or.inr ⟨p0, hv, σ, w, fq, e2, Or.inl ⟨Or.inr (Or.inr c), g⟩⟩)))) (fun c3 => ?_)))
  rcases hv with ⟨h1, h2⟩ | ⟨h1, h2⟩
  · refine zpc_if (fun _ => ?_) (fun c => absurd h1 c)
    rw [← h2]
    exact zpc_mono (tc_108 (by rw [h2]; decide) fq f3 f4 f2) (fun r g => Or.inr (Or.inr (Or.inr ⟨p0, Or.inl ⟨h1, h2⟩, σ, w, fq, e2, Or.inr ⟨c1, c2, c3, g⟩⟩)))
  · refine zpc_if (fun c => absurd (h1.symm.trans c) (by decide)) (fun _ => ?_)
    rw [← h2]
    exact zpc_mono (tc_108 (by rw [h2]; decide) fq f3 f4 f2) (fun r g => Or.inr (Or.inr (Or.inr ⟨p0, Or.inr ⟨h1, h2⟩, σ, w, fq, e2, Or.inr ⟨c1, c2, c3, g⟩⟩)))
theorem tc_write : zpc (fX8_write σ x) (fun r => ∃ s0 v0, zQ [10] [] [] [] σ s0 ∧ fX2_read s0 ((x &&& 65535) + 0) = some (s0, v0) ∧ zW2 (x &&& 65535) v0 σ r) := by
  unfold fX8_write
  refine zpc_bv (fun a1 e1 => zpc_bv (fun a2 e2 => zpc_bv (fun a3 e3 => zpc_bv (fun a4 e4 => zpc_ck (zpc_bv (fun a5 e5 => zpc_bi tc_takeE (fun s1 v q => ?_)))))))
  have S : a5 = zsi (zsi (zsi (zsi (zsi σ 10 3 (x &&& 65535)) 10 4 0) 10 2 0) 10 8 0) 10 9 0 := by rw [e5, e4, e3, e2, e1]
  have fq : zQ [10] [] [] [] σ a5 := by rw [S]; exact zQ.wi (zQ.wi (zQ.wi (zQ.wi (zQ.wi zQ.rf rfl) rfl) rfl) rfl) rfl
  have f3 : a5.1 10 3 = x &&& 65535 := by rw [S]; rfl
  have f4 : a5.1 10 4 = 0 := by rw [S]; rfl
  have f2 : a5.1 10 2 = 0 := by rw [S]; rfl
  have f8 : a5.1 10 8 = 0 := by rw [S]; rfl
  have f9 : a5.1 10 9 = 0 := by rw [S]; rfl
  obtain ⟨q1, q2⟩ := q
  have q1 : s1 = zsi a5 10 4 (a5.1 10 4 + 1) := q1
  have q2 : fX2_read a5 (a5.1 10 3 + a5.1 10 4) = some (a5, v) := q2
  rw [f3, f4] at q2
  rw [f4] at q1
  have gq : zQ [10] [] [] [] σ s1 := by rw [q1]; exact zQ.wi fq rfl
  have g3 : s1.1 10 3 = x &&& 65535 := by rw [q1, zsi_nj (by decide)]; exact f3
  have g4 : s1.1 10 4 = 0 + 1 := by rw [q1, zsi_ej]
  have g2 : s1.1 10 2 = 0 := by rw [q1, zsi_nj (by decide)]; exact f2
  have g8 : s1.1 10 8 = 0 := by rw [q1, zsi_nj (by decide)]; exact f8
  have g9 : s1.1 10 9 = 0 := by rw [q1, zsi_nj (by decide)]; exact f9
  refine zpc_mono (P := zW2 (x &&& 65535) v σ) ?_ (fun r g => ⟨a5, v, fq, q2, g⟩)
  refine zpc_if (fun c => tc_47 (p0 := 120) (Or.inl ⟨c, rfl⟩) gq g3 g4 g2) (fun c1 => zpc_if (fun c => tc_47 (p0 := 121) (Or.inr ⟨c, rfl⟩) gq g3 g4 g2) (fun c2 => ?_))
  by_cases h3 : v = 203
  · subst h3
    refine zpc_mono (tc_cb0 (m := 2) g8 g9 g2 (by rw [g4]; decide) (by decide)) (fun r g => ?_)
    obtain ⟨s2, u, a, c, d⟩ := g
    rw [g3, g4] at c
    exact Or.inr (Or.inl ⟨rfl, s2, u, gq.tr a, c, d⟩)
  by_cases h4 : v = 237
  · subst h4
    refine zpc_mono (tc_ed (m := 2) g8 g9 g2 (by rw [g4]; decide) (by decide)) (fun r g => ?_)
    obtain ⟨u, c, d⟩ := g
    rw [g3, g4] at c
    exact Or.inr (Or.inr (Or.inl ⟨rfl, s1, u, gq, c, d⟩))
  exact zpc_mono (tc_plain (m := 1) h3 h4 g8 g9 g2 (by rw [g4]; decide) (by decide)) (fun r g => Or.inl ⟨c1, c2, h3, h4, g⟩)
/-! the reference -/
theorem tm_takenE : zpc (fX12_taken μ ) (fun r => r.1 = zsi μ 0 40 (μ.1 0 40 + 1) ∧ fX12_read μ (μ.1 0 40) = some (μ, r.2)) := by
  unfold fX12_taken
  refine zpc_bi (P := fun r => zQ [] [] [] [] μ r.1 ∧ fX12_read μ (μ.1 0 40) = some r) (zpc_and (fI_fX12_read (σ0 := μ) zQ.rf) zpc_self) (fun s1 v e => zpc_bv (fun s2 e2 => zpc_some ?_))
  have e1 : s1 = μ := zQ_eq e.1
  rw [e1] at e2
  refine ⟨e2, ?_⟩
  have e3 := e.2
  rw [e1] at e3
  exact e3
noncomputable def zSun (k c : Nat) (r : zSt × Int32) : Prop := k ≤ 100 → c ≤ 100 → (r.1.1 0 39).toInt = (k : Int) ∧ r.2.toInt = (c : Int)
end ZT4
end ZJN8
section ZJN9
/-! TELL OF THE REFERENCE; BOTH -/
noncomputable def zTn (k c : Nat) (σ s : zSt) : Prop := 0 ≤ (σ.1 0 39).toInt → (σ.1 0 39).toInt + (k : Int) ≤ 1000 → 0 ≤ (σ.1 0 40).toInt → (σ.1 0 40).toInt + (c : Int) ≤ 100000 → (s.1 0 39).toInt = (σ.1 0 39).toInt + (k : Int) ∧ (s.1 0 40).toInt = (σ.1 0 40).toInt + (c : Int)
/-- is (ix+d) meant -/
noncomputable def zP1 (x z : Int32) : Int32 := if x = 2 then (if z = 6 then 1 else 0) else 0
noncomputable def zP5 (v x z : Int32) : Int32 := if v = 118 then zP1 x z else 1
noncomputable def zP6 (v x y z : Int32) : Int32 := if x = 1 then (if y = 6 then zP5 v x z else if z = 6 then zP5 v x z else zP1 x z) else zP1 x z
noncomputable def zPlq (v : Int32) : Int32 := if (v >>> ((6 : Int32) &&& 31)) = 0 then (if (v &&& 7) ≤ 3 then zP6 v (v >>> ((6 : Int32) &&& 31)) ((v >>> ((3 : Int32) &&& 31)) &&& 7) (v &&& 7) else if 7 ≤ (v &&& 7) then zP6 v (v >>> ((6 : Int32) &&& 31)) ((v >>> ((3 : Int32) &&& 31)) &&& 7) (v &&& 7) else if ((v >>> ((3 : Int32) &&& 31)) &&& 7) = 6 then 1 else zP6 v (v >>> ((6 : Int32) &&& 31)) ((v >>> ((3 : Int32) &&& 31)) &&& 7) (v &&& 7)) else zP6 v (v >>> ((6 : Int32) &&& 31)) ((v >>> ((3 : Int32) &&& 31)) &&& 7) (v &&& 7)
noncomputable def kPP (i v : Int32) : Nat := if zPlq v = 0 then k_fX12_sayPlain i 0 v else k_fX12_sayPlain i 1 v
noncomputable def tPP (i v : Int32) : Nat := if zPlq v = 0 then t_fX12_sayPlain i 0 v else 1 + t_fX12_sayPlain i 1 v
noncomputable def kDC (i u : Int32) : Nat := k_fX12_sayTurn i 1 ((u &&& 248) ||| 6) + (if (u >>> ((6 : Int32) &&& 31)) = 1 then 0 else (if (zrem u 8) = 6 then 0 else (1 + (k_fX12_sayR i 1 (zrem u 8) + 0))))
noncomputable def tDC (i u : Int32) : Nat := t_fX12_sayTurn i 1 ((u &&& 248) ||| 6) + (if (u >>> ((6 : Int32) &&& 31)) = 1 then 0 else (if (zrem u 8) = 6 then 0 else (0 + (t_fX12_sayR i 1 (zrem u 8) + 0))))
theorem zpJif {β : Type} {α : Type} {R : β → α → Prop} {q : Prop} {d1 d2 : Decidable q} {A B : Option α} {a b : β} (h1 : q → zpc A (R a)) (h2 : ¬ q → zpc B (R b)) : zpc (@ite _ q d1 A B) (R (@ite _ q d2 a b)) := by
  by_cases z : q
  · rw [if_pos z, if_pos z]; exact h1 z
  · rw [if_neg z, if_neg z]; exact h2 z
section ZT5
variable {σ μ s t : zSt} {v i x A : Int32}
theorem zTn.tr {a b c d : Nat} (h : zTn a b σ s) (g : zTn c d s t) : zTn (a + c) (b + d) σ t := fun w x y z => by
  obtain ⟨u1, u2⟩ := h w (by omega) y (by omega)
  obtain ⟨v1, v2⟩ := g (by omega) (by omega) (by omega) (by omega)
  exact ⟨by omega, by omega⟩
theorem zTn.of (e39 : s.1 0 39 = σ.1 0 39) (e40 : s.1 0 40 = σ.1 0 40) : zTn 0 0 σ s := fun _ _ _ _ => by
  rw [e39, e40]
  exact ⟨by omega, by omega⟩
theorem zTn.up (e39 : s.1 0 39 = σ.1 0 39) (e40 : s.1 0 40 = σ.1 0 40 + 1) : zTn 0 1 σ s := fun w x y z => by
  have c1 : (1 : Int32).toInt = 1 := rfl
  have t1 := z_tadd (x := σ.1 0 40) (y := 1) (a := 0) (b := 100000) ⟨y, by omega⟩ (zr_c (lo := 1) (hi := 1) (x := 1) (by decide)) (by decide)
  rw [e39, e40, t1, c1]
  exact ⟨by omega, by omega⟩
theorem tm_240 {l : Int32} (e : zEm i l σ) : zpc (fX12_sayPrefixed_240 σ v) (zTn (k_fX12_sayPlain i l v) (t_fX12_sayPlain i l v) σ) := by
  unfold fX12_sayPrefixed_240
  exact zpc_bu (tm_fX12_sayPlain e) (fun s1 h1 => zpc_some h1.2)
/-- behind the prefix: an op without CB -/
noncomputable def zR9 (i v : Int32) (σ : zSt) (l : Int32) (r : zSt) : Prop := zTn (if l = 0 then k_fX12_sayPlain i 0 v else k_fX12_sayPlain i 1 v) (if l = 0 then t_fX12_sayPlain i 0 v else 1 + t_fX12_sayPlain i 1 v) σ r
theorem tm_219 (e : σ.1 0 41 = i) {l : Int32} (hl : l = 0 ∨ l = 1) : zpc (fX12_sayPrefixed_219 σ v l) (zR9 i v σ l) := by
  unfold fX12_sayPrefixed_219 zR9
  refine zpc_ck (zpc_bv (fun s3 e3 => ?_))
  have g42 : zgi s3 0 42 = l := by rw [e3]; exact zsi_ej
  have g41 : s3.1 0 41 = i := by rw [e3, zsi_nj (by decide)]; exact e
  have n3 : zTn 0 0 σ s3 := zTn.of (by rw [e3, zsi_nj (by decide)]) (by rw [e3, zsi_nj (by decide)])
  rw [g42]
  rcases hl with hl | hl
  · rw [if_pos hl, if_pos hl, if_pos hl]
    refine zpc_mono (tm_240 (i := i) (l := 0) ⟨g41, by rw [← hl]; exact g42⟩) (fun r g => ?_)
    have q := n3.tr g
    simp only [Nat.zero_add] at q
    exact q
  · have n0 : ¬ l = 0 := fun z => absurd (hl.symm.trans z) (by decide)
    rw [if_neg n0, if_neg n0, if_neg n0]
    refine zpc_bi tm_takenE (fun s4 v5 q => zpc_bi (P := fun r => r.1 = s4) ?_ (fun s6 v7 q6 => zpc_bv (fun s8 e8 => ?_)))
    · unfold fX12_signed fX12_signed_16
      exact zpc_if (fun _ => zpc_some rfl) (fun _ => zpc_some rfl)
    have q6 : s6 = s4 := q6
    have q1 : s4 = zsi s3 0 40 (s3.1 0 40 + 1) := q.1
    have n8 : zTn 0 1 s3 s8 := zTn.up (by rw [e8, zsi_nj (by decide), q6, q1, zsi_nj (by decide)]) (by rw [e8, zsi_nj (by decide), q6, q1, zsi_ej])
    have h41 : s8.1 0 41 = i := by rw [e8, zsi_nj (by decide), q6, q1, zsi_nj (by decide)]; exact g41
    have h42 : s8.1 0 42 = 1 := by rw [e8, zsi_nj (by decide), q6, q1, zsi_nj (by decide), ← hl]; exact g42
    refine zpc_mono (tm_240 (i := i) (l := 1) ⟨h41, h42⟩) (fun r g => ?_)
    have q := (n3.tr n8).tr g
    simp only [Nat.zero_add] at q
    exact q
theorem tm_201 (e : σ.1 0 41 = i) {x z : Int32} : zpc (fX12_sayPrefixed_201 σ v z x) (zR9 i v σ (zP1 x z)) := by
  unfold fX12_sayPrefixed_201 fX12_sayPrefixed_214 fX12_sayPrefixed_218 zP1
  exact zpJif (R := zR9 i v σ) (fun _ => zpJif (R := zR9 i v σ) (fun _ => tm_219 e (Or.inr rfl)) (fun _ => tm_219 e (Or.inl rfl))) (fun _ => tm_219 e (Or.inl rfl))
theorem tm_195 (e : σ.1 0 41 = i) {x z : Int32} : zpc (fX12_sayPrefixed_195 σ v z x) (zR9 i v σ (zP5 v x z)) := by
  unfold fX12_sayPrefixed_195 fX12_sayPrefixed_214 zP5
  exact zpJif (R := zR9 i v σ) (fun _ => tm_201 e) (fun _ => tm_219 e (Or.inr rfl))
theorem tm_176 (e : σ.1 0 41 = i) {x y z : Int32} : zpc (fX12_sayPrefixed_176 σ v y z x) (zR9 i v σ (zP6 v x y z)) := by
  unfold fX12_sayPrefixed_176 zP6
  exact zpJif (R := zR9 i v σ) (fun _ => zpJif (R := zR9 i v σ) (fun _ => tm_195 e) (fun _ => zpJif (R := zR9 i v σ) (fun _ => tm_195 e) (fun _ => tm_201 e))) (fun _ => tm_201 e)
noncomputable def zV3 (i : Int32) (σ r : zSt) : Prop := ∃ v, fX12_read σ (σ.1 0 40) = some (σ, v) ∧ (((v = 221 ∨ v = 237 ∨ v = 253) ∧ zTn 3 0 σ r) ∨ (¬ v = 221 ∧ ¬ v = 237 ∧ ¬ v = 253 ∧ ((v = 203 ∧ ∃ t3 u, zQ [] [(0, 40, 43)] [] [] σ t3 ∧ fX12_read t3 (σ.1 0 40 + 1 + 1) = some (t3, u) ∧ zTn (kDC i u) (3 + tDC i u) σ r) ∨ (¬ v = 203 ∧ zTn (kPP i v) (1 + tPP i v) σ r))))
theorem tm_pre : zpc (fX12_sayPrefixed σ i) (zV3 i σ) := by
  unfold fX12_sayPrefixed
  refine zpc_bi (P := fun r => zQ [] [] [] [] σ r.1 ∧ fX12_read σ (σ.1 0 40) = some r) (zpc_and (fI_fX12_read (σ0 := σ) zQ.rf) zpc_self) (fun s9 v e => ?_)
  have e1 : s9 = σ := zQ_eq e.1
  have e2 := e.2
  rw [e1] at e2
  rw [e1]
  have nop : zpc (fX12_sayPrefixed_30 σ ) (zTn 3 0 σ) := by
    unfold fX12_sayPrefixed_30
    exact zpc_bu (show zpc (fX12_say σ 71) (zTm 3 0 σ) from tm_say) (fun s1 h1 => zpc_some h1.2)
  refine zpc_if (fun c => zpc_mono nop (fun r g => ⟨v, e2, Or.inl ⟨Or.inl c, g⟩⟩)) (fun c1 => zpc_if (fun c => zpc_mono nop (fun r g => ⟨v, e2, Or.inl ⟨Or.inr (Or.inl c), g⟩⟩)) (fun c2 => zpc_if (fun c => zpc_mono nop (fun r g => ⟨v, e2, Or.inl ⟨Or.inr (Or.inr c), g⟩⟩)) (fun c3 => ?_)))
  refine zpc_bv (fun s11 e11 => zpc_bv (fun s12 e12 => zpc_bv (fun v13 e13 => zpc_bv (fun v14 e14 => zpc_bv (fun v15 e15 => ?_)))))
  subst e13
  subst e14
  subst e15
  have e11 : s11 = zsi σ 0 40 (σ.1 0 40 + 1) := e11
  have k39 : s12.1 0 39 = σ.1 0 39 := by rw [e12, zsi_nj (by decide), e11, zsi_nj (by decide)]
  have k40 : s12.1 0 40 = σ.1 0 40 + 1 := by rw [e12, zsi_nj (by decide), e11, zsi_ej]
  have k41 : s12.1 0 41 = i := by rw [e12, zsi_ej]
  have n12 : zTn 0 1 σ s12 := zTn.up k39 k40
  refine zpc_if (fun c => ?_) (fun c => ?_)
  · -- CB behind a prefix
    refine zpc_bi tm_takenE (fun s16 v17 q => zpc_bi (P := fun r => r.1 = s16) ?_ (fun s18 v19 q18 => zpc_bv (fun s20 e20 => zpc_ck (zpc_bv (fun s21 e21 => zpc_bi tm_takenE (fun s22 u q22 => ?_))))))
    · unfold fX12_signed fX12_signed_16
      exact zpc_if (fun _ => zpc_some rfl) (fun _ => zpc_some rfl)
    have q18 : s18 = s16 := q18
    have q1 : s16 = zsi s12 0 40 (s12.1 0 40 + 1) := q.1
    have p22 : s22 = zsi s21 0 40 (s21.1 0 40 + 1) := q22.1
    have f22 : fX12_read s21 (s21.1 0 40) = some (s21, u) := q22.2
    have m40 : s21.1 0 40 = σ.1 0 40 + 1 + 1 := by rw [e21, zsi_nj (by decide), e20, zsi_nj (by decide), q18, q1, zsi_ej, k40]
    have m39 : s21.1 0 39 = s12.1 0 39 := by rw [e21, zsi_nj (by decide), e20, zsi_nj (by decide), q18, q1, zsi_nj (by decide)]
    have n21 : zTn 0 1 s12 s21 := zTn.up m39 (by rw [m40, k40])
    have n22 : zTn 0 1 s21 s22 := zTn.up (by rw [p22, zsi_nj (by decide)]) (by rw [p22, zsi_ej])
    have g41 : s22.1 0 41 = i := by rw [p22, zsi_nj (by decide), e21, zsi_nj (by decide), e20, zsi_nj (by decide), q18, q1, zsi_nj (by decide)]; exact k41
    have g42 : s22.1 0 42 = 1 := by rw [p22, zsi_nj (by decide), e21, zsi_ej]
    have fq : zQ [] [(0, 40, 43)] [] [] σ s21 := by rw [e21, e20, q18, q1, e12, e11]; exact zQ.wi (zQ.wi (zQ.wi (zQ.wi (zQ.wi zQ.rf rfl) rfl) rfl) rfl) rfl
    have em : zEm i 1 s22 := ⟨g41, g42⟩
    rw [m40] at f22
    have main : zpc (zbu (fX12_sayTurn s22 ((u &&& 248) ||| 6)) (fun σ24 => if (u >>> ((6 : Int32) &&& 31)) = 1 then fX12_sayPrefixed_133 σ24 else zck (decide (¬ 8 = 0)) (if (zrem u 8) = 6 then fX12_sayPrefixed_133 σ24 else zbu (fX12_say σ24 83) (fun σ25 => zck (decide (¬ 8 = 0)) (zbu (fX12_sayR σ25 (zrem u 8)) (fun σ26 => some σ26)))))) (zTm (kDC i u) (tDC i u) s22) := by
      unfold fX12_sayPrefixed_133 kDC tDC
      refine zTmb (tm_fX12_sayTurn em) (fun s24 h24 => zTmif (fun _ => zpc_some zTm.rf) (fun _ => zpc_ck (zTmif (fun _ => zpc_some zTm.rf) (fun _ => zTmb (show zpc (fX12_say s24 83) (zTm 1 0 s24) from tm_say) (fun s25 h25 => zpc_ck (zTmb (tm_fX12_sayR ((em.kp h24).kp h25)) (fun s26 h26 => zpc_some zTm.rf)))))))
    refine zpc_mono main (fun r g => ⟨v, e2, Or.inr ⟨c1, c2, c3, Or.inl ⟨c, s21, u, fq, f22, ?_⟩⟩⟩)
    have q := ((n12.tr n21).tr n22).tr g.2
    simp only [Nat.zero_add] at q
    exact q
  · have main : zpc (if (v >>> ((6 : Int32) &&& 31)) = 0 then if (v &&& 7) ≤ 3 then fX12_sayPrefixed_176 s12 v ((v >>> ((3 : Int32) &&& 31)) &&& 7) (v &&& 7) (v >>> ((6 : Int32) &&& 31)) else if 7 ≤ (v &&& 7) then fX12_sayPrefixed_176 s12 v ((v >>> ((3 : Int32) &&& 31)) &&& 7) (v &&& 7) (v >>> ((6 : Int32) &&& 31)) else if ((v >>> ((3 : Int32) &&& 31)) &&& 7) = 6 then fX12_sayPrefixed_214 s12 v else fX12_sayPrefixed_176 s12 v ((v >>> ((3 : Int32) &&& 31)) &&& 7) (v &&& 7) (v >>> ((6 : Int32) &&& 31)) else fX12_sayPrefixed_176 s12 v ((v >>> ((3 : Int32) &&& 31)) &&& 7) (v &&& 7) (v >>> ((6 : Int32) &&& 31))) (zR9 i v s12 (zPlq v)) := by
      unfold fX12_sayPrefixed_214 zPlq
      exact zpJif (R := zR9 i v s12) (fun _ => zpJif (R := zR9 i v s12) (fun _ => tm_176 k41) (fun _ => zpJif (R := zR9 i v s12) (fun _ => tm_176 k41) (fun _ => zpJif (R := zR9 i v s12) (fun _ => tm_219 k41 (Or.inr rfl)) (fun _ => tm_176 k41)))) (fun _ => tm_176 k41)
    refine zpc_mono main (fun r g => ⟨v, e2, Or.inr ⟨c1, c2, c3, Or.inr ⟨c, ?_⟩⟩⟩)
    have q := n12.tr g
    simp only [Nat.zero_add] at q
    exact q
noncomputable def zV2 (A v0 : Int32) (μ : zSt) (r : zSt × Int32) : Prop := (¬ v0 = 221 ∧ ¬ v0 = 253 ∧ ¬ v0 = 203 ∧ ¬ v0 = 237 ∧ zSun (k_fX12_sayPlain 0 0 v0) (1 + t_fX12_sayPlain 0 0 v0) r) ∨ (v0 = 203 ∧ ∃ t1 v, zQ [] [(0, 0, 0), (0, 39, 43)] [] [] μ t1 ∧ fX12_read t1 (A + 1) = some (t1, v) ∧ zSun (k_fX12_sayTurn 0 0 v) (2 + t_fX12_sayTurn 0 0 v) r) ∨ (v0 = 237 ∧ ∃ t1 v, zQ [] [(0, 0, 0), (0, 39, 43)] [] [] μ t1 ∧ fX12_read t1 (A + 1) = some (t1, v) ∧ zSun (k_fX12_sayMore 0 0 v) (2 + t_fX12_sayMore 0 0 v) r) ∨ (∃ i, ((v0 = 221 ∧ i = 1) ∨ (v0 = 253 ∧ i = 2)) ∧ ∃ t1 v, zQ [] [(0, 0, 0), (0, 39, 43)] [] [] μ t1 ∧ fX12_read t1 (A + 1) = some (t1, v) ∧ (((v = 221 ∨ v = 237 ∨ v = 253) ∧ zSun 3 (1 + 0) r) ∨ (¬ v = 221 ∧ ¬ v = 237 ∧ ¬ v = 253 ∧ ((v = 203 ∧ ∃ t3 u, zQ [] [(0, 0, 0), (0, 39, 43)] [] [] μ t3 ∧ fX12_read t3 (A + 1 + 1 + 1) = some (t3, u) ∧ zSun (kDC i u) (1 + (3 + tDC i u)) r) ∨ (¬ v = 203 ∧ zSun (kPP i v) (1 + (1 + tPP i v)) r)))))
theorem zSun_n {m k c : Nat} {s2 : zSt} (h : zTn k c s s2) (hA : zr 0 65535 A) (e39 : s.1 0 39 = 0) (e40 : (s.1 0 40).toInt = A.toInt + (m : Int)) (hm : m ≤ 10) : zSun k (m + c) (s2, zgi s2 0 40 - A) := fun hk hc => by
  have z0 : (0 : Int32).toInt = 0 := rfl
  have A0 := hA.1
  have A1 := hA.2
  obtain ⟨u1, u2⟩ := h (by rw [e39, z0]; omega) (by rw [e39, z0]; omega) (by rw [e40]; omega) (by rw [e40]; omega)
  rw [e39, z0] at u1
  rw [e40] at u2
  refine ⟨by show (s2.1 0 39).toInt = _; omega, ?_⟩
  show (s2.1 0 40 - A).toInt = _
  rw [z_tsub (x := s2.1 0 40) (y := A) (a := 0) (b := 100000) ⟨by omega, by omega⟩ hA (by decide), u2]
  omega
theorem tm_tell : zpc (fX12_tell μ x) (fun r => ∃ t0 v0, zQ [] [(0, 0, 0), (0, 39, 43)] [] [] μ t0 ∧ fX12_read t0 (x &&& 65535) = some (t0, v0) ∧ zV2 (x &&& 65535) v0 μ r) := by
  unfold fX12_tell fX12_tell_52 fX12_tell_65 fX12_tell_112
  refine zpc_bv (fun a2 e2 => zpc_bv (fun a3 e3 => zpc_bv (fun a4 e4 => zpc_bv (fun a5 e5 => zpc_ck (zpc_bv (fun a6 e6 => zpc_bv (fun v7 e7 => zpc_bi tm_takenE (fun s8 v q => ?_))))))))
  have S : a6 = zsi (zsi (zsi (zsi (zsi μ 0 0 0) 0 39 0) 0 40 (x &&& 65535)) 0 41 0) 0 42 0 := by rw [e6, e5, e4, e3, e2]
  have fq : zQ [] [(0, 0, 0), (0, 39, 43)] [] [] μ a6 := by rw [S]; exact zQ.wi (zQ.wi (zQ.wi (zQ.wi (zQ.wi zQ.rf rfl) rfl) rfl) rfl) rfl
  have f40 : a6.1 0 40 = x &&& 65535 := by rw [S]; rfl
  have f39 : a6.1 0 39 = 0 := by rw [S]; rfl
  have f41 : a6.1 0 41 = 0 := by rw [S]; rfl
  have f42 : a6.1 0 42 = 0 := by rw [S]; rfl
  have e7 : v7 = x &&& 65535 := by rw [e7]; exact f40
  have q1 : s8 = zsi a6 0 40 (a6.1 0 40 + 1) := q.1
  have q2 : fX12_read a6 (a6.1 0 40) = some (a6, v) := q.2
  rw [f40] at q1 q2
  rw [e7]
  have hA : zr 0 65535 (x &&& 65535) := z_r16 x
  have c1 : (1 : Int32).toInt = 1 := rfl
  have t1 := z_tadd hA (zr_c (lo := 1) (hi := 1) (x := 1) (by decide)) (by decide)
  have A1 := hA.2
  have A0 := hA.1
  have g39 : s8.1 0 39 = 0 := by rw [q1, zsi_nj (by decide)]; exact f39
  have g40 : s8.1 0 40 = (x &&& 65535) + 1 := by rw [q1, zsi_ej]
  have g41 : s8.1 0 41 = 0 := by rw [q1, zsi_nj (by decide)]; exact f41
  have g42 : s8.1 0 42 = 0 := by rw [q1, zsi_nj (by decide)]; exact f42
  have gq : zQ [] [(0, 0, 0), (0, 39, 43)] [] [] μ s8 := by rw [q1]; exact zQ.wi fq rfl
  have gi : (s8.1 0 40).toInt = (x &&& 65535).toInt + ((1 : Nat) : Int) := by rw [g40, t1, c1]; omega
  refine zpc_mono (P := zV2 (x &&& 65535) v μ) ?_ (fun r g => ⟨a6, v, fq, q2, g⟩)
  have pre : ∀ i : Int32, ((v = 221 ∧ i = 1) ∨ (v = 253 ∧ i = 2)) → zpc (zbu (fX12_sayPrefixed s8 i) (fun σ1 => some (σ1, zgi σ1 0 40 - (x &&& 65535)))) (zV2 (x &&& 65535) v μ) := fun i hi => by
    refine zpc_bu tm_pre (fun s1 h1 => zpc_some ?_)
    obtain ⟨w, f, h1⟩ := h1
    rw [g40] at f
    refine Or.inr (Or.inr (Or.inr ⟨i, hi, s8, w, gq, f, ?_⟩))
    rcases h1 with ⟨h2, h3⟩ | ⟨h2, h3, h4, h5⟩
    · exact Or.inl ⟨h2, zSun_n h3 hA g39 gi (by decide)⟩
    · refine Or.inr ⟨h2, h3, h4, ?_⟩
      rcases h5 with ⟨h6, t3, u, h7, h8, h9⟩ | ⟨h6, h7⟩
      · rw [g40] at h8
        exact Or.inl ⟨h6, t3, u, gq.tr (h7.mono rfl rfl), h8, zSun_n h9 hA g39 gi (by decide)⟩
      · exact Or.inr ⟨h6, zSun_n h7 hA g39 gi (by decide)⟩
  refine zpc_if (fun c => ?_) (fun c1 => zpc_if (fun c => ?_) (fun c2 => ?_))
  · refine zpc_if (fun _ => pre 1 (Or.inl ⟨c, rfl⟩)) (fun z => absurd c z)
  · refine zpc_if (fun z => absurd (c.symm.trans z) (by decide)) (fun _ => pre 2 (Or.inr ⟨c, rfl⟩))
  refine zpc_if (fun c => ?_) (fun c3 => zpc_if (fun c => ?_) (fun c4 => ?_))
  · refine zpc_bi tm_takenE (fun s14 u q14 => zpc_bu (tm_fX12_sayTurn (i := 0) (l := 0) ?_) (fun s16 h16 => zpc_some ?_))
    · have p14 : s14 = zsi s8 0 40 (s8.1 0 40 + 1) := q14.1
      rw [p14]
      exact ⟨by rw [zsi_nj (by decide)]; exact g41, by rw [zsi_nj (by decide)]; exact g42⟩
    have p14 : s14 = zsi s8 0 40 (s8.1 0 40 + 1) := q14.1
    have f14 : fX12_read s8 (s8.1 0 40) = some (s8, u) := q14.2
    rw [g40] at f14
    have n14 : zTn 0 1 s8 s14 := zTn.up (by rw [p14, zsi_nj (by decide)]) (by rw [p14, zsi_ej])
    have n16 := n14.tr h16.2
    simp only [Nat.zero_add] at n16
    have z := zSun_n n16 hA g39 gi (by decide)
    rw [← Nat.add_assoc] at z
    exact Or.inr (Or.inl ⟨c, s8, u, gq, f14, z⟩)
  · refine zpc_bi tm_takenE (fun s14 u q14 => zpc_bu (tm_fX12_sayMore (i := 0) (l := 0) ?_) (fun s16 h16 => zpc_some ?_))
    · have p14 : s14 = zsi s8 0 40 (s8.1 0 40 + 1) := q14.1
      rw [p14]
      exact ⟨by rw [zsi_nj (by decide)]; exact g41, by rw [zsi_nj (by decide)]; exact g42⟩
    have p14 : s14 = zsi s8 0 40 (s8.1 0 40 + 1) := q14.1
    have f14 : fX12_read s8 (s8.1 0 40) = some (s8, u) := q14.2
    rw [g40] at f14
    have n14 : zTn 0 1 s8 s14 := zTn.up (by rw [p14, zsi_nj (by decide)]) (by rw [p14, zsi_ej])
    have n16 := n14.tr h16.2
    simp only [Nat.zero_add] at n16
    have z := zSun_n n16 hA g39 gi (by decide)
    rw [← Nat.add_assoc] at z
    exact Or.inr (Or.inr (Or.inl ⟨c, s8, u, gq, f14, z⟩))
  · refine zpc_bu (tm_fX12_sayPlain (i := 0) (l := 0) ⟨g41, g42⟩) (fun s10 h10 => zpc_some ?_)
    exact Or.inl ⟨c1, c2, c3, c4, zSun_n h10.2 hA g39 gi (by decide)⟩
end ZT5
theorem tk_plain : ∀ n : Fin 256, (Int32.ofNat n.val) = 203 ∨ (Int32.ofNat n.val) = 237 ∨ (Int32.ofNat n.val) = 221 ∨ (Int32.ofNat n.val) = 253 ∨ ((zPkq (zNo (Int32.ofNat n.val)) ((Int32.ofNat n.val) >>> ((6 : Int32) &&& 31)) (((Int32.ofNat n.val) >>> ((3 : Int32) &&& 31)) &&& 7) ((Int32.ofNat n.val) &&& 7) 0 0) = (k_fX12_sayPlain 0 0 (Int32.ofNat n.val)) ∧ (zPc (zNo (Int32.ofNat n.val)) ((Int32.ofNat n.val) >>> ((6 : Int32) &&& 31)) (((Int32.ofNat n.val) >>> ((3 : Int32) &&& 31)) &&& 7) ((Int32.ofNat n.val) &&& 7) 0 0) = (t_fX12_sayPlain 0 0 (Int32.ofNat n.val)) ∧ (zPkq (zNo (Int32.ofNat n.val)) ((Int32.ofNat n.val) >>> ((6 : Int32) &&& 31)) (((Int32.ofNat n.val) >>> ((3 : Int32) &&& 31)) &&& 7) ((Int32.ofNat n.val) &&& 7) 0 0) ≤ 32 ∧ (zPc (zNo (Int32.ofNat n.val)) ((Int32.ofNat n.val) >>> ((6 : Int32) &&& 31)) (((Int32.ofNat n.val) >>> ((3 : Int32) &&& 31)) &&& 7) ((Int32.ofNat n.val) &&& 7) 0 0) ≤ 50) := by decide +kernel
theorem tk_turn : ∀ n : Fin 256, ((zPkq (zNt ((Int32.ofNat n.val) >>> ((6 : Int32) &&& 31))) ((Int32.ofNat n.val) >>> ((6 : Int32) &&& 31)) (((Int32.ofNat n.val) >>> ((3 : Int32) &&& 31)) &&& 7) ((Int32.ofNat n.val) &&& 7) 0 0) = (k_fX12_sayTurn 0 0 (Int32.ofNat n.val)) ∧ (zPc (zNt ((Int32.ofNat n.val) >>> ((6 : Int32) &&& 31))) ((Int32.ofNat n.val) >>> ((6 : Int32) &&& 31)) (((Int32.ofNat n.val) >>> ((3 : Int32) &&& 31)) &&& 7) ((Int32.ofNat n.val) &&& 7) 0 0) = (t_fX12_sayTurn 0 0 (Int32.ofNat n.val)) ∧ (zPkq (zNt ((Int32.ofNat n.val) >>> ((6 : Int32) &&& 31))) ((Int32.ofNat n.val) >>> ((6 : Int32) &&& 31)) (((Int32.ofNat n.val) >>> ((3 : Int32) &&& 31)) &&& 7) ((Int32.ofNat n.val) &&& 7) 0 0) ≤ 32 ∧ (zPc (zNt ((Int32.ofNat n.val) >>> ((6 : Int32) &&& 31))) ((Int32.ofNat n.val) >>> ((6 : Int32) &&& 31)) (((Int32.ofNat n.val) >>> ((3 : Int32) &&& 31)) &&& 7) ((Int32.ofNat n.val) &&& 7) 0 0) ≤ 50) := by decide +kernel
theorem tk_more : ∀ n : Fin 256, ((zPkq (if ((Int32.ofNat n.val) >>> ((6 : Int32) &&& 31)) = 2 then zNb (((Int32.ofNat n.val) >>> ((3 : Int32) &&& 31)) &&& 7) ((Int32.ofNat n.val) &&& 7) else zNeq ((Int32.ofNat n.val) >>> ((6 : Int32) &&& 31)) (((Int32.ofNat n.val) >>> ((3 : Int32) &&& 31)) &&& 7) ((Int32.ofNat n.val) &&& 7)) ((Int32.ofNat n.val) >>> ((6 : Int32) &&& 31)) (((Int32.ofNat n.val) >>> ((3 : Int32) &&& 31)) &&& 7) ((Int32.ofNat n.val) &&& 7) 0 0) = (k_fX12_sayMore 0 0 (Int32.ofNat n.val)) ∧ (zPc (if ((Int32.ofNat n.val) >>> ((6 : Int32) &&& 31)) = 2 then zNb (((Int32.ofNat n.val) >>> ((3 : Int32) &&& 31)) &&& 7) ((Int32.ofNat n.val) &&& 7) else zNeq ((Int32.ofNat n.val) >>> ((6 : Int32) &&& 31)) (((Int32.ofNat n.val) >>> ((3 : Int32) &&& 31)) &&& 7) ((Int32.ofNat n.val) &&& 7)) ((Int32.ofNat n.val) >>> ((6 : Int32) &&& 31)) (((Int32.ofNat n.val) >>> ((3 : Int32) &&& 31)) &&& 7) ((Int32.ofNat n.val) &&& 7) 0 0) = (t_fX12_sayMore 0 0 (Int32.ofNat n.val)) ∧ (zPkq (if ((Int32.ofNat n.val) >>> ((6 : Int32) &&& 31)) = 2 then zNb (((Int32.ofNat n.val) >>> ((3 : Int32) &&& 31)) &&& 7) ((Int32.ofNat n.val) &&& 7) else zNeq ((Int32.ofNat n.val) >>> ((6 : Int32) &&& 31)) (((Int32.ofNat n.val) >>> ((3 : Int32) &&& 31)) &&& 7) ((Int32.ofNat n.val) &&& 7)) ((Int32.ofNat n.val) >>> ((6 : Int32) &&& 31)) (((Int32.ofNat n.val) >>> ((3 : Int32) &&& 31)) &&& 7) ((Int32.ofNat n.val) &&& 7) 0 0) ≤ 32 ∧ (zPc (if ((Int32.ofNat n.val) >>> ((6 : Int32) &&& 31)) = 2 then zNb (((Int32.ofNat n.val) >>> ((3 : Int32) &&& 31)) &&& 7) ((Int32.ofNat n.val) &&& 7) else zNeq ((Int32.ofNat n.val) >>> ((6 : Int32) &&& 31)) (((Int32.ofNat n.val) >>> ((3 : Int32) &&& 31)) &&& 7) ((Int32.ofNat n.val) &&& 7)) ((Int32.ofNat n.val) >>> ((6 : Int32) &&& 31)) (((Int32.ofNat n.val) >>> ((3 : Int32) &&& 31)) &&& 7) ((Int32.ofNat n.val) &&& 7) 0 0) ≤ 50) := by decide +kernel
theorem tk_pre1 : ∀ n : Fin 256, (Int32.ofNat n.val) = 203 ∨ (Int32.ofNat n.val) = 237 ∨ (Int32.ofNat n.val) = 221 ∨ (Int32.ofNat n.val) = 253 ∨ ((zPkq (zNo (Int32.ofNat n.val)) ((Int32.ofNat n.val) >>> ((6 : Int32) &&& 31)) (((Int32.ofNat n.val) >>> ((3 : Int32) &&& 31)) &&& 7) ((Int32.ofNat n.val) &&& 7) 120 (zMp (Int32.ofNat n.val))) = (kPP 1 (Int32.ofNat n.val)) ∧ (zPc (zNo (Int32.ofNat n.val)) ((Int32.ofNat n.val) >>> ((6 : Int32) &&& 31)) (((Int32.ofNat n.val) >>> ((3 : Int32) &&& 31)) &&& 7) ((Int32.ofNat n.val) &&& 7) 120 (zMp (Int32.ofNat n.val))) = (tPP 1 (Int32.ofNat n.val)) ∧ (zPkq (zNo (Int32.ofNat n.val)) ((Int32.ofNat n.val) >>> ((6 : Int32) &&& 31)) (((Int32.ofNat n.val) >>> ((3 : Int32) &&& 31)) &&& 7) ((Int32.ofNat n.val) &&& 7) 120 (zMp (Int32.ofNat n.val))) ≤ 32 ∧ (zPc (zNo (Int32.ofNat n.val)) ((Int32.ofNat n.val) >>> ((6 : Int32) &&& 31)) (((Int32.ofNat n.val) >>> ((3 : Int32) &&& 31)) &&& 7) ((Int32.ofNat n.val) &&& 7) 120 (zMp (Int32.ofNat n.val))) ≤ 50) := by decide +kernel
theorem tk_dc1 : ∀ n : Fin 256, ((zPkq (zNt ((Int32.ofNat n.val) >>> ((6 : Int32) &&& 31))) ((Int32.ofNat n.val) >>> ((6 : Int32) &&& 31)) (((Int32.ofNat n.val) >>> ((3 : Int32) &&& 31)) &&& 7) ((Int32.ofNat n.val) &&& 7) 120 0) = (kDC 1 (Int32.ofNat n.val)) ∧ (zPc (zNt ((Int32.ofNat n.val) >>> ((6 : Int32) &&& 31))) ((Int32.ofNat n.val) >>> ((6 : Int32) &&& 31)) (((Int32.ofNat n.val) >>> ((3 : Int32) &&& 31)) &&& 7) ((Int32.ofNat n.val) &&& 7) 120 0) = (tDC 1 (Int32.ofNat n.val)) ∧ (zPkq (zNt ((Int32.ofNat n.val) >>> ((6 : Int32) &&& 31))) ((Int32.ofNat n.val) >>> ((6 : Int32) &&& 31)) (((Int32.ofNat n.val) >>> ((3 : Int32) &&& 31)) &&& 7) ((Int32.ofNat n.val) &&& 7) 120 0) ≤ 32 ∧ (zPc (zNt ((Int32.ofNat n.val) >>> ((6 : Int32) &&& 31))) ((Int32.ofNat n.val) >>> ((6 : Int32) &&& 31)) (((Int32.ofNat n.val) >>> ((3 : Int32) &&& 31)) &&& 7) ((Int32.ofNat n.val) &&& 7) 120 0) ≤ 50) := by decide +kernel
theorem tk_pre2 : ∀ n : Fin 256, (Int32.ofNat n.val) = 203 ∨ (Int32.ofNat n.val) = 237 ∨ (Int32.ofNat n.val) = 221 ∨ (Int32.ofNat n.val) = 253 ∨ ((zPkq (zNo (Int32.ofNat n.val)) ((Int32.ofNat n.val) >>> ((6 : Int32) &&& 31)) (((Int32.ofNat n.val) >>> ((3 : Int32) &&& 31)) &&& 7) ((Int32.ofNat n.val) &&& 7) 121 (zMp (Int32.ofNat n.val))) = (kPP 2 (Int32.ofNat n.val)) ∧ (zPc (zNo (Int32.ofNat n.val)) ((Int32.ofNat n.val) >>> ((6 : Int32) &&& 31)) (((Int32.ofNat n.val) >>> ((3 : Int32) &&& 31)) &&& 7) ((Int32.ofNat n.val) &&& 7) 121 (zMp (Int32.ofNat n.val))) = (tPP 2 (Int32.ofNat n.val)) ∧ (zPkq (zNo (Int32.ofNat n.val)) ((Int32.ofNat n.val) >>> ((6 : Int32) &&& 31)) (((Int32.ofNat n.val) >>> ((3 : Int32) &&& 31)) &&& 7) ((Int32.ofNat n.val) &&& 7) 121 (zMp (Int32.ofNat n.val))) ≤ 32 ∧ (zPc (zNo (Int32.ofNat n.val)) ((Int32.ofNat n.val) >>> ((6 : Int32) &&& 31)) (((Int32.ofNat n.val) >>> ((3 : Int32) &&& 31)) &&& 7) ((Int32.ofNat n.val) &&& 7) 121 (zMp (Int32.ofNat n.val))) ≤ 50) := by decide +kernel
theorem tk_dc2 : ∀ n : Fin 256, ((zPkq (zNt ((Int32.ofNat n.val) >>> ((6 : Int32) &&& 31))) ((Int32.ofNat n.val) >>> ((6 : Int32) &&& 31)) (((Int32.ofNat n.val) >>> ((3 : Int32) &&& 31)) &&& 7) ((Int32.ofNat n.val) &&& 7) 121 0) = (kDC 2 (Int32.ofNat n.val)) ∧ (zPc (zNt ((Int32.ofNat n.val) >>> ((6 : Int32) &&& 31))) ((Int32.ofNat n.val) >>> ((6 : Int32) &&& 31)) (((Int32.ofNat n.val) >>> ((3 : Int32) &&& 31)) &&& 7) ((Int32.ofNat n.val) &&& 7) 121 0) = (tDC 2 (Int32.ofNat n.val)) ∧ (zPkq (zNt ((Int32.ofNat n.val) >>> ((6 : Int32) &&& 31))) ((Int32.ofNat n.val) >>> ((6 : Int32) &&& 31)) (((Int32.ofNat n.val) >>> ((3 : Int32) &&& 31)) &&& 7) ((Int32.ofNat n.val) &&& 7) 121 0) ≤ 32 ∧ (zPc (zNt ((Int32.ofNat n.val) >>> ((6 : Int32) &&& 31))) ((Int32.ofNat n.val) >>> ((6 : Int32) &&& 31)) (((Int32.ofNat n.val) >>> ((3 : Int32) &&& 31)) &&& 7) ((Int32.ofNat n.val) &&& 7) 121 0) ≤ 50) := by decide +kernel
section ZT6
variable {σ μ : zSt} {x : Int32}
theorem zrd {s t : zSt} {a a' v w : Int32} (h : zM2 s t) (f : fX2_read s a = some (s, v)) (g : fX12_read t a' = some (t, w)) (e : a' = a) : w = v ∧ zr 0 255 v := by
  have q := h.rd (x := a) (y := a') (by rw [e]) _ _ f g
  exact ⟨q.2.2.1, q.2.2.2⟩
theorem zA3 (A : Int32) : A + 1 + 1 + 1 = A + ((0 + 1 + 1) + 1) := by rw [show ((0 : Int32) + 1 + 1) + 1 = 3 by decide, Int32.add_assoc, Int32.add_assoc, show (1 : Int32) + (1 + 1) = 3 by decide]
/-- the same told -/
noncomputable def zTe (r r' : zSt × Int32) : Prop := r.2 = r'.2 ∧ r.1.1 10 2 = r'.1.1 0 39 ∧ zr 0 32 (r.1.1 10 2)
theorem zTe.of {k c k' c' : Nat} {r r' : zSt × Int32} (a : zSumq k c r) (b : zSun k' c' r') (ek : k = k') (ec : c = c') (hk : k ≤ 32) (hc : c ≤ 100) : zTe r r' := by
  obtain ⟨⟨a1, a2⟩, a3⟩ := a hc
  obtain ⟨b1, b2⟩ := b (by omega) (by omega)
  refine ⟨Int32.toInt_inj.mp (by omega), Int32.toInt_inj.mp (by omega), ⟨by omega, by omega⟩⟩
theorem v_tell (h : zM2 σ μ) : zp2 (fX11_tell σ x) (fX12_tell μ x) zTe := by
  unfold fX11_tell
  have hc : zpc (zbi (fX8_write σ x) (fun σ1 v2 => some (σ1, v2))) (fun r => ∃ s0 v0, zQ [10] [] [] [] σ s0 ∧ fX2_read s0 ((x &&& 65535) + 0) = some (s0, v0) ∧ zW2 (x &&& 65535) v0 σ r) := zpc_bi tc_write (fun s1 v q => zpc_some q)
  refine zp2_of hc tm_tell (fun r r' p q => ?_)
  obtain ⟨s0, v0, p1, p2, p3⟩ := p
  obtain ⟨t0, w0, q1, q2, q3⟩ := q
  have kp : ∀ {s t : zSt}, zQ [10] [] [] [] σ s → zQ [] [(0, 0, 0), (0, 39, 43)] [] [] μ t → zM2 s t := fun a b => h.kp a b rfl rfl
  obtain ⟨e0, r0⟩ := zrd (kp p1 q1) p2 q2 (Int32.add_zero _).symm
  subst e0
  obtain ⟨n0, en0⟩ := z_F (m := 256) r0 (by decide)
  have a1 : (x &&& 65535) + 1 = (x &&& 65535) + (0 + 1) := by rw [Int32.zero_add]
  rcases p3 with ⟨c1, c2, c3, c4, g⟩ | ⟨c, s1, v, g1, g2, g3⟩ | ⟨c, s1, v, g1, g2, g3⟩ | ⟨p0, c, s1, v, g1, g2, g3⟩
  · rcases q3 with ⟨_, _, _, _, f⟩ | ⟨d, _⟩ | ⟨d, _⟩ | ⟨i, d, _⟩
    · rw [en0] at c1 c2 c3 c4 f g
      rcases tk_plain n0 with z | z | z | z | ⟨z1, z2, z3, z4⟩
      · exact absurd z c3
      · exact absurd z c4
      · exact absurd z c1
      · exact absurd z c2
      · exact zTe.of g f z1 (by rw [z2]) z3 (by omega)
    · exact absurd d c3
    · exact absurd d c4
    · rcases d with d | d
      · exact absurd d.1 c1
      · exact absurd d.1 c2
  · rcases q3 with ⟨_, _, d, _⟩ | ⟨_, t1, w, f1, f2, f3⟩ | ⟨d, _⟩ | ⟨i, d, _⟩
    · exact absurd c d
    · obtain ⟨e, r1⟩ := zrd (kp g1 f1) g2 f2 a1
      subst e
      obtain ⟨n1, en1⟩ := z_F (m := 256) r1 (by decide)
      rw [en1] at g3 f3
      obtain ⟨z1, z2, z3, z4⟩ := tk_turn n1
      exact zTe.of g3 f3 z1 (by rw [z2]) z3 (by omega)
    · exact absurd (c.symm.trans d) (by decide)
    · rcases d with d | d
      · exact absurd (c.symm.trans d.1) (by decide)
      · exact absurd (c.symm.trans d.1) (by decide)
  · rcases q3 with ⟨_, _, _, d, _⟩ | ⟨d, _⟩ | ⟨_, t1, w, f1, f2, f3⟩ | ⟨i, d, _⟩
    · exact absurd c d
    · exact absurd (c.symm.trans d) (by decide)
    · obtain ⟨e, r1⟩ := zrd (kp g1 f1) g2 f2 a1
      subst e
      obtain ⟨n1, en1⟩ := z_F (m := 256) r1 (by decide)
      rw [en1] at g3 f3
      obtain ⟨z1, z2, z3, z4⟩ := tk_more n1
      exact zTe.of g3 f3 z1 (by rw [z2]) z3 (by omega)
    · rcases d with d | d
      · exact absurd (c.symm.trans d.1) (by decide)
      · exact absurd (c.symm.trans d.1) (by decide)
  · have nn : ¬ w0 = 203 ∧ ¬ w0 = 237 ∧ (w0 = 221 ∨ w0 = 253) := by
      rcases c with c | c
      · exact ⟨fun z => absurd (c.1.symm.trans z) (by decide), fun z => absurd (c.1.symm.trans z) (by decide), Or.inl c.1⟩
      · exact ⟨fun z => absurd (c.1.symm.trans z) (by decide), fun z => absurd (c.1.symm.trans z) (by decide), Or.inr c.1⟩
    rcases q3 with ⟨d1, d2, _⟩ | ⟨d, _⟩ | ⟨d, _⟩ | ⟨i, d, t1, w, f1, f2, f3⟩
    · rcases nn.2.2 with z | z
      · exact absurd z d1
      · exact absurd z d2
    · exact absurd d nn.1
    · exact absurd d nn.2.1
    · obtain ⟨e, r1⟩ := zrd (kp g1 f1) g2 f2 rfl
      subst e
      have pi : (p0 = 120 ∧ i = 1) ∨ (p0 = 121 ∧ i = 2) := by
        rcases c with c | c
        · rcases d with d | d
          · exact Or.inl ⟨c.2, d.2⟩
          · exact absurd (c.1.symm.trans d.1) (by decide)
        · rcases d with d | d
          · exact absurd (c.1.symm.trans d.1) (by decide)
          · exact Or.inr ⟨c.2, d.2⟩
      rcases g3 with ⟨g4, g5⟩ | ⟨g4, g5, g6, s2, w2, g7, g8, g9⟩
      · rcases f3 with ⟨_, f5⟩ | ⟨f4, f5, f6, _⟩
        · exact zTe.of g5 f5 rfl rfl (by decide) (by decide)
        · rcases g4 with z | z | z
          · exact absurd z f4
          · exact absurd z f5
          · exact absurd z f6
      · rcases f3 with ⟨z, _⟩ | ⟨_, _, _, f7⟩
        · rcases z with z | z | z
          · exact absurd z g4
          · exact absurd z g5
          · exact absurd z g6
        · obtain ⟨e, r2⟩ := zrd (kp g7 f1) g8 f2 a1
          subst e
          obtain ⟨n1, en1⟩ := z_F (m := 256) r1 (by decide)
          rcases g9 with ⟨h1, h2, h3⟩ | ⟨h1, s3, u, h2, h3, h4⟩ | h1
          · rcases f7 with ⟨f8, _⟩ | ⟨_, f9⟩
            · exact absurd f8 h1
            · rw [en1] at h1 h2 g4 g6 h3 f9
              rcases pi with ⟨e1, e2⟩ | ⟨e1, e2⟩
              · rw [e1] at h3
                rw [e2] at f9
                rcases tk_pre1 n1 with z | z | z | z | ⟨z1, z2, z3, z4⟩
                · exact absurd z h1
                · exact absurd z h2
                · exact absurd z g4
                · exact absurd z g6
                · exact zTe.of h3 f9 z1 (by rw [z2]; omega) z3 (by omega)
              · rw [e1] at h3
                rw [e2] at f9
                rcases tk_pre2 n1 with z | z | z | z | ⟨z1, z2, z3, z4⟩
                · exact absurd z h1
                · exact absurd z h2
                · exact absurd z g4
                · exact absurd z g6
                · exact zTe.of h3 f9 z1 (by rw [z2]; omega) z3 (by omega)
          · rcases f7 with ⟨_, t3, u2, f8, f9, f10⟩ | ⟨f8, _⟩
            · obtain ⟨e, r3⟩ := zrd (kp h2 f8) h3 f9 (zA3 _)
              subst e
              obtain ⟨n2, en2⟩ := z_F (m := 256) r3 (by decide)
              rw [en2] at h4 f10
              rcases pi with ⟨e1, e2⟩ | ⟨e1, e2⟩
              · rw [e1] at h4
                rw [e2] at f10
                obtain ⟨z1, z2, z3, z4⟩ := tk_dc1 n2
                exact zTe.of h4 f10 z1 (by rw [z2]; omega) z3 (by omega)
              · rw [e1] at h4
                rw [e2] at f10
                obtain ⟨z1, z2, z3, z4⟩ := tk_dc2 n2
                exact zTe.of h4 f10 z1 (by rw [z2]; omega) z3 (by omega)
            · exact absurd h1 f8
          · exact absurd h1 g5
end ZT6
end ZJN9
section ZJN10
/-! EVERY CALL KEEPS THE WHOLE RELATION -/
section ZG5
variable {K K0 n k s : Int} {σ μ : zSt} {o : Nat → Int64}
theorem zAll.mono {K K' : Int} (h : zAll K σ μ) (c : K ≤ K') : zAll K' σ μ := by
  obtain ⟨⟨C, hC, a⟩, b, d⟩ := h
  refine ⟨⟨C, Int.le_trans hC c, a⟩, b, fun q => ?_⟩
  obtain ⟨D, hD, e⟩ := d q
  exact ⟨D, Int.le_trans hD c, e⟩
theorem zRM.pic (h : zRM K0 n k s μ) : (μ.2 4 2).toInt ≤ 268435456 := by
  obtain ⟨c, G, i, a, b, e0, e1, e2⟩ := h
  have q : (μ.2 4 2).toInt = G 101 := i.fl 1 (4, 2) rfl
  have z := a.2.2.2.2.1
  omega
theorem zRM.svd (h : zRM K0 n k s μ) : (μ.1 0 19).toInt = s := by
  obtain ⟨c, G, i, a, b, e0, e1, e2⟩ := h
  exact Eq.trans (i.at 2 (by decide)) e2
theorem zRC.svd {k' : Int} (h : zRC n k' s σ) : (σ.1 0 11).toInt = s := by
  obtain ⟨H, i, e0, e1, e2⟩ := h
  exact Eq.trans (i.fz 1 (0, 11) rfl) e2
theorem z_flag {k' : Int} (a : zRM K0 n k s μ) (b : zRC n k' s σ) : σ.1 0 11 = 0 ↔ μ.1 0 19 = 0 := by
  have x := a.svd
  have y := b.svd
  rw [← Int32.toInt_inj, ← Int32.toInt_inj, x, y]
theorem g_feed (h : zAll K σ μ) (hr : zr 0 262656 (zgi μ 0 2)) {x1 : Int32} {x2 : Int64} {x4 : Int64} {x6 : Int64} : zp2 (fX11_feed σ x1 x2 x4 x6) (fX12_feed μ x1 x2 x4 x6) (fun r r' => zAll K (zRis r) (r'.1)) := fun a b ea eb => by
  obtain ⟨C, hC, n⟩ := h.1
  obtain ⟨m, r6⟩ := b_feed n h.2.1 hr a b ea eb
  exact h.tp hC m r6 (fy_fX11_feed zQ.rf a ea) (fY_fX12_feed zQ.rf b eb)
theorem g_grow (h : zAll K σ μ) (hr : zr 0 262656 (zgi μ 0 2)) {x1 : Int32} : zp2 (fX11_grow σ x1) (fX12_grow μ x1) (fun r r' => zAll K (zRis r) (r'.1)) := fun a b ea eb => by
  obtain ⟨C, hC, n⟩ := h.1
  obtain ⟨m, r6⟩ := b_grow n h.2.1 hr a b ea eb
  exact h.tp hC m r6 (fy_fX11_grow zQ.rf a ea) (fY_fX12_grow zQ.rf b eb)
theorem g_patch (h : zAll K σ μ) (hr : zr 0 262656 (zgi μ 0 2)) {x1 : Int32} {x2 : Int64} : zp2 (fX11_patch σ x1 x2) (fX12_patch μ x1 x2) (fun r r' => zAll K (zRus r) r') := fun a b ea eb => by
  obtain ⟨C, hC, n⟩ := h.1
  obtain ⟨m, r6⟩ := b_patch n h.2.1 hr a b ea eb
  exact h.tp hC m r6 (fy_fX11_patch zQ.rf a ea) (fY_fX12_patch zQ.rf b eb)
theorem g_load (h : zAll K σ μ) (hr : zr 0 262656 (zgi μ 0 2)) : zp2 (fX11_load σ ) (fX12_load μ ) (fun r r' => r.2 = r'.2 → zr 0 512 (r.1.1 1 3) → zr 0 262144 (r.1.1 1 4) → zR6 r.1 r'.1 → zAll K r.1 r'.1) := fun a b ea eb e r3 r4 r6 => by
  obtain ⟨C, hC, n⟩ := h.1
  have m := b_load n h.2.1 hr a b ea eb e r3 r4
  refine zAll.go (B := (K, 0, 0)) h (Int.le_refl _) (C := (C.1, C.2.1, 0)) hC m r6 (fun q => ?_)
  have hM := l_load n.pr.2.2.2.1.2.2.2.1 hr b eb
  rcases k_load a ea with ⟨x1, x2⟩ | ⟨_, σa, _, _, _, x5⟩
  · rcases hM with ⟨y1, y2⟩ | ⟨y1, _⟩
    · refine ⟨?_, ?_, x2.rlo (k := 39) rfl, ?_, y2.rlo (k := 13) rfl, y2.o (k := 0) (a := 3) (b := 3) rfl (by decide) (by decide)⟩
      · rw [← x2.o (k := 0) (a := 11) (b := 11) rfl (j := 11) (by decide) (by decide)]; exact q
      · unfold zsv
        exact List.forall_mem_cons.2 ⟨x2.ro (k := 43) rfl, List.forall_mem_cons.2 ⟨x2.ro (k := 41) rfl, List.forall_mem_cons.2 ⟨x2.ro (k := 37) rfl, List.forall_mem_cons.2 ⟨x2.ro (k := 35) rfl, List.forall_mem_cons.2 ⟨x2.ro (k := 33) rfl, List.forall_mem_cons.2 ⟨x2.ro (k := 31) rfl, List.forall_mem_cons.2 ⟨x2.ro (k := 26) rfl, List.forall_mem_cons.2 ⟨x2.ro (k := 24) rfl, List.forall_mem_cons.2 ⟨x2.ro (k := 22) rfl, List.forall_mem_cons.2 ⟨x2.ro (k := 20) rfl, List.forall_mem_cons.2 ⟨x2.ro (k := 18) rfl, List.forall_mem_cons.2 ⟨x2.ro (k := 16) rfl, fun _ h => absurd h List.not_mem_nil⟩⟩⟩⟩⟩⟩⟩⟩⟩⟩⟩⟩
      · unfold zsm
        exact List.forall_mem_cons.2 ⟨y2.ro (k := 18) rfl, List.forall_mem_cons.2 ⟨y2.ro (k := 17) rfl, List.forall_mem_cons.2 ⟨y2.ro (k := 16) rfl, List.forall_mem_cons.2 ⟨y2.ro (k := 15) rfl, List.forall_mem_cons.2 ⟨y2.ro (k := 14) rfl, List.forall_mem_cons.2 ⟨y2.ro (k := 12) rfl, fun _ h => absurd h List.not_mem_nil⟩⟩⟩⟩⟩⟩
    · exact absurd (e.trans y1) x1
  · exact absurd x5 q
theorem g_card (h : zAll K σ μ) {x1 : Int32} : zp2 (fX11_card σ x1) (fX12_card μ x1) (fun r r' => zAll K (zRis r) (r'.1)) := fun a b ea eb => by
  obtain ⟨C, hC, n⟩ := h.1
  exact h.kp (Int.le_refl _) hC (n.kp (fn_fX11_card zQ.rf a ea) (fN_fX12_card zQ.rf b eb) (by decide +kernel) (by decide +kernel)) (fv_fX11_card zQ.rf a ea) (fV_fX12_card zQ.rf b eb)
theorem g_step (h : zAll K σ μ) (hK : K ≤ 900000000000000) (hP : (μ.2 4 2).toInt ≤ 268435456) {x1 : Int32} : zp2 (fX11_step σ x1) (fX12_step μ x1) (fun r r' => zAll (K + 1000000) (zRis r) (r'.1)) := fun a b ea eb => by
  obtain ⟨C, hC, n⟩ := h.1
  obtain ⟨⟨D, hD, m⟩, _⟩ := a_step n (by omega) (by omega) a b ea eb
  exact h.kp (by omega) (show D.1 ≤ K + 1000000 by omega) m (fv_fX11_step zQ.rf a ea) (fV_fX12_step zQ.rf b eb)
theorem g_picture (h : zAll K σ μ) (hK : K ≤ 900000000000000) (hP : (μ.2 4 2).toInt ≤ 268435456) {x1 : Int32} : zp2 (fX11_picture σ x1) (fX12_picture μ x1) (fun r r' => zAll (K + 1000000) (zRis r) (r'.1)) := fun a b ea eb => by
  obtain ⟨C, hC, n⟩ := h.1
  obtain ⟨⟨D, hD, m⟩, _⟩ := a_picture n (by omega) (by omega) a b ea eb
  exact h.kp (by omega) (show D.1 ≤ K + 1000000 by omega) m (fv_fX11_picture zQ.rf a ea) (fV_fX12_picture zQ.rf b eb)
theorem g_reset (h : zAll K σ μ) : zp2 (fX11_reset σ ) (fX12_reset μ ) (fun r r' => zAll K r r') := fun a b ea eb => by
  obtain ⟨C, hC, n⟩ := h.1
  exact h.kp (Int.le_refl _) (C := (C.1, C.2.1, 0)) hC (b_reset n a b ea eb) (fv_fX11_reset zQ.rf a ea) (fV_fX12_reset zQ.rf b eb)
theorem g_pause (h : zAll K σ μ) : zp2 (fX11_pause σ ) (fX12_pause μ ) (fun r r' => zAll K r.1 (r'.1)) := fun a b ea eb => by
  obtain ⟨C, hC, n⟩ := h.1
  exact h.kp (Int.le_refl _) hC (b_pause n a b ea eb) (fv_fX11_pause zQ.rf a ea) (fV_fX12_pause zQ.rf b eb)
theorem g_press (h : zAll K σ μ) {x1 : Int32} {x2 : Int32} : zp2 (fX11_press σ x1 x2) (fX12_press μ x1 x2) (fun r r' => zAll K (zRus r) r') := fun a b ea eb => by
  obtain ⟨C, hC, n⟩ := h.1
  exact h.kp (Int.le_refl _) hC (b_press n a b ea eb) (fv_fX11_press zQ.rf a ea) (fV_fX12_press zQ.rf b eb)
theorem g_start (h : zAll K σ μ) {x1 : Int32} : zp2 (fX11_start σ x1) (fX12_start μ x1) (fun r r' => zAll K r r') := fun a b ea eb => by
  obtain ⟨C, hC, n⟩ := h.1
  exact h.kp (Int.le_refl _) hC (b_start n a b ea eb) (fv_fX11_start zQ.rf a ea) (fV_fX12_start zQ.rf b eb)
theorem g_line (h : zAll K σ μ) {x1 : Int32} {x2 : Int32} : zp2 (fX11_line σ x1 x2) (fX12_line μ x1 x2) (fun r r' => zAll K (zRus r) r') := fun a b ea eb => by
  obtain ⟨C, hC, n⟩ := h.1
  exact h.kp (Int.le_refl _) hC (b_line n a b ea eb) (fv_fX11_line zQ.rf a ea) (fV_fX12_line zQ.rf b eb)
theorem g_plan (h : zAll K σ μ) {x1 : Int32} {x2 : Int32} {x3 : Int32} : zp2 (fX11_plan σ x1 x2 x3) (fX12_plan μ x1 x2 x3) (fun r r' => zAll K (zRis r) (r'.1)) := fun a b ea eb => by
  obtain ⟨C, hC, n⟩ := h.1
  exact h.kp (Int.le_refl _) hC (b_plan n a b ea eb).1 (fv_fX11_plan zQ.rf a ea) (fV_fX12_plan zQ.rf b eb)
theorem g_tell (h : zAll K σ μ) {x1 : Int32} : zp2 (fX11_tell σ x1) (fX12_tell μ x1) (fun r r' => zAll K r.1 (r'.1)) := fun a b ea eb => by
  obtain ⟨C, hC, n⟩ := h.1
  exact h.kp (Int.le_refl _) hC (n.kp (fn_fX11_tell zQ.rf a ea) (fN_fX12_tell zQ.rf b eb) (by decide +kernel) (by decide +kernel)) (fv_fX11_tell zQ.rf a ea) (fV_fX12_tell zQ.rf b eb)
theorem g_text (h : zAll K σ μ) {x1 : Int32} : zp2 (fX11_text σ x1) (fX12_text μ x1) (fun r r' => zAll K (zRls r) (r'.1)) := fun a b ea eb => by
  obtain ⟨C, hC, n⟩ := h.1
  exact h.kp (Int.le_refl _) hC (n.kp (fn_fX11_text zQ.rf a ea) (fN_fX12_text zQ.rf b eb) (by decide +kernel) (by decide +kernel)) (fv_fX11_text zQ.rf a ea) (fV_fX12_text zQ.rf b eb)
theorem g_stop (h : zAll K σ μ) {x1 : Int32} {x2 : Int32} : zp2 (fX11_stop σ x1 x2) (fX12_stop μ x1 x2) (fun r r' => zAll K (zRis r) (r'.1)) := fun a b ea eb => by
  obtain ⟨C, hC, n⟩ := h.1
  exact h.kp (Int.le_refl _) hC (b_stop n a b ea eb) (fv_fX11_stop zQ.rf a ea) (fV_fX12_stop zQ.rf b eb)
theorem g_register (h : zAll K σ μ) {x1 : Int32} : zp2 (fX11_register σ x1) (fX12_register μ x1) (fun r r' => zAll K (zRis r) (r'.1)) := fun a b ea eb => by
  obtain ⟨C, hC, n⟩ := h.1
  exact h.kp (Int.le_refl _) hC (n.kp (fn_fX11_register zQ.rf a ea) (fN_fX12_register zQ.rf b eb) (by decide +kernel) (by decide +kernel)) (fv_fX11_register zQ.rf a ea) (fV_fX12_register zQ.rf b eb)
theorem g_set (h : zAll K σ μ) {x1 : Int32} {x2 : Int32} : zp2 (fX11_set σ x1 x2) (fX12_set μ x1 x2) (fun r r' => zAll K (zRus r) r') := fun a b ea eb => by
  obtain ⟨C, hC, n⟩ := h.1
  exact h.kp (Int.le_refl _) hC (b_set n a b ea eb) (fv_fX11_set zQ.rf a ea) (fV_fX12_set zQ.rf b eb)
theorem g_peek (h : zAll K σ μ) {x1 : Int32} : zp2 (fX11_peek σ x1) (fX12_peek μ x1) (fun r r' => zAll K r.1 (r'.1)) := fun a b ea eb => by
  obtain ⟨C, hC, n⟩ := h.1
  exact h.kp (Int.le_refl _) hC (n.kp (fn_fX11_peek zQ.rf a ea) (fN_fX12_peek zQ.rf b eb) (by decide +kernel) (by decide +kernel)) (fv_fX11_peek zQ.rf a ea) (fV_fX12_peek zQ.rf b eb)
theorem g_poke (h : zAll K σ μ) {x1 : Int32} {x2 : Int32} : zp2 (fX11_poke σ x1 x2) (fX12_poke μ x1 x2) (fun r r' => zAll K r r') := fun a b ea eb => by
  obtain ⟨C, hC, n⟩ := h.1
  exact h.kp (Int.le_refl _) hC (b_poke n a b ea eb) (fv_fX11_poke zQ.rf a ea) (fV_fX12_poke zQ.rf b eb)
theorem g_in (h : zAll K σ μ) {x1 : Int32} : zp2 (fX11_in σ x1) (fX12_in μ x1) (fun r r' => zAll K r.1 (r'.1)) := fun a b ea eb => by
  obtain ⟨C, hC, n⟩ := h.1
  exact h.kp (Int.le_refl _) hC (b_in n a b ea eb).1 (fv_fX11_in zQ.rf a ea) (fV_fX12_in zQ.rf b eb)
theorem g_out (h : zAll K σ μ) {x1 : Int32} {x2 : Int32} : zp2 (fX11_out σ x1 x2) (fX12_out μ x1 x2) (fun r r' => zAll K r r') := fun a b ea eb => by
  obtain ⟨C, hC, n⟩ := h.1
  exact h.kp (Int.le_refl _) hC (b_out n a b ea eb) (fv_fX11_out zQ.rf a ea) (fV_fX12_out zQ.rf b eb)
theorem g_battery (h : zAll K σ μ) {x1 : Int32} : zp2 (fX11_battery σ x1) (fX12_battery μ x1) (fun r r' => zAll K (zRis r) (r'.1)) := fun a b ea eb => by
  obtain ⟨C, hC, n⟩ := h.1
  exact h.kp (Int.le_refl _) hC (n.kp (fn_fX11_battery zQ.rf a ea) (fN_fX12_battery zQ.rf b eb) (by decide +kernel) (by decide +kernel)) (fv_fX11_battery zQ.rf a ea) (fV_fX12_battery zQ.rf b eb)
theorem g_wipe (h : zAll K σ μ) : zp2 (fX11_wipe σ ) (fX12_wipe μ ) (fun r r' => zAll K r r') := fun a b ea eb => by
  obtain ⟨C, hC, n⟩ := h.1
  exact h.kp (Int.le_refl _) hC (b_wipe n a b ea eb) (fv_fX11_wipe zQ.rf a ea) (fV_fX12_wipe zQ.rf b eb)
theorem g_video (h : zAll K σ μ) {x1 : Int32} : zp2 (fX11_video σ x1) (fX12_video μ x1) (fun r r' => zAll K r.1 (r'.1)) := fun a b ea eb => by
  obtain ⟨C, hC, n⟩ := h.1
  exact h.kp (Int.le_refl _) hC (n.kp (fn_fX11_video zQ.rf a ea) (fN_fX12_video zQ.rf b eb) (by decide +kernel) (by decide +kernel)) (fv_fX11_video zQ.rf a ea) (fV_fX12_video zQ.rf b eb)
theorem g_chip (h : zAll K σ μ) {x1 : Int32} : zp2 (fX11_chip σ x1) (fX12_chip μ x1) (fun r r' => zAll K (zRis r) (r'.1)) := fun a b ea eb => by
  obtain ⟨C, hC, n⟩ := h.1
  exact h.kp (Int.le_refl _) hC (n.kp (fn_fX11_chip zQ.rf a ea) (fN_fX12_chip zQ.rf b eb) (by decide +kernel) (by decide +kernel)) (fv_fX11_chip zQ.rf a ea) (fV_fX12_chip zQ.rf b eb)
theorem g_dot (h : zAll K σ μ) {x1 : Int32} {x2 : Int32} : zp2 (fX11_dot σ x1 x2) (fX12_dot μ x1 x2) (fun r r' => zAll K (zRis r) (r'.1)) := fun a b ea eb => by
  obtain ⟨C, hC, n⟩ := h.1
  exact h.kp (Int.le_refl _) hC (n.kp (fn_fX11_dot zQ.rf a ea) (fN_fX12_dot zQ.rf b eb) (by decide +kernel) (by decide +kernel)) (fv_fX11_dot zQ.rf a ea) (fV_fX12_dot zQ.rf b eb)
theorem g_row (h : zAll K σ μ) {x1 : Int32} : zp2 (fX11_row σ x1) (fX12_row μ x1) (fun r r' => zAll K (zRis r) (r'.1)) := fun a b ea eb => by
  obtain ⟨C, hC, n⟩ := h.1
  exact h.kp (Int.le_refl _) hC (n.kp (fn_fX11_row zQ.rf a ea) (fN_fX12_row zQ.rf b eb) (by decide +kernel) (by decide +kernel)) (fv_fX11_row zQ.rf a ea) (fV_fX12_row zQ.rf b eb)
theorem g_hear (h : zAll K σ μ) : zp2 (fX11_hear σ ) (fX12_hear μ ) (fun r r' => zAll K (zRls r) (r'.1)) := fun a b ea eb => by
  obtain ⟨C, hC, n⟩ := h.1
  exact h.kp (Int.le_refl _) hC (n.kp (fn_fX11_hear zQ.rf a ea) (fN_fX12_hear zQ.rf b eb) (by decide +kernel) (by decide +kernel)) (fv_fX11_hear zQ.rf a ea) (fV_fX12_hear zQ.rf b eb)
theorem g_mix (h : zAll K σ μ) : zp2 (fX11_mix σ ) (fX12_mix μ ) (fun r r' => zAll K (zRls r) (r'.1)) := fun a b ea eb => by
  obtain ⟨C, hC, n⟩ := h.1
  exact h.kp (Int.le_refl _) hC (n.kp (fn_fX11_mix zQ.rf a ea) (fN_fX12_mix zQ.rf b eb) (by decide +kernel) (by decide +kernel)) (fv_fX11_mix zQ.rf a ea) (fV_fX12_mix zQ.rf b eb)
theorem g_wave (h : zAll K σ μ) {x1 : Int32} : zp2 (fX11_wave σ x1) (fX12_wave μ x1) (fun r r' => zAll K (zRis r) (r'.1)) := fun a b ea eb => by
  obtain ⟨C, hC, n⟩ := h.1
  exact h.kp (Int.le_refl _) hC (n.kp (fn_fX11_wave zQ.rf a ea) (fN_fX12_wave zQ.rf b eb) (by decide +kernel) (by decide +kernel)) (fv_fX11_wave zQ.rf a ea) (fV_fX12_wave zQ.rf b eb)
theorem g_sound (h : zAll K σ μ) {x1 : Int32} : zp2 (fX11_sound σ x1) (fX12_sound μ x1) (fun r r' => zAll K (zRis r) (r'.1)) := fun a b ea eb => by
  obtain ⟨C, hC, n⟩ := h.1
  exact h.kp (Int.le_refl _) hC (n.kp (fn_fX11_sound zQ.rf a ea) (fN_fX12_sound zQ.rf b eb) (by decide +kernel) (by decide +kernel)) (fv_fX11_sound zQ.rf a ea) (fV_fX12_sound zQ.rf b eb)
theorem g_trace (h : zAll K σ μ) {x1 : Int32} : zp2 (fX11_trace σ x1) (fX12_trace μ x1) (fun r r' => zAll K r.1 (r'.1)) := fun a b ea eb => by
  obtain ⟨C, hC, n⟩ := h.1
  exact h.kp (Int.le_refl _) hC (n.kp (fn_fX11_trace zQ.rf a ea) (fN_fX12_trace zQ.rf b eb) (by decide +kernel) (by decide +kernel)) (fv_fX11_trace zQ.rf a ea) (fV_fX12_trace zQ.rf b eb)
theorem g_look (h : zAll K σ μ) {x1 : Int32} : zp2 (fX11_look σ x1) (fX12_look μ x1) (fun r r' => zAll K (zRls r) (r'.1)) := fun a b ea eb => by
  obtain ⟨C, hC, n⟩ := h.1
  exact h.kp (Int.le_refl _) hC (n.kp (fn_fX11_look zQ.rf a ea) (fN_fX12_look zQ.rf b eb) (by decide +kernel) (by decide +kernel)) (fv_fX11_look zQ.rf a ea) (fV_fX12_look zQ.rf b eb)
theorem r_feed (h : zAll K σ μ) (hr : zr 0 262656 (zgi μ 0 2)) {x1 : Int32} {x2 : Int64} {x4 : Int64} {x6 : Int64} : zp2 (fL_feed o σ x1 x2 x4 x6) (fX12_feed μ x1 x2 x4 x6) (fun r r' => zAll K (r.1.2) (r'.1)) := by
  unfold fL_feed
  exact zp2_hi (I := fun s (r' : zSt × Int32) => zAll K s (r'.1)) (fun _ _ _ h => zh2_st h) (g_feed h hr)
theorem r_grow (h : zAll K σ μ) (hr : zr 0 262656 (zgi μ 0 2)) {x1 : Int32} : zp2 (fL_grow o σ x1) (fX12_grow μ x1) (fun r r' => zAll K (r.1.2) (r'.1)) := by
  unfold fL_grow
  exact zp2_hi (I := fun s (r' : zSt × Int32) => zAll K s (r'.1)) (fun _ _ _ h => zh2_st h) (g_grow h hr)
theorem r_patch (h : zAll K σ μ) (hr : zr 0 262656 (zgi μ 0 2)) {x1 : Int32} {x2 : Int64} : zp2 (fL_patch σ x1 x2) (fX12_patch μ x1 x2) (fun r r' => zAll K (r.1) (r')) := by
  unfold fL_patch
  exact zp2_hu (I := fun s (r' : zSt) => zAll K s (r')) (fun _ _ _ h => zh1_st h) (g_patch h hr)
theorem r_card (h : zAll K σ μ) {x1 : Int32} : zp2 (fL_card o σ x1) (fX12_card μ x1) (fun r r' => zAll K (r.1.2) (r'.1)) := by
  unfold fL_card
  exact zp2_hi (I := fun s (r' : zSt × Int32) => zAll K s (r'.1)) (fun _ _ _ h => zh1_st h) (g_card h)
theorem r_step (h : zAll K σ μ) (hK : K ≤ 900000000000000) (hP : (μ.2 4 2).toInt ≤ 268435456) {x1 : Int32} : zp2 (fL_step o σ x1) (fX12_step μ x1) (fun r r' => zAll (K + 1000000) (r.1.2) (r'.1)) := by
  unfold fL_step
  exact zp2_hi (I := fun s (r' : zSt × Int32) => zAll (K + 1000000) s (r'.1)) (fun _ _ _ h => zh1_st h) (g_step h hK hP)
theorem r_picture (h : zAll K σ μ) (hK : K ≤ 900000000000000) (hP : (μ.2 4 2).toInt ≤ 268435456) {x1 : Int32} : zp2 (fL_picture o σ x1) (fX12_picture μ x1) (fun r r' => zAll (K + 1000000) (r.1.2) (r'.1)) := by
  unfold fL_picture
  exact zp2_hi (I := fun s (r' : zSt × Int32) => zAll (K + 1000000) s (r'.1)) (fun _ _ _ h => zh1_st h) (g_picture h hK hP)
theorem r_press (h : zAll K σ μ) {x1 : Int32} {x2 : Int32} : zp2 (fL_press σ x1 x2) (fX12_press μ x1 x2) (fun r r' => zAll K (r.1) (r')) := by
  unfold fL_press
  exact zp2_hu (I := fun s (r' : zSt) => zAll K s (r')) (fun _ _ _ h => zh1_st h) (g_press h)
theorem r_line (h : zAll K σ μ) {x1 : Int32} {x2 : Int32} : zp2 (fL_line σ x1 x2) (fX12_line μ x1 x2) (fun r r' => zAll K (r.1) (r')) := by
  unfold fL_line
  exact zp2_hu (I := fun s (r' : zSt) => zAll K s (r')) (fun _ _ _ h => zh1_st h) (g_line h)
theorem r_plan (h : zAll K σ μ) {x1 : Int32} {x2 : Int32} {x3 : Int32} : zp2 (fL_plan o σ x1 x2 x3) (fX12_plan μ x1 x2 x3) (fun r r' => zAll K (r.1.2) (r'.1)) := by
  unfold fL_plan
  exact zp2_hi (I := fun s (r' : zSt × Int32) => zAll K s (r'.1)) (fun _ _ _ h => zh2_st h) (g_plan h)
theorem r_text (h : zAll K σ μ) {x1 : Int32} : zp2 (fL_text o σ x1) (fX12_text μ x1) (fun r r' => zAll K (r.1.2) (r'.1)) := by
  unfold fL_text
  exact zp2_hl (I := fun s (r' : zSt × Int64) => zAll K s (r'.1)) (fun _ _ _ h => zh1_st h) (g_text h)
theorem r_stop (h : zAll K σ μ) {x1 : Int32} {x2 : Int32} : zp2 (fL_stop o σ x1 x2) (fX12_stop μ x1 x2) (fun r r' => zAll K (r.1.2) (r'.1)) := by
  unfold fL_stop
  exact zp2_hi (I := fun s (r' : zSt × Int32) => zAll K s (r'.1)) (fun _ _ _ h => zh2_st h) (g_stop h)
theorem r_restore (h : zAll K σ μ) (hf : σ.1 0 11 = 0 ↔ μ.1 0 19 = 0) : zp2 (fL_restore σ ) (fX12_restore μ ) (fun r r' => zAll K (r.1) (r')) := by
  unfold fL_restore
  exact zp2_hu (I := fun s (r' : zSt) => zAll K s (r')) (fun _ _ _ h => zh1_st h) (g_restore h hf)
theorem r_register (h : zAll K σ μ) {x1 : Int32} : zp2 (fL_register o σ x1) (fX12_register μ x1) (fun r r' => zAll K (r.1.2) (r'.1)) := by
  unfold fL_register
  exact zp2_hi (I := fun s (r' : zSt × Int32) => zAll K s (r'.1)) (fun _ _ _ h => zh1_st h) (g_register h)
theorem r_set (h : zAll K σ μ) {x1 : Int32} {x2 : Int32} : zp2 (fL_set σ x1 x2) (fX12_set μ x1 x2) (fun r r' => zAll K (r.1) (r')) := by
  unfold fL_set
  exact zp2_hu (I := fun s (r' : zSt) => zAll K s (r')) (fun _ _ _ h => zh1_st h) (g_set h)
theorem r_battery (h : zAll K σ μ) {x1 : Int32} : zp2 (fL_battery o σ x1) (fX12_battery μ x1) (fun r r' => zAll K (r.1.2) (r'.1)) := by
  unfold fL_battery
  exact zp2_hi (I := fun s (r' : zSt × Int32) => zAll K s (r'.1)) (fun _ _ _ h => zh1_st h) (g_battery h)
theorem r_chip (h : zAll K σ μ) {x1 : Int32} : zp2 (fL_chip o σ x1) (fX12_chip μ x1) (fun r r' => zAll K (r.1.2) (r'.1)) := by
  unfold fL_chip
  exact zp2_hi (I := fun s (r' : zSt × Int32) => zAll K s (r'.1)) (fun _ _ _ h => zh1_st h) (g_chip h)
theorem r_dot (h : zAll K σ μ) {x1 : Int32} {x2 : Int32} : zp2 (fL_dot o σ x1 x2) (fX12_dot μ x1 x2) (fun r r' => zAll K (r.1.2) (r'.1)) := by
  unfold fL_dot
  exact zp2_hi (I := fun s (r' : zSt × Int32) => zAll K s (r'.1)) (fun _ _ _ h => zh1_st h) (g_dot h)
theorem r_row (h : zAll K σ μ) {x1 : Int32} : zp2 (fL_row o σ x1) (fX12_row μ x1) (fun r r' => zAll K (r.1.2) (r'.1)) := by
  unfold fL_row
  exact zp2_hi (I := fun s (r' : zSt × Int32) => zAll K s (r'.1)) (fun _ _ _ h => zh1_st h) (g_row h)
theorem r_hear (h : zAll K σ μ) : zp2 (fL_hear o σ ) (fX12_hear μ ) (fun r r' => zAll K (r.1.2) (r'.1)) := by
  unfold fL_hear
  exact zp2_hl (I := fun s (r' : zSt × Int64) => zAll K s (r'.1)) (fun _ _ _ h => zh1_st h) (g_hear h)
theorem r_mix (h : zAll K σ μ) : zp2 (fL_mix o σ ) (fX12_mix μ ) (fun r r' => zAll K (r.1.2) (r'.1)) := by
  unfold fL_mix
  exact zp2_hl (I := fun s (r' : zSt × Int64) => zAll K s (r'.1)) (fun _ _ _ h => zh1_st h) (g_mix h)
theorem r_wave (h : zAll K σ μ) {x1 : Int32} : zp2 (fL_wave o σ x1) (fX12_wave μ x1) (fun r r' => zAll K (r.1.2) (r'.1)) := by
  unfold fL_wave
  exact zp2_hi (I := fun s (r' : zSt × Int32) => zAll K s (r'.1)) (fun _ _ _ h => zh1_st h) (g_wave h)
theorem r_sound (h : zAll K σ μ) {x1 : Int32} : zp2 (fL_sound o σ x1) (fX12_sound μ x1) (fun r r' => zAll K (r.1.2) (r'.1)) := by
  unfold fL_sound
  exact zp2_hi (I := fun s (r' : zSt × Int32) => zAll K s (r'.1)) (fun _ _ _ h => zh1_st h) (g_sound h)
theorem r_look (h : zAll K σ μ) {x1 : Int32} : zp2 (fL_look o σ x1) (fX12_look μ x1) (fun r r' => zAll K (r.1.2) (r'.1)) := by
  unfold fL_look
  exact zp2_hl (I := fun s (r' : zSt × Int64) => zAll K s (r'.1)) (fun _ _ _ h => zh1_st h) (g_look h)
theorem zAn2.h {o : Nat → Int64} {q : Option zRi} {p : Option (zSt × Int32)} (h : zp2 q p zAn2) : zp2 (zbr q (zhi o zh2)) p zCv := by
  intro a c ea ec
  cases e : q with
  | none => rw [e] at ea; cases ea
  | some r =>
    have i := h r c e ec
    rw [e] at ea
    have ea : zhi o zh2 r = some a := ea
    rcases i with ⟨s, e1, t⟩ | ⟨s, e1, t⟩ | ⟨s, e1, t⟩
    · subst e1
      have ea : (if (1 : Nat) = 1 then some ((o, s), (1 : Int32)) else if (1 : Nat) = 2 then some ((o, s), (2 : Int32)) else none) = some a := ea
      rw [if_pos rfl] at ea
      cases ea
      exact ⟨t, fun z => absurd (show (1 : Int32) = 0 from z) (by decide)⟩
    · subst e1
      have ea : (if (2 : Nat) = 1 then some ((o, s), (1 : Int32)) else if (2 : Nat) = 2 then some ((o, s), (2 : Int32)) else none) = some a := ea
      rw [if_neg (by decide), if_pos rfl] at ea
      cases ea
      exact ⟨t, fun z => absurd (show (2 : Int32) = 0 from z) (by decide)⟩
    · subst e1
      have ea : some ((vp_updL o 0 c.2.toInt64, s), (0 : Int32)) = some a := ea
      cases ea
      refine ⟨t, fun _ => ?_⟩
      show (if (0 : Nat) = 0 then c.2.toInt64 else o 0).toInt = _
      rw [if_pos rfl, Int32.toInt_toInt64]
theorem w_tell (h : zAll K σ μ) (hK : K ≤ 900000000000000) (hP : (μ.2 4 2).toInt ≤ 268435456) {x1 : Int32} : zp2 (fX11_tell σ x1) (fX12_tell μ x1) (fun r r' => r.2 = r'.2) := by
  obtain ⟨C, hC, n⟩ := h.1
  exact zp2_mono (v_tell n.1.1) (fun _ _ q => q.1)
end ZG5
end ZJN10
section ZJN11
theorem q_fLaw_208 {K n k s h A : Int} {xs : Nat → Int32} {L : Nat} {kn : zSt → (Nat → Int64) → zSt → Int32 → Option Int32} {μ σ : zSt} {o : Nat → Int64} {x4 : Int32} (hM : zRM K n k s μ) (hC : zRC n h s σ) (hR : zAll A σ μ) (hA : A ≤ 900000000000000) (hb : K + 2100000 ≤ 268435456) (hz : ∀ j : Int32, 0 ≤ j.toInt → j.toInt ≤ 7 → zin (x4 + j) L = true) (hK : ∀ (μ1 : zSt) (o1 : Nat → Int64) (σ1 : zSt) (n s : Int), zRM (K + 2100000) n k s μ1 → zRC n h s σ1 → zAll (A + 1000000) σ1 μ1 → zok (kn μ1 o1 σ1 (x4 + 8)) (fun r => r = 1)) : zok (fLaw_208 xs L kn μ o σ x4) (fun r => r = 1) := by
  unfold fLaw_208
  refine zok_ck (hz 1 (by decide) (by decide)) ?_
  refine zok_ck (hz 2 (by decide) (by decide)) ?_
  refine zok_ck (hz 3 (by decide) (by decide)) ?_
  refine zok_ck (hz 4 (by decide) (by decide)) ?_
  refine zok_ck (hz 5 (by decide) (by decide)) ?_
  refine zok_ck (hz 6 (by decide) (by decide)) ?_
  refine zok_ck (hz 7 (by decide) (by decide)) ?_
  refine zok_bhE (l_feedx hC) (fun o3 s4 _ e2 p1 => ?_)
  refine zok_ck (hz 1 (by decide) (by decide)) ?_
  refine zok_ck (hz 2 (by decide) (by decide)) ?_
  refine zok_ck (hz 3 (by decide) (by decide)) ?_
  refine zok_ck (hz 4 (by decide) (by decide)) ?_
  refine zok_ck (hz 5 (by decide) (by decide)) ?_
  refine zok_ck (hz 6 (by decide) (by decide)) ?_
  refine zok_ck (hz 7 (by decide) (by decide)) ?_
  refine zok_biE (m_feedx hM) (fun s7 _ e6 p5 => ?_)
  have R6 := r_feed hR hM.len.1 _ _ e2 e6
  obtain ⟨_, ⟨_, c8, m9⟩, _⟩ := zBr.both p1 p5
  refine zok_bv (fun v8 e8 => ?_)
  subst e8
  exact hK _ _ _ _ _ (zRM.mono m9 (by omega) hb) c8 (zAll.mono R6 (by omega))
theorem q_fLaw_372 {K n k s h A : Int} {xs : Nat → Int32} {L : Nat} {kn : zSt → (Nat → Int64) → zSt → Int32 → Option Int32} {μ σ : zSt} {o : Nat → Int64} {x4 : Int32} (hM : zRM K n k s μ) (hC : zRC n h s σ) (hR : zAll A σ μ) (hA : A ≤ 900000000000000) (hb : K + 2100000 ≤ 268435456) (hz : ∀ j : Int32, 0 ≤ j.toInt → j.toInt ≤ 7 → zin (x4 + j) L = true) (hK : ∀ (μ1 : zSt) (o1 : Nat → Int64) (σ1 : zSt) (n s : Int), zRM (K + 2100000) n k s μ1 → zRC n h s σ1 → zAll (A + 1000000) σ1 μ1 → zok (kn μ1 o1 σ1 (x4 + 8)) (fun r => r = 1)) : zok (fLaw_372 xs L kn μ o σ x4) (fun r => r = 1) := by
  unfold fLaw_372
  refine zok_ck (hz 1 (by decide) (by decide)) ?_
  refine zok_bhE (l_growx hC) (fun o3 s4 _ e2 p1 => ?_)
  refine zok_ck (hz 1 (by decide) (by decide)) ?_
  refine zok_biE (m_growx hM) (fun s7 _ e6 p5 => ?_)
  have R6 := r_grow hR hM.len.1 _ _ e2 e6
  obtain ⟨_, ⟨_, c8, m9⟩, _⟩ := zBr.both p1 p5
  refine zok_bv (fun v8 e8 => ?_)
  subst e8
  exact hK _ _ _ _ _ (zRM.mono m9 (by omega) hb) c8 (zAll.mono R6 (by omega))
theorem q_fLaw_400 {K n k s h A : Int} {xs : Nat → Int32} {L : Nat} {kn : zSt → (Nat → Int64) → zSt → Int32 → Option Int32} {μ σ : zSt} {o : Nat → Int64} {x4 : Int32} (hM : zRM K n k s μ) (hC : zRC n h s σ) (hR : zAll A σ μ) (hA : A ≤ 900000000000000) (hb : K + 2100000 ≤ 268435456) (hz : ∀ j : Int32, 0 ≤ j.toInt → j.toInt ≤ 7 → zin (x4 + j) L = true) (hK : ∀ (μ1 : zSt) (o1 : Nat → Int64) (σ1 : zSt) (n s : Int), zRM (K + 2100000) n k s μ1 → zRC n h s σ1 → zAll (A + 1000000) σ1 μ1 → zok (kn μ1 o1 σ1 (x4 + 8)) (fun r => r = 1)) : zok (fLaw_400 xs L kn μ o σ x4) (fun r => r = 1) := by
  unfold fLaw_400
  refine zok_ck (hz 1 (by decide) (by decide)) ?_
  refine zok_ck (hz 2 (by decide) (by decide)) ?_
  refine zok_ck (hz 3 (by decide) (by decide)) ?_
  refine zok_biE (l_patchx hC) (fun s3 _ e2 p1 => ?_)
  refine zok_ck (hz 1 (by decide) (by decide)) ?_
  refine zok_ck (hz 2 (by decide) (by decide)) ?_
  refine zok_ck (hz 3 (by decide) (by decide)) ?_
  refine zok_buE (m_patchx hM) (fun s6 e5 p4 => ?_)
  have R6 := r_patch hR hM.len.1 _ _ e2 e5
  refine zok_bv (fun v8 e8 => ?_)
  subst e8
  exact hK _ _ _ _ _ (zRM.mono p4.1 (by omega) hb) p1.1 (zAll.mono R6 (by omega))
theorem q_fLaw_469 {K n k s h A : Int} {xs : Nat → Int32} {L : Nat} {kn : zSt → (Nat → Int64) → zSt → Int32 → Option Int32} {μ σ : zSt} {o : Nat → Int64} {x4 : Int32} (hM : zRM K n k s μ) (hC : zRC n h s σ) (hR : zAll A σ μ) (hA : A ≤ 900000000000000) (hb : K + 2100000 ≤ 268435456) (hz : ∀ j : Int32, 0 ≤ j.toInt → j.toInt ≤ 7 → zin (x4 + j) L = true) (hK : ∀ (μ1 : zSt) (o1 : Nat → Int64) (σ1 : zSt) (n s : Int), zRM (K + 2100000) n k s μ1 → zRC n h s σ1 → zAll (A + 1000000) σ1 μ1 → zok (kn μ1 o1 σ1 (x4 + 8)) (fun r => r = 1)) : zok (fLaw_469 xs L kn μ o σ x4) (fun r => r = 1) := by
  unfold fLaw_469
  refine zok_biE (c_loadx hC) (fun s3 _ e2 p1 => ?_)
  refine zok_biE (m_loadx hM) (fun s6 _ e5 p4 => ?_)
  have l10 := z2_load hR.2.1 hM.len.1 _ _ e2 e5
  have R5 := g_load hR hM.len.1 _ _ e2 e5
  obtain ⟨e9, _, c7, m8⟩ := zLo.both p1 p4
  have R6 := R5 e9 c7.len.2.1 c7.len.2.2 (zR6.ofL m8 c7 (l10 e9))
  refine zok_bv (fun v8 e8 => ?_)
  subst e8
  exact hK _ _ _ _ _ (zRM.mono m8 (by omega) hb) c7 (zAll.mono R6 (by omega))
theorem q_fLaw_482 {K n k s h A : Int} {xs : Nat → Int32} {L : Nat} {kn : zSt → (Nat → Int64) → zSt → Int32 → Option Int32} {μ σ : zSt} {o : Nat → Int64} {x4 : Int32} (hM : zRM K n k s μ) (hC : zRC n h s σ) (hR : zAll A σ μ) (hA : A ≤ 900000000000000) (hb : K + 2100000 ≤ 268435456) (hz : ∀ j : Int32, 0 ≤ j.toInt → j.toInt ≤ 7 → zin (x4 + j) L = true) (hK : ∀ (μ1 : zSt) (o1 : Nat → Int64) (σ1 : zSt) (n s : Int), zRM (K + 2100000) n k s μ1 → zRC n h s σ1 → zAll (A + 1000000) σ1 μ1 → zok (kn μ1 o1 σ1 (x4 + 8)) (fun r => r = 1)) : zok (fLaw_482 xs L kn μ o σ x4) (fun r => r = 1) := by
  unfold fLaw_482
  refine zok_ck (hz 1 (by decide) (by decide)) ?_
  refine zok_bhE (l_card hC) (fun o3 s4 _ e2 p1 => ?_)
  refine zok_ck (hz 1 (by decide) (by decide)) ?_
  refine zok_biE (m_card hM) (fun s7 _ e6 p5 => ?_)
  have R6 := r_card hR _ _ e2 e6
  refine zok_bv (fun v8 e8 => ?_)
  subst e8
  exact hK _ _ _ _ _ (zRM.mono p5 (by omega) hb) p1 (zAll.mono R6 (by omega))
theorem q_fLaw_510 {K n k s h A : Int} {xs : Nat → Int32} {L : Nat} {kn : zSt → (Nat → Int64) → zSt → Int32 → Option Int32} {μ σ : zSt} {o : Nat → Int64} {x4 : Int32} (hM : zRM K n k s μ) (hC : zRC n h s σ) (hR : zAll A σ μ) (hA : A ≤ 900000000000000) (hb : K + 2100000 ≤ 268435456) (hz : ∀ j : Int32, 0 ≤ j.toInt → j.toInt ≤ 7 → zin (x4 + j) L = true) (hK : ∀ (μ1 : zSt) (o1 : Nat → Int64) (σ1 : zSt) (n s : Int), zRM (K + 2100000) n k s μ1 → zRC n h s σ1 → zAll (A + 1000000) σ1 μ1 → zok (kn μ1 o1 σ1 (x4 + 8)) (fun r => r = 1)) : zok (fLaw_510 xs L kn μ o σ x4) (fun r => r = 1) := by
  unfold fLaw_510
  refine zok_ck (hz 1 (by decide) (by decide)) ?_
  refine zok_bhE (l_step hC) (fun o3 s4 _ e2 p1 => ?_)
  refine zok_ck (hz 1 (by decide) (by decide)) ?_
  refine zok_biE (m_step hM hb) (fun s7 _ e6 p5 => ?_)
  have R6 := r_step hR hA hM.pic _ _ e2 e6
  refine zok_bv (fun v8 e8 => ?_)
  subst e8
  exact hK _ _ _ _ _ p5 p1 R6
theorem q_fLaw_538 {K n k s h A : Int} {xs : Nat → Int32} {L : Nat} {kn : zSt → (Nat → Int64) → zSt → Int32 → Option Int32} {μ σ : zSt} {o : Nat → Int64} {x4 : Int32} (hM : zRM K n k s μ) (hC : zRC n h s σ) (hR : zAll A σ μ) (hA : A ≤ 900000000000000) (hb : K + 2100000 ≤ 268435456) (hz : ∀ j : Int32, 0 ≤ j.toInt → j.toInt ≤ 7 → zin (x4 + j) L = true) (hK : ∀ (μ1 : zSt) (o1 : Nat → Int64) (σ1 : zSt) (n s : Int), zRM (K + 2100000) n k s μ1 → zRC n h s σ1 → zAll (A + 1000000) σ1 μ1 → zok (kn μ1 o1 σ1 (x4 + 8)) (fun r => r = 1)) : zok (fLaw_538 xs L kn μ o σ x4) (fun r => r = 1) := by
  unfold fLaw_538
  refine zok_ck (hz 1 (by decide) (by decide)) ?_
  refine zok_bhE (l_picture hC) (fun o3 s4 _ e2 p1 => ?_)
  refine zok_ck (hz 1 (by decide) (by decide)) ?_
  refine zok_biE (m_picture hM hb) (fun s7 _ e6 p5 => ?_)
  have R6 := r_picture hR hA hM.pic _ _ e2 e6
  refine zok_bv (fun v8 e8 => ?_)
  subst e8
  exact hK _ _ _ _ _ p5 p1 R6
theorem q_fLaw_566 {K n k s h A : Int} {xs : Nat → Int32} {L : Nat} {kn : zSt → (Nat → Int64) → zSt → Int32 → Option Int32} {μ σ : zSt} {o : Nat → Int64} {x4 : Int32} (hM : zRM K n k s μ) (hC : zRC n h s σ) (hR : zAll A σ μ) (hA : A ≤ 900000000000000) (hb : K + 2100000 ≤ 268435456) (hz : ∀ j : Int32, 0 ≤ j.toInt → j.toInt ≤ 7 → zin (x4 + j) L = true) (hK : ∀ (μ1 : zSt) (o1 : Nat → Int64) (σ1 : zSt) (n s : Int), zRM (K + 2100000) n k s μ1 → zRC n h s σ1 → zAll (A + 1000000) σ1 μ1 → zok (kn μ1 o1 σ1 (x4 + 8)) (fun r => r = 1)) : zok (fLaw_566 xs L kn μ o σ x4) (fun r => r = 1) := by
  unfold fLaw_566
  refine zok_buE (c_reset hC) (fun s3 e2 p1 => ?_)
  refine zok_buE (m_reset hM) (fun s6 e5 p4 => ?_)
  have R6 := g_reset hR _ _ e2 e5
  refine zok_bv (fun v8 e8 => ?_)
  subst e8
  exact hK _ _ _ _ _ (zRM.mono p4 (by omega) hb) p1 (zAll.mono R6 (by omega))
theorem q_fLaw_577 {K n k s h A : Int} {xs : Nat → Int32} {L : Nat} {kn : zSt → (Nat → Int64) → zSt → Int32 → Option Int32} {μ σ : zSt} {o : Nat → Int64} {x4 : Int32} (hM : zRM K n k s μ) (hC : zRC n h s σ) (hR : zAll A σ μ) (hA : A ≤ 900000000000000) (hb : K + 2100000 ≤ 268435456) (hz : ∀ j : Int32, 0 ≤ j.toInt → j.toInt ≤ 7 → zin (x4 + j) L = true) (hK : ∀ (μ1 : zSt) (o1 : Nat → Int64) (σ1 : zSt) (n s : Int), zRM (K + 2100000) n k s μ1 → zRC n h s σ1 → zAll (A + 1000000) σ1 μ1 → zok (kn μ1 o1 σ1 (x4 + 8)) (fun r => r = 1)) : zok (fLaw_577 xs L kn μ o σ x4) (fun r => r = 1) := by
  unfold fLaw_577
  refine zok_biE (c_pause hC) (fun s3 _ e2 p1 => ?_)
  refine zok_biE (m_pause hM) (fun s6 _ e5 p4 => ?_)
  have R6 := g_pause hR _ _ e2 e5
  refine zok_bv (fun v8 e8 => ?_)
  subst e8
  exact hK _ _ _ _ _ (zRM.mono p4 (by omega) hb) p1 (zAll.mono R6 (by omega))
theorem q_fLaw_590 {K n k s h A : Int} {xs : Nat → Int32} {L : Nat} {kn : zSt → (Nat → Int64) → zSt → Int32 → Option Int32} {μ σ : zSt} {o : Nat → Int64} {x4 : Int32} (hM : zRM K n k s μ) (hC : zRC n h s σ) (hR : zAll A σ μ) (hA : A ≤ 900000000000000) (hb : K + 2100000 ≤ 268435456) (hz : ∀ j : Int32, 0 ≤ j.toInt → j.toInt ≤ 7 → zin (x4 + j) L = true) (hK : ∀ (μ1 : zSt) (o1 : Nat → Int64) (σ1 : zSt) (n s : Int), zRM (K + 2100000) n k s μ1 → zRC n h s σ1 → zAll (A + 1000000) σ1 μ1 → zok (kn μ1 o1 σ1 (x4 + 8)) (fun r => r = 1)) : zok (fLaw_590 xs L kn μ o σ x4) (fun r => r = 1) := by
  unfold fLaw_590
  refine zok_ck (hz 1 (by decide) (by decide)) ?_
  refine zok_ck (hz 2 (by decide) (by decide)) ?_
  refine zok_biE (l_press hC) (fun s3 _ e2 p1 => ?_)
  refine zok_ck (hz 1 (by decide) (by decide)) ?_
  refine zok_ck (hz 2 (by decide) (by decide)) ?_
  refine zok_buE (m_press hM) (fun s6 e5 p4 => ?_)
  have R6 := r_press hR _ _ e2 e5
  refine zok_bv (fun v8 e8 => ?_)
  subst e8
  exact hK _ _ _ _ _ (zRM.mono p4 (by omega) hb) p1 (zAll.mono R6 (by omega))
theorem q_fLaw_627 {K n k s h A : Int} {xs : Nat → Int32} {L : Nat} {kn : zSt → (Nat → Int64) → zSt → Int32 → Option Int32} {μ σ : zSt} {o : Nat → Int64} {x4 : Int32} (hM : zRM K n k s μ) (hC : zRC n h s σ) (hR : zAll A σ μ) (hA : A ≤ 900000000000000) (hb : K + 2100000 ≤ 268435456) (hz : ∀ j : Int32, 0 ≤ j.toInt → j.toInt ≤ 7 → zin (x4 + j) L = true) (hK : ∀ (μ1 : zSt) (o1 : Nat → Int64) (σ1 : zSt) (n s : Int), zRM (K + 2100000) n k s μ1 → zRC n h s σ1 → zAll (A + 1000000) σ1 μ1 → zok (kn μ1 o1 σ1 (x4 + 8)) (fun r => r = 1)) : zok (fLaw_627 xs L kn μ o σ x4) (fun r => r = 1) := by
  unfold fLaw_627
  refine zok_ck (hz 1 (by decide) (by decide)) ?_
  refine zok_if (fun q1 => ?_) (fun q1 => ?_)
  · refine zok_buE (c_start hC (zr_c (by decide))) (fun s4 e3 p2 => ?_)
    refine zok_ck (hz 1 (by decide) (by decide)) ?_
    refine zok_if (fun _ => ?_) (fun z => absurd q1 z)
    refine zok_buE (m_start hM (zr_c (by decide))) (fun s7 e6 p5 => ?_)
    have R6 := g_start hR _ _ e3 e6
    refine zok_bv (fun v8 e8 => ?_)
    subst e8
    exact hK _ _ _ _ _ (zRM.mono p5 (by omega) hb) p2 (zAll.mono R6 (by omega))
  · refine zok_buE (c_start hC (zr_c (by decide))) (fun s10 e9 p8 => ?_)
    refine zok_ck (hz 1 (by decide) (by decide)) ?_
    refine zok_if (fun z => absurd z q1) (fun _ => ?_)
    refine zok_buE (m_start hM (zr_c (by decide))) (fun s13 e12 p11 => ?_)
    have R6 := g_start hR _ _ e9 e12
    refine zok_bv (fun v8 e8 => ?_)
    subst e8
    exact hK _ _ _ _ _ (zRM.mono p11 (by omega) hb) p8 (zAll.mono R6 (by omega))
theorem q_fLaw_666 {K n k s h A : Int} {xs : Nat → Int32} {L : Nat} {kn : zSt → (Nat → Int64) → zSt → Int32 → Option Int32} {μ σ : zSt} {o : Nat → Int64} {x4 : Int32} (hM : zRM K n k s μ) (hC : zRC n h s σ) (hR : zAll A σ μ) (hA : A ≤ 900000000000000) (hb : K + 2100000 ≤ 268435456) (hz : ∀ j : Int32, 0 ≤ j.toInt → j.toInt ≤ 7 → zin (x4 + j) L = true) (hK : ∀ (μ1 : zSt) (o1 : Nat → Int64) (σ1 : zSt) (n s : Int), zRM (K + 2100000) n k s μ1 → zRC n h s σ1 → zAll (A + 1000000) σ1 μ1 → zok (kn μ1 o1 σ1 (x4 + 8)) (fun r => r = 1)) : zok (fLaw_666 xs L kn μ o σ x4) (fun r => r = 1) := by
  unfold fLaw_666
  refine zok_ck (hz 1 (by decide) (by decide)) ?_
  refine zok_ck (hz 2 (by decide) (by decide)) ?_
  refine zok_if (fun q1 => ?_) (fun q1 => ?_)
  · refine zok_biE (l_line hC (zr_c (by decide))) (fun s4 _ e3 p2 => ?_)
    refine zok_ck (hz 1 (by decide) (by decide)) ?_
    refine zok_ck (hz 2 (by decide) (by decide)) ?_
    refine zok_if (fun _ => ?_) (fun z => absurd q1 z)
    refine zok_buE (m_line hM (zr_c (by decide))) (fun s7 e6 p5 => ?_)
    have R6 := r_line hR _ _ e3 e6
    refine zok_bv (fun v8 e8 => ?_)
    subst e8
    exact hK _ _ _ _ _ (zRM.mono p5 (by omega) hb) p2 (zAll.mono R6 (by omega))
  · refine zok_biE (l_line hC (zr_c (by decide))) (fun s10 _ e9 p8 => ?_)
    refine zok_ck (hz 1 (by decide) (by decide)) ?_
    refine zok_ck (hz 2 (by decide) (by decide)) ?_
    refine zok_if (fun z => absurd z q1) (fun _ => ?_)
    refine zok_buE (m_line hM (zr_c (by decide))) (fun s13 e12 p11 => ?_)
    have R6 := r_line hR _ _ e9 e12
    refine zok_bv (fun v8 e8 => ?_)
    subst e8
    exact hK _ _ _ _ _ (zRM.mono p11 (by omega) hb) p8 (zAll.mono R6 (by omega))
theorem q_fLaw_719 {K n k s h A : Int} {xs : Nat → Int32} {L : Nat} {kn : zSt → (Nat → Int64) → zSt → Int32 → Option Int32} {μ σ : zSt} {o : Nat → Int64} {x4 : Int32} (hM : zRM K n k s μ) (hC : zRC n h s σ) (hR : zAll A σ μ) (hA : A ≤ 900000000000000) (hb : K + 2100000 ≤ 268435456) (hz : ∀ j : Int32, 0 ≤ j.toInt → j.toInt ≤ 7 → zin (x4 + j) L = true) (hK : ∀ (μ1 : zSt) (o1 : Nat → Int64) (σ1 : zSt) (n s : Int), zRM (K + 2100000) n k s μ1 → zRC n h s σ1 → zAll (A + 1000000) σ1 μ1 → zok (kn μ1 o1 σ1 (x4 + 8)) (fun r => r = 1)) : zok (fLaw_719 xs L kn μ o σ x4) (fun r => r = 1) := by
  unfold fLaw_719
  refine zok_ck (hz 1 (by decide) (by decide)) ?_
  refine zok_ck (hz 2 (by decide) (by decide)) ?_
  refine zok_ck (hz 3 (by decide) (by decide)) ?_
  refine zok_bhE (l_plan hC) (fun o3 s4 _ e2 p1 => ?_)
  refine zok_ck (hz 1 (by decide) (by decide)) ?_
  refine zok_ck (hz 2 (by decide) (by decide)) ?_
  refine zok_ck (hz 3 (by decide) (by decide)) ?_
  refine zok_biE (m_plan hM) (fun s7 _ e6 p5 => ?_)
  have R6 := r_plan hR _ _ e2 e6
  refine zok_bv (fun v8 e8 => ?_)
  subst e8
  exact hK _ _ _ _ _ (zRM.mono p5 (by omega) hb) p1 (zAll.mono R6 (by omega))
theorem q_fLaw_771 {K n k s h A : Int} {xs : Nat → Int32} {L : Nat} {kn : zSt → (Nat → Int64) → zSt → Int32 → Option Int32} {μ σ : zSt} {o : Nat → Int64} {x4 : Int32} (hM : zRM K n k s μ) (hC : zRC n h s σ) (hR : zAll A σ μ) (hA : A ≤ 900000000000000) (hb : K + 2100000 ≤ 268435456) (hz : ∀ j : Int32, 0 ≤ j.toInt → j.toInt ≤ 7 → zin (x4 + j) L = true) (hK : ∀ (μ1 : zSt) (o1 : Nat → Int64) (σ1 : zSt) (n s : Int), zRM (K + 2100000) n k s μ1 → zRC n h s σ1 → zAll (A + 1000000) σ1 μ1 → zok (kn μ1 o1 σ1 (x4 + 8)) (fun r => r = 1)) : zok (fLaw_771 xs L kn μ o σ x4) (fun r => r = 1) := by
  unfold fLaw_771
  refine zok_ck (hz 1 (by decide) (by decide)) ?_
  refine zok_biE (c_tell hC) (fun s3 _ e2 p1 => ?_)
  refine zok_ck (hz 1 (by decide) (by decide)) ?_
  refine zok_biE (m_tell hM) (fun s6 _ e5 p4 => ?_)
  have d7 := w_tell hR hA hM.pic _ _ e2 e5
  have R6 := g_tell hR _ _ e2 e5
  refine zok_if (fun _ => ?_) (fun q => absurd d7 q)
  refine zok_bv (fun v8 e8 => ?_)
  subst e8
  exact hK _ _ _ _ _ (zRM.mono p4 (by omega) hb) p1 (zAll.mono R6 (by omega))
theorem q_fLaw_796 {K n k s h A : Int} {xs : Nat → Int32} {L : Nat} {kn : zSt → (Nat → Int64) → zSt → Int32 → Option Int32} {μ σ : zSt} {o : Nat → Int64} {x4 : Int32} (hM : zRM K n k s μ) (hC : zRC n h s σ) (hR : zAll A σ μ) (hA : A ≤ 900000000000000) (hb : K + 2100000 ≤ 268435456) (hz : ∀ j : Int32, 0 ≤ j.toInt → j.toInt ≤ 7 → zin (x4 + j) L = true) (hK : ∀ (μ1 : zSt) (o1 : Nat → Int64) (σ1 : zSt) (n s : Int), zRM (K + 2100000) n k s μ1 → zRC n h s σ1 → zAll (A + 1000000) σ1 μ1 → zok (kn μ1 o1 σ1 (x4 + 8)) (fun r => r = 1)) : zok (fLaw_796 xs L kn μ o σ x4) (fun r => r = 1) := by
  unfold fLaw_796
  refine zok_ck (hz 1 (by decide) (by decide)) ?_
  refine zok_bhE (l_text hC) (fun o3 s4 _ e2 p1 => ?_)
  refine zok_ck (hz 1 (by decide) (by decide)) ?_
  refine zok_bllE (m_text hM) (fun s7 _ e6 p5 => ?_)
  have R6 := r_text hR _ _ e2 e6
  refine zok_bv (fun v8 e8 => ?_)
  subst e8
  exact hK _ _ _ _ _ (zRM.mono p5 (by omega) hb) p1 (zAll.mono R6 (by omega))
theorem q_fLaw_824 {K n k s h A : Int} {xs : Nat → Int32} {L : Nat} {kn : zSt → (Nat → Int64) → zSt → Int32 → Option Int32} {μ σ : zSt} {o : Nat → Int64} {x4 : Int32} (hM : zRM K n k s μ) (hC : zRC n h s σ) (hR : zAll A σ μ) (hA : A ≤ 900000000000000) (hb : K + 2100000 ≤ 268435456) (hz : ∀ j : Int32, 0 ≤ j.toInt → j.toInt ≤ 7 → zin (x4 + j) L = true) (hK : ∀ (μ1 : zSt) (o1 : Nat → Int64) (σ1 : zSt) (n s : Int), zRM (K + 2100000) n k s μ1 → zRC n h s σ1 → zAll (A + 1000000) σ1 μ1 → zok (kn μ1 o1 σ1 (x4 + 8)) (fun r => r = 1)) : zok (fLaw_824 xs L kn μ o σ x4) (fun r => r = 1) := by
  unfold fLaw_824
  refine zok_ck (hz 1 (by decide) (by decide)) ?_
  refine zok_ck (hz 2 (by decide) (by decide)) ?_
  refine zok_if (fun q1 => ?_) (fun q1 => ?_)
  · refine zok_bhE (l_stop hC (zr_c (by decide))) (fun o4 s5 _ e3 p2 => ?_)
    refine zok_ck (hz 1 (by decide) (by decide)) ?_
    refine zok_ck (hz 2 (by decide) (by decide)) ?_
    refine zok_if (fun _ => ?_) (fun z => absurd q1 z)
    refine zok_biE (m_stop hM (zr_c (by decide))) (fun s8 _ e7 p6 => ?_)
    have R6 := r_stop hR _ _ e3 e7
    refine zok_bv (fun v8 e8 => ?_)
    subst e8
    exact hK _ _ _ _ _ (zRM.mono p6 (by omega) hb) p2 (zAll.mono R6 (by omega))
  · refine zok_bhE (l_stop hC (zr_c (by decide))) (fun o11 s12 _ e10 p9 => ?_)
    refine zok_ck (hz 1 (by decide) (by decide)) ?_
    refine zok_ck (hz 2 (by decide) (by decide)) ?_
    refine zok_if (fun z => absurd z q1) (fun _ => ?_)
    refine zok_biE (m_stop hM (zr_c (by decide))) (fun s15 _ e14 p13 => ?_)
    have R6 := r_stop hR _ _ e10 e14
    refine zok_bv (fun v8 e8 => ?_)
    subst e8
    exact hK _ _ _ _ _ (zRM.mono p13 (by omega) hb) p9 (zAll.mono R6 (by omega))
theorem q_fLaw_880 {K n k s h A : Int} {xs : Nat → Int32} {L : Nat} {kn : zSt → (Nat → Int64) → zSt → Int32 → Option Int32} {μ σ : zSt} {o : Nat → Int64} {x4 : Int32} (hM : zRM K n k s μ) (hC : zRC n h s σ) (hR : zAll A σ μ) (hA : A ≤ 900000000000000) (hb : K + 2100000 ≤ 268435456) (hz : ∀ j : Int32, 0 ≤ j.toInt → j.toInt ≤ 7 → zin (x4 + j) L = true) (hK : ∀ (μ1 : zSt) (o1 : Nat → Int64) (σ1 : zSt) (n s : Int), zRM (K + 2100000) n k s μ1 → zRC n h s σ1 → zAll (A + 1000000) σ1 μ1 → zok (kn μ1 o1 σ1 (x4 + 8)) (fun r => r = 1)) : zok (fLaw_880 xs L kn μ o σ x4) (fun r => r = 1) := by
  unfold fLaw_880
  refine zok_buE (c_savex hC) (fun s3 e2 p1 => ?_)
  refine zok_buE (m_save hM) (fun s6 e5 p4 => ?_)
  have R6 := g_save hR _ _ e2 e5
  refine zok_bv (fun v8 e8 => ?_)
  subst e8
  exact hK _ _ _ _ _ (zRM.mono p4 (by omega) hb) p1 (zAll.mono R6 (by omega))
theorem q_fLaw_891 {K n k s h A : Int} {xs : Nat → Int32} {L : Nat} {kn : zSt → (Nat → Int64) → zSt → Int32 → Option Int32} {μ σ : zSt} {o : Nat → Int64} {x4 : Int32} (hM : zRM K n k s μ) (hC : zRC n h s σ) (hR : zAll A σ μ) (hA : A ≤ 900000000000000) (hb : K + 2100000 ≤ 268435456) (hz : ∀ j : Int32, 0 ≤ j.toInt → j.toInt ≤ 7 → zin (x4 + j) L = true) (hK : ∀ (μ1 : zSt) (o1 : Nat → Int64) (σ1 : zSt) (n s : Int), zRM (K + 2100000) n k s μ1 → zRC n h s σ1 → zAll (A + 1000000) σ1 μ1 → zok (kn μ1 o1 σ1 (x4 + 8)) (fun r => r = 1)) : zok (fLaw_891 xs L kn μ o σ x4) (fun r => r = 1) := by
  unfold fLaw_891
  refine zok_biE (l_restorex hC) (fun s3 _ e2 p1 => ?_)
  refine zok_buE (m_restorex hM) (fun s6 e5 p4 => ?_)
  have R6 := r_restore hR (z_flag hM hC) _ _ e2 e5
  refine zok_bv (fun v8 e8 => ?_)
  subst e8
  exact hK _ _ _ _ _ (zRM.mono p4.1 (by omega) hb) p1.1 (zAll.mono R6 (by omega))
theorem q_fLaw_904 {K n k s h A : Int} {xs : Nat → Int32} {L : Nat} {kn : zSt → (Nat → Int64) → zSt → Int32 → Option Int32} {μ σ : zSt} {o : Nat → Int64} {x4 : Int32} (hM : zRM K n k s μ) (hC : zRC n h s σ) (hR : zAll A σ μ) (hA : A ≤ 900000000000000) (hb : K + 2100000 ≤ 268435456) (hz : ∀ j : Int32, 0 ≤ j.toInt → j.toInt ≤ 7 → zin (x4 + j) L = true) (hK : ∀ (μ1 : zSt) (o1 : Nat → Int64) (σ1 : zSt) (n s : Int), zRM (K + 2100000) n k s μ1 → zRC n h s σ1 → zAll (A + 1000000) σ1 μ1 → zok (kn μ1 o1 σ1 (x4 + 8)) (fun r => r = 1)) : zok (fLaw_904 xs L kn μ o σ x4) (fun r => r = 1) := by
  unfold fLaw_904
  refine zok_ck (hz 1 (by decide) (by decide)) ?_
  refine zok_bhE (l_register hC) (fun o3 s4 _ e2 p1 => ?_)
  refine zok_ck (hz 1 (by decide) (by decide)) ?_
  refine zok_biE (m_register hM) (fun s7 _ e6 p5 => ?_)
  have R6 := r_register hR _ _ e2 e6
  refine zok_bv (fun v8 e8 => ?_)
  subst e8
  exact hK _ _ _ _ _ (zRM.mono p5 (by omega) hb) p1 (zAll.mono R6 (by omega))
theorem q_fLaw_932 {K n k s h A : Int} {xs : Nat → Int32} {L : Nat} {kn : zSt → (Nat → Int64) → zSt → Int32 → Option Int32} {μ σ : zSt} {o : Nat → Int64} {x4 : Int32} (hM : zRM K n k s μ) (hC : zRC n h s σ) (hR : zAll A σ μ) (hA : A ≤ 900000000000000) (hb : K + 2100000 ≤ 268435456) (hz : ∀ j : Int32, 0 ≤ j.toInt → j.toInt ≤ 7 → zin (x4 + j) L = true) (hK : ∀ (μ1 : zSt) (o1 : Nat → Int64) (σ1 : zSt) (n s : Int), zRM (K + 2100000) n k s μ1 → zRC n h s σ1 → zAll (A + 1000000) σ1 μ1 → zok (kn μ1 o1 σ1 (x4 + 8)) (fun r => r = 1)) : zok (fLaw_932 xs L kn μ o σ x4) (fun r => r = 1) := by
  unfold fLaw_932
  refine zok_ck (hz 1 (by decide) (by decide)) ?_
  refine zok_ck (hz 2 (by decide) (by decide)) ?_
  refine zok_biE (l_set hC) (fun s3 _ e2 p1 => ?_)
  refine zok_ck (hz 1 (by decide) (by decide)) ?_
  refine zok_ck (hz 2 (by decide) (by decide)) ?_
  refine zok_buE (m_set hM) (fun s6 e5 p4 => ?_)
  have R6 := r_set hR _ _ e2 e5
  refine zok_bv (fun v8 e8 => ?_)
  subst e8
  exact hK _ _ _ _ _ (zRM.mono p4 (by omega) hb) p1 (zAll.mono R6 (by omega))
theorem q_fLaw_969 {K n k s h A : Int} {xs : Nat → Int32} {L : Nat} {kn : zSt → (Nat → Int64) → zSt → Int32 → Option Int32} {μ σ : zSt} {o : Nat → Int64} {x4 : Int32} (hM : zRM K n k s μ) (hC : zRC n h s σ) (hR : zAll A σ μ) (hA : A ≤ 900000000000000) (hb : K + 2100000 ≤ 268435456) (hz : ∀ j : Int32, 0 ≤ j.toInt → j.toInt ≤ 7 → zin (x4 + j) L = true) (hK : ∀ (μ1 : zSt) (o1 : Nat → Int64) (σ1 : zSt) (n s : Int), zRM (K + 2100000) n k s μ1 → zRC n h s σ1 → zAll (A + 1000000) σ1 μ1 → zok (kn μ1 o1 σ1 (x4 + 8)) (fun r => r = 1)) : zok (fLaw_969 xs L kn μ o σ x4) (fun r => r = 1) := by
  unfold fLaw_969
  refine zok_ck (hz 1 (by decide) (by decide)) ?_
  refine zok_biE (c_peek hC) (fun s3 _ e2 p1 => ?_)
  refine zok_ck (hz 1 (by decide) (by decide)) ?_
  refine zok_biE (m_peek hM) (fun s6 _ e5 p4 => ?_)
  have R6 := g_peek hR _ _ e2 e5
  refine zok_bv (fun v8 e8 => ?_)
  subst e8
  exact hK _ _ _ _ _ (zRM.mono p4 (by omega) hb) p1 (zAll.mono R6 (by omega))
theorem q_fLaw_994 {K n k s h A : Int} {xs : Nat → Int32} {L : Nat} {kn : zSt → (Nat → Int64) → zSt → Int32 → Option Int32} {μ σ : zSt} {o : Nat → Int64} {x4 : Int32} (hM : zRM K n k s μ) (hC : zRC n h s σ) (hR : zAll A σ μ) (hA : A ≤ 900000000000000) (hb : K + 2100000 ≤ 268435456) (hz : ∀ j : Int32, 0 ≤ j.toInt → j.toInt ≤ 7 → zin (x4 + j) L = true) (hK : ∀ (μ1 : zSt) (o1 : Nat → Int64) (σ1 : zSt) (n s : Int), zRM (K + 2100000) n k s μ1 → zRC n h s σ1 → zAll (A + 1000000) σ1 μ1 → zok (kn μ1 o1 σ1 (x4 + 8)) (fun r => r = 1)) : zok (fLaw_994 xs L kn μ o σ x4) (fun r => r = 1) := by
  unfold fLaw_994
  refine zok_ck (hz 1 (by decide) (by decide)) ?_
  refine zok_ck (hz 2 (by decide) (by decide)) ?_
  refine zok_buE (c_poke hC) (fun s3 e2 p1 => ?_)
  refine zok_ck (hz 1 (by decide) (by decide)) ?_
  refine zok_ck (hz 2 (by decide) (by decide)) ?_
  refine zok_buE (m_poke hM) (fun s6 e5 p4 => ?_)
  have R6 := g_poke hR _ _ e2 e5
  refine zok_bv (fun v8 e8 => ?_)
  subst e8
  exact hK _ _ _ _ _ (zRM.mono p4 (by omega) hb) p1 (zAll.mono R6 (by omega))
theorem q_fLaw_1029 {K n k s h A : Int} {xs : Nat → Int32} {L : Nat} {kn : zSt → (Nat → Int64) → zSt → Int32 → Option Int32} {μ σ : zSt} {o : Nat → Int64} {x4 : Int32} (hM : zRM K n k s μ) (hC : zRC n h s σ) (hR : zAll A σ μ) (hA : A ≤ 900000000000000) (hb : K + 2100000 ≤ 268435456) (hz : ∀ j : Int32, 0 ≤ j.toInt → j.toInt ≤ 7 → zin (x4 + j) L = true) (hK : ∀ (μ1 : zSt) (o1 : Nat → Int64) (σ1 : zSt) (n s : Int), zRM (K + 2100000) n k s μ1 → zRC n h s σ1 → zAll (A + 1000000) σ1 μ1 → zok (kn μ1 o1 σ1 (x4 + 8)) (fun r => r = 1)) : zok (fLaw_1029 xs L kn μ o σ x4) (fun r => r = 1) := by
  unfold fLaw_1029
  refine zok_ck (hz 1 (by decide) (by decide)) ?_
  refine zok_biE (c_in hC) (fun s3 _ e2 p1 => ?_)
  refine zok_ck (hz 1 (by decide) (by decide)) ?_
  refine zok_biE (m_in hM) (fun s6 _ e5 p4 => ?_)
  have R6 := g_in hR _ _ e2 e5
  refine zok_bv (fun v8 e8 => ?_)
  subst e8
  exact hK _ _ _ _ _ (zRM.mono p4 (by omega) hb) p1 (zAll.mono R6 (by omega))
theorem q_fLaw_1054 {K n k s h A : Int} {xs : Nat → Int32} {L : Nat} {kn : zSt → (Nat → Int64) → zSt → Int32 → Option Int32} {μ σ : zSt} {o : Nat → Int64} {x4 : Int32} (hM : zRM K n k s μ) (hC : zRC n h s σ) (hR : zAll A σ μ) (hA : A ≤ 900000000000000) (hb : K + 2100000 ≤ 268435456) (hz : ∀ j : Int32, 0 ≤ j.toInt → j.toInt ≤ 7 → zin (x4 + j) L = true) (hK : ∀ (μ1 : zSt) (o1 : Nat → Int64) (σ1 : zSt) (n s : Int), zRM (K + 2100000) n k s μ1 → zRC n h s σ1 → zAll (A + 1000000) σ1 μ1 → zok (kn μ1 o1 σ1 (x4 + 8)) (fun r => r = 1)) : zok (fLaw_1054 xs L kn μ o σ x4) (fun r => r = 1) := by
  unfold fLaw_1054
  refine zok_ck (hz 1 (by decide) (by decide)) ?_
  refine zok_ck (hz 2 (by decide) (by decide)) ?_
  refine zok_buE (c_out hC) (fun s3 e2 p1 => ?_)
  refine zok_ck (hz 1 (by decide) (by decide)) ?_
  refine zok_ck (hz 2 (by decide) (by decide)) ?_
  refine zok_buE (m_out hM) (fun s6 e5 p4 => ?_)
  have R6 := g_out hR _ _ e2 e5
  refine zok_bv (fun v8 e8 => ?_)
  subst e8
  exact hK _ _ _ _ _ (zRM.mono p4 (by omega) hb) p1 (zAll.mono R6 (by omega))
theorem q_fLaw_1089 {K n k s h A : Int} {xs : Nat → Int32} {L : Nat} {kn : zSt → (Nat → Int64) → zSt → Int32 → Option Int32} {μ σ : zSt} {o : Nat → Int64} {x4 : Int32} (hM : zRM K n k s μ) (hC : zRC n h s σ) (hR : zAll A σ μ) (hA : A ≤ 900000000000000) (hb : K + 2100000 ≤ 268435456) (hz : ∀ j : Int32, 0 ≤ j.toInt → j.toInt ≤ 7 → zin (x4 + j) L = true) (hK : ∀ (μ1 : zSt) (o1 : Nat → Int64) (σ1 : zSt) (n s : Int), zRM (K + 2100000) n k s μ1 → zRC n h s σ1 → zAll (A + 1000000) σ1 μ1 → zok (kn μ1 o1 σ1 (x4 + 8)) (fun r => r = 1)) : zok (fLaw_1089 xs L kn μ o σ x4) (fun r => r = 1) := by
  unfold fLaw_1089
  refine zok_ck (hz 1 (by decide) (by decide)) ?_
  refine zok_bhE (l_battery hC) (fun o3 s4 _ e2 p1 => ?_)
  refine zok_ck (hz 1 (by decide) (by decide)) ?_
  refine zok_biE (m_battery hM) (fun s7 _ e6 p5 => ?_)
  have R6 := r_battery hR _ _ e2 e6
  refine zok_bv (fun v8 e8 => ?_)
  subst e8
  exact hK _ _ _ _ _ (zRM.mono p5 (by omega) hb) p1 (zAll.mono R6 (by omega))
theorem q_fLaw_1117 {K n k s h A : Int} {xs : Nat → Int32} {L : Nat} {kn : zSt → (Nat → Int64) → zSt → Int32 → Option Int32} {μ σ : zSt} {o : Nat → Int64} {x4 : Int32} (hM : zRM K n k s μ) (hC : zRC n h s σ) (hR : zAll A σ μ) (hA : A ≤ 900000000000000) (hb : K + 2100000 ≤ 268435456) (hz : ∀ j : Int32, 0 ≤ j.toInt → j.toInt ≤ 7 → zin (x4 + j) L = true) (hK : ∀ (μ1 : zSt) (o1 : Nat → Int64) (σ1 : zSt) (n s : Int), zRM (K + 2100000) n k s μ1 → zRC n h s σ1 → zAll (A + 1000000) σ1 μ1 → zok (kn μ1 o1 σ1 (x4 + 8)) (fun r => r = 1)) : zok (fLaw_1117 xs L kn μ o σ x4) (fun r => r = 1) := by
  unfold fLaw_1117
  refine zok_buE (c_wipe hC) (fun s3 e2 p1 => ?_)
  refine zok_buE (m_wipe hM) (fun s6 e5 p4 => ?_)
  have R6 := g_wipe hR _ _ e2 e5
  refine zok_bv (fun v8 e8 => ?_)
  subst e8
  exact hK _ _ _ _ _ (zRM.mono p4 (by omega) hb) p1 (zAll.mono R6 (by omega))
theorem q_fLaw_1128 {K n k s h A : Int} {xs : Nat → Int32} {L : Nat} {kn : zSt → (Nat → Int64) → zSt → Int32 → Option Int32} {μ σ : zSt} {o : Nat → Int64} {x4 : Int32} (hM : zRM K n k s μ) (hC : zRC n h s σ) (hR : zAll A σ μ) (hA : A ≤ 900000000000000) (hb : K + 2100000 ≤ 268435456) (hz : ∀ j : Int32, 0 ≤ j.toInt → j.toInt ≤ 7 → zin (x4 + j) L = true) (hK : ∀ (μ1 : zSt) (o1 : Nat → Int64) (σ1 : zSt) (n s : Int), zRM (K + 2100000) n k s μ1 → zRC n h s σ1 → zAll (A + 1000000) σ1 μ1 → zok (kn μ1 o1 σ1 (x4 + 8)) (fun r => r = 1)) : zok (fLaw_1128 xs L kn μ o σ x4) (fun r => r = 1) := by
  unfold fLaw_1128
  refine zok_ck (hz 1 (by decide) (by decide)) ?_
  refine zok_bllE (c_video hC) (fun s3 _ e2 p1 => ?_)
  refine zok_ck (hz 1 (by decide) (by decide)) ?_
  refine zok_bllE (m_video hM) (fun s6 _ e5 p4 => ?_)
  have R6 := g_video hR _ _ e2 e5
  refine zok_bv (fun v8 e8 => ?_)
  subst e8
  exact hK _ _ _ _ _ (zRM.mono p4 (by omega) hb) p1 (zAll.mono R6 (by omega))
theorem q_fLaw_1153 {K n k s h A : Int} {xs : Nat → Int32} {L : Nat} {kn : zSt → (Nat → Int64) → zSt → Int32 → Option Int32} {μ σ : zSt} {o : Nat → Int64} {x4 : Int32} (hM : zRM K n k s μ) (hC : zRC n h s σ) (hR : zAll A σ μ) (hA : A ≤ 900000000000000) (hb : K + 2100000 ≤ 268435456) (hz : ∀ j : Int32, 0 ≤ j.toInt → j.toInt ≤ 7 → zin (x4 + j) L = true) (hK : ∀ (μ1 : zSt) (o1 : Nat → Int64) (σ1 : zSt) (n s : Int), zRM (K + 2100000) n k s μ1 → zRC n h s σ1 → zAll (A + 1000000) σ1 μ1 → zok (kn μ1 o1 σ1 (x4 + 8)) (fun r => r = 1)) : zok (fLaw_1153 xs L kn μ o σ x4) (fun r => r = 1) := by
  unfold fLaw_1153
  refine zok_ck (hz 1 (by decide) (by decide)) ?_
  refine zok_bhE (l_chip hC) (fun o3 s4 _ e2 p1 => ?_)
  refine zok_ck (hz 1 (by decide) (by decide)) ?_
  refine zok_biE (m_chip hM) (fun s7 _ e6 p5 => ?_)
  have R6 := r_chip hR _ _ e2 e6
  refine zok_bv (fun v8 e8 => ?_)
  subst e8
  exact hK _ _ _ _ _ (zRM.mono p5 (by omega) hb) p1 (zAll.mono R6 (by omega))
theorem q_fLaw_1181 {K n k s h A : Int} {xs : Nat → Int32} {L : Nat} {kn : zSt → (Nat → Int64) → zSt → Int32 → Option Int32} {μ σ : zSt} {o : Nat → Int64} {x4 : Int32} (hM : zRM K n k s μ) (hC : zRC n h s σ) (hR : zAll A σ μ) (hA : A ≤ 900000000000000) (hb : K + 2100000 ≤ 268435456) (hz : ∀ j : Int32, 0 ≤ j.toInt → j.toInt ≤ 7 → zin (x4 + j) L = true) (hK : ∀ (μ1 : zSt) (o1 : Nat → Int64) (σ1 : zSt) (n s : Int), zRM (K + 2100000) n k s μ1 → zRC n h s σ1 → zAll (A + 1000000) σ1 μ1 → zok (kn μ1 o1 σ1 (x4 + 8)) (fun r => r = 1)) : zok (fLaw_1181 xs L kn μ o σ x4) (fun r => r = 1) := by
  unfold fLaw_1181
  refine zok_ck (hz 1 (by decide) (by decide)) ?_
  refine zok_ck (hz 2 (by decide) (by decide)) ?_
  refine zok_bhE (l_dot hC) (fun o3 s4 _ e2 p1 => ?_)
  refine zok_ck (hz 1 (by decide) (by decide)) ?_
  refine zok_ck (hz 2 (by decide) (by decide)) ?_
  refine zok_biE (m_dot hM) (fun s7 _ e6 p5 => ?_)
  have R6 := r_dot hR _ _ e2 e6
  refine zok_bv (fun v8 e8 => ?_)
  subst e8
  exact hK _ _ _ _ _ (zRM.mono p5 (by omega) hb) p1 (zAll.mono R6 (by omega))
theorem q_fLaw_1221 {K n k s h A : Int} {xs : Nat → Int32} {L : Nat} {kn : zSt → (Nat → Int64) → zSt → Int32 → Option Int32} {μ σ : zSt} {o : Nat → Int64} {x4 : Int32} (hM : zRM K n k s μ) (hC : zRC n h s σ) (hR : zAll A σ μ) (hA : A ≤ 900000000000000) (hb : K + 2100000 ≤ 268435456) (hz : ∀ j : Int32, 0 ≤ j.toInt → j.toInt ≤ 7 → zin (x4 + j) L = true) (hK : ∀ (μ1 : zSt) (o1 : Nat → Int64) (σ1 : zSt) (n s : Int), zRM (K + 2100000) n k s μ1 → zRC n h s σ1 → zAll (A + 1000000) σ1 μ1 → zok (kn μ1 o1 σ1 (x4 + 8)) (fun r => r = 1)) : zok (fLaw_1221 xs L kn μ o σ x4) (fun r => r = 1) := by
  unfold fLaw_1221
  refine zok_ck (hz 1 (by decide) (by decide)) ?_
  refine zok_bhE (l_row hC) (fun o3 s4 _ e2 p1 => ?_)
  refine zok_ck (hz 1 (by decide) (by decide)) ?_
  refine zok_biE (m_row hM) (fun s7 _ e6 p5 => ?_)
  have R6 := r_row hR _ _ e2 e6
  refine zok_bv (fun v8 e8 => ?_)
  subst e8
  exact hK _ _ _ _ _ (zRM.mono p5 (by omega) hb) p1 (zAll.mono R6 (by omega))
theorem q_fLaw_1249 {K n k s h A : Int} {xs : Nat → Int32} {L : Nat} {kn : zSt → (Nat → Int64) → zSt → Int32 → Option Int32} {μ σ : zSt} {o : Nat → Int64} {x4 : Int32} (hM : zRM K n k s μ) (hC : zRC n h s σ) (hR : zAll A σ μ) (hA : A ≤ 900000000000000) (hb : K + 2100000 ≤ 268435456) (hz : ∀ j : Int32, 0 ≤ j.toInt → j.toInt ≤ 7 → zin (x4 + j) L = true) (hK : ∀ (μ1 : zSt) (o1 : Nat → Int64) (σ1 : zSt) (n s : Int), zRM (K + 2100000) n k s μ1 → zRC n h s σ1 → zAll (A + 1000000) σ1 μ1 → zok (kn μ1 o1 σ1 (x4 + 8)) (fun r => r = 1)) : zok (fLaw_1249 xs L kn μ o σ x4) (fun r => r = 1) := by
  unfold fLaw_1249
  refine zok_bhE (l_hear hC) (fun o3 s4 _ e2 p1 => ?_)
  refine zok_bllE (m_hear hM) (fun s7 _ e6 p5 => ?_)
  have R6 := r_hear hR _ _ e2 e6
  refine zok_bv (fun v8 e8 => ?_)
  subst e8
  exact hK _ _ _ _ _ (zRM.mono p5 (by omega) hb) p1 (zAll.mono R6 (by omega))
theorem q_fLaw_1265 {K n k s h A : Int} {xs : Nat → Int32} {L : Nat} {kn : zSt → (Nat → Int64) → zSt → Int32 → Option Int32} {μ σ : zSt} {o : Nat → Int64} {x4 : Int32} (hM : zRM K n k s μ) (hC : zRC n h s σ) (hR : zAll A σ μ) (hA : A ≤ 900000000000000) (hb : K + 2100000 ≤ 268435456) (hz : ∀ j : Int32, 0 ≤ j.toInt → j.toInt ≤ 7 → zin (x4 + j) L = true) (hK : ∀ (μ1 : zSt) (o1 : Nat → Int64) (σ1 : zSt) (n s : Int), zRM (K + 2100000) n k s μ1 → zRC n h s σ1 → zAll (A + 1000000) σ1 μ1 → zok (kn μ1 o1 σ1 (x4 + 8)) (fun r => r = 1)) : zok (fLaw_1265 xs L kn μ o σ x4) (fun r => r = 1) := by
  unfold fLaw_1265
  refine zok_bhE (l_mix hC) (fun o3 s4 _ e2 p1 => ?_)
  refine zok_bllE (m_mix hM) (fun s7 _ e6 p5 => ?_)
  have R6 := r_mix hR _ _ e2 e6
  refine zok_bv (fun v8 e8 => ?_)
  subst e8
  exact hK _ _ _ _ _ (zRM.mono p5 (by omega) hb) p1 (zAll.mono R6 (by omega))
theorem q_fLaw_1281 {K n k s h A : Int} {xs : Nat → Int32} {L : Nat} {kn : zSt → (Nat → Int64) → zSt → Int32 → Option Int32} {μ σ : zSt} {o : Nat → Int64} {x4 : Int32} (hM : zRM K n k s μ) (hC : zRC n h s σ) (hR : zAll A σ μ) (hA : A ≤ 900000000000000) (hb : K + 2100000 ≤ 268435456) (hz : ∀ j : Int32, 0 ≤ j.toInt → j.toInt ≤ 7 → zin (x4 + j) L = true) (hK : ∀ (μ1 : zSt) (o1 : Nat → Int64) (σ1 : zSt) (n s : Int), zRM (K + 2100000) n k s μ1 → zRC n h s σ1 → zAll (A + 1000000) σ1 μ1 → zok (kn μ1 o1 σ1 (x4 + 8)) (fun r => r = 1)) : zok (fLaw_1281 xs L kn μ o σ x4) (fun r => r = 1) := by
  unfold fLaw_1281
  refine zok_ck (hz 1 (by decide) (by decide)) ?_
  refine zok_bhE (l_wave hC) (fun o3 s4 _ e2 p1 => ?_)
  refine zok_ck (hz 1 (by decide) (by decide)) ?_
  refine zok_biE (m_wave hM) (fun s7 _ e6 p5 => ?_)
  have R6 := r_wave hR _ _ e2 e6
  refine zok_bv (fun v8 e8 => ?_)
  subst e8
  exact hK _ _ _ _ _ (zRM.mono p5 (by omega) hb) p1 (zAll.mono R6 (by omega))
theorem q_fLaw_1309 {K n k s h A : Int} {xs : Nat → Int32} {L : Nat} {kn : zSt → (Nat → Int64) → zSt → Int32 → Option Int32} {μ σ : zSt} {o : Nat → Int64} {x4 : Int32} (hM : zRM K n k s μ) (hC : zRC n h s σ) (hR : zAll A σ μ) (hA : A ≤ 900000000000000) (hb : K + 2100000 ≤ 268435456) (hz : ∀ j : Int32, 0 ≤ j.toInt → j.toInt ≤ 7 → zin (x4 + j) L = true) (hK : ∀ (μ1 : zSt) (o1 : Nat → Int64) (σ1 : zSt) (n s : Int), zRM (K + 2100000) n k s μ1 → zRC n h s σ1 → zAll (A + 1000000) σ1 μ1 → zok (kn μ1 o1 σ1 (x4 + 8)) (fun r => r = 1)) : zok (fLaw_1309 xs L kn μ o σ x4) (fun r => r = 1) := by
  unfold fLaw_1309
  refine zok_ck (hz 1 (by decide) (by decide)) ?_
  refine zok_bhE (l_sound hC) (fun o3 s4 _ e2 p1 => ?_)
  refine zok_ck (hz 1 (by decide) (by decide)) ?_
  refine zok_biE (m_sound hM) (fun s7 _ e6 p5 => ?_)
  have R6 := r_sound hR _ _ e2 e6
  refine zok_bv (fun v8 e8 => ?_)
  subst e8
  exact hK _ _ _ _ _ (zRM.mono p5 (by omega) hb) p1 (zAll.mono R6 (by omega))
theorem q_fLaw_1337 {K n k s h A : Int} {xs : Nat → Int32} {L : Nat} {kn : zSt → (Nat → Int64) → zSt → Int32 → Option Int32} {μ σ : zSt} {o : Nat → Int64} {x4 : Int32} (hM : zRM K n k s μ) (hC : zRC n h s σ) (hR : zAll A σ μ) (hA : A ≤ 900000000000000) (hb : K + 2100000 ≤ 268435456) (hz : ∀ j : Int32, 0 ≤ j.toInt → j.toInt ≤ 7 → zin (x4 + j) L = true) (hK : ∀ (μ1 : zSt) (o1 : Nat → Int64) (σ1 : zSt) (n s : Int), zRM (K + 2100000) n k s μ1 → zRC n h s σ1 → zAll (A + 1000000) σ1 μ1 → zok (kn μ1 o1 σ1 (x4 + 8)) (fun r => r = 1)) : zok (fLaw_1337 xs L kn μ o σ x4) (fun r => r = 1) := by
  unfold fLaw_1337
  refine zok_ck (hz 1 (by decide) (by decide)) ?_
  refine zok_biE (c_trace hC) (fun s3 _ e2 p1 => ?_)
  refine zok_ck (hz 1 (by decide) (by decide)) ?_
  refine zok_biE (m_trace hM) (fun s6 _ e5 p4 => ?_)
  have R6 := g_trace hR _ _ e2 e5
  refine zok_bv (fun v8 e8 => ?_)
  subst e8
  exact hK _ _ _ _ _ (zRM.mono p4 (by omega) hb) p1 (zAll.mono R6 (by omega))
theorem q_fLaw_1362 {K n k s h A : Int} {xs : Nat → Int32} {L : Nat} {kn : zSt → (Nat → Int64) → zSt → Int32 → Option Int32} {μ σ : zSt} {o : Nat → Int64} {x4 : Int32} (hM : zRM K n k s μ) (hC : zRC n h s σ) (hR : zAll A σ μ) (hA : A ≤ 900000000000000) (hb : K + 2100000 ≤ 268435456) (hz : ∀ j : Int32, 0 ≤ j.toInt → j.toInt ≤ 7 → zin (x4 + j) L = true) (hK : ∀ (μ1 : zSt) (o1 : Nat → Int64) (σ1 : zSt) (n s : Int), zRM (K + 2100000) n k s μ1 → zRC n h s σ1 → zAll (A + 1000000) σ1 μ1 → zok (kn μ1 o1 σ1 (x4 + 8)) (fun r => r = 1)) : zok (fLaw_1362 xs L kn μ o σ x4) (fun r => r = 1) := by
  unfold fLaw_1362
  refine zok_ck (hz 1 (by decide) (by decide)) ?_
  refine zok_bhE (l_look hC) (fun o3 s4 _ e2 p1 => ?_)
  refine zok_ck (hz 1 (by decide) (by decide)) ?_
  refine zok_bllE (m_look hM) (fun s7 _ e6 p5 => ?_)
  have R6 := r_look hR _ _ e2 e6
  refine zok_bv (fun v8 e8 => ?_)
  subst e8
  exact hK _ _ _ _ _ (zRM.mono p5 (by omega) hb) p1 (zAll.mono R6 (by omega))
theorem q_fLaw_1390 {K n k s h A : Int} {xs : Nat → Int32} {L : Nat} {kn : zSt → (Nat → Int64) → zSt → Int32 → Option Int32} {μ σ : zSt} {o : Nat → Int64} {x4 : Int32} (hM : zRM K n k s μ) (hC : zRC n h s σ) (hR : zAll A σ μ) (hA : A ≤ 900000000000000) (hb : K + 2100000 ≤ 268435456) (hz : ∀ j : Int32, 0 ≤ j.toInt → j.toInt ≤ 7 → zin (x4 + j) L = true) (hK : ∀ (μ1 : zSt) (o1 : Nat → Int64) (σ1 : zSt) (n s : Int), zRM (K + 2100000) n k s μ1 → zRC n h s σ1 → zAll (A + 1000000) σ1 μ1 → zok (kn μ1 o1 σ1 (x4 + 8)) (fun r => r = 1)) : zok (fLaw_1390 xs L kn μ o σ x4) (fun r => r = 1) := by
  unfold fLaw_1390
  refine zok_bv (fun v8 e8 => ?_)
  subst e8
  exact hK _ _ _ _ _ (zRM.mono hM (by omega) hb) hC (zAll.mono hR (by omega))
end ZJN11
section ZJN12
theorem z_at8 {L : Nat} (hL : L ≤ 513) {x4 : Int32} {c : Nat} (e : x4.toInt = 1 + 8 * (c : Int)) (hc : c ≤ 64) (q : ¬ Int32.ofNat L - 8 < x4) : c ≤ 63 ∧ (∀ j : Int32, 0 ≤ j.toInt → j.toInt ≤ 7 → zin (x4 + j) L = true) ∧ zin x4 L = true ∧ (x4 + 8).toInt = 1 + 8 * ((c + 1 : Nat) : Int) := by
  have eL : (Int32.ofNat L).toInt = L := Int32.toInt_ofNat_of_lt (by omega)
  have c8 : (8 : Int32).toInt = 8 := rfl
  have r8 : zr 8 8 (8 : Int32) := zr_c (by decide)
  have rL : zr 0 513 (Int32.ofNat L) := ⟨by omega, by omega⟩
  have r4 : zr 1 513 x4 := ⟨by omega, by omega⟩
  have t := z_tsub rL r8 (by decide)
  have q1 := Int32.le_iff_toInt_le.mp (z_nlt q)
  rw [t, eL, c8, e] at q1
  have t8 := z_tadd r4 r8 (by decide)
  refine ⟨by omega, fun j j1 j2 => ?_, zin_ok (lo := x4.toInt) (hi := x4.toInt) ⟨Int.le_refl _, Int.le_refl _⟩ (by omega), by rw [t8, e, c8]; omega⟩
  have rj : zr 0 7 j := ⟨j1, j2⟩
  have tj := z_tadd r4 rj (by decide)
  exact zin_ok (lo := (x4 + j).toInt) (hi := (x4 + j).toInt) ⟨Int.le_refl _, Int.le_refl _⟩ (by omega)
theorem z_loop {L : Nat} (hL : L ≤ 513) {xs : Nat → Int32} {k h : Int} : ∀ (n c : Nat) (μ : zSt) (o : Nat → Int64) (σ : zSt) (x4 : Int32) (a d : Int), x4.toInt = 1 + 8 * (c : Int) → c + n = 66 → c ≤ 64 → zRM (2100000 * (c : Int)) a k d μ → zRC a h d σ → zAll (1000000 * (c : Int)) σ μ → zok (fLaw xs L n μ o σ x4) (fun r => r = 1) := by
  intro n
  induction n with
  | zero => intro c μ o σ x4 a d e hn hc; exfalso; omega
  | succ n ih =>
    intro c μ o σ x4 a d e hn hc hM hC hR
    show zok (fLaw_body xs L (fLaw xs L n) μ o σ x4) _
    unfold fLaw_body
    refine zok_if (fun _ => zok_some rfl) (fun q => ?_)
    obtain ⟨c1, hz, h0, e8⟩ := z_at8 hL e hc q
    have hb : 2100000 * (c : Int) + 2100000 ≤ 268435456 := by omega
    have hA : 1000000 * (c : Int) ≤ 900000000000000 := by omega
    have hK : ∀ (μ1 : zSt) (o1 : Nat → Int64) (σ1 : zSt) (a d : Int), zRM (2100000 * (c : Int) + 2100000) a k d μ1 → zRC a h d σ1 → zAll (1000000 * (c : Int) + 1000000) σ1 μ1 → zok (fLaw xs L n μ1 o1 σ1 (x4 + 8)) (fun r => r = 1) := fun μ1 o1 σ1 a d h1 h2 h3 => by
      refine ih (c + 1) μ1 o1 σ1 (x4 + 8) a d e8 (by omega) (by omega) ?_ h2 ?_
      · rw [show 2100000 * ((c + 1 : Nat) : Int) = 2100000 * (c : Int) + 2100000 by omega]
        exact h1
      · rw [show 1000000 * ((c + 1 : Nat) : Int) = 1000000 * (c : Int) + 1000000 by omega]
        exact h3
    refine zok_ck h0 (zok_bv (fun t _ => ?_))
    refine zok_if (fun _ => q_fLaw_208 hM hC hR hA hb hz hK) (fun _ => ?_)
    refine zok_if (fun _ => q_fLaw_372 hM hC hR hA hb hz hK) (fun _ => ?_)
    refine zok_if (fun _ => q_fLaw_400 hM hC hR hA hb hz hK) (fun _ => ?_)
    refine zok_if (fun _ => q_fLaw_469 hM hC hR hA hb hz hK) (fun _ => ?_)
    refine zok_if (fun _ => q_fLaw_482 hM hC hR hA hb hz hK) (fun _ => ?_)
    refine zok_if (fun _ => q_fLaw_510 hM hC hR hA hb hz hK) (fun _ => ?_)
    refine zok_if (fun _ => q_fLaw_538 hM hC hR hA hb hz hK) (fun _ => ?_)
    refine zok_if (fun _ => q_fLaw_566 hM hC hR hA hb hz hK) (fun _ => ?_)
    refine zok_if (fun _ => q_fLaw_577 hM hC hR hA hb hz hK) (fun _ => ?_)
    refine zok_if (fun _ => q_fLaw_590 hM hC hR hA hb hz hK) (fun _ => ?_)
    refine zok_if (fun _ => q_fLaw_627 hM hC hR hA hb hz hK) (fun _ => ?_)
    refine zok_if (fun _ => q_fLaw_666 hM hC hR hA hb hz hK) (fun _ => ?_)
    refine zok_if (fun _ => q_fLaw_719 hM hC hR hA hb hz hK) (fun _ => ?_)
    refine zok_if (fun _ => q_fLaw_771 hM hC hR hA hb hz hK) (fun _ => ?_)
    refine zok_if (fun _ => q_fLaw_796 hM hC hR hA hb hz hK) (fun _ => ?_)
    refine zok_if (fun _ => q_fLaw_824 hM hC hR hA hb hz hK) (fun _ => ?_)
    refine zok_if (fun _ => q_fLaw_880 hM hC hR hA hb hz hK) (fun _ => ?_)
    refine zok_if (fun _ => q_fLaw_891 hM hC hR hA hb hz hK) (fun _ => ?_)
    refine zok_if (fun _ => q_fLaw_904 hM hC hR hA hb hz hK) (fun _ => ?_)
    refine zok_if (fun _ => q_fLaw_932 hM hC hR hA hb hz hK) (fun _ => ?_)
    refine zok_if (fun _ => q_fLaw_969 hM hC hR hA hb hz hK) (fun _ => ?_)
    refine zok_if (fun _ => q_fLaw_994 hM hC hR hA hb hz hK) (fun _ => ?_)
    refine zok_if (fun _ => q_fLaw_1029 hM hC hR hA hb hz hK) (fun _ => ?_)
    refine zok_if (fun _ => q_fLaw_1054 hM hC hR hA hb hz hK) (fun _ => ?_)
    refine zok_if (fun _ => q_fLaw_1089 hM hC hR hA hb hz hK) (fun _ => ?_)
    refine zok_if (fun _ => q_fLaw_1117 hM hC hR hA hb hz hK) (fun _ => ?_)
    refine zok_if (fun _ => q_fLaw_1128 hM hC hR hA hb hz hK) (fun _ => ?_)
    refine zok_if (fun _ => q_fLaw_1153 hM hC hR hA hb hz hK) (fun _ => ?_)
    refine zok_if (fun _ => q_fLaw_1181 hM hC hR hA hb hz hK) (fun _ => ?_)
    refine zok_if (fun _ => q_fLaw_1221 hM hC hR hA hb hz hK) (fun _ => ?_)
    refine zok_if (fun _ => q_fLaw_1249 hM hC hR hA hb hz hK) (fun _ => ?_)
    refine zok_if (fun _ => q_fLaw_1265 hM hC hR hA hb hz hK) (fun _ => ?_)
    refine zok_if (fun _ => q_fLaw_1281 hM hC hR hA hb hz hK) (fun _ => ?_)
    refine zok_if (fun _ => q_fLaw_1309 hM hC hR hA hb hz hK) (fun _ => ?_)
    refine zok_if (fun _ => q_fLaw_1337 hM hC hR hA hb hz hK) (fun _ => ?_)
    refine zok_if (fun _ => q_fLaw_1362 hM hC hR hA hb hz hK) (fun _ => ?_)
    exact q_fLaw_1390 hM hC hR hA hb hz hK
theorem zKS_fresh {k : Int32} : zKS 0 (zG0 k) := by
  have v : ∀ i, ¬ i = 1 → zG0 k i = 0 := fun i h1 => by
    unfold zG0 zset
    split
    · rfl
    · split
      · rfl
      · first | rfl | rw [if_neg h1]
  have lb := zln_b (zG0 k)
  unfold zKS zJ
  rw [v 102 (by decide), v 105 (by decide), v 106 (by decide), v 6 (by decide), v 7 (by decide), v 8 (by decide)]
  omega
theorem z_owed {L : Nat} {xs : Nat → Int32} (hL : L ≤ 513) : zOwed L xs := by
  obtain ⟨σ4, e4, i4⟩ := z_c4
  obtain ⟨σ5, e5, i5⟩ := z_c5
  obtain ⟨σ9, e9, i9⟩ := z_c9
  obtain ⟨σ1, e1, i1⟩ := s_freshM (zKd_r (zCell L xs))
  have hC := s_freshC i4 i5 (fun v => (Classical.choose_spec (z_c6 v)).2) i9 (k := zCell L xs)
  have z0 : zG0 (zKd (zCell L xs)) 0 = 0 := by unfold zG0; rw [zset_ne (by decide), zset_ne (by decide), zset_ne (by decide)]
  have z2 : zG0 (zKd (zCell L xs)) 2 = 0 := by unfold zG0; rw [zset_ne (by decide), zset_ne (by decide), zset_ne (by decide)]
  have h0 : zRM (2100000 * ((0 : Nat) : Int)) 0 (zG0 (zKd (zCell L xs)) 1) 0 σ1 := by
    rw [show (2100000 * ((0 : Nat) : Int)) = 0 by decide]
    exact ⟨by decide, _, i1, zG0_J (zKd_r _), zKS_fresh, z0, rfl, z2⟩
  have h1 : zRC 0 (zH0 (zCell L xs) 2) 0 (zC1 (zCell L xs) σ4 σ5 (fun v => Classical.choose (z_c6 v)) σ9) := ⟨_, hC, rfl, rfl, rfl⟩
  obtain ⟨r, e, h⟩ := z_loop hL (xs := xs) 66 0 σ1 (fun _ => 0) _ 1 _ _ (by decide) rfl (by decide) h0 h1 (by rw [show (1000000 * ((0 : Nat) : Int)) = 0 by decide]; exact z_freshA rfl e4 e5 (fun v => (Classical.choose_spec (z_c6 v)).1) e9 e1)
  refine ⟨σ4, e4, σ5, e5, _, fun v => (Classical.choose_spec (z_c6 v)).1, σ9, e9, σ1, e1, 66, by decide, ?_⟩
  rw [e, h]
end ZJN12
