section ZJN0
/-! WHAT IS KEPT -/
noncomputable def zkp {α : Type} (g : Nat → α → α) (f : Nat → Nat → α) (k j : Nat) : List (Nat × Nat × Nat) → α
  | [] => f k j
  | t :: l => bif (Nat.beq t.1 k && Nat.blt j t.2.2) then g k (f t.2.1 j) else zkp g f k j l
noncomputable def zsv : List (Nat × Nat × Nat) := [(42, 43, 770), (40, 41, 9), (36, 37, 29), (34, 35, 12), (32, 33, 272), (30, 31, 19), (25, 26, 61440), (23, 24, 96), (21, 22, 16384), (19, 20, 4), (17, 18, 32768), (15, 16, 8192)]
noncomputable def zsm : List (Nat × Nat × Nat) := [(9, 18, 61440), (8, 17, 64), (7, 16, 16384), (6, 15, 32768), (5, 14, 8192), (3, 12, 1048)]
noncomputable def zid {α : Type} (_ : Nat) (v : α) : α := v
noncomputable def zmb (k : Nat) (v : Int32) : Int32 := bif (Nat.ble 5 k && Nat.ble k 8) then vp_nar .byte v else v
/-- the class, the reference as they were kept -/
noncomputable def zKc (σ : zSt) : zSt := (fun k j => zkp zid σ.1 k j zsv, fun k j => zkp zid σ.2 k j [(38, 39, 7)])
noncomputable def zKm (μ : zSt) : zSt := (fun k j => zkp zmb μ.1 k j zsm, fun k j => zkp zid μ.2 k j [(4, 13, 5)])
theorem zkp_of {α : Type} {g : Nat → α → α} {f f0 : Nat → Nat → α} {k j : Nat} (h0 : f k j = f0 k j) : ∀ {l : List (Nat × Nat × Nat)}, (∀ t ∈ l, ∀ i : Nat, i < t.2.2 → g t.1 (f t.2.1 i) = f0 t.1 i) → zkp g f k j l = f0 k j
  | [], _ => h0
  | t :: l, h => by
    unfold zkp
    cases q : (Nat.beq t.1 k && Nat.blt j t.2.2) with
    | true =>
      rw [Bool.and_eq_true] at q
      have e : t.1 = k := Nat.eq_of_beq_eq_true q.1
      have z := h t List.mem_cons_self j (Nat.le_of_ble_eq_true q.2)
      rw [e] at z
      exact z
    | false => exact zkp_of h0 (fun t ht => h t (List.mem_cons_of_mem _ ht))
theorem zkp_rev {α : Type} {g : Nat → α → α} {f r : Nat → Nat → α} {k j : Nat} : ∀ {l : List (Nat × Nat × Nat)}, (∀ t ∈ l, ∀ i : Nat, i < t.2.2 → r t.1 i = g t.1 (f t.2.1 i)) → ((∀ t ∈ l, t.1 = k → ¬ j < t.2.2) → r k j = f k j) → r k j = zkp g f k j l
  | [], _, h0 => h0 (fun _ h => absurd h List.not_mem_nil)
  | t :: l, h, h0 => by
    unfold zkp
    cases q : (Nat.beq t.1 k && Nat.blt j t.2.2) with
    | true =>
      rw [Bool.and_eq_true] at q
      have e : t.1 = k := Nat.eq_of_beq_eq_true q.1
      have z := h t List.mem_cons_self j (Nat.le_of_ble_eq_true q.2)
      rw [e] at z
      exact z
    | false =>
      refine zkp_rev (fun t ht => h t (List.mem_cons_of_mem _ ht)) (fun z => h0 (fun u hu e => ?_))
      rcases List.mem_cons.mp hu with x | x
      · subst x
        intro l
        rw [show Nat.beq u.1 k = true by rw [e]; exact Nat.beq_refl k, show Nat.blt j u.2.2 = true from Nat.ble_eq.mpr l] at q
        cases q
      · exact z u x e
theorem zkp_skip {α : Type} {g : Nat → α → α} {f : Nat → Nat → α} {k j : Nat} {t : Nat × Nat × Nat} {l : List (Nat × Nat × Nat)} (h : Nat.beq t.1 k = false) : zkp g f k j (t :: l) = zkp g f k j l := by
  show (bif (Nat.beq t.1 k && Nat.blt j t.2.2) then g k (f t.2.1 j) else zkp g f k j l) = _
  rw [h]
  rfl
theorem zkp_hit {α : Type} {g : Nat → α → α} {f : Nat → Nat → α} {k j : Nat} {t : Nat × Nat × Nat} {l : List (Nat × Nat × Nat)} (h : Nat.beq t.1 k = true) (hj : j < t.2.2) : zkp g f k j (t :: l) = g k (f t.2.1 j) := by
  have e : Nat.blt j t.2.2 = true := Nat.ble_eq.mpr hj
  show (bif (Nat.beq t.1 k && Nat.blt j t.2.2) then g k (f t.2.1 j) else zkp g f k j l) = _
  rw [h, e]
  rfl
section ZKC
variable {σ μ s t r : zSt} {B : Int × Int × Int} {Q : zSt → Prop}
theorem zKc_42 {j : Nat} (h : j < 770) : (zKc σ).1 42 j = σ.1 43 j := zkp_hit (g := zid) (f := σ.1) (k := 42) (j := j) (t := (42, 43, 770)) (l := [(40, 41, 9), (36, 37, 29), (34, 35, 12), (32, 33, 272), (30, 31, 19), (25, 26, 61440), (23, 24, 96), (21, 22, 16384), (19, 20, 4), (17, 18, 32768), (15, 16, 8192)]) rfl h
theorem zKc_40 {j : Nat} (h : j < 9) : (zKc σ).1 40 j = σ.1 41 j := (zkp_skip (g := zid) (f := σ.1) (k := 40) (j := j) (t := (42, 43, 770)) (l := [(40, 41, 9), (36, 37, 29), (34, 35, 12), (32, 33, 272), (30, 31, 19), (25, 26, 61440), (23, 24, 96), (21, 22, 16384), (19, 20, 4), (17, 18, 32768), (15, 16, 8192)]) rfl).trans (zkp_hit (g := zid) (f := σ.1) (k := 40) (j := j) (t := (40, 41, 9)) (l := [(36, 37, 29), (34, 35, 12), (32, 33, 272), (30, 31, 19), (25, 26, 61440), (23, 24, 96), (21, 22, 16384), (19, 20, 4), (17, 18, 32768), (15, 16, 8192)]) rfl h)
theorem zKc_36 {j : Nat} (h : j < 29) : (zKc σ).1 36 j = σ.1 37 j := (zkp_skip (g := zid) (f := σ.1) (k := 36) (j := j) (t := (42, 43, 770)) (l := [(40, 41, 9), (36, 37, 29), (34, 35, 12), (32, 33, 272), (30, 31, 19), (25, 26, 61440), (23, 24, 96), (21, 22, 16384), (19, 20, 4), (17, 18, 32768), (15, 16, 8192)]) rfl).trans ((zkp_skip (g := zid) (f := σ.1) (k := 36) (j := j) (t := (40, 41, 9)) (l := [(36, 37, 29), (34, 35, 12), (32, 33, 272), (30, 31, 19), (25, 26, 61440), (23, 24, 96), (21, 22, 16384), (19, 20, 4), (17, 18, 32768), (15, 16, 8192)]) rfl).trans (zkp_hit (g := zid) (f := σ.1) (k := 36) (j := j) (t := (36, 37, 29)) (l := [(34, 35, 12), (32, 33, 272), (30, 31, 19), (25, 26, 61440), (23, 24, 96), (21, 22, 16384), (19, 20, 4), (17, 18, 32768), (15, 16, 8192)]) rfl h))
theorem zKc_34 {j : Nat} (h : j < 12) : (zKc σ).1 34 j = σ.1 35 j := (zkp_skip (g := zid) (f := σ.1) (k := 34) (j := j) (t := (42, 43, 770)) (l := [(40, 41, 9), (36, 37, 29), (34, 35, 12), (32, 33, 272), (30, 31, 19), (25, 26, 61440), (23, 24, 96), (21, 22, 16384), (19, 20, 4), (17, 18, 32768), (15, 16, 8192)]) rfl).trans ((zkp_skip (g := zid) (f := σ.1) (k := 34) (j := j) (t := (40, 41, 9)) (l := [(36, 37, 29), (34, 35, 12), (32, 33, 272), (30, 31, 19), (25, 26, 61440), (23, 24, 96), (21, 22, 16384), (19, 20, 4), (17, 18, 32768), (15, 16, 8192)]) rfl).trans ((zkp_skip (g := zid) (f := σ.1) (k := 34) (j := j) (t := (36, 37, 29)) (l := [(34, 35, 12), (32, 33, 272), (30, 31, 19), (25, 26, 61440), (23, 24, 96), (21, 22, 16384), (19, 20, 4), (17, 18, 32768), (15, 16, 8192)]) rfl).trans (zkp_hit (g := zid) (f := σ.1) (k := 34) (j := j) (t := (34, 35, 12)) (l := [(32, 33, 272), (30, 31, 19), (25, 26, 61440), (23, 24, 96), (21, 22, 16384), (19, 20, 4), (17, 18, 32768), (15, 16, 8192)]) rfl h)))
theorem zKc_32 {j : Nat} (h : j < 272) : (zKc σ).1 32 j = σ.1 33 j := (zkp_skip (g := zid) (f := σ.1) (k := 32) (j := j) (t := (42, 43, 770)) (l := [(40, 41, 9), (36, 37, 29), (34, 35, 12), (32, 33, 272), (30, 31, 19), (25, 26, 61440), (23, 24, 96), (21, 22, 16384), (19, 20, 4), (17, 18, 32768), (15, 16, 8192)]) rfl).trans ((zkp_skip (g := zid) (f := σ.1) (k := 32) (j := j) (t := (40, 41, 9)) (l := [(36, 37, 29), (34, 35, 12), (32, 33, 272), (30, 31, 19), (25, 26, 61440), (23, 24, 96), (21, 22, 16384), (19, 20, 4), (17, 18, 32768), (15, 16, 8192)]) rfl).trans ((zkp_skip (g := zid) (f := σ.1) (k := 32) (j := j) (t := (36, 37, 29)) (l := [(34, 35, 12), (32, 33, 272), (30, 31, 19), (25, 26, 61440), (23, 24, 96), (21, 22, 16384), (19, 20, 4), (17, 18, 32768), (15, 16, 8192)]) rfl).trans ((zkp_skip (g := zid) (f := σ.1) (k := 32) (j := j) (t := (34, 35, 12)) (l := [(32, 33, 272), (30, 31, 19), (25, 26, 61440), (23, 24, 96), (21, 22, 16384), (19, 20, 4), (17, 18, 32768), (15, 16, 8192)]) rfl).trans (zkp_hit (g := zid) (f := σ.1) (k := 32) (j := j) (t := (32, 33, 272)) (l := [(30, 31, 19), (25, 26, 61440), (23, 24, 96), (21, 22, 16384), (19, 20, 4), (17, 18, 32768), (15, 16, 8192)]) rfl h))))
theorem zKc_30 {j : Nat} (h : j < 19) : (zKc σ).1 30 j = σ.1 31 j := (zkp_skip (g := zid) (f := σ.1) (k := 30) (j := j) (t := (42, 43, 770)) (l := [(40, 41, 9), (36, 37, 29), (34, 35, 12), (32, 33, 272), (30, 31, 19), (25, 26, 61440), (23, 24, 96), (21, 22, 16384), (19, 20, 4), (17, 18, 32768), (15, 16, 8192)]) rfl).trans ((zkp_skip (g := zid) (f := σ.1) (k := 30) (j := j) (t := (40, 41, 9)) (l := [(36, 37, 29), (34, 35, 12), (32, 33, 272), (30, 31, 19), (25, 26, 61440), (23, 24, 96), (21, 22, 16384), (19, 20, 4), (17, 18, 32768), (15, 16, 8192)]) rfl).trans ((zkp_skip (g := zid) (f := σ.1) (k := 30) (j := j) (t := (36, 37, 29)) (l := [(34, 35, 12), (32, 33, 272), (30, 31, 19), (25, 26, 61440), (23, 24, 96), (21, 22, 16384), (19, 20, 4), (17, 18, 32768), (15, 16, 8192)]) rfl).trans ((zkp_skip (g := zid) (f := σ.1) (k := 30) (j := j) (t := (34, 35, 12)) (l := [(32, 33, 272), (30, 31, 19), (25, 26, 61440), (23, 24, 96), (21, 22, 16384), (19, 20, 4), (17, 18, 32768), (15, 16, 8192)]) rfl).trans ((zkp_skip (g := zid) (f := σ.1) (k := 30) (j := j) (t := (32, 33, 272)) (l := [(30, 31, 19), (25, 26, 61440), (23, 24, 96), (21, 22, 16384), (19, 20, 4), (17, 18, 32768), (15, 16, 8192)]) rfl).trans (zkp_hit (g := zid) (f := σ.1) (k := 30) (j := j) (t := (30, 31, 19)) (l := [(25, 26, 61440), (23, 24, 96), (21, 22, 16384), (19, 20, 4), (17, 18, 32768), (15, 16, 8192)]) rfl h)))))
theorem zKc_25 {j : Nat} (h : j < 61440) : (zKc σ).1 25 j = σ.1 26 j := (zkp_skip (g := zid) (f := σ.1) (k := 25) (j := j) (t := (42, 43, 770)) (l := [(40, 41, 9), (36, 37, 29), (34, 35, 12), (32, 33, 272), (30, 31, 19), (25, 26, 61440), (23, 24, 96), (21, 22, 16384), (19, 20, 4), (17, 18, 32768), (15, 16, 8192)]) rfl).trans ((zkp_skip (g := zid) (f := σ.1) (k := 25) (j := j) (t := (40, 41, 9)) (l := [(36, 37, 29), (34, 35, 12), (32, 33, 272), (30, 31, 19), (25, 26, 61440), (23, 24, 96), (21, 22, 16384), (19, 20, 4), (17, 18, 32768), (15, 16, 8192)]) rfl).trans ((zkp_skip (g := zid) (f := σ.1) (k := 25) (j := j) (t := (36, 37, 29)) (l := [(34, 35, 12), (32, 33, 272), (30, 31, 19), (25, 26, 61440), (23, 24, 96), (21, 22, 16384), (19, 20, 4), (17, 18, 32768), (15, 16, 8192)]) rfl).trans ((zkp_skip (g := zid) (f := σ.1) (k := 25) (j := j) (t := (34, 35, 12)) (l := [(32, 33, 272), (30, 31, 19), (25, 26, 61440), (23, 24, 96), (21, 22, 16384), (19, 20, 4), (17, 18, 32768), (15, 16, 8192)]) rfl).trans ((zkp_skip (g := zid) (f := σ.1) (k := 25) (j := j) (t := (32, 33, 272)) (l := [(30, 31, 19), (25, 26, 61440), (23, 24, 96), (21, 22, 16384), (19, 20, 4), (17, 18, 32768), (15, 16, 8192)]) rfl).trans ((zkp_skip (g := zid) (f := σ.1) (k := 25) (j := j) (t := (30, 31, 19)) (l := [(25, 26, 61440), (23, 24, 96), (21, 22, 16384), (19, 20, 4), (17, 18, 32768), (15, 16, 8192)]) rfl).trans (zkp_hit (g := zid) (f := σ.1) (k := 25) (j := j) (t := (25, 26, 61440)) (l := [(23, 24, 96), (21, 22, 16384), (19, 20, 4), (17, 18, 32768), (15, 16, 8192)]) rfl h))))))
theorem zKc_23 {j : Nat} (h : j < 96) : (zKc σ).1 23 j = σ.1 24 j := (zkp_skip (g := zid) (f := σ.1) (k := 23) (j := j) (t := (42, 43, 770)) (l := [(40, 41, 9), (36, 37, 29), (34, 35, 12), (32, 33, 272), (30, 31, 19), (25, 26, 61440), (23, 24, 96), (21, 22, 16384), (19, 20, 4), (17, 18, 32768), (15, 16, 8192)]) rfl).trans ((zkp_skip (g := zid) (f := σ.1) (k := 23) (j := j) (t := (40, 41, 9)) (l := [(36, 37, 29), (34, 35, 12), (32, 33, 272), (30, 31, 19), (25, 26, 61440), (23, 24, 96), (21, 22, 16384), (19, 20, 4), (17, 18, 32768), (15, 16, 8192)]) rfl).trans ((zkp_skip (g := zid) (f := σ.1) (k := 23) (j := j) (t := (36, 37, 29)) (l := [(34, 35, 12), (32, 33, 272), (30, 31, 19), (25, 26, 61440), (23, 24, 96), (21, 22, 16384), (19, 20, 4), (17, 18, 32768), (15, 16, 8192)]) rfl).trans ((zkp_skip (g := zid) (f := σ.1) (k := 23) (j := j) (t := (34, 35, 12)) (l := [(32, 33, 272), (30, 31, 19), (25, 26, 61440), (23, 24, 96), (21, 22, 16384), (19, 20, 4), (17, 18, 32768), (15, 16, 8192)]) rfl).trans ((zkp_skip (g := zid) (f := σ.1) (k := 23) (j := j) (t := (32, 33, 272)) (l := [(30, 31, 19), (25, 26, 61440), (23, 24, 96), (21, 22, 16384), (19, 20, 4), (17, 18, 32768), (15, 16, 8192)]) rfl).trans ((zkp_skip (g := zid) (f := σ.1) (k := 23) (j := j) (t := (30, 31, 19)) (l := [(25, 26, 61440), (23, 24, 96), (21, 22, 16384), (19, 20, 4), (17, 18, 32768), (15, 16, 8192)]) rfl).trans ((zkp_skip (g := zid) (f := σ.1) (k := 23) (j := j) (t := (25, 26, 61440)) (l := [(23, 24, 96), (21, 22, 16384), (19, 20, 4), (17, 18, 32768), (15, 16, 8192)]) rfl).trans (zkp_hit (g := zid) (f := σ.1) (k := 23) (j := j) (t := (23, 24, 96)) (l := [(21, 22, 16384), (19, 20, 4), (17, 18, 32768), (15, 16, 8192)]) rfl h)))))))
theorem zKc_21 {j : Nat} (h : j < 16384) : (zKc σ).1 21 j = σ.1 22 j := (zkp_skip (g := zid) (f := σ.1) (k := 21) (j := j) (t := (42, 43, 770)) (l := [(40, 41, 9), (36, 37, 29), (34, 35, 12), (32, 33, 272), (30, 31, 19), (25, 26, 61440), (23, 24, 96), (21, 22, 16384), (19, 20, 4), (17, 18, 32768), (15, 16, 8192)]) rfl).trans ((zkp_skip (g := zid) (f := σ.1) (k := 21) (j := j) (t := (40, 41, 9)) (l := [(36, 37, 29), (34, 35, 12), (32, 33, 272), (30, 31, 19), (25, 26, 61440), (23, 24, 96), (21, 22, 16384), (19, 20, 4), (17, 18, 32768), (15, 16, 8192)]) rfl).trans ((zkp_skip (g := zid) (f := σ.1) (k := 21) (j := j) (t := (36, 37, 29)) (l := [(34, 35, 12), (32, 33, 272), (30, 31, 19), (25, 26, 61440), (23, 24, 96), (21, 22, 16384), (19, 20, 4), (17, 18, 32768), (15, 16, 8192)]) rfl).trans ((zkp_skip (g := zid) (f := σ.1) (k := 21) (j := j) (t := (34, 35, 12)) (l := [(32, 33, 272), (30, 31, 19), (25, 26, 61440), (23, 24, 96), (21, 22, 16384), (19, 20, 4), (17, 18, 32768), (15, 16, 8192)]) rfl).trans ((zkp_skip (g := zid) (f := σ.1) (k := 21) (j := j) (t := (32, 33, 272)) (l := [(30, 31, 19), (25, 26, 61440), (23, 24, 96), (21, 22, 16384), (19, 20, 4), (17, 18, 32768), (15, 16, 8192)]) rfl).trans ((zkp_skip (g := zid) (f := σ.1) (k := 21) (j := j) (t := (30, 31, 19)) (l := [(25, 26, 61440), (23, 24, 96), (21, 22, 16384), (19, 20, 4), (17, 18, 32768), (15, 16, 8192)]) rfl).trans ((zkp_skip (g := zid) (f := σ.1) (k := 21) (j := j) (t := (25, 26, 61440)) (l := [(23, 24, 96), (21, 22, 16384), (19, 20, 4), (17, 18, 32768), (15, 16, 8192)]) rfl).trans ((zkp_skip (g := zid) (f := σ.1) (k := 21) (j := j) (t := (23, 24, 96)) (l := [(21, 22, 16384), (19, 20, 4), (17, 18, 32768), (15, 16, 8192)]) rfl).trans (zkp_hit (g := zid) (f := σ.1) (k := 21) (j := j) (t := (21, 22, 16384)) (l := [(19, 20, 4), (17, 18, 32768), (15, 16, 8192)]) rfl h))))))))
theorem zKc_19 {j : Nat} (h : j < 4) : (zKc σ).1 19 j = σ.1 20 j := (zkp_skip (g := zid) (f := σ.1) (k := 19) (j := j) (t := (42, 43, 770)) (l := [(40, 41, 9), (36, 37, 29), (34, 35, 12), (32, 33, 272), (30, 31, 19), (25, 26, 61440), (23, 24, 96), (21, 22, 16384), (19, 20, 4), (17, 18, 32768), (15, 16, 8192)]) rfl).trans ((zkp_skip (g := zid) (f := σ.1) (k := 19) (j := j) (t := (40, 41, 9)) (l := [(36, 37, 29), (34, 35, 12), (32, 33, 272), (30, 31, 19), (25, 26, 61440), (23, 24, 96), (21, 22, 16384), (19, 20, 4), (17, 18, 32768), (15, 16, 8192)]) rfl).trans ((zkp_skip (g := zid) (f := σ.1) (k := 19) (j := j) (t := (36, 37, 29)) (l := [(34, 35, 12), (32, 33, 272), (30, 31, 19), (25, 26, 61440), (23, 24, 96), (21, 22, 16384), (19, 20, 4), (17, 18, 32768), (15, 16, 8192)]) rfl).trans ((zkp_skip (g := zid) (f := σ.1) (k := 19) (j := j) (t := (34, 35, 12)) (l := [(32, 33, 272), (30, 31, 19), (25, 26, 61440), (23, 24, 96), (21, 22, 16384), (19, 20, 4), (17, 18, 32768), (15, 16, 8192)]) rfl).trans ((zkp_skip (g := zid) (f := σ.1) (k := 19) (j := j) (t := (32, 33, 272)) (l := [(30, 31, 19), (25, 26, 61440), (23, 24, 96), (21, 22, 16384), (19, 20, 4), (17, 18, 32768), (15, 16, 8192)]) rfl).trans ((zkp_skip (g := zid) (f := σ.1) (k := 19) (j := j) (t := (30, 31, 19)) (l := [(25, 26, 61440), (23, 24, 96), (21, 22, 16384), (19, 20, 4), (17, 18, 32768), (15, 16, 8192)]) rfl).trans ((zkp_skip (g := zid) (f := σ.1) (k := 19) (j := j) (t := (25, 26, 61440)) (l := [(23, 24, 96), (21, 22, 16384), (19, 20, 4), (17, 18, 32768), (15, 16, 8192)]) rfl).trans ((zkp_skip (g := zid) (f := σ.1) (k := 19) (j := j) (t := (23, 24, 96)) (l := [(21, 22, 16384), (19, 20, 4), (17, 18, 32768), (15, 16, 8192)]) rfl).trans ((zkp_skip (g := zid) (f := σ.1) (k := 19) (j := j) (t := (21, 22, 16384)) (l := [(19, 20, 4), (17, 18, 32768), (15, 16, 8192)]) rfl).trans (zkp_hit (g := zid) (f := σ.1) (k := 19) (j := j) (t := (19, 20, 4)) (l := [(17, 18, 32768), (15, 16, 8192)]) rfl h)))))))))
theorem zKc_17 {j : Nat} (h : j < 32768) : (zKc σ).1 17 j = σ.1 18 j := (zkp_skip (g := zid) (f := σ.1) (k := 17) (j := j) (t := (42, 43, 770)) (l := [(40, 41, 9), (36, 37, 29), (34, 35, 12), (32, 33, 272), (30, 31, 19), (25, 26, 61440), (23, 24, 96), (21, 22, 16384), (19, 20, 4), (17, 18, 32768), (15, 16, 8192)]) rfl).trans ((zkp_skip (g := zid) (f := σ.1) (k := 17) (j := j) (t := (40, 41, 9)) (l := [(36, 37, 29), (34, 35, 12), (32, 33, 272), (30, 31, 19), (25, 26, 61440), (23, 24, 96), (21, 22, 16384), (19, 20, 4), (17, 18, 32768), (15, 16, 8192)]) rfl).trans ((zkp_skip (g := zid) (f := σ.1) (k := 17) (j := j) (t := (36, 37, 29)) (l := [(34, 35, 12), (32, 33, 272), (30, 31, 19), (25, 26, 61440), (23, 24, 96), (21, 22, 16384), (19, 20, 4), (17, 18, 32768), (15, 16, 8192)]) rfl).trans ((zkp_skip (g := zid) (f := σ.1) (k := 17) (j := j) (t := (34, 35, 12)) (l := [(32, 33, 272), (30, 31, 19), (25, 26, 61440), (23, 24, 96), (21, 22, 16384), (19, 20, 4), (17, 18, 32768), (15, 16, 8192)]) rfl).trans ((zkp_skip (g := zid) (f := σ.1) (k := 17) (j := j) (t := (32, 33, 272)) (l := [(30, 31, 19), (25, 26, 61440), (23, 24, 96), (21, 22, 16384), (19, 20, 4), (17, 18, 32768), (15, 16, 8192)]) rfl).trans ((zkp_skip (g := zid) (f := σ.1) (k := 17) (j := j) (t := (30, 31, 19)) (l := [(25, 26, 61440), (23, 24, 96), (21, 22, 16384), (19, 20, 4), (17, 18, 32768), (15, 16, 8192)]) rfl).trans ((zkp_skip (g := zid) (f := σ.1) (k := 17) (j := j) (t := (25, 26, 61440)) (l := [(23, 24, 96), (21, 22, 16384), (19, 20, 4), (17, 18, 32768), (15, 16, 8192)]) rfl).trans ((zkp_skip (g := zid) (f := σ.1) (k := 17) (j := j) (t := (23, 24, 96)) (l := [(21, 22, 16384), (19, 20, 4), (17, 18, 32768), (15, 16, 8192)]) rfl).trans ((zkp_skip (g := zid) (f := σ.1) (k := 17) (j := j) (t := (21, 22, 16384)) (l := [(19, 20, 4), (17, 18, 32768), (15, 16, 8192)]) rfl).trans ((zkp_skip (g := zid) (f := σ.1) (k := 17) (j := j) (t := (19, 20, 4)) (l := [(17, 18, 32768), (15, 16, 8192)]) rfl).trans (zkp_hit (g := zid) (f := σ.1) (k := 17) (j := j) (t := (17, 18, 32768)) (l := [(15, 16, 8192)]) rfl h))))))))))
theorem zKc_15 {j : Nat} (h : j < 8192) : (zKc σ).1 15 j = σ.1 16 j := (zkp_skip (g := zid) (f := σ.1) (k := 15) (j := j) (t := (42, 43, 770)) (l := [(40, 41, 9), (36, 37, 29), (34, 35, 12), (32, 33, 272), (30, 31, 19), (25, 26, 61440), (23, 24, 96), (21, 22, 16384), (19, 20, 4), (17, 18, 32768), (15, 16, 8192)]) rfl).trans ((zkp_skip (g := zid) (f := σ.1) (k := 15) (j := j) (t := (40, 41, 9)) (l := [(36, 37, 29), (34, 35, 12), (32, 33, 272), (30, 31, 19), (25, 26, 61440), (23, 24, 96), (21, 22, 16384), (19, 20, 4), (17, 18, 32768), (15, 16, 8192)]) rfl).trans ((zkp_skip (g := zid) (f := σ.1) (k := 15) (j := j) (t := (36, 37, 29)) (l := [(34, 35, 12), (32, 33, 272), (30, 31, 19), (25, 26, 61440), (23, 24, 96), (21, 22, 16384), (19, 20, 4), (17, 18, 32768), (15, 16, 8192)]) rfl).trans ((zkp_skip (g := zid) (f := σ.1) (k := 15) (j := j) (t := (34, 35, 12)) (l := [(32, 33, 272), (30, 31, 19), (25, 26, 61440), (23, 24, 96), (21, 22, 16384), (19, 20, 4), (17, 18, 32768), (15, 16, 8192)]) rfl).trans ((zkp_skip (g := zid) (f := σ.1) (k := 15) (j := j) (t := (32, 33, 272)) (l := [(30, 31, 19), (25, 26, 61440), (23, 24, 96), (21, 22, 16384), (19, 20, 4), (17, 18, 32768), (15, 16, 8192)]) rfl).trans ((zkp_skip (g := zid) (f := σ.1) (k := 15) (j := j) (t := (30, 31, 19)) (l := [(25, 26, 61440), (23, 24, 96), (21, 22, 16384), (19, 20, 4), (17, 18, 32768), (15, 16, 8192)]) rfl).trans ((zkp_skip (g := zid) (f := σ.1) (k := 15) (j := j) (t := (25, 26, 61440)) (l := [(23, 24, 96), (21, 22, 16384), (19, 20, 4), (17, 18, 32768), (15, 16, 8192)]) rfl).trans ((zkp_skip (g := zid) (f := σ.1) (k := 15) (j := j) (t := (23, 24, 96)) (l := [(21, 22, 16384), (19, 20, 4), (17, 18, 32768), (15, 16, 8192)]) rfl).trans ((zkp_skip (g := zid) (f := σ.1) (k := 15) (j := j) (t := (21, 22, 16384)) (l := [(19, 20, 4), (17, 18, 32768), (15, 16, 8192)]) rfl).trans ((zkp_skip (g := zid) (f := σ.1) (k := 15) (j := j) (t := (19, 20, 4)) (l := [(17, 18, 32768), (15, 16, 8192)]) rfl).trans ((zkp_skip (g := zid) (f := σ.1) (k := 15) (j := j) (t := (17, 18, 32768)) (l := [(15, 16, 8192)]) rfl).trans (zkp_hit (g := zid) (f := σ.1) (k := 15) (j := j) (t := (15, 16, 8192)) (l := []) rfl h)))))))))))
theorem zKm_9 {j : Nat} (h : j < 61440) : (zKm μ).1 9 j = μ.1 18 j := zkp_hit (g := zmb) (f := μ.1) (k := 9) (j := j) (t := (9, 18, 61440)) (l := [(8, 17, 64), (7, 16, 16384), (6, 15, 32768), (5, 14, 8192), (3, 12, 1048)]) rfl h
theorem zKm_8 {j : Nat} (h : j < 64) : (zKm μ).1 8 j = vp_nar .byte (μ.1 17 j) := (zkp_skip (g := zmb) (f := μ.1) (k := 8) (j := j) (t := (9, 18, 61440)) (l := [(8, 17, 64), (7, 16, 16384), (6, 15, 32768), (5, 14, 8192), (3, 12, 1048)]) rfl).trans (zkp_hit (g := zmb) (f := μ.1) (k := 8) (j := j) (t := (8, 17, 64)) (l := [(7, 16, 16384), (6, 15, 32768), (5, 14, 8192), (3, 12, 1048)]) rfl h)
theorem zKm_7 {j : Nat} (h : j < 16384) : (zKm μ).1 7 j = vp_nar .byte (μ.1 16 j) := (zkp_skip (g := zmb) (f := μ.1) (k := 7) (j := j) (t := (9, 18, 61440)) (l := [(8, 17, 64), (7, 16, 16384), (6, 15, 32768), (5, 14, 8192), (3, 12, 1048)]) rfl).trans ((zkp_skip (g := zmb) (f := μ.1) (k := 7) (j := j) (t := (8, 17, 64)) (l := [(7, 16, 16384), (6, 15, 32768), (5, 14, 8192), (3, 12, 1048)]) rfl).trans (zkp_hit (g := zmb) (f := μ.1) (k := 7) (j := j) (t := (7, 16, 16384)) (l := [(6, 15, 32768), (5, 14, 8192), (3, 12, 1048)]) rfl h))
theorem zKm_6 {j : Nat} (h : j < 32768) : (zKm μ).1 6 j = vp_nar .byte (μ.1 15 j) := (zkp_skip (g := zmb) (f := μ.1) (k := 6) (j := j) (t := (9, 18, 61440)) (l := [(8, 17, 64), (7, 16, 16384), (6, 15, 32768), (5, 14, 8192), (3, 12, 1048)]) rfl).trans ((zkp_skip (g := zmb) (f := μ.1) (k := 6) (j := j) (t := (8, 17, 64)) (l := [(7, 16, 16384), (6, 15, 32768), (5, 14, 8192), (3, 12, 1048)]) rfl).trans ((zkp_skip (g := zmb) (f := μ.1) (k := 6) (j := j) (t := (7, 16, 16384)) (l := [(6, 15, 32768), (5, 14, 8192), (3, 12, 1048)]) rfl).trans (zkp_hit (g := zmb) (f := μ.1) (k := 6) (j := j) (t := (6, 15, 32768)) (l := [(5, 14, 8192), (3, 12, 1048)]) rfl h)))
theorem zKm_5 {j : Nat} (h : j < 8192) : (zKm μ).1 5 j = vp_nar .byte (μ.1 14 j) := (zkp_skip (g := zmb) (f := μ.1) (k := 5) (j := j) (t := (9, 18, 61440)) (l := [(8, 17, 64), (7, 16, 16384), (6, 15, 32768), (5, 14, 8192), (3, 12, 1048)]) rfl).trans ((zkp_skip (g := zmb) (f := μ.1) (k := 5) (j := j) (t := (8, 17, 64)) (l := [(7, 16, 16384), (6, 15, 32768), (5, 14, 8192), (3, 12, 1048)]) rfl).trans ((zkp_skip (g := zmb) (f := μ.1) (k := 5) (j := j) (t := (7, 16, 16384)) (l := [(6, 15, 32768), (5, 14, 8192), (3, 12, 1048)]) rfl).trans ((zkp_skip (g := zmb) (f := μ.1) (k := 5) (j := j) (t := (6, 15, 32768)) (l := [(5, 14, 8192), (3, 12, 1048)]) rfl).trans (zkp_hit (g := zmb) (f := μ.1) (k := 5) (j := j) (t := (5, 14, 8192)) (l := [(3, 12, 1048)]) rfl h))))
theorem zKm_3 {j : Nat} (h : j < 1048) : (zKm μ).1 3 j = μ.1 12 j := (zkp_skip (g := zmb) (f := μ.1) (k := 3) (j := j) (t := (9, 18, 61440)) (l := [(8, 17, 64), (7, 16, 16384), (6, 15, 32768), (5, 14, 8192), (3, 12, 1048)]) rfl).trans ((zkp_skip (g := zmb) (f := μ.1) (k := 3) (j := j) (t := (8, 17, 64)) (l := [(7, 16, 16384), (6, 15, 32768), (5, 14, 8192), (3, 12, 1048)]) rfl).trans ((zkp_skip (g := zmb) (f := μ.1) (k := 3) (j := j) (t := (7, 16, 16384)) (l := [(6, 15, 32768), (5, 14, 8192), (3, 12, 1048)]) rfl).trans ((zkp_skip (g := zmb) (f := μ.1) (k := 3) (j := j) (t := (6, 15, 32768)) (l := [(5, 14, 8192), (3, 12, 1048)]) rfl).trans ((zkp_skip (g := zmb) (f := μ.1) (k := 3) (j := j) (t := (5, 14, 8192)) (l := [(3, 12, 1048)]) rfl).trans (zkp_hit (g := zmb) (f := μ.1) (k := 3) (j := j) (t := (3, 12, 1048)) (l := []) rfl h)))))
theorem zKc_l {j : Nat} (h : j < 7) : (zKc σ).2 38 j = σ.2 39 j := by
  have e : Nat.blt j 7 = true := Nat.ble_eq.mpr h
  show (bif (Nat.blt j 7) then σ.2 39 j else zkp zid σ.2 38 j []) = _
  rw [e]
  rfl
theorem zKm_l {j : Nat} (h : j < 5) : (zKm μ).2 4 j = μ.2 13 j := by
  have e : Nat.blt j 5 = true := Nat.ble_eq.mpr h
  show (bif (Nat.blt j 5) then μ.2 13 j else zkp zid μ.2 4 j []) = _
  rw [e]
  rfl
theorem zKc_all : ∀ p ∈ zsv, ∀ j : Nat, j < p.2.2 → (zKc σ).1 p.1 j = σ.1 p.2.1 j := by
  unfold zsv
  exact List.forall_mem_cons.2 ⟨fun j h => zKc_42 h, List.forall_mem_cons.2 ⟨fun j h => zKc_40 h, List.forall_mem_cons.2 ⟨fun j h => zKc_36 h, List.forall_mem_cons.2 ⟨fun j h => zKc_34 h, List.forall_mem_cons.2 ⟨fun j h => zKc_32 h, List.forall_mem_cons.2 ⟨fun j h => zKc_30 h, List.forall_mem_cons.2 ⟨fun j h => zKc_25 h, List.forall_mem_cons.2 ⟨fun j h => zKc_23 h, List.forall_mem_cons.2 ⟨fun j h => zKc_21 h, List.forall_mem_cons.2 ⟨fun j h => zKc_19 h, List.forall_mem_cons.2 ⟨fun j h => zKc_17 h, List.forall_mem_cons.2 ⟨fun j h => zKc_15 h, fun _ h => absurd h List.not_mem_nil⟩⟩⟩⟩⟩⟩⟩⟩⟩⟩⟩⟩
theorem zKm_all : ∀ p ∈ zsm, ∀ j : Nat, j < p.2.2 → (zKm μ).1 p.1 j = zmb p.1 (μ.1 p.2.1 j) := by
  unfold zsm
  exact List.forall_mem_cons.2 ⟨fun j h => zKm_9 h, List.forall_mem_cons.2 ⟨fun j h => zKm_8 h, List.forall_mem_cons.2 ⟨fun j h => zKm_7 h, List.forall_mem_cons.2 ⟨fun j h => zKm_6 h, List.forall_mem_cons.2 ⟨fun j h => zKm_5 h, List.forall_mem_cons.2 ⟨fun j h => zKm_3 h, fun _ h => absurd h List.not_mem_nil⟩⟩⟩⟩⟩⟩
/-! rows copied -/
theorem zcpl_ne {k0 k1 sp dp n k : Nat} (h : ¬ k = k1) : (zcpl σ k0 k1 sp dp n).2 k = σ.2 k := by
  have e : Nat.beq k k1 = false := Bool.eq_false_iff.mpr (fun r => h (Nat.eq_of_beq_eq_true r))
  show (bif Nat.beq k k1 then va_cpy (σ.2 k0) (σ.2 k) sp dp n else σ.2 k) = _
  rw [e]; rfl
theorem zcpl_eq {k0 k1 n j : Nat} : (zcpl σ k0 k1 0 0 n).2 k1 j = if j < n then σ.2 k0 j else σ.2 k1 j := by
  show (bif Nat.beq k1 k1 then va_cpy (σ.2 k0) (σ.2 k1) 0 0 n else σ.2 k1) j = _
  rw [show Nat.beq k1 k1 = true from Nat.beq_refl k1]
  show (if 0 ≤ j ∧ j < 0 + n then σ.2 k0 (0 + (j - 0)) else σ.2 k1 j) = _
  by_cases h : j < n
  · rw [if_pos h, if_pos ⟨Nat.zero_le _, by omega⟩, show 0 + (j - 0) = j by omega]
  · rw [if_neg h, if_neg (fun r => h (by omega))]
noncomputable def zcw (R : List Nat) (A : List (Nat × Nat × Nat)) (k n : Nat) : Bool := R.any (Nat.beq k) || A.any (fun e => Nat.beq e.1 k && (Nat.beq e.2.1 0 && Nat.ble n (e.2.2 + 1)))
theorem zcw_cv {R : List Nat} {A : List (Nat × Nat × Nat)} {k n j : Nat} (c : zcw R A k n = true) (h : j < n) : zcv R A k j = true := by
  unfold zcw at c
  unfold zcv
  rw [Bool.or_eq_true] at c ⊢
  rcases c with c | c
  · exact Or.inl c
  · right
    rw [List.any_eq_true] at c ⊢
    obtain ⟨e, he, q⟩ := c
    rw [Bool.and_eq_true, Bool.and_eq_true] at q
    refine ⟨e, he, ?_⟩
    have a0 : e.2.1 = 0 := Nat.eq_of_beq_eq_true q.2.1
    have a1 := Nat.le_of_ble_eq_true q.2.2
    rw [Bool.and_eq_true, Bool.and_eq_true]
    exact ⟨q.1, Nat.ble_eq.mpr (by omega), Nat.ble_eq.mpr (by omega)⟩
/-- a frame, and rows that were copied so far: (to, from, how many) -/
noncomputable def zSq (R : List Nat) (A : List (Nat × Nat × Nat)) (S : List Nat) (D : List (Nat × Nat × Nat)) (l : List (Nat × Nat × Nat)) (σ s : zSt) : Prop := zQ R A S D σ s ∧ ∀ p ∈ l, ∀ j : Nat, j < p.2.2 → s.1 p.1 j = σ.1 p.2.1 j
section ZSQ
variable {R S : List Nat} {A D : List (Nat × Nat × Nat)} {l : List (Nat × Nat × Nat)}
theorem zSq.rf : zSq R A S D [] σ σ := ⟨zQ.rf, fun _ h => absurd h List.not_mem_nil⟩
theorem zSq.cp (h : zSq R A S D l σ s) {k0 k1 n : Nat} (c : zcw R A k1 n = true) (d : zrw R A k0 = true) (e : l.all (fun p => !(Nat.beq p.1 k1)) = true) : zSq R A S D ((k1, k0, n) :: l) σ (zcpi s k0 k1 0 0 n) := by
  have q0 : s.1 k0 = σ.1 k0 := h.1.ro d
  refine ⟨⟨fun k j q => ?_, h.1.2⟩, fun p hp j hj => ?_⟩
  · by_cases z : k = k1
    · subst z
      rw [zcpi_eq, if_neg (fun y => by rw [zcw_cv c y] at q; cases q)]
      exact h.1.1 _ j q
    · rw [zcpi_ne z]
      exact h.1.1 k j q
  · rcases List.mem_cons.mp hp with x | x
    · subst x
      show (zcpi s k0 k1 0 0 n).1 k1 j = σ.1 k0 j
      rw [zcpi_eq, if_pos hj, q0]
    · have y := (List.all_eq_true.mp e) p x
      rw [zcpi_ne (fun z => by rw [z, Nat.beq_refl] at y; cases y)]
      exact h.2 p x j hj
theorem zSq.cl (h : zSq R A S D l σ s) {k0 k1 n : Nat} (c : zcw S D k1 n = true) : zSq R A S D l σ (zcpl s k0 k1 0 0 n) := by
  refine ⟨⟨h.1.1, fun k j q => ?_⟩, h.2⟩
  by_cases z : k = k1
  · subst z
    rw [zcpl_eq, if_neg (fun y => by rw [zcw_cv c y] at q; cases q)]
    exact h.1.2 _ j q
  · rw [zcpl_ne z]
    exact h.1.2 k j q
theorem zSq.wi (h : zSq R A S D l σ s) {k j : Nat} {v : Int32} (c : zcv R A k j = true) (e : l.all (fun p => !(Nat.beq p.1 k)) = true) : zSq R A S D l σ (zsi s k j v) := by
  refine ⟨zQ.wi h.1 c, fun p hp i hi => ?_⟩
  have y := (List.all_eq_true.mp e) p hp
  rw [zsi_ne (fun z => by rw [z, Nat.beq_refl] at y; cases y)]
  exact h.2 p hp i hi
end ZSQ
/-- one field of an object copied to another -/
noncomputable def zWf (s : zSt) (k p q : Nat) : zSt := zsi s k p (zgi s k q)
noncomputable def zKept (s : zSt) : zSt := (zcpi (zcpi (zWf (zWf (zcpl (zWf (zWf (zcpl (zcpl (zcpi (zcpi (zcpi (zcpi (zcpi (zcpi (zcpi (zcpi (zcpi (zcpi s 15 16 0 0 8192) 17 18 0 0 32768) 19 20 0 0 4) 21 22 0 0 16384) 23 24 0 0 96) 25 26 0 0 61440) 30 31 0 0 19) 32 33 0 0 272) 34 35 0 0 12) 36 37 0 0 29) 38 39 0 0 7) 46 47 0 0 4096) 11 4 2) 11 5 3) 48 49 0 0 4096) 12 4 2) 12 5 3) 40 41 0 0 9) 42 43 0 0 770)
noncomputable def zBack (s : zSt) : zSt := (zcpi (zcpi (zWf (zWf (zcpl (zWf (zWf (zcpl (zcpl (zcpi (zcpi (zcpi (zcpi (zcpi (zcpi (zcpi (zcpi (zcpi (zcpi s 16 15 0 0 8192) 18 17 0 0 32768) 20 19 0 0 4) 22 21 0 0 16384) 24 23 0 0 96) 26 25 0 0 61440) 31 30 0 0 19) 33 32 0 0 272) 35 34 0 0 12) 37 36 0 0 29) 39 38 0 0 7) 47 46 0 0 4096) 11 2 4) 11 3 5) 49 48 0 0 4096) 12 2 4) 12 3 5) 41 40 0 0 9) 43 42 0 0 770)
theorem c_keep_X2 : zpc (fX2_keep s ) (fun r => r = (zcpi (zcpi (zcpi s 15 16 0 0 8192) 17 18 0 0 32768) 19 20 0 0 4)) := by
  unfold fX2_keep
  refine zpc_ck (zpc_bv (fun s0 e0 => zpc_ck (zpc_bv (fun s1 e1 => zpc_ck (zpc_bv (fun s2 e2 => zpc_some ?_))))))
  rw [e2, e1, e0]
  rfl
theorem c_keep_X9 : zpc (fX9_keep s ) (fun r => r = (zcpi (zcpi s 21 22 0 0 16384) 23 24 0 0 96)) := by
  unfold fX9_keep
  refine zpc_ck (zpc_bv (fun s0 e0 => zpc_ck (zpc_bv (fun s1 e1 => zpc_some ?_))))
  rw [e1, e0]
  rfl
theorem c_keep_X3 : zpc (fX3_keep s ) (fun r => r = (zcpi s 25 26 0 0 61440)) := by
  unfold fX3_keep
  refine zpc_ck (zpc_bv (fun s0 e0 => zpc_some ?_))
  rw [e0]
  rfl
theorem c_keep_X7 : zpc (fX7_keep s ) (fun r => r = (zcpi s 30 31 0 0 19)) := by
  unfold fX7_keep
  refine zpc_ck (zpc_bv (fun s0 e0 => zpc_some ?_))
  rw [e0]
  rfl
theorem c_keep_X10 : zpc (fX10_keep s ) (fun r => r = (zcpi s 32 33 0 0 272)) := by
  unfold fX10_keep
  refine zpc_ck (zpc_bv (fun s0 e0 => zpc_some ?_))
  rw [e0]
  rfl
theorem c_keep_X4 : zpc (fX4_keep s ) (fun r => r = (zcpi s 34 35 0 0 12)) := by
  unfold fX4_keep
  refine zpc_ck (zpc_bv (fun s0 e0 => zpc_some ?_))
  rw [e0]
  rfl
theorem c_keep_X5 : zpc (fX5_keep s ) (fun r => r = (zcpi s 36 37 0 0 29)) := by
  unfold fX5_keep
  refine zpc_ck (zpc_bv (fun s0 e0 => zpc_some ?_))
  rw [e0]
  rfl
theorem c_keep_X1 : zpc (fX1_keep s ) (fun r => r = (zcpi (zcpi s 40 41 0 0 9) 42 43 0 0 770)) := by
  unfold fX1_keep
  refine zpc_ck (zpc_bv (fun s0 e0 => zpc_ck (zpc_bv (fun s1 e1 => zpc_some ?_))))
  rw [e1, e0]
  rfl
theorem c_keep_k11 : zpc (fX6_keep_k11 s ) (fun r => r = (zWf (zWf (zcpl s 46 47 0 0 4096) 11 4 2) 11 5 3)) := by
  unfold fX6_keep_k11
  refine zpc_ck (zpc_bv (fun s1 e1 => zpc_bv (fun s2 e2 => zpc_bv (fun s3 e3 => zpc_some ?_))))
  rw [e3, e2, e1]
  rfl
theorem c_keep_k12 : zpc (fX6_keep_k12 s ) (fun r => r = (zWf (zWf (zcpl s 48 49 0 0 4096) 12 4 2) 12 5 3)) := by
  unfold fX6_keep_k12
  refine zpc_ck (zpc_bv (fun s1 e1 => zpc_bv (fun s2 e2 => zpc_bv (fun s3 e3 => zpc_some ?_))))
  rw [e3, e2, e1]
  rfl
theorem c_keep_X0 : zpc (fX0_keep s ) (fun r => r = (zWf (zWf (zcpl (zWf (zWf (zcpl (zcpl s 38 39 0 0 7) 46 47 0 0 4096) 11 4 2) 11 5 3) 48 49 0 0 4096) 12 4 2) 12 5 3)) := by
  unfold fX0_keep
  refine zpc_ck (zpc_bv (fun s1 e1 => zpc_bu c_keep_k11 (fun s2 e2 => zpc_bu c_keep_k12 (fun s3 e3 => zpc_some ?_))))
  rw [e3, e2, e1]
  rfl
theorem c_bringBack_X2 : zpc (fX2_bringBack s ) (fun r => r = (zcpi (zcpi (zcpi s 16 15 0 0 8192) 18 17 0 0 32768) 20 19 0 0 4)) := by
  unfold fX2_bringBack
  refine zpc_ck (zpc_bv (fun s0 e0 => zpc_ck (zpc_bv (fun s1 e1 => zpc_ck (zpc_bv (fun s2 e2 => zpc_some ?_))))))
  rw [e2, e1, e0]
  rfl
theorem c_bringBack_X9 : zpc (fX9_bringBack s ) (fun r => r = (zcpi (zcpi s 22 21 0 0 16384) 24 23 0 0 96)) := by
  unfold fX9_bringBack
  refine zpc_ck (zpc_bv (fun s0 e0 => zpc_ck (zpc_bv (fun s1 e1 => zpc_some ?_))))
  rw [e1, e0]
  rfl
theorem c_bringBack_X3 : zpc (fX3_bringBack s ) (fun r => r = (zcpi s 26 25 0 0 61440)) := by
  unfold fX3_bringBack
  refine zpc_ck (zpc_bv (fun s0 e0 => zpc_some ?_))
  rw [e0]
  rfl
theorem c_bringBack_X7 : zpc (fX7_bringBack s ) (fun r => r = (zcpi s 31 30 0 0 19)) := by
  unfold fX7_bringBack
  refine zpc_ck (zpc_bv (fun s0 e0 => zpc_some ?_))
  rw [e0]
  rfl
theorem c_bringBack_X10 : zpc (fX10_bringBack s ) (fun r => r = (zcpi s 33 32 0 0 272)) := by
  unfold fX10_bringBack
  refine zpc_ck (zpc_bv (fun s0 e0 => zpc_some ?_))
  rw [e0]
  rfl
theorem c_bringBack_X4 : zpc (fX4_bringBack s ) (fun r => r = (zcpi s 35 34 0 0 12)) := by
  unfold fX4_bringBack
  refine zpc_ck (zpc_bv (fun s0 e0 => zpc_some ?_))
  rw [e0]
  rfl
theorem c_bringBack_X5 : zpc (fX5_bringBack s ) (fun r => r = (zcpi s 37 36 0 0 29)) := by
  unfold fX5_bringBack
  refine zpc_ck (zpc_bv (fun s0 e0 => zpc_some ?_))
  rw [e0]
  rfl
theorem c_bringBack_X1 : zpc (fX1_bringBack s ) (fun r => r = (zcpi (zcpi s 41 40 0 0 9) 43 42 0 0 770)) := by
  unfold fX1_bringBack
  refine zpc_ck (zpc_bv (fun s0 e0 => zpc_ck (zpc_bv (fun s1 e1 => zpc_some ?_))))
  rw [e1, e0]
  rfl
theorem c_bringBack_k11 : zpc (fX6_bringBack_k11 s ) (fun r => r = (zWf (zWf (zcpl s 47 46 0 0 4096) 11 2 4) 11 3 5)) := by
  unfold fX6_bringBack_k11
  refine zpc_ck (zpc_bv (fun s1 e1 => zpc_bv (fun s2 e2 => zpc_bv (fun s3 e3 => zpc_some ?_))))
  rw [e3, e2, e1]
  rfl
theorem c_bringBack_k12 : zpc (fX6_bringBack_k12 s ) (fun r => r = (zWf (zWf (zcpl s 49 48 0 0 4096) 12 2 4) 12 3 5)) := by
  unfold fX6_bringBack_k12
  refine zpc_ck (zpc_bv (fun s1 e1 => zpc_bv (fun s2 e2 => zpc_bv (fun s3 e3 => zpc_some ?_))))
  rw [e3, e2, e1]
  rfl
theorem c_bringBack_X0 : zpc (fX0_bringBack s ) (fun r => r = (zWf (zWf (zcpl (zWf (zWf (zcpl (zcpl s 39 38 0 0 7) 47 46 0 0 4096) 11 2 4) 11 3 5) 49 48 0 0 4096) 12 2 4) 12 3 5)) := by
  unfold fX0_bringBack
  refine zpc_ck (zpc_bv (fun s1 e1 => zpc_bu c_bringBack_k11 (fun s2 e2 => zpc_bu c_bringBack_k12 (fun s3 e3 => zpc_some ?_))))
  rw [e3, e2, e1]
  rfl
theorem k_save : zpc (fX11_save s ) (fun r => r = zsi (zKept s) 0 11 1) := by
  unfold fX11_save
  refine zpc_bu c_keep_X2 (fun s0 e0 => zpc_bu c_keep_X9 (fun s1 e1 => zpc_bu c_keep_X3 (fun s2 e2 => zpc_bu c_keep_X7 (fun s3 e3 => zpc_bu c_keep_X10 (fun s4 e4 => zpc_bu c_keep_X4 (fun s5 e5 => zpc_bu c_keep_X5 (fun s6 e6 => zpc_bu c_keep_X0 (fun s7 e7 => zpc_bu c_keep_X1 (fun s8 e8 => zpc_ck (zpc_bv (fun sa ea => zpc_some ?_)))))))))))
  rw [ea, e8, e7, e6, e5, e4, e3, e2, e1, e0]
  rfl
theorem c_restore (h : ¬ s.1 0 11 = 0) : zpc (fX11_restore s ) (fun r => r = Sum.inl (zBack s)) := by
  unfold fX11_restore
  refine zpc_if (fun q => absurd q h) (fun _ => zpc_bu c_bringBack_X2 (fun s0 e0 => zpc_bu c_bringBack_X9 (fun s1 e1 => zpc_bu c_bringBack_X3 (fun s2 e2 => zpc_bu c_bringBack_X7 (fun s3 e3 => zpc_bu c_bringBack_X10 (fun s4 e4 => zpc_bu c_bringBack_X4 (fun s5 e5 => zpc_bu c_bringBack_X5 (fun s6 e6 => zpc_bu c_bringBack_X0 (fun s7 e7 => zpc_bu c_bringBack_X1 (fun s8 e8 => zpc_some ?_))))))))))
  rw [e8, e7, e6, e5, e4, e3, e2, e1, e0]
  rfl
theorem zKept_q : zSq [16, 18, 20, 22, 24, 26, 31, 33, 35, 37, 41, 43, 11, 12] [(0, 11, 11)] [39, 47, 49] [] [(43, 42, 770), (41, 40, 9), (37, 36, 29), (35, 34, 12), (33, 32, 272), (31, 30, 19), (26, 25, 61440), (24, 23, 96), (22, 21, 16384), (20, 19, 4), (18, 17, 32768), (16, 15, 8192)] σ (zKept σ) := by
  unfold zKept
  exact (((((((((((((((((((zSq.rf.cp rfl rfl rfl).cp rfl rfl rfl).cp rfl rfl rfl).cp rfl rfl rfl).cp rfl rfl rfl).cp rfl rfl rfl).cp rfl rfl rfl).cp rfl rfl rfl).cp rfl rfl rfl).cp rfl rfl rfl).cl rfl).cl rfl).wi rfl rfl).wi rfl rfl).cl rfl).wi rfl rfl).wi rfl rfl).cp rfl rfl rfl).cp rfl rfl rfl)
theorem zKept_l {j : Nat} (h : j < 7) : (zKept σ).2 39 j = σ.2 38 j := by
  have e : (zKept σ).2 39 = (zcpl (zcpl (zcpl σ 38 39 0 0 7) 46 47 0 0 4096) 48 49 0 0 4096).2 39 := rfl
  rw [e, zcpl_ne (by decide), zcpl_ne (by decide), zcpl_eq, if_pos h]
theorem zBack_q : zSq [11, 12] [(42, 0, 769), (40, 0, 8), (36, 0, 28), (34, 0, 11), (32, 0, 271), (30, 0, 18), (25, 0, 61439), (23, 0, 95), (21, 0, 16383), (19, 0, 3), (17, 0, 32767), (15, 0, 8191)] [46, 48] [(38, 0, 6)] zsv σ (zBack σ) := by
  unfold zBack
  exact (((((((((((((((((((zSq.rf.cp rfl rfl rfl).cp rfl rfl rfl).cp rfl rfl rfl).cp rfl rfl rfl).cp rfl rfl rfl).cp rfl rfl rfl).cp rfl rfl rfl).cp rfl rfl rfl).cp rfl rfl rfl).cp rfl rfl rfl).cl rfl).cl rfl).wi rfl rfl).wi rfl rfl).cl rfl).wi rfl rfl).wi rfl rfl).cp rfl rfl rfl).cp rfl rfl rfl)
theorem zBack_l {j : Nat} (h : j < 7) : (zBack σ).2 38 j = σ.2 39 j := by
  have e : (zBack σ).2 38 = (zcpl (zcpl (zcpl σ 39 38 0 0 7) 47 46 0 0 4096) 49 48 0 0 4096).2 38 := rfl
  rw [e, zcpl_ne (by decide), zcpl_ne (by decide), zcpl_eq, if_pos h]
/-- what was kept is what there was -/
theorem zKept_k {v : Int32} : zQ [16, 18, 20, 22, 24, 26, 31, 33, 35, 37, 41, 43, 11, 12] [(0, 11, 11)] [39, 47, 49] [] σ (zKc (zsi (zKept σ) 0 11 v)) := by
  obtain ⟨q1, q2⟩ := zKept_q (σ := σ)
  have q1 : zQ [16, 18, 20, 22, 24, 26, 31, 33, 35, 37, 41, 43, 11, 12] [(0, 11, 11)] [39, 47, 49] [] σ (zsi (zKept σ) 0 11 v) := zQ.wi q1 rfl
  refine ⟨fun k j c => zkp_of (q1.1 k j c) (fun p hp i hi => ?_), fun k j c => zkp_of (q1.2 k j c) (fun p hp i hi => ?_)⟩
  · have z : ∀ p ∈ zsv, ∀ i : Nat, i < p.2.2 → (zKept σ).1 p.2.1 i = σ.1 p.1 i := by
      unfold zsv
      exact List.forall_mem_cons.2 ⟨fun i hi => q2 (43, 42, 770) (by decide +kernel) i hi, List.forall_mem_cons.2 ⟨fun i hi => q2 (41, 40, 9) (by decide +kernel) i hi, List.forall_mem_cons.2 ⟨fun i hi => q2 (37, 36, 29) (by decide +kernel) i hi, List.forall_mem_cons.2 ⟨fun i hi => q2 (35, 34, 12) (by decide +kernel) i hi, List.forall_mem_cons.2 ⟨fun i hi => q2 (33, 32, 272) (by decide +kernel) i hi, List.forall_mem_cons.2 ⟨fun i hi => q2 (31, 30, 19) (by decide +kernel) i hi, List.forall_mem_cons.2 ⟨fun i hi => q2 (26, 25, 61440) (by decide +kernel) i hi, List.forall_mem_cons.2 ⟨fun i hi => q2 (24, 23, 96) (by decide +kernel) i hi, List.forall_mem_cons.2 ⟨fun i hi => q2 (22, 21, 16384) (by decide +kernel) i hi, List.forall_mem_cons.2 ⟨fun i hi => q2 (20, 19, 4) (by decide +kernel) i hi, List.forall_mem_cons.2 ⟨fun i hi => q2 (18, 17, 32768) (by decide +kernel) i hi, List.forall_mem_cons.2 ⟨fun i hi => q2 (16, 15, 8192) (by decide +kernel) i hi, fun _ h => absurd h List.not_mem_nil⟩⟩⟩⟩⟩⟩⟩⟩⟩⟩⟩⟩
    have n0 : ∀ p ∈ zsv, ¬ p.2.1 = 0 := by decide +kernel
    show (zsi (zKept σ) 0 11 v).1 p.2.1 i = σ.1 p.1 i
    rw [zsi_ne (n0 p hp)]
    exact z p hp i hi
  · rw [List.mem_singleton] at hp
    subst hp
    exact zKept_l hi
theorem zBack_k : zQ [11, 12] [] [46, 48] [] (zKc σ) (zBack σ) := by
  obtain ⟨q1, q2⟩ := zBack_q (σ := σ)
  refine ⟨fun k j c => zkp_rev q2 (fun z => q1.1 k j ?_), fun k j c => zkp_rev (fun p hp i hi => ?_) (fun z => q1.2 k j ?_)⟩
  · unfold zcv at c ⊢
    rw [Bool.or_eq_false_iff] at c ⊢
    refine ⟨c.1, List.any_eq_false.mpr (fun e he q => ?_)⟩
    rw [Bool.and_eq_true, Bool.and_eq_true] at q
    have n : ∀ e ∈ ([(42, 0, 769), (40, 0, 8), (36, 0, 28), (34, 0, 11), (32, 0, 271), (30, 0, 18), (25, 0, 61439), (23, 0, 95), (21, 0, 16383), (19, 0, 3), (17, 0, 32767), (15, 0, 8191)] : List (Nat × Nat × Nat)), ∃ p ∈ zsv, p.1 = e.1 ∧ e.2.2 < p.2.2 := by decide +kernel
    obtain ⟨p, hp, e1, e2⟩ := n e he
    have a3 := Nat.le_of_ble_eq_true q.2.2
    exact z p hp (e1.trans (Nat.eq_of_beq_eq_true q.1)) (by omega)
  · rw [List.mem_singleton] at hp
    subst hp
    exact zBack_l hi
  · unfold zcv at c ⊢
    rw [Bool.or_eq_false_iff] at c ⊢
    refine ⟨c.1, List.any_eq_false.mpr (fun e he q => ?_)⟩
    rw [List.mem_singleton] at he
    subst he
    rw [Bool.and_eq_true, Bool.and_eq_true] at q
    have a3 := Nat.le_of_ble_eq_true q.2.2
    exact z (38, 39, 7) List.mem_cons_self (Nat.eq_of_beq_eq_true q.1) (by show j < 7; have a3 : j ≤ 6 := a3; omega)
/-! the reference's loops -/
theorem zsl_ej {k j : Nat} {v : Int64} : (zsl s k j v).2 k j = v := by
  show (bif Nat.beq k k then vp_updL (s.2 k) j v else s.2 k) j = v
  rw [show Nat.beq k k = true from Nat.beq_refl k]
  show (if j = j then v else s.2 k j) = v
  rw [if_pos rfl]
theorem zsl_nj {k j i : Nat} {v : Int64} (h : ¬ j = i) : (zsl s k i v).2 k j = s.2 k j := zsl_off (fun q => h q.2)
theorem m_sv12 : ∀ (n i : Nat) (t : zSt), i ≤ 1048 → zQ [] [(12, 0, 1047)] [] [] μ t → (∀ j : Nat, j < i → t.1 12 j = μ.1 3 j) → (∀ t : zSt, zQ [] [(12, 0, 1047)] [] [] μ t → (∀ j : Nat, j < 1048 → t.1 12 j = μ.1 3 j) → zpc (fX12_save_39 zfuel t 0) Q) → zpc (fX12_save_12 n t (Int32.ofNat i)) Q := by
  intro n
  induction n with
  | zero => intro i t _ _ _ _; exact zpc_none
  | succ n ih =>
    intro i t hi hd hin k
    show zpc (fX12_save_12_body (fX12_save_12 n) t (Int32.ofNat i)) Q
    unfold fX12_save_12_body
    refine zpc_if (fun q => ?_) (fun q => ?_)
    · have := (z_ofL (k := 1048) (by omega) rfl).mp q
      exact k t hd (fun j h1 => hin j (by omega))
    have hi2 : i < 1048 := by
      have : ¬ 1048 ≤ i := fun z => q ((z_ofL (c := 1048) (k := 1048) (i := i) (by omega) rfl).mpr z)
      omega
    rw [z_ofC (by omega), z_ofS (by omega)]
    refine zpc_ck (zpc_ck (zpc_bv (fun t1 g1 => zpc_bv (fun x ex => ?_))))
    subst ex
    refine ih (i + 1) t1 (by omega) (by rw [g1]; exact zQ.wi hd (zcv_m (a := 0) (b := 1047) (by decide) (by omega) (by omega))) (fun j hj => ?_) k
    by_cases z : j = i
    · rw [z, g1, zsi_ej]
      show t.1 3 i = μ.1 3 i
      rw [hd.ro (k := 3) rfl]
    · rw [g1, zsi_nj z]; exact hin j (by omega)
theorem m_sv39 : ∀ (n i : Nat) (t : zSt), i ≤ 5 → zQ [] [] [] [(13, 0, 4)] μ t → (∀ j : Nat, j < i → t.2 13 j = μ.2 4 j) → (∀ t : zSt, zQ [] [] [] [(13, 0, 4)] μ t → (∀ j : Nat, j < 5 → t.2 13 j = μ.2 4 j) → zpc (fX12_save_64 zfuel t 0) Q) → zpc (fX12_save_39 n t (Int32.ofNat i)) Q := by
  intro n
  induction n with
  | zero => intro i t _ _ _ _; exact zpc_none
  | succ n ih =>
    intro i t hi hd hin k
    show zpc (fX12_save_39_body (fX12_save_39 n) t (Int32.ofNat i)) Q
    unfold fX12_save_39_body
    refine zpc_if (fun q => ?_) (fun q => ?_)
    · have := (z_ofL (k := 5) (by omega) rfl).mp q
      exact k t hd (fun j h1 => hin j (by omega))
    have hi2 : i < 5 := by
      have : ¬ 5 ≤ i := fun z => q ((z_ofL (c := 5) (k := 5) (i := i) (by omega) rfl).mpr z)
      omega
    rw [z_ofC (by omega), z_ofS (by omega)]
    refine zpc_ck (zpc_ck (zpc_bv (fun t1 g1 => zpc_bv (fun x ex => ?_))))
    subst ex
    refine ih (i + 1) t1 (by omega) (by rw [g1]; exact zQ.wl hd (zcv_m (a := 0) (b := 4) (by decide) (by omega) (by omega))) (fun j hj => ?_) k
    by_cases z : j = i
    · rw [z, g1, zsl_ej]
      show t.2 4 i = μ.2 4 i
      rw [hd.rlo (k := 4) rfl]
    · rw [g1, zsl_nj z]; exact hin j (by omega)
theorem m_sv64 : ∀ (n i : Nat) (t : zSt), i ≤ 8192 → zQ [] [(14, 0, 8191)] [] [] μ t → (∀ j : Nat, j < i → t.1 14 j = vp_nar .byte (μ.1 5 j)) → (∀ t : zSt, zQ [] [(14, 0, 8191)] [] [] μ t → (∀ j : Nat, j < 8192 → t.1 14 j = vp_nar .byte (μ.1 5 j)) → zpc (fX12_save_91 zfuel t 0) Q) → zpc (fX12_save_64 n t (Int32.ofNat i)) Q := by
  intro n
  induction n with
  | zero => intro i t _ _ _ _; exact zpc_none
  | succ n ih =>
    intro i t hi hd hin k
    show zpc (fX12_save_64_body (fX12_save_64 n) t (Int32.ofNat i)) Q
    unfold fX12_save_64_body
    refine zpc_if (fun q => ?_) (fun q => ?_)
    · have := (z_ofL (k := 8192) (by omega) rfl).mp q
      exact k t hd (fun j h1 => hin j (by omega))
    have hi2 : i < 8192 := by
      have : ¬ 8192 ≤ i := fun z => q ((z_ofL (c := 8192) (k := 8192) (i := i) (by omega) rfl).mpr z)
      omega
    rw [z_ofC (by omega), z_ofS (by omega)]
    refine zpc_ck (zpc_ck (zpc_bv (fun t1 g1 => zpc_bv (fun x ex => ?_))))
    subst ex
    refine ih (i + 1) t1 (by omega) (by rw [g1]; exact zQ.wi hd (zcv_m (a := 0) (b := 8191) (by decide) (by omega) (by omega))) (fun j hj => ?_) k
    by_cases z : j = i
    · rw [z, g1, zsi_ej]
      show vp_nar .byte (t.1 5 i) = vp_nar .byte (μ.1 5 i)
      rw [hd.ro (k := 5) rfl]
    · rw [g1, zsi_nj z]; exact hin j (by omega)
theorem m_sv91 : ∀ (n i : Nat) (t : zSt), i ≤ 32768 → zQ [] [(15, 0, 32767)] [] [] μ t → (∀ j : Nat, j < i → t.1 15 j = vp_nar .byte (μ.1 6 j)) → (∀ t : zSt, zQ [] [(15, 0, 32767)] [] [] μ t → (∀ j : Nat, j < 32768 → t.1 15 j = vp_nar .byte (μ.1 6 j)) → zpc (fX12_save_117 zfuel t 0) Q) → zpc (fX12_save_91 n t (Int32.ofNat i)) Q := by
  intro n
  induction n with
  | zero => intro i t _ _ _ _; exact zpc_none
  | succ n ih =>
    intro i t hi hd hin k
    show zpc (fX12_save_91_body (fX12_save_91 n) t (Int32.ofNat i)) Q
    unfold fX12_save_91_body
    refine zpc_if (fun q => ?_) (fun q => ?_)
    · have := (z_ofL (k := 32768) (by omega) rfl).mp q
      exact k t hd (fun j h1 => hin j (by omega))
    have hi2 : i < 32768 := by
      have : ¬ 32768 ≤ i := fun z => q ((z_ofL (c := 32768) (k := 32768) (i := i) (by omega) rfl).mpr z)
      omega
    rw [z_ofC (by omega), z_ofS (by omega)]
    refine zpc_ck (zpc_ck (zpc_bv (fun t1 g1 => zpc_bv (fun x ex => ?_))))
    subst ex
    refine ih (i + 1) t1 (by omega) (by rw [g1]; exact zQ.wi hd (zcv_m (a := 0) (b := 32767) (by decide) (by omega) (by omega))) (fun j hj => ?_) k
    by_cases z : j = i
    · rw [z, g1, zsi_ej]
      show vp_nar .byte (t.1 6 i) = vp_nar .byte (μ.1 6 i)
      rw [hd.ro (k := 6) rfl]
    · rw [g1, zsi_nj z]; exact hin j (by omega)
theorem m_sv117 : ∀ (n i : Nat) (t : zSt), i ≤ 16384 → zQ [] [(16, 0, 16383)] [] [] μ t → (∀ j : Nat, j < i → t.1 16 j = vp_nar .byte (μ.1 7 j)) → (∀ t : zSt, zQ [] [(16, 0, 16383)] [] [] μ t → (∀ j : Nat, j < 16384 → t.1 16 j = vp_nar .byte (μ.1 7 j)) → zpc (fX12_save_144 zfuel t 0) Q) → zpc (fX12_save_117 n t (Int32.ofNat i)) Q := by
  intro n
  induction n with
  | zero => intro i t _ _ _ _; exact zpc_none
  | succ n ih =>
    intro i t hi hd hin k
    show zpc (fX12_save_117_body (fX12_save_117 n) t (Int32.ofNat i)) Q
    unfold fX12_save_117_body
    refine zpc_if (fun q => ?_) (fun q => ?_)
    · have := (z_ofL (k := 16384) (by omega) rfl).mp q
      exact k t hd (fun j h1 => hin j (by omega))
    have hi2 : i < 16384 := by
      have : ¬ 16384 ≤ i := fun z => q ((z_ofL (c := 16384) (k := 16384) (i := i) (by omega) rfl).mpr z)
      omega
    rw [z_ofC (by omega), z_ofS (by omega)]
    refine zpc_ck (zpc_ck (zpc_bv (fun t1 g1 => zpc_bv (fun x ex => ?_))))
    subst ex
    refine ih (i + 1) t1 (by omega) (by rw [g1]; exact zQ.wi hd (zcv_m (a := 0) (b := 16383) (by decide) (by omega) (by omega))) (fun j hj => ?_) k
    by_cases z : j = i
    · rw [z, g1, zsi_ej]
      show vp_nar .byte (t.1 7 i) = vp_nar .byte (μ.1 7 i)
      rw [hd.ro (k := 7) rfl]
    · rw [g1, zsi_nj z]; exact hin j (by omega)
theorem m_sv144 : ∀ (n i : Nat) (t : zSt), i ≤ 64 → zQ [] [(17, 0, 63)] [] [] μ t → (∀ j : Nat, j < i → t.1 17 j = vp_nar .byte (μ.1 8 j)) → (∀ t : zSt, zQ [] [(17, 0, 63)] [] [] μ t → (∀ j : Nat, j < 64 → t.1 17 j = vp_nar .byte (μ.1 8 j)) → zpc (fX12_save_170 zfuel t 0) Q) → zpc (fX12_save_144 n t (Int32.ofNat i)) Q := by
  intro n
  induction n with
  | zero => intro i t _ _ _ _; exact zpc_none
  | succ n ih =>
    intro i t hi hd hin k
    show zpc (fX12_save_144_body (fX12_save_144 n) t (Int32.ofNat i)) Q
    unfold fX12_save_144_body
    refine zpc_if (fun q => ?_) (fun q => ?_)
    · have := (z_ofL (k := 64) (by omega) rfl).mp q
      exact k t hd (fun j h1 => hin j (by omega))
    have hi2 : i < 64 := by
      have : ¬ 64 ≤ i := fun z => q ((z_ofL (c := 64) (k := 64) (i := i) (by omega) rfl).mpr z)
      omega
    rw [z_ofC (by omega), z_ofS (by omega)]
    refine zpc_ck (zpc_ck (zpc_bv (fun t1 g1 => zpc_bv (fun x ex => ?_))))
    subst ex
    refine ih (i + 1) t1 (by omega) (by rw [g1]; exact zQ.wi hd (zcv_m (a := 0) (b := 63) (by decide) (by omega) (by omega))) (fun j hj => ?_) k
    by_cases z : j = i
    · rw [z, g1, zsi_ej]
      show vp_nar .byte (t.1 8 i) = vp_nar .byte (μ.1 8 i)
      rw [hd.ro (k := 8) rfl]
    · rw [g1, zsi_nj z]; exact hin j (by omega)
theorem m_sv170 : ∀ (n i : Nat) (t : zSt), i ≤ 61440 → zQ [] [(18, 0, 61439)] [] [] μ t → (∀ j : Nat, j < i → t.1 18 j = μ.1 9 j) → (∀ t : zSt, zQ [] [(18, 0, 61439)] [] [] μ t → (∀ j : Nat, j < 61440 → t.1 18 j = μ.1 9 j) → zpc (fX12_save_196 zfuel t 0) Q) → zpc (fX12_save_170 n t (Int32.ofNat i)) Q := by
  intro n
  induction n with
  | zero => intro i t _ _ _ _; exact zpc_none
  | succ n ih =>
    intro i t hi hd hin k
    show zpc (fX12_save_170_body (fX12_save_170 n) t (Int32.ofNat i)) Q
    unfold fX12_save_170_body
    refine zpc_if (fun q => ?_) (fun q => ?_)
    · have := (z_ofL (k := 61440) (by omega) rfl).mp q
      exact k t hd (fun j h1 => hin j (by omega))
    have hi2 : i < 61440 := by
      have : ¬ 61440 ≤ i := fun z => q ((z_ofL (c := 61440) (k := 61440) (i := i) (by omega) rfl).mpr z)
      omega
    rw [z_ofC (by omega), z_ofS (by omega)]
    refine zpc_ck (zpc_ck (zpc_bv (fun t1 g1 => zpc_bv (fun x ex => ?_))))
    subst ex
    refine ih (i + 1) t1 (by omega) (by rw [g1]; exact zQ.wi hd (zcv_m (a := 0) (b := 61439) (by decide) (by omega) (by omega))) (fun j hj => ?_) k
    by_cases z : j = i
    · rw [z, g1, zsi_ej]
      show t.1 9 i = μ.1 9 i
      rw [hd.ro (k := 9) rfl]
    · rw [g1, zsi_nj z]; exact hin j (by omega)
theorem m_sv196 : ∀ (n i : Nat) (t : zSt), i ≤ 4096 → zQ [] [] [19, 20] [] μ t → zpc (fX12_save_196 n t (Int32.ofNat i)) (fun r => zQ [] [] [19, 20] [] μ r) := by
  intro n
  induction n with
  | zero => intro i t _ _; exact zpc_none
  | succ n ih =>
    intro i t hi hd
    show zpc (fX12_save_196_body (fX12_save_196 n) t (Int32.ofNat i)) _
    unfold fX12_save_196_body
    refine zpc_if (fun q => zpc_some hd) (fun q => ?_)
    have hi2 : i < 4096 := by
      have : ¬ 4096 ≤ i := fun z => q ((z_ofL (c := 4096) (k := 4096) (i := i) (by omega) rfl).mpr z)
      omega
    rw [z_ofC (by omega), z_ofS (by omega)]
    refine zpc_ck (zpc_ck (zpc_bv (fun t1 g1 => zpc_ck (zpc_ck (zpc_bv (fun t2 g2 => zpc_bv (fun x ex => ?_)))))))
    subst ex
    exact ih (i + 1) t2 (by omega) (by rw [g2, g1]; exact zQ.wl (zQ.wl hd rfl) rfl)
theorem m_rs23 : ∀ (n i : Nat) (t : zSt), i ≤ 1048 → zQ [] [(3, 0, 1047)] [] [] μ t → (∀ j : Nat, j < i → t.1 3 j = μ.1 12 j) → (∀ t : zSt, zQ [] [(3, 0, 1047)] [] [] μ t → (∀ j : Nat, j < 1048 → t.1 3 j = μ.1 12 j) → zpc (fX12_restore_50 zfuel t 0) Q) → zpc (fX12_restore_23 n t (Int32.ofNat i)) Q := by
  intro n
  induction n with
  | zero => intro i t _ _ _ _; exact zpc_none
  | succ n ih =>
    intro i t hi hd hin k
    show zpc (fX12_restore_23_body (fX12_restore_23 n) t (Int32.ofNat i)) Q
    unfold fX12_restore_23_body
    refine zpc_if (fun q => ?_) (fun q => ?_)
    · have := (z_ofL (k := 1048) (by omega) rfl).mp q
      exact k t hd (fun j h1 => hin j (by omega))
    have hi2 : i < 1048 := by
      have : ¬ 1048 ≤ i := fun z => q ((z_ofL (c := 1048) (k := 1048) (i := i) (by omega) rfl).mpr z)
      omega
    rw [z_ofC (by omega), z_ofS (by omega)]
    refine zpc_ck (zpc_ck (zpc_bv (fun t1 g1 => zpc_bv (fun x ex => ?_))))
    subst ex
    refine ih (i + 1) t1 (by omega) (by rw [g1]; exact zQ.wi hd (zcv_m (a := 0) (b := 1047) (by decide) (by omega) (by omega))) (fun j hj => ?_) k
    by_cases z : j = i
    · rw [z, g1, zsi_ej]
      show t.1 12 i = μ.1 12 i
      rw [hd.ro (k := 12) rfl]
    · rw [g1, zsi_nj z]; exact hin j (by omega)
theorem m_rs50 : ∀ (n i : Nat) (t : zSt), i ≤ 5 → zQ [] [] [] [(4, 0, 4)] μ t → (∀ j : Nat, j < i → t.2 4 j = μ.2 13 j) → (∀ t : zSt, zQ [] [] [] [(4, 0, 4)] μ t → (∀ j : Nat, j < 5 → t.2 4 j = μ.2 13 j) → zpc (fX12_restore_75 zfuel t 0) Q) → zpc (fX12_restore_50 n t (Int32.ofNat i)) Q := by
  intro n
  induction n with
  | zero => intro i t _ _ _ _; exact zpc_none
  | succ n ih =>
    intro i t hi hd hin k
    show zpc (fX12_restore_50_body (fX12_restore_50 n) t (Int32.ofNat i)) Q
    unfold fX12_restore_50_body
    refine zpc_if (fun q => ?_) (fun q => ?_)
    · have := (z_ofL (k := 5) (by omega) rfl).mp q
      exact k t hd (fun j h1 => hin j (by omega))
    have hi2 : i < 5 := by
      have : ¬ 5 ≤ i := fun z => q ((z_ofL (c := 5) (k := 5) (i := i) (by omega) rfl).mpr z)
      omega
    rw [z_ofC (by omega), z_ofS (by omega)]
    refine zpc_ck (zpc_ck (zpc_bv (fun t1 g1 => zpc_bv (fun x ex => ?_))))
    subst ex
    refine ih (i + 1) t1 (by omega) (by rw [g1]; exact zQ.wl hd (zcv_m (a := 0) (b := 4) (by decide) (by omega) (by omega))) (fun j hj => ?_) k
    by_cases z : j = i
    · rw [z, g1, zsl_ej]
      show t.2 13 i = μ.2 13 i
      rw [hd.rlo (k := 13) rfl]
    · rw [g1, zsl_nj z]; exact hin j (by omega)
theorem m_rs75 : ∀ (n i : Nat) (t : zSt), i ≤ 8192 → zQ [] [(5, 0, 8191)] [] [] μ t → (∀ j : Nat, j < i → t.1 5 j = vp_nar .byte (μ.1 14 j)) → (∀ t : zSt, zQ [] [(5, 0, 8191)] [] [] μ t → (∀ j : Nat, j < 8192 → t.1 5 j = vp_nar .byte (μ.1 14 j)) → zpc (fX12_restore_102 zfuel t 0) Q) → zpc (fX12_restore_75 n t (Int32.ofNat i)) Q := by
  intro n
  induction n with
  | zero => intro i t _ _ _ _; exact zpc_none
  | succ n ih =>
    intro i t hi hd hin k
    show zpc (fX12_restore_75_body (fX12_restore_75 n) t (Int32.ofNat i)) Q
    unfold fX12_restore_75_body
    refine zpc_if (fun q => ?_) (fun q => ?_)
    · have := (z_ofL (k := 8192) (by omega) rfl).mp q
      exact k t hd (fun j h1 => hin j (by omega))
    have hi2 : i < 8192 := by
      have : ¬ 8192 ≤ i := fun z => q ((z_ofL (c := 8192) (k := 8192) (i := i) (by omega) rfl).mpr z)
      omega
    rw [z_ofC (by omega), z_ofS (by omega)]
    refine zpc_ck (zpc_ck (zpc_bv (fun t1 g1 => zpc_bv (fun x ex => ?_))))
    subst ex
    refine ih (i + 1) t1 (by omega) (by rw [g1]; exact zQ.wi hd (zcv_m (a := 0) (b := 8191) (by decide) (by omega) (by omega))) (fun j hj => ?_) k
    by_cases z : j = i
    · rw [z, g1, zsi_ej]
      show vp_nar .byte (t.1 14 i) = vp_nar .byte (μ.1 14 i)
      rw [hd.ro (k := 14) rfl]
    · rw [g1, zsi_nj z]; exact hin j (by omega)
theorem m_rs102 : ∀ (n i : Nat) (t : zSt), i ≤ 32768 → zQ [] [(6, 0, 32767)] [] [] μ t → (∀ j : Nat, j < i → t.1 6 j = vp_nar .byte (μ.1 15 j)) → (∀ t : zSt, zQ [] [(6, 0, 32767)] [] [] μ t → (∀ j : Nat, j < 32768 → t.1 6 j = vp_nar .byte (μ.1 15 j)) → zpc (fX12_restore_128 zfuel t 0) Q) → zpc (fX12_restore_102 n t (Int32.ofNat i)) Q := by
  intro n
  induction n with
  | zero => intro i t _ _ _ _; exact zpc_none
  | succ n ih =>
    intro i t hi hd hin k
    show zpc (fX12_restore_102_body (fX12_restore_102 n) t (Int32.ofNat i)) Q
    unfold fX12_restore_102_body
    refine zpc_if (fun q => ?_) (fun q => ?_)
    · have := (z_ofL (k := 32768) (by omega) rfl).mp q
      exact k t hd (fun j h1 => hin j (by omega))
    have hi2 : i < 32768 := by
      have : ¬ 32768 ≤ i := fun z => q ((z_ofL (c := 32768) (k := 32768) (i := i) (by omega) rfl).mpr z)
      omega
    rw [z_ofC (by omega), z_ofS (by omega)]
    refine zpc_ck (zpc_ck (zpc_bv (fun t1 g1 => zpc_bv (fun x ex => ?_))))
    subst ex
    refine ih (i + 1) t1 (by omega) (by rw [g1]; exact zQ.wi hd (zcv_m (a := 0) (b := 32767) (by decide) (by omega) (by omega))) (fun j hj => ?_) k
    by_cases z : j = i
    · rw [z, g1, zsi_ej]
      show vp_nar .byte (t.1 15 i) = vp_nar .byte (μ.1 15 i)
      rw [hd.ro (k := 15) rfl]
    · rw [g1, zsi_nj z]; exact hin j (by omega)
theorem m_rs128 : ∀ (n i : Nat) (t : zSt), i ≤ 16384 → zQ [] [(7, 0, 16383)] [] [] μ t → (∀ j : Nat, j < i → t.1 7 j = vp_nar .byte (μ.1 16 j)) → (∀ t : zSt, zQ [] [(7, 0, 16383)] [] [] μ t → (∀ j : Nat, j < 16384 → t.1 7 j = vp_nar .byte (μ.1 16 j)) → zpc (fX12_restore_155 zfuel t 0) Q) → zpc (fX12_restore_128 n t (Int32.ofNat i)) Q := by
  intro n
  induction n with
  | zero => intro i t _ _ _ _; exact zpc_none
  | succ n ih =>
    intro i t hi hd hin k
    show zpc (fX12_restore_128_body (fX12_restore_128 n) t (Int32.ofNat i)) Q
    unfold fX12_restore_128_body
    refine zpc_if (fun q => ?_) (fun q => ?_)
    · have := (z_ofL (k := 16384) (by omega) rfl).mp q
      exact k t hd (fun j h1 => hin j (by omega))
    have hi2 : i < 16384 := by
      have : ¬ 16384 ≤ i := fun z => q ((z_ofL (c := 16384) (k := 16384) (i := i) (by omega) rfl).mpr z)
      omega
    rw [z_ofC (by omega), z_ofS (by omega)]
    refine zpc_ck (zpc_ck (zpc_bv (fun t1 g1 => zpc_bv (fun x ex => ?_))))
    subst ex
    refine ih (i + 1) t1 (by omega) (by rw [g1]; exact zQ.wi hd (zcv_m (a := 0) (b := 16383) (by decide) (by omega) (by omega))) (fun j hj => ?_) k
    by_cases z : j = i
    · rw [z, g1, zsi_ej]
      show vp_nar .byte (t.1 16 i) = vp_nar .byte (μ.1 16 i)
      rw [hd.ro (k := 16) rfl]
    · rw [g1, zsi_nj z]; exact hin j (by omega)
theorem m_rs155 : ∀ (n i : Nat) (t : zSt), i ≤ 64 → zQ [] [(8, 0, 63)] [] [] μ t → (∀ j : Nat, j < i → t.1 8 j = vp_nar .byte (μ.1 17 j)) → (∀ t : zSt, zQ [] [(8, 0, 63)] [] [] μ t → (∀ j : Nat, j < 64 → t.1 8 j = vp_nar .byte (μ.1 17 j)) → zpc (fX12_restore_181 zfuel t 0) Q) → zpc (fX12_restore_155 n t (Int32.ofNat i)) Q := by
  intro n
  induction n with
  | zero => intro i t _ _ _ _; exact zpc_none
  | succ n ih =>
    intro i t hi hd hin k
    show zpc (fX12_restore_155_body (fX12_restore_155 n) t (Int32.ofNat i)) Q
    unfold fX12_restore_155_body
    refine zpc_if (fun q => ?_) (fun q => ?_)
    · have := (z_ofL (k := 64) (by omega) rfl).mp q
      exact k t hd (fun j h1 => hin j (by omega))
    have hi2 : i < 64 := by
      have : ¬ 64 ≤ i := fun z => q ((z_ofL (c := 64) (k := 64) (i := i) (by omega) rfl).mpr z)
      omega
    rw [z_ofC (by omega), z_ofS (by omega)]
    refine zpc_ck (zpc_ck (zpc_bv (fun t1 g1 => zpc_bv (fun x ex => ?_))))
    subst ex
    refine ih (i + 1) t1 (by omega) (by rw [g1]; exact zQ.wi hd (zcv_m (a := 0) (b := 63) (by decide) (by omega) (by omega))) (fun j hj => ?_) k
    by_cases z : j = i
    · rw [z, g1, zsi_ej]
      show vp_nar .byte (t.1 17 i) = vp_nar .byte (μ.1 17 i)
      rw [hd.ro (k := 17) rfl]
    · rw [g1, zsi_nj z]; exact hin j (by omega)
theorem m_rs181 : ∀ (n i : Nat) (t : zSt), i ≤ 61440 → zQ [] [(9, 0, 61439)] [] [] μ t → (∀ j : Nat, j < i → t.1 9 j = μ.1 18 j) → (∀ t : zSt, zQ [] [(9, 0, 61439)] [] [] μ t → (∀ j : Nat, j < 61440 → t.1 9 j = μ.1 18 j) → zpc (fX12_restore_207 zfuel t 0) Q) → zpc (fX12_restore_181 n t (Int32.ofNat i)) Q := by
  intro n
  induction n with
  | zero => intro i t _ _ _ _; exact zpc_none
  | succ n ih =>
    intro i t hi hd hin k
    show zpc (fX12_restore_181_body (fX12_restore_181 n) t (Int32.ofNat i)) Q
    unfold fX12_restore_181_body
    refine zpc_if (fun q => ?_) (fun q => ?_)
    · have := (z_ofL (k := 61440) (by omega) rfl).mp q
      exact k t hd (fun j h1 => hin j (by omega))
    have hi2 : i < 61440 := by
      have : ¬ 61440 ≤ i := fun z => q ((z_ofL (c := 61440) (k := 61440) (i := i) (by omega) rfl).mpr z)
      omega
    rw [z_ofC (by omega), z_ofS (by omega)]
    refine zpc_ck (zpc_ck (zpc_bv (fun t1 g1 => zpc_bv (fun x ex => ?_))))
    subst ex
    refine ih (i + 1) t1 (by omega) (by rw [g1]; exact zQ.wi hd (zcv_m (a := 0) (b := 61439) (by decide) (by omega) (by omega))) (fun j hj => ?_) k
    by_cases z : j = i
    · rw [z, g1, zsi_ej]
      show t.1 18 i = μ.1 18 i
      rw [hd.ro (k := 18) rfl]
    · rw [g1, zsi_nj z]; exact hin j (by omega)
theorem m_rs207 : ∀ (n i : Nat) (t : zSt), i ≤ 4096 → zQ [] [] [10, 11] [] μ t → zpc (fX12_restore_207 n t (Int32.ofNat i)) (fun r => zQ [] [] [10, 11] [] μ r) := by
  intro n
  induction n with
  | zero => intro i t _ _; exact zpc_none
  | succ n ih =>
    intro i t hi hd
    show zpc (fX12_restore_207_body (fX12_restore_207 n) t (Int32.ofNat i)) _
    unfold fX12_restore_207_body
    refine zpc_if (fun q => zpc_some hd) (fun q => ?_)
    have hi2 : i < 4096 := by
      have : ¬ 4096 ≤ i := fun z => q ((z_ofL (c := 4096) (k := 4096) (i := i) (by omega) rfl).mpr z)
      omega
    rw [z_ofC (by omega), z_ofS (by omega)]
    refine zpc_ck (zpc_ck (zpc_bv (fun t1 g1 => zpc_ck (zpc_ck (zpc_bv (fun t2 g2 => zpc_bv (fun x ex => ?_)))))))
    subst ex
    exact ih (i + 1) t2 (by omega) (by rw [g2, g1]; exact zQ.wl (zQ.wl hd rfl) rfl)
noncomputable def zMkk (μ r : zSt) : Prop := zQ [12, 14, 15, 16, 17, 18] [(0, 0, 0), (0, 19, 19)] [13, 19, 20] [] μ r ∧ (∀ j : Nat, j < 1048 → r.1 12 j = μ.1 3 j) ∧ (∀ j : Nat, j < 5 → r.2 13 j = μ.2 4 j) ∧ (∀ j : Nat, j < 8192 → r.1 14 j = vp_nar .byte (μ.1 5 j)) ∧ (∀ j : Nat, j < 32768 → r.1 15 j = vp_nar .byte (μ.1 6 j)) ∧ (∀ j : Nat, j < 16384 → r.1 16 j = vp_nar .byte (μ.1 7 j)) ∧ (∀ j : Nat, j < 64 → r.1 17 j = vp_nar .byte (μ.1 8 j)) ∧ (∀ j : Nat, j < 61440 → r.1 18 j = μ.1 9 j)
theorem m_save' : zpc (fX12_save_12 zfuel μ 0) (zMkk μ) := by
  refine m_sv12 (μ := μ) zfuel 0 μ (by decide) zQ.rf (fun j hj => absurd hj (by omega)) (fun u0 d0 v0 => ?_)
  refine m_sv39 (μ := u0) zfuel 0 u0 (by decide) zQ.rf (fun j hj => absurd hj (by omega)) (fun u1 d1 v1 => ?_)
  refine m_sv64 (μ := u1) zfuel 0 u1 (by decide) zQ.rf (fun j hj => absurd hj (by omega)) (fun u2 d2 v2 => ?_)
  refine m_sv91 (μ := u2) zfuel 0 u2 (by decide) zQ.rf (fun j hj => absurd hj (by omega)) (fun u3 d3 v3 => ?_)
  refine m_sv117 (μ := u3) zfuel 0 u3 (by decide) zQ.rf (fun j hj => absurd hj (by omega)) (fun u4 d4 v4 => ?_)
  refine m_sv144 (μ := u4) zfuel 0 u4 (by decide) zQ.rf (fun j hj => absurd hj (by omega)) (fun u5 d5 v5 => ?_)
  refine m_sv170 (μ := u5) zfuel 0 u5 (by decide) zQ.rf (fun j hj => absurd hj (by omega)) (fun u6 d6 v6 => ?_)
  refine zpc_mono (m_sv196 (μ := u6) zfuel 0 u6 (by decide) zQ.rf) (fun r d7 => ?_)
  have w0 : ∀ j : Nat, j < 1048 → r.1 12 j = μ.1 3 j := fun j hj => by
    rw [d7.ro (k := 12) rfl, d6.ro (k := 12) rfl, d5.ro (k := 12) rfl, d4.ro (k := 12) rfl, d3.ro (k := 12) rfl, d2.ro (k := 12) rfl, d1.ro (k := 12) rfl, v0 j hj]
  have w1 : ∀ j : Nat, j < 5 → r.2 13 j = μ.2 4 j := fun j hj => by
    rw [d7.rlo (k := 13) rfl, d6.rlo (k := 13) rfl, d5.rlo (k := 13) rfl, d4.rlo (k := 13) rfl, d3.rlo (k := 13) rfl, d2.rlo (k := 13) rfl, v1 j hj, d0.rlo (k := 4) rfl]
  have w2 : ∀ j : Nat, j < 8192 → r.1 14 j = vp_nar .byte (μ.1 5 j) := fun j hj => by
    rw [d7.ro (k := 14) rfl, d6.ro (k := 14) rfl, d5.ro (k := 14) rfl, d4.ro (k := 14) rfl, d3.ro (k := 14) rfl, v2 j hj, d1.ro (k := 5) rfl, d0.ro (k := 5) rfl]
  have w3 : ∀ j : Nat, j < 32768 → r.1 15 j = vp_nar .byte (μ.1 6 j) := fun j hj => by
    rw [d7.ro (k := 15) rfl, d6.ro (k := 15) rfl, d5.ro (k := 15) rfl, d4.ro (k := 15) rfl, v3 j hj, d2.ro (k := 6) rfl, d1.ro (k := 6) rfl, d0.ro (k := 6) rfl]
  have w4 : ∀ j : Nat, j < 16384 → r.1 16 j = vp_nar .byte (μ.1 7 j) := fun j hj => by
    rw [d7.ro (k := 16) rfl, d6.ro (k := 16) rfl, d5.ro (k := 16) rfl, v4 j hj, d3.ro (k := 7) rfl, d2.ro (k := 7) rfl, d1.ro (k := 7) rfl, d0.ro (k := 7) rfl]
  have w5 : ∀ j : Nat, j < 64 → r.1 17 j = vp_nar .byte (μ.1 8 j) := fun j hj => by
    rw [d7.ro (k := 17) rfl, d6.ro (k := 17) rfl, v5 j hj, d4.ro (k := 8) rfl, d3.ro (k := 8) rfl, d2.ro (k := 8) rfl, d1.ro (k := 8) rfl, d0.ro (k := 8) rfl]
  have w6 : ∀ j : Nat, j < 61440 → r.1 18 j = μ.1 9 j := fun j hj => by
    rw [d7.ro (k := 18) rfl, v6 j hj, d5.ro (k := 9) rfl, d4.ro (k := 9) rfl, d3.ro (k := 9) rfl, d2.ro (k := 9) rfl, d1.ro (k := 9) rfl, d0.ro (k := 9) rfl]
  refine ⟨?_, w0, w1, w2, w3, w4, w5, w6⟩
  have m0 := d0.mono (R' := [12, 14, 15, 16, 17, 18]) (A' := [(0, 0, 0), (0, 19, 19)]) (S' := [13, 19, 20]) (B' := []) rfl rfl
  have m1 := d1.mono (R' := [12, 14, 15, 16, 17, 18]) (A' := [(0, 0, 0), (0, 19, 19)]) (S' := [13, 19, 20]) (B' := []) rfl rfl
  have m2 := d2.mono (R' := [12, 14, 15, 16, 17, 18]) (A' := [(0, 0, 0), (0, 19, 19)]) (S' := [13, 19, 20]) (B' := []) rfl rfl
  have m3 := d3.mono (R' := [12, 14, 15, 16, 17, 18]) (A' := [(0, 0, 0), (0, 19, 19)]) (S' := [13, 19, 20]) (B' := []) rfl rfl
  have m4 := d4.mono (R' := [12, 14, 15, 16, 17, 18]) (A' := [(0, 0, 0), (0, 19, 19)]) (S' := [13, 19, 20]) (B' := []) rfl rfl
  have m5 := d5.mono (R' := [12, 14, 15, 16, 17, 18]) (A' := [(0, 0, 0), (0, 19, 19)]) (S' := [13, 19, 20]) (B' := []) rfl rfl
  have m6 := d6.mono (R' := [12, 14, 15, 16, 17, 18]) (A' := [(0, 0, 0), (0, 19, 19)]) (S' := [13, 19, 20]) (B' := []) rfl rfl
  have m7 := d7.mono (R' := [12, 14, 15, 16, 17, 18]) (A' := [(0, 0, 0), (0, 19, 19)]) (S' := [13, 19, 20]) (B' := []) rfl rfl
  exact ((((((m0.tr m1).tr m2).tr m3).tr m4).tr m5).tr m6).tr m7
theorem m_back : zpc (fX12_restore_23 zfuel μ 0) (fun r => zQ [] [] [10, 11] [] (zKm μ) r) := by
  refine m_rs23 (μ := μ) zfuel 0 μ (by decide) zQ.rf (fun j hj => absurd hj (by omega)) (fun u0 d0 v0 => ?_)
  refine m_rs50 (μ := u0) zfuel 0 u0 (by decide) zQ.rf (fun j hj => absurd hj (by omega)) (fun u1 d1 v1 => ?_)
  refine m_rs75 (μ := u1) zfuel 0 u1 (by decide) zQ.rf (fun j hj => absurd hj (by omega)) (fun u2 d2 v2 => ?_)
  refine m_rs102 (μ := u2) zfuel 0 u2 (by decide) zQ.rf (fun j hj => absurd hj (by omega)) (fun u3 d3 v3 => ?_)
  refine m_rs128 (μ := u3) zfuel 0 u3 (by decide) zQ.rf (fun j hj => absurd hj (by omega)) (fun u4 d4 v4 => ?_)
  refine m_rs155 (μ := u4) zfuel 0 u4 (by decide) zQ.rf (fun j hj => absurd hj (by omega)) (fun u5 d5 v5 => ?_)
  refine m_rs181 (μ := u5) zfuel 0 u5 (by decide) zQ.rf (fun j hj => absurd hj (by omega)) (fun u6 d6 v6 => ?_)
  refine zpc_mono (m_rs207 (μ := u6) zfuel 0 u6 (by decide) zQ.rf) (fun r d7 => ?_)
  have w0 : ∀ j : Nat, j < 1048 → r.1 3 j = μ.1 12 j := fun j hj => by
    rw [d7.ro (k := 3) rfl, d6.ro (k := 3) rfl, d5.ro (k := 3) rfl, d4.ro (k := 3) rfl, d3.ro (k := 3) rfl, d2.ro (k := 3) rfl, d1.ro (k := 3) rfl, v0 j hj]
  have w1 : ∀ j : Nat, j < 5 → r.2 4 j = μ.2 13 j := fun j hj => by
    rw [d7.rlo (k := 4) rfl, d6.rlo (k := 4) rfl, d5.rlo (k := 4) rfl, d4.rlo (k := 4) rfl, d3.rlo (k := 4) rfl, d2.rlo (k := 4) rfl, v1 j hj, d0.rlo (k := 13) rfl]
  have w2 : ∀ j : Nat, j < 8192 → r.1 5 j = vp_nar .byte (μ.1 14 j) := fun j hj => by
    rw [d7.ro (k := 5) rfl, d6.ro (k := 5) rfl, d5.ro (k := 5) rfl, d4.ro (k := 5) rfl, d3.ro (k := 5) rfl, v2 j hj, d1.ro (k := 14) rfl, d0.ro (k := 14) rfl]
  have w3 : ∀ j : Nat, j < 32768 → r.1 6 j = vp_nar .byte (μ.1 15 j) := fun j hj => by
    rw [d7.ro (k := 6) rfl, d6.ro (k := 6) rfl, d5.ro (k := 6) rfl, d4.ro (k := 6) rfl, v3 j hj, d2.ro (k := 15) rfl, d1.ro (k := 15) rfl, d0.ro (k := 15) rfl]
  have w4 : ∀ j : Nat, j < 16384 → r.1 7 j = vp_nar .byte (μ.1 16 j) := fun j hj => by
    rw [d7.ro (k := 7) rfl, d6.ro (k := 7) rfl, d5.ro (k := 7) rfl, v4 j hj, d3.ro (k := 16) rfl, d2.ro (k := 16) rfl, d1.ro (k := 16) rfl, d0.ro (k := 16) rfl]
  have w5 : ∀ j : Nat, j < 64 → r.1 8 j = vp_nar .byte (μ.1 17 j) := fun j hj => by
    rw [d7.ro (k := 8) rfl, d6.ro (k := 8) rfl, v5 j hj, d4.ro (k := 17) rfl, d3.ro (k := 17) rfl, d2.ro (k := 17) rfl, d1.ro (k := 17) rfl, d0.ro (k := 17) rfl]
  have w6 : ∀ j : Nat, j < 61440 → r.1 9 j = μ.1 18 j := fun j hj => by
    rw [d7.ro (k := 9) rfl, v6 j hj, d5.ro (k := 18) rfl, d4.ro (k := 18) rfl, d3.ro (k := 18) rfl, d2.ro (k := 18) rfl, d1.ro (k := 18) rfl, d0.ro (k := 18) rfl]
  have m0 := d0.mono (R' := []) (A' := [(0, 0, 0), (3, 0, 1047), (5, 0, 8191), (6, 0, 32767), (7, 0, 16383), (8, 0, 63), (9, 0, 61439)]) (S' := [10, 11]) (B' := [(4, 0, 4)]) rfl rfl
  have m1 := d1.mono (R' := []) (A' := [(0, 0, 0), (3, 0, 1047), (5, 0, 8191), (6, 0, 32767), (7, 0, 16383), (8, 0, 63), (9, 0, 61439)]) (S' := [10, 11]) (B' := [(4, 0, 4)]) rfl rfl
  have m2 := d2.mono (R' := []) (A' := [(0, 0, 0), (3, 0, 1047), (5, 0, 8191), (6, 0, 32767), (7, 0, 16383), (8, 0, 63), (9, 0, 61439)]) (S' := [10, 11]) (B' := [(4, 0, 4)]) rfl rfl
  have m3 := d3.mono (R' := []) (A' := [(0, 0, 0), (3, 0, 1047), (5, 0, 8191), (6, 0, 32767), (7, 0, 16383), (8, 0, 63), (9, 0, 61439)]) (S' := [10, 11]) (B' := [(4, 0, 4)]) rfl rfl
  have m4 := d4.mono (R' := []) (A' := [(0, 0, 0), (3, 0, 1047), (5, 0, 8191), (6, 0, 32767), (7, 0, 16383), (8, 0, 63), (9, 0, 61439)]) (S' := [10, 11]) (B' := [(4, 0, 4)]) rfl rfl
  have m5 := d5.mono (R' := []) (A' := [(0, 0, 0), (3, 0, 1047), (5, 0, 8191), (6, 0, 32767), (7, 0, 16383), (8, 0, 63), (9, 0, 61439)]) (S' := [10, 11]) (B' := [(4, 0, 4)]) rfl rfl
  have m6 := d6.mono (R' := []) (A' := [(0, 0, 0), (3, 0, 1047), (5, 0, 8191), (6, 0, 32767), (7, 0, 16383), (8, 0, 63), (9, 0, 61439)]) (S' := [10, 11]) (B' := [(4, 0, 4)]) rfl rfl
  have m7 := d7.mono (R' := []) (A' := [(0, 0, 0), (3, 0, 1047), (5, 0, 8191), (6, 0, 32767), (7, 0, 16383), (8, 0, 63), (9, 0, 61439)]) (S' := [10, 11]) (B' := [(4, 0, 4)]) rfl rfl
  have fr := ((((((m0.tr m1).tr m2).tr m3).tr m4).tr m5).tr m6).tr m7
  have z0 : r.1 0 0 = μ.1 0 0 := by rw [d7.ro (k := 0) rfl, d6.ro (k := 0) rfl, d5.ro (k := 0) rfl, d4.ro (k := 0) rfl, d3.ro (k := 0) rfl, d2.ro (k := 0) rfl, d1.ro (k := 0) rfl, d0.ro (k := 0) rfl]
  have vals : ∀ p ∈ zsm, ∀ i : Nat, i < p.2.2 → r.1 p.1 i = zmb p.1 (μ.1 p.2.1 i) := by
    unfold zsm
    exact List.forall_mem_cons.2 ⟨fun i hi => w6 i hi, List.forall_mem_cons.2 ⟨fun i hi => w5 i hi, List.forall_mem_cons.2 ⟨fun i hi => w4 i hi, List.forall_mem_cons.2 ⟨fun i hi => w3 i hi, List.forall_mem_cons.2 ⟨fun i hi => w2 i hi, List.forall_mem_cons.2 ⟨fun i hi => w0 i hi, fun _ h => absurd h List.not_mem_nil⟩⟩⟩⟩⟩⟩
  refine ⟨fun k j c => zkp_rev vals (fun z => ?_), fun k j c => zkp_rev (fun p hp i hi => ?_) (fun z => fr.2 k j ?_)⟩
  · by_cases y : k = 0 ∧ j = 0
    · rw [y.1, y.2]; exact z0
    refine fr.1 k j ?_
    unfold zcv
    show (false || _) = false
    rw [Bool.false_or]
    refine List.any_eq_false.mpr (fun e he q => ?_)
    rw [Bool.and_eq_true, Bool.and_eq_true] at q
    have n : ∀ e ∈ ([(0, 0, 0), (3, 0, 1047), (5, 0, 8191), (6, 0, 32767), (7, 0, 16383), (8, 0, 63), (9, 0, 61439)] : List (Nat × Nat × Nat)), e = (0, 0, 0) ∨ ∃ p ∈ zsm, p.1 = e.1 ∧ e.2.2 < p.2.2 := by decide +kernel
    have a3 := Nat.le_of_ble_eq_true q.2.2
    have a1 := Nat.eq_of_beq_eq_true q.1
    rcases n e he with x | ⟨p, hp, e1, e2⟩
    · subst x
      have a3 : j ≤ 0 := a3
      exact y ⟨a1.symm, by omega⟩
    · exact z p hp (e1.trans a1) (by omega)
  · rw [List.mem_singleton] at hp
    subst hp
    exact w1 i hi
  · unfold zcv at c ⊢
    rw [Bool.or_eq_false_iff] at c ⊢
    refine ⟨c.1, List.any_eq_false.mpr (fun e he q => ?_)⟩
    rw [List.mem_singleton] at he
    subst he
    rw [Bool.and_eq_true, Bool.and_eq_true] at q
    have a3 : j ≤ 4 := Nat.le_of_ble_eq_true q.2.2
    exact z (4, 13, 5) List.mem_cons_self (Nat.eq_of_beq_eq_true q.1) (by show j < 5; omega)
/-- frame of restoring, from the state itself -/
theorem m_backf : zpc (fX12_restore_23 zfuel μ 0) (fun r => zQ [3, 5, 6, 7, 8, 9] [] [4, 10, 11] [] μ r) := by
  refine m_rs23 (μ := μ) zfuel 0 μ (by decide) zQ.rf (fun j hj => absurd hj (by omega)) (fun u0 d0 v0 => ?_)
  refine m_rs50 (μ := u0) zfuel 0 u0 (by decide) zQ.rf (fun j hj => absurd hj (by omega)) (fun u1 d1 v1 => ?_)
  refine m_rs75 (μ := u1) zfuel 0 u1 (by decide) zQ.rf (fun j hj => absurd hj (by omega)) (fun u2 d2 v2 => ?_)
  refine m_rs102 (μ := u2) zfuel 0 u2 (by decide) zQ.rf (fun j hj => absurd hj (by omega)) (fun u3 d3 v3 => ?_)
  refine m_rs128 (μ := u3) zfuel 0 u3 (by decide) zQ.rf (fun j hj => absurd hj (by omega)) (fun u4 d4 v4 => ?_)
  refine m_rs155 (μ := u4) zfuel 0 u4 (by decide) zQ.rf (fun j hj => absurd hj (by omega)) (fun u5 d5 v5 => ?_)
  refine m_rs181 (μ := u5) zfuel 0 u5 (by decide) zQ.rf (fun j hj => absurd hj (by omega)) (fun u6 d6 v6 => ?_)
  refine zpc_mono (m_rs207 (μ := u6) zfuel 0 u6 (by decide) zQ.rf) (fun r d7 => ?_)
  have m0 := d0.mono (R' := [3, 5, 6, 7, 8, 9]) (A' := []) (S' := [4, 10, 11]) (B' := []) rfl rfl
  have m1 := d1.mono (R' := [3, 5, 6, 7, 8, 9]) (A' := []) (S' := [4, 10, 11]) (B' := []) rfl rfl
  have m2 := d2.mono (R' := [3, 5, 6, 7, 8, 9]) (A' := []) (S' := [4, 10, 11]) (B' := []) rfl rfl
  have m3 := d3.mono (R' := [3, 5, 6, 7, 8, 9]) (A' := []) (S' := [4, 10, 11]) (B' := []) rfl rfl
  have m4 := d4.mono (R' := [3, 5, 6, 7, 8, 9]) (A' := []) (S' := [4, 10, 11]) (B' := []) rfl rfl
  have m5 := d5.mono (R' := [3, 5, 6, 7, 8, 9]) (A' := []) (S' := [4, 10, 11]) (B' := []) rfl rfl
  have m6 := d6.mono (R' := [3, 5, 6, 7, 8, 9]) (A' := []) (S' := [4, 10, 11]) (B' := []) rfl rfl
  have m7 := d7.mono (R' := [3, 5, 6, 7, 8, 9]) (A' := []) (S' := [4, 10, 11]) (B' := []) rfl rfl
  exact ((((((m0.tr m1).tr m2).tr m3).tr m4).tr m5).tr m6).tr m7
end ZKC
end ZJN0
section ZJN1
/-! THE WHOLE RELATION BETWEEN TWO CALLS -/
section ZAL
variable {σ μ s t r : zSt} {B C : Int × Int × Int}
/-- bytes of the reference may be written otherwise -/
theorem zNow.msk (h : zNow B σ μ) (b : zQ [5, 6, 7, 8, 12, 14, 15, 16, 17, 18] [(0, 0, 0), (0, 19, 19)] [13, 19, 20] [] μ t) (e5 : ∀ j : Nat, j < 8192 → t.1 5 j &&& 255 = μ.1 5 j &&& 255) (e6 : ∀ j : Nat, j < 32768 → t.1 6 j &&& 255 = μ.1 6 j &&& 255) (e7 : ∀ j : Nat, j < 16384 → t.1 7 j &&& 255 = μ.1 7 j &&& 255) (e8 : ∀ j : Nat, j < 64 → t.1 8 j &&& 255 = μ.1 8 j &&& 255) : zNow B σ t := by
  obtain ⟨⟨⟨⟨m1, m2, m3, m4, m5, m6⟩, r1, r2, r3, r4, r5, r6⟩, hC, hJ, ⟨⟨hE, hG, hR, hL⟩, hj⟩⟩, hF, hW⟩ := h
  have g3 : t.1 3 = μ.1 3 := b.ro (k := 3) rfl
  have g2 : t.1 2 = μ.1 2 := b.ro (k := 2) rfl
  have g0 : ∀ j : Nat, 1 ≤ j → j ≤ 18 → t.1 0 j = μ.1 0 j := fun j h1 h2 => b.o (k := 0) (a := 1) (b := 18) rfl h1 h2
  have a0 : zQ [] [] [] [] σ σ := zQ.rf
  refine ⟨⟨⟨⟨fun j hj => ?_, fun j hj => ?_, fun j hj => ?_, ?_, ?_, ?_⟩, r1, r2, ?_, ?_, ?_, fun j j1 j2 => ?_⟩, ?_, ?_, ⟨⟨?_, hG, ?_, hL⟩, hj.kp a0 b rfl rfl⟩⟩, ?_, ?_⟩
  · rw [e5 j hj]; exact m1 j hj
  · rw [e6 j hj]; exact m2 j hj
  · rw [g3]; exact m3 j hj
  · rw [g3]; exact m4
  · exact m5.keep (fun _ _ => rfl) rfl (fun j hj => g0 j (by revert hj; simp only [List.mem_cons, List.not_mem_nil, or_false]; omega) (by revert hj; simp only [List.mem_cons, List.not_mem_nil, or_false]; omega)) g2
  · unfold zFil
    rw [g0 5 (by decide) (by decide), g0 6 (by decide) (by decide), g2]
    exact m6
  · rw [g0 6 (by decide) (by decide)]; exact r3
  · rw [g0 7 (by decide) (by decide)]; exact r4
  · rw [g0 7 (by decide) (by decide), g0 6 (by decide) (by decide)]; exact r5
  · rw [g3]; exact r6 j j1 j2
  · unfold zCq
    rw [g3]
    exact hC
  · unfold zJp
    rw [b.o (k := 0) (a := 31) (b := 31) rfl (j := 31) (by decide) (by decide)]
    exact hJ
  · refine zE_all (fun i hi => ?_) (fun i hi => ?_) (fun i hi => ?_) (fun i hi => ?_) (fun i hi => ?_) (fun i hi => ?_) (fun i hi => ?_) (fun i hi => ?_) (fun i hi => ?_) (fun i hi => ?_) (fun i hi => ?_) (fun i hi => ?_) (fun i hi => ?_) (fun i hi => ?_) (fun i hi => ?_) (fun i hi => ?_) (fun i hi => ?_) (fun i hi => ?_) (fun i hi => ?_)
    · rw [g3]
      exact hE (34, 0, 1, 3, 33, (-1)) (by decide +kernel) i hi
    · rw [g3]
      exact hE (34, 1, 5, 3, 37, (-1)) (by decide +kernel) i hi
    · rw [g3]
      exact hE (34, 6, 1, 3, 35, (-1)) (by decide +kernel) i hi
    · rw [g3]
      exact hE (34, 7, 5, 3, 42, (-1)) (by decide +kernel) i hi
    · rw [g3]
      exact hE (23, 0, 17, 3, 47, (-1)) (by decide +kernel) i hi
    · rw [g3]
      exact hE (23, 18, 4, 3, 64, (-1)) (by decide +kernel) i hi
    · rw [g3]
      exact hE (23, 26, 1, 3, 68, (-1)) (by decide +kernel) i hi
    · rw [e8 (0 + i) (by omega)]
      exact hE (23, 32, 64, 8, 0, 255) (by decide +kernel) i hi
    · rw [e7 (0 + i) (by omega)]
      exact hE (21, 0, 16384, 7, 0, 255) (by decide +kernel) i hi
    · rw [g3]
      exact hE (30, 0, 3, 3, 69, (-1)) (by decide +kernel) i hi
    · rw [g3]
      exact hE (30, 9, 5, 3, 78, (-1)) (by decide +kernel) i hi
    · rw [g3]
      exact hE (30, 17, 1, 3, 86, (-1)) (by decide +kernel) i hi
    · rw [g3]
      exact hE (30, 18, 1, 3, 34, (-1)) (by decide +kernel) i hi
    · rw [g3]
      exact hE (32, 0, 64, 3, 98, (-1)) (by decide +kernel) i hi
    · rw [g3]
      exact hE (32, 64, 1, 3, 163, (-1)) (by decide +kernel) i hi
    · rw [g3]
      exact hE (32, 68, 1, 3, 162, (-1)) (by decide +kernel) i hi
    · rw [g3]
      exact hE (40, 0, 8, 3, 90, (-1)) (by decide +kernel) i hi
    · rw [g3]
      exact hE (40, 8, 1, 3, 89, (-1)) (by decide +kernel) i hi
    · rw [b.ro (k := 9) rfl]
      exact hE (25, 0, 61440, 9, 0, (-1)) (by decide +kernel) i hi
  · unfold zRk
    rw [g0 3 (by decide) (by decide)]
    exact hR
  · unfold zF
    rw [g3]
    exact hF
  · unfold zWzz
    rw [g3]
    exact hW
/-! what is kept stays related while both go on -/
theorem zsv_tb : (zTb.all (fun q => zsv.any (fun p => Nat.beq p.1 q.1 && Nat.ble (q.2.1 + q.2.2.1) p.2.2))) = true := by decide +kernel
theorem zsm_tb : (zTb.all (fun q => zsm.any (fun p => Nat.beq p.1 q.2.2.2.1 && Nat.ble (q.2.2.2.2.1 + q.2.2.1) p.2.2))) = true := by decide +kernel
theorem zsv_gt : (zGt.all (fun q => zsv.any (fun p => Nat.beq p.1 q.1 && Nat.ble (q.2.1 + q.2.2.1) p.2.2))) = true := by decide +kernel
theorem zNow.sav (k : zNow B (zKc σ) (zKm μ)) (n : zNow C s t) (c : ∀ p ∈ zsv, s.1 p.2.1 = σ.1 p.2.1) (cl : s.2 39 = σ.2 39) (d : ∀ p ∈ zsm, t.1 p.2.1 = μ.1 p.2.1) (dl : t.2 13 = μ.2 13) (kd : t.1 0 3 = μ.1 0 3) : zNow (C.1, B.2.1, B.2.2) (zKc s) (zKm t) := by
  have eC : ∀ p ∈ zsv, ∀ j : Nat, j < p.2.2 → (zKc s).1 p.1 j = (zKc σ).1 p.1 j := fun p hp j hj => by
    rw [zKc_all p hp j hj, zKc_all p hp j hj, c p hp]
  have eM : ∀ p ∈ zsm, ∀ j : Nat, j < p.2.2 → (zKm t).1 p.1 j = (zKm μ).1 p.1 j := fun p hp j hj => by
    rw [zKm_all p hp j hj, zKm_all p hp j hj, d p hp]
  have fC : ∀ j : Nat, j < 7 → (zKc s).2 38 j = (zKc σ).2 38 j := fun j hj => by rw [zKc_l hj, zKc_l hj, cl]
  have fM : ∀ j : Nat, j < 5 → (zKm t).2 4 j = (zKm μ).2 4 j := fun j hj => by rw [zKm_l hj, zKm_l hj, dl]
  have c15 : ∀ j : Nat, j < 8192 → (zKc s).1 15 j = (zKc σ).1 15 j := fun j hj => eC (15, 16, 8192) (by decide +kernel) j hj
  have c17 : ∀ j : Nat, j < 32768 → (zKc s).1 17 j = (zKc σ).1 17 j := fun j hj => eC (17, 18, 32768) (by decide +kernel) j hj
  have c19 : ∀ j : Nat, j < 4 → (zKc s).1 19 j = (zKc σ).1 19 j := fun j hj => eC (19, 20, 4) (by decide +kernel) j hj
  have c23 : ∀ j : Nat, j < 96 → (zKc s).1 23 j = (zKc σ).1 23 j := fun j hj => eC (23, 24, 96) (by decide +kernel) j hj
  have c36 : ∀ j : Nat, j < 29 → (zKc s).1 36 j = (zKc σ).1 36 j := fun j hj => eC (36, 37, 29) (by decide +kernel) j hj
  have c42 : ∀ j : Nat, j < 770 → (zKc s).1 42 j = (zKc σ).1 42 j := fun j hj => eC (42, 43, 770) (by decide +kernel) j hj
  have d3 : ∀ j : Nat, j < 1048 → (zKm t).1 3 j = (zKm μ).1 3 j := fun j hj => eM (3, 12, 1048) (by decide +kernel) j hj
  have d5 : ∀ j : Nat, j < 8192 → (zKm t).1 5 j = (zKm μ).1 5 j := fun j hj => eM (5, 14, 8192) (by decide +kernel) j hj
  have d6 : ∀ j : Nat, j < 32768 → (zKm t).1 6 j = (zKm μ).1 6 j := fun j hj => eM (6, 15, 32768) (by decide +kernel) j hj
  obtain ⟨⟨⟨⟨m1, m2, m3, m4, m5, m6⟩, r1, r2, r3, r4, r5, r6⟩, hC, hJ, ⟨⟨hE, hG, hR, hL⟩, hP, hS, hT, hM⟩⟩, hF, hW⟩ := k
  obtain ⟨⟨⟨⟨n1, n2, n3, n4, n5, n6⟩, u1, u2, u3, u4, u5, u6⟩, iC, iJ, ⟨⟨iE, iG, iR, iL⟩, iP, iS, iT, iM⟩⟩, iF, iW⟩ := n
  have k3 : (zKm t).1 0 3 = (zKm μ).1 0 3 := kd
  refine ⟨⟨⟨⟨fun j hj => ?_, fun j hj => ?_, fun j hj => ?_, ?_, ?_, n6⟩, u1, u2, u3, u4, u5, fun j j1 j2 => ?_⟩, ⟨fun j hj j1 j20 => ?_, ?_, ?_, fun j hj => ?_⟩, iJ, ⟨⟨?_, ?_, iR, ?_⟩, ⟨?_, ?_, ?_, fun k r hk hr => ?_, fun k hk => ?_⟩, iS, ⟨?_, ?_, ?_, ?_, ?_⟩, ?_⟩⟩, ?_, ?_⟩
  · rw [c15 j hj, d5 j hj]; exact m1 j hj
  · rw [c17 j hj, d6 j hj]; exact m2 j hj
  · rw [c19 j (by omega), d3 (29 + j) (by omega)]; exact m3 j hj
  · rw [c19 3 (by decide), d3 32 (by decide)]; exact m4
  · refine zCart.keep n5 (fun j hj => ?_) ?_ (fun j hj => ?_) rfl
    · rfl
    · rcases z_tp13 (s.1 1 1) with z | z
      · rw [z]; rfl
      · rw [z]; rfl
    · rfl
  · rw [d3 j (by omega)]; exact r6 j j1 j2
  · rw [c36 j (by omega), d3 j (by omega)]; exact hC.1 j hj j1 j20
  · rw [c36 27 (by decide), d3 28 (by decide)]; exact hC.2.1
  · rw [c36 28 (by decide), d3 27 (by decide)]; exact hC.2.2.1
  · rw [c36 j (by omega)]; exact hC.2.2.2 j hj
  · refine hE.keep (fun q hq i hi => ?_) (fun q hq i hi => ?_)
    · obtain ⟨p, hp, z⟩ := List.any_eq_true.mp ((List.all_eq_true.mp zsv_tb) q hq)
      rw [Bool.and_eq_true] at z
      have z1 : p.1 = q.1 := Nat.eq_of_beq_eq_true z.1
      have z2 := Nat.le_of_ble_eq_true z.2
      rw [← z1]
      exact eC p hp _ (by omega)
    · obtain ⟨p, hp, z⟩ := List.any_eq_true.mp ((List.all_eq_true.mp zsm_tb) q hq)
      rw [Bool.and_eq_true] at z
      have z1 : p.1 = q.2.2.2.1 := Nat.eq_of_beq_eq_true z.1
      have z2 := Nat.le_of_ble_eq_true z.2
      rw [← z1]
      exact eM p hp _ (by omega)
  · intro k j a b q
    obtain ⟨g, hg, e1, e2, e3⟩ := zGf_mem q
    obtain ⟨p, hp, z⟩ := List.any_eq_true.mp ((List.all_eq_true.mp zsv_gt) g hg)
    rw [Bool.and_eq_true] at z
    have z1 : p.1 = g.1 := Nat.eq_of_beq_eq_true z.1
    have z2 := Nat.le_of_ble_eq_true z.2
    have w := eC p hp j (by omega)
    rw [z1, e1] at w
    rw [w]
    exact hG k j a b q
  · have x1 : (zKc s).1 2 1 = (zKc σ).1 2 1 := by
      have y1 : (zKc s).1 2 1 = (if (zKm t).1 0 3 = 1 then 313 else 262) := iR.2.2.2.2.2
      rw [y1, k3]
      exact hR.2.2.2.2.2.symm
    unfold zLn
    rw [c23 20 (by decide), x1]
    exact hL
  · rw [c42 769 (by decide), d3 171 (by decide)]; exact hP.1
  · rw [d3 171 (by decide)]; exact hP.2.1
  · rw [c42 768 (by decide)]; exact hP.2.2.1
  · rw [d3 171 (by decide)] at hk
    have q2 := hP.2.1.2
    rw [c42 768 (by decide), d3 (280 + 3 * k + r) (by omega), c42 _ (by omega)]
    exact hP.2.2.2.1 k r hk hr
  · rw [d3 171 (by decide)] at hk
    have q2 := hP.2.1.2
    rw [d3 (280 + 3 * k + 1) (by omega), d3 (280 + 3 * k + 2) (by omega), d3 (280 + 3 * k + 0) (by omega)]
    exact hP.2.2.2.2 k hk
  · rw [fC 0 (by decide), fM 0 (by decide)]; exact hT.1
  · rw [fC 1 (by decide), fM 1 (by decide)]; exact hT.2.1
  · rw [fC 2 (by decide), fM 2 (by decide)]; exact hT.2.2.1
  · rw [fM 2 (by decide)]; exact hT.2.2.2.1
  · rw [fM 2 (by decide)]; exact hT.2.2.2.2
  · show B.2.2 ≤ zMt (zKm t)
    unfold zMt
    rw [fM 2 (by decide), d3 66 (by decide), d3 67 (by decide), k3]
    exact hM
  · unfold zF
    rw [c36 1 (by decide), d3 1 (by decide)]
    exact hF
  · unfold zWzz
    rw [c36 20 (by decide), d3 20 (by decide)]
    exact hW
/-- both machines, tape and cartridge, what was kept -/
noncomputable def zAll (K : Int) (σ μ : zSt) : Prop := (∃ C : Int × Int × Int, C.1 ≤ K ∧ zNow C σ μ) ∧ zR6 σ μ ∧ (¬ σ.1 0 11 = 0 → ∃ C : Int × Int × Int, C.1 ≤ K ∧ zNow C (zKc σ) (zKm μ))
theorem zAll.go (h : zAll B.1 σ μ) {K : Int} (hB : B.1 ≤ K) (hC : C.1 ≤ K) (n : zNow C s t) (r6 : zR6 s t) (f : ¬ s.1 0 11 = 0 → ¬ σ.1 0 11 = 0 ∧ (∀ p ∈ zsv, s.1 p.2.1 = σ.1 p.2.1) ∧ s.2 39 = σ.2 39 ∧ (∀ p ∈ zsm, t.1 p.2.1 = μ.1 p.2.1) ∧ t.2 13 = μ.2 13 ∧ t.1 0 3 = μ.1 0 3) : zAll K s t := by
  refine ⟨⟨C, hC, n⟩, r6, fun q => ?_⟩
  obtain ⟨q1, q2, q3, q4, q5, q6⟩ := f q
  obtain ⟨D, hD, k⟩ := h.2.2 q1
  exact ⟨(C.1, D.2.1, D.2.2), hC, k.sav n q2 q3 q4 q5 q6⟩
theorem zR6.kp (h : zR6 σ μ) (a : zQ [3, 5, 7, 9, 10, 11, 12, 15, 17, 19, 21, 23, 25, 27, 28, 29, 30, 32, 34, 36, 40, 42, 44, 45] [] [5, 38, 46, 48] [] σ s) (b : zQ [3, 5, 6, 7, 8, 9, 21, 22, 23, 24, 25, 26] [(0, 0, 0), (0, 31, 33), (0, 39, 49)] [4, 10, 11] [(0, 30, 30)] μ t) : zR6 s t := by
  have k1 : s.1 1 = σ.1 1 := a.ro (k := 1) rfl
  have kt : ∀ w, s.1 (ztp w) = σ.1 (ztp w) := fun w => by
    rcases z_tp13 w with z | z
    · rw [z]; exact a.ro (k := 13) rfl
    · rw [z]; exact a.ro (k := 14) rfl
  have g0 : ∀ j : Nat, 1 ≤ j → j ≤ 18 → t.1 0 j = μ.1 0 j := fun j h1 h2 => b.o (k := 0) (a := 1) (b := 18) rfl h1 h2
  obtain ⟨h1, h2, h3, h4⟩ := h
  refine ⟨?_, fun j hj => ?_, ?_, ?_⟩
  · rw [k1, g0 2 (by decide) (by decide)]; exact h1
  · rw [g0 2 (by decide) (by decide)] at hj
    rw [k1, kt, b.ro (k := 1) rfl]
    exact h2 j hj
  · rw [k1]; exact h3
  · exact h4.keep (fun j _ => by rw [k1]) (kt _) (fun j hj => g0 j (by revert hj; simp only [List.mem_cons, List.not_mem_nil, or_false]; omega) (by revert hj; simp only [List.mem_cons, List.not_mem_nil, or_false]; omega)) (b.ro (k := 2) rfl)
theorem zAll.kp {K0 K : Int} (h : zAll K0 σ μ) (hK : K0 ≤ K) (hC : C.1 ≤ K) (n : zNow C s t) (a : zQ [3, 5, 7, 9, 10, 11, 12, 15, 17, 19, 21, 23, 25, 27, 28, 29, 30, 32, 34, 36, 40, 42, 44, 45] [] [5, 38, 46, 48] [] σ s) (b : zQ [3, 5, 6, 7, 8, 9, 21, 22, 23, 24, 25, 26] [(0, 0, 0), (0, 31, 33), (0, 39, 49)] [4, 10, 11] [(0, 30, 30)] μ t) : zAll K s t := by
  have e0 : s.1 0 11 = σ.1 0 11 := a.o (k := 0) (a := 11) (b := 11) rfl (by decide) (by decide)
  refine zAll.go (B := (K0, 0, 0)) h hK hC n (h.2.1.kp a b) (fun q => ⟨by rw [← e0]; exact q, ?_, a.rlo (k := 39) rfl, ?_, b.rlo (k := 13) rfl, b.o (k := 0) (a := 3) (b := 3) rfl (by decide) (by decide)⟩)
  · unfold zsv
    exact List.forall_mem_cons.2 ⟨a.ro (k := 43) rfl, List.forall_mem_cons.2 ⟨a.ro (k := 41) rfl, List.forall_mem_cons.2 ⟨a.ro (k := 37) rfl, List.forall_mem_cons.2 ⟨a.ro (k := 35) rfl, List.forall_mem_cons.2 ⟨a.ro (k := 33) rfl, List.forall_mem_cons.2 ⟨a.ro (k := 31) rfl, List.forall_mem_cons.2 ⟨a.ro (k := 26) rfl, List.forall_mem_cons.2 ⟨a.ro (k := 24) rfl, List.forall_mem_cons.2 ⟨a.ro (k := 22) rfl, List.forall_mem_cons.2 ⟨a.ro (k := 20) rfl, List.forall_mem_cons.2 ⟨a.ro (k := 18) rfl, List.forall_mem_cons.2 ⟨a.ro (k := 16) rfl, fun _ h => absurd h List.not_mem_nil⟩⟩⟩⟩⟩⟩⟩⟩⟩⟩⟩⟩
  · unfold zsm
    exact List.forall_mem_cons.2 ⟨b.ro (k := 18) rfl, List.forall_mem_cons.2 ⟨b.ro (k := 17) rfl, List.forall_mem_cons.2 ⟨b.ro (k := 16) rfl, List.forall_mem_cons.2 ⟨b.ro (k := 15) rfl, List.forall_mem_cons.2 ⟨b.ro (k := 14) rfl, List.forall_mem_cons.2 ⟨b.ro (k := 12) rfl, fun _ h => absurd h List.not_mem_nil⟩⟩⟩⟩⟩⟩
theorem zAll.tp {K : Int} (h : zAll K σ μ) (hC : C.1 ≤ K) (n : zNow C s t) (r6 : zR6 s t) (a : zQ [13, 14] [(1, 2, 2)] [] [] σ s) (b : zQ [1] [(0, 0, 0), (0, 2, 2)] [] [] μ t) : zAll K s t := by
  have e0 : s.1 0 11 = σ.1 0 11 := a.o (k := 0) (a := 11) (b := 11) rfl (by decide) (by decide)
  refine zAll.go (B := (K, 0, 0)) h (Int.le_refl _) hC n r6 (fun q => ⟨by rw [← e0]; exact q, ?_, a.rlo (k := 39) rfl, ?_, b.rlo (k := 13) rfl, b.o (k := 0) (a := 3) (b := 3) rfl (by decide) (by decide)⟩)
  · unfold zsv
    exact List.forall_mem_cons.2 ⟨a.ro (k := 43) rfl, List.forall_mem_cons.2 ⟨a.ro (k := 41) rfl, List.forall_mem_cons.2 ⟨a.ro (k := 37) rfl, List.forall_mem_cons.2 ⟨a.ro (k := 35) rfl, List.forall_mem_cons.2 ⟨a.ro (k := 33) rfl, List.forall_mem_cons.2 ⟨a.ro (k := 31) rfl, List.forall_mem_cons.2 ⟨a.ro (k := 26) rfl, List.forall_mem_cons.2 ⟨a.ro (k := 24) rfl, List.forall_mem_cons.2 ⟨a.ro (k := 22) rfl, List.forall_mem_cons.2 ⟨a.ro (k := 20) rfl, List.forall_mem_cons.2 ⟨a.ro (k := 18) rfl, List.forall_mem_cons.2 ⟨a.ro (k := 16) rfl, fun _ h => absurd h List.not_mem_nil⟩⟩⟩⟩⟩⟩⟩⟩⟩⟩⟩⟩
  · unfold zsm
    exact List.forall_mem_cons.2 ⟨b.ro (k := 18) rfl, List.forall_mem_cons.2 ⟨b.ro (k := 17) rfl, List.forall_mem_cons.2 ⟨b.ro (k := 16) rfl, List.forall_mem_cons.2 ⟨b.ro (k := 15) rfl, List.forall_mem_cons.2 ⟨b.ro (k := 14) rfl, List.forall_mem_cons.2 ⟨b.ro (k := 12) rfl, fun _ h => absurd h List.not_mem_nil⟩⟩⟩⟩⟩⟩
end ZAL
end ZJN1
section ZJN2
/-! ANSWERS -/
section ZAV
variable {σ μ s t : zSt} {B : Int × Int × Int}
theorem zNow.cp (h : zNow B σ μ) : zCp σ μ := by
  obtain ⟨hT, hF, hW⟩ := h
  obtain ⟨c1, c2, c3, c4⟩ := hT.2.1
  refine ⟨fun j hj => ?_, c2.symm, c3.symm, fun j hj => (c4 j (by omega)).1 hj, fun j h1 h2 => (c4 j (by omega)).2.1 h1 h2, fun j h1 h2 => (c4 j (by omega)).2.2.1 h1 h2⟩
  by_cases q1 : j = 1
  · subst q1; exact hF.symm
  · by_cases q2 : j = 20
    · subst q2; exact hW.symm
    · exact (c1 j hj q1 q2).symm
/-! trace -/
theorem a_31 (x : Int32) : x &&& 31 = (x + 32) &&& 31 := by
  refine Int32.toBitVec_inj.1 (BitVec.eq_of_toNat_eq ?_)
  rw [Int32.toBitVec_and, Int32.toBitVec_and, BitVec.toNat_and, BitVec.toNat_and, Int32.toBitVec_add, BitVec.toNat_add]
  rw [show (31 : Int32).toBitVec.toNat = 2 ^ 5 - 1 from rfl, show (32 : Int32).toBitVec.toNat = 32 from rfl, Nat.and_two_pow_sub_one_eq_mod, Nat.and_two_pow_sub_one_eq_mod]
  have := x.toBitVec.isLt
  omega
theorem z_tlsub' {x y : Int64} {a b c d : Int} (hx : zrl a b x) (hy : zrl c d y) (h : -9223372036854775808 ≤ a - d ∧ b - c ≤ 9223372036854775807) : (x - y).toInt = x.toInt - y.toInt := by
  obtain ⟨h1, h2⟩ := hx
  obtain ⟨h3, h4⟩ := hy
  rw [Int64.toInt_sub]; exact z_bml (by omega) (by omega)
theorem v_trace (h : zNow B σ μ) (hB : B.1 ≤ 1000000000000000) {x : Int32} : zp2 (fX11_trace σ x) (fX12_trace μ x) (fun r r' => r.2 = r'.2) := by
  obtain ⟨s1, s2, s3, s4, s5⟩ := h.1.2.2.2.2.2.1
  unfold fX11_trace fX12_trace fX1_stepBack fX1_stepBack_10 fX1_stepBack_30 fX12_trace_27 fX12_trace_50
  refine zp2_bvr (fun t1 e1 => ?_)
  have e30 : zgl t1 0 30 = μ.2 0 30 := by rw [e1]; rfl
  have e21 : t1.1 21 = μ.1 21 := by rw [e1]; exact zsi_ne (by decide)
  have c0 : (0 : Int32).toInt = 0 := rfl
  have c32 : (32 : Int32).toInt = 32 := rfl
  refine zp2_within (fun w1 w2 => ?_) (fun w => ?_)
  · have hx := z_wir w1 w2 (zrl_c (lo := 0) (hi := 0) (by decide)) (zrl_c (lo := 31) (hi := 31) (by decide))
    have x0 := hx.1
    have x1 := hx.2
    refine zp2_ifr (fun q => absurd q (by decide)) (fun _ => ?_)
    rw [e30]
    have t1' : (σ.1 9 5 - 1).toInt = (σ.1 9 5).toInt - 1 := z_tsub (a := 0) (b := 31) s3 (zr_c (lo := 1) (hi := 1) (x := 1) (by decide)) (by decide)
    have t2 : ((σ.1 9 5 - 1) - x).toInt = (σ.1 9 5).toInt - 1 - x.toInt := by
      rw [z_tsub (a := -1) (b := 30) (c := 0) (d := 31) ⟨by have := s3.1; omega, by have := s3.2; omega⟩ hx (by decide), t1']
    have key : (((σ.1 9 5 - 1) - x) &&& 31).toInt = ((μ.2 0 30).toInt - 1 - x.toInt) % 32 := by
      have z31 : ((σ.1 9 5 - 1) - x) &&& 31 = (((σ.1 9 5 - 1) - x) + 32) &&& 31 := a_31 _
      have t3 : (((σ.1 9 5 - 1) - x) + 32).toInt = (σ.1 9 5).toInt - 1 - x.toInt + 32 := by
        rw [z_tadd (a := -32) (b := 30) (c := 32) (d := 32) ⟨by have := s3.1; omega, by have := s3.2; omega⟩ (zr_c (by decide)) (by decide), t2, c32]
      rw [z31, z_mask (k := 5) (by have := s3.1; omega) rfl (by decide), t3]
      show ((σ.1 9 5).toInt - 1 - x.toInt + 32) % 32 = _
      omega
    have k0 := Int.emod_nonneg ((μ.2 0 30).toInt - 1 - x.toInt) (b := 32) (by decide)
    have k1 := Int.emod_lt_of_pos ((μ.2 0 30).toInt - 1 - x.toInt) (b := 32) (by decide)
    have kk := z_clamp (x := ((σ.1 9 5 - 1) - x) &&& 31) (by omega)
    have n0 : ¬ x < 0 := zq_lt hx rfl (by decide)
    have n1 : x < 32 := zq_ltt hx rfl (by decide)
    have s5' := s5 (((σ.1 9 5 - 1) - x) &&& 31).toNatClampNeg (by omega)
    refine zp2_bil (P := fun r => r = (σ, σ.1 44 (((σ.1 9 5 - 1) - x) &&& 31).toNatClampNeg)) (zpc_if (fun q => absurd q n0) (fun _ => zpc_if (fun _ => zpc_ck (zpc_some rfl)) (fun q => absurd n1 q))) (fun s1 v e => ?_)
    cases e
    refine zp2_ifr (fun q => ?_) (fun q => ?_)
    · have q1 := z_cmp_lt.mp q
      rw [Int32.toInt_toInt64] at q1
      have c1 : (1 : Int64).toInt = 1 := rfl
      have y1 : (μ.2 0 30 - 1).toInt = (μ.2 0 30).toInt - 1 := by
        rw [z_tlsub' (a := 0) (b := 1000000000000000) (c := 1) (d := 1) ⟨s1, by omega⟩ ⟨by rw [c1]; omega, by rw [c1]; omega⟩ (by decide), c1]
      have y2 : ((μ.2 0 30 - 1) - x.toInt64).toInt = (μ.2 0 30).toInt - 1 - x.toInt := by
        rw [z_tlsub' (a := -1) (b := 1000000000000000) (c := 0) (d := 31) ⟨by omega, by omega⟩ ⟨by rw [Int32.toInt_toInt64]; omega, by rw [Int32.toInt_toInt64]; omega⟩ (by decide), y1, Int32.toInt_toInt64]
      have y3 : (zreml ((μ.2 0 30 - 1) - x.toInt64) 32).toInt = ((μ.2 0 30).toInt - 1 - x.toInt) % 32 := by
        rw [z_tlrem (a := 0) (b := 1000000000000000) 32 rfl ⟨by omega, by omega⟩ (by decide), y2]
      have y4 : ((zreml ((μ.2 0 30 - 1) - x.toInt64) 32).toInt32).toInt = ((μ.2 0 30).toInt - 1 - x.toInt) % 32 := by
        rw [Int64.toInt_toInt32, y3]
        exact Int.bmod_eq_of_le (by omega) (by omega)
      have e : (zreml ((μ.2 0 30 - 1) - x.toInt64) 32).toInt32 = ((σ.1 9 5 - 1) - x) &&& 31 := Int32.toInt_inj.mp (by rw [y4, key])
      rw [e]
      refine zp2_ckr (zp2_ckr (zp2_some ?_))
      show σ.1 44 _ = t1.1 21 _
      rw [e21]
      refine s5'.1 ?_
      rw [kk, key]
      omega
    · have q1 : ¬ (x.toInt64.toInt < (μ.2 0 30).toInt) := fun z => q (z_cmp_lt.mpr z)
      rw [Int32.toInt_toInt64] at q1
      refine zp2_some ?_
      show σ.1 44 _ = -1
      refine s5'.2 ?_
      rw [kk, key]
      omega
  · have hn := z_nin w (a := 0) (b := 31) rfl rfl
    refine zp2_ifr (fun _ => ?_) (fun q => absurd rfl q)
    refine zp2_bil (P := fun r => r = (σ, -1)) (zpc_if (fun _ => zpc_some rfl) (fun q => zpc_if (fun q1 => ?_) (fun _ => zpc_some rfl))) (fun s1 v e => ?_)
    · have r1 := Int32.le_iff_toInt_le.mp (z_nlt q)
      have r2 := Int32.lt_iff_toInt_lt.mp q1
      exfalso; omega
    · cases e
      exact zp2_some rfl
end ZAV
end ZJN2
section ZJN3
/-! more rows on what is kept -/
theorem zkp_at {α : Type} {g : Nat → α → α} {f : Nat → Nat → α} {f0 : Nat → Nat → α} {k j : Nat} (h0 : f k j = f0 k j) : ∀ {l : List (Nat × Nat × Nat)}, (∀ t ∈ l, t.1 = k → ∀ i : Nat, i < t.2.2 → g t.1 (f t.2.1 i) = f0 t.1 i) → zkp g f k j l = f0 k j
  | [], _ => h0
  | t :: l, h => by
    unfold zkp
    cases q : (Nat.beq t.1 k && Nat.blt j t.2.2) with
    | true =>
      rw [Bool.and_eq_true] at q
      have e : t.1 = k := Nat.eq_of_beq_eq_true q.1
      have z := h t List.mem_cons_self e j (Nat.le_of_ble_eq_true q.2)
      rw [e] at z
      exact z
    | false => exact zkp_at h0 (fun t ht => h t (List.mem_cons_of_mem _ ht))
theorem zpc_fails0' {β : Type} {σ : zSt} {c : Int32} {f : zSt → Int32 → Option β} {Q : β → Prop} (k : ∀ σ1, σ1 = zsi σ 0 0 0 → zpc (f σ1 0) Q) : zpc (zbi (fX12_fails σ 0 c) f) Q := by
  intro b eb
  have h : zp2 (some ()) (zbi (fX12_fails σ 0 c) f) (fun _ b => Q b) := zp2_fails0 (fun σ1 e => fun _ b _ eb => k σ1 e b eb)
  exact h () b rfl eb
theorem zKm_th {μ : zSt} {v : Int32} {k j : Nat} (h : ¬ (k = 0 ∧ j = 0)) : (zKm (zsi μ 0 0 v)).1 k j = (zKm μ).1 k j := by
  have g : ∀ l : List (Nat × Nat × Nat), (∀ t ∈ l, ¬ t.2.1 = 0) → zkp zmb (zsi μ 0 0 v).1 k j l = zkp zmb μ.1 k j l := by
    intro l
    induction l with
    | nil =>
      intro _
      show (zsi μ 0 0 v).1 k j = μ.1 k j
      exact zsi_off h
    | cons t l ih =>
      intro hl
      unfold zkp
      rw [zsi_ne (hl t List.mem_cons_self), ih (fun u hu => hl u (List.mem_cons_of_mem _ hu))]
  exact g zsm (by decide +kernel)
theorem zof_0 {j : Nat} (h : 1 ≤ j) : zof [3, 5, 6, 7, 8, 9] [(0, 0, 0)] 0 1 j = true := by
  show (true && ((!(true) || (Nat.blt 0 1 || Nat.blt j 0)) && true)) = true
  rfl
/-! FRESH STATES; SAVE, RESTORE -/
section ZF4
variable {σ μ s t : zSt} {B : Int × Int × Int} {K : Int}
theorem z_freshN {k c : Int32} {σ4 σ5 σ9 σ1 : zSt} {σ6 : Int32 → zSt} (ec : c = zKd k) (e4 : fX7_clear zS0 = some σ4) (e5 : fX10_clear zS0 = some σ5) (e6 : ∀ v, fX4_clear (zsi (zsi (zsi zS0 6 0 v) 34 10 1) 34 11 1) = some (σ6 v)) (e9 : fJ7_fill_53178_k44 zS0 (-1) = some σ9) (e : fX12_anew (zsi (zsi (zsi (zsi (zsi zS0 0 8 (-1)) 0 3 c) 3 44 0) 3 45 1) 3 46 1) = some σ1) : zNow (0, 0, 0) (zC1 k σ4 σ5 σ6 σ9) σ1 := by
  have a4 := c_clr7 σ4 e4
  have a5 := c_clr10 σ5 e5
  have a6 := c_clr4 (σ6 (if k = 2 then 1 else 0)) (e6 (if k = 2 then 1 else 0))
  have a9 : zQ [44] [] [] [] zS0 σ9 ∧ ∀ j : Nat, j < 32 → σ9.1 44 j = -1 := by
    unfold fJ7_fill_53178_k44 at e9
    exact c_f44 (σ := zS0) zfuel 0 zS0 (by decide) zQ.rf (fun j hj => absurd hj (by omega)) σ9 e9
  have b := m_anewx σ1 e
  have z0 : (0 : Int32).toInt = 0 := rfl
  have k30 : ∀ j, (zC1 k σ4 σ5 σ6 σ9).1 30 j = σ4.1 30 j := fun j => rfl
  have k32 : ∀ j, (zC1 k σ4 σ5 σ6 σ9).1 32 j = σ5.1 32 j := fun j => rfl
  have k34 : ∀ j, (zC1 k σ4 σ5 σ6 σ9).1 34 j = (σ6 (if k = 2 then 1 else 0)).1 34 j := fun j => rfl
  have k40 : ∀ j, (zC1 k σ4 σ5 σ6 σ9).1 40 j = 0 := fun j => (show (zC1 k σ4 σ5 σ6 σ9).1 40 j = σ9.1 40 j from rfl).trans (by rw [a9.1.ro (k := 40) rfl]; rfl)
  have k42 : ∀ j, (zC1 k σ4 σ5 σ6 σ9).1 42 j = 0 := fun j => (show (zC1 k σ4 σ5 σ6 σ9).1 42 j = σ9.1 42 j from rfl).trans (by rw [a9.1.ro (k := 42) rfl]; rfl)
  have k9 : (zC1 k σ4 σ5 σ6 σ9).1 9 5 = 0 := (show (zC1 k σ4 σ5 σ6 σ9).1 9 5 = σ9.1 9 5 from rfl).trans (by rw [a9.1.ro (k := 9) rfl]; rfl)
  have k44 : ∀ j : Nat, j < 32 → (zC1 k σ4 σ5 σ6 σ9).1 44 j = -1 := fun j hj => a9.2 j hj
  have p34 : ∀ j : Nat, 7 ≤ j → j ≤ 11 → (zC1 k σ4 σ5 σ6 σ9).1 34 j = (zsi (zsi (zsi zS0 6 0 (if k = 2 then 1 else 0)) 34 10 1) 34 11 1).1 34 j := fun j h1 h2 => by
    rw [k34, a6.1.o (k := 34) (a := 7) (b := 11) rfl h1 h2]
  have kd : zRk (zC1 k σ4 σ5 σ6 σ9) (zsi (zsi (zsi (zsi (zsi zS0 0 8 (-1)) 0 3 c) 3 44 0) 3 45 1) 3 46 1) := by
    have q : (zsi (zsi (zsi (zsi (zsi zS0 0 8 (-1)) 0 3 c) 3 44 0) 3 45 1) 3 46 1).1 0 3 = zKd k := ec
    have f2 : (if zKd k = 2 then (1 : Int32) else 0) = (if k = 2 then 1 else 0) := by
      unfold zKd
      by_cases h1 : k = 1
      · rw [if_pos h1, h1]
      · rw [if_neg h1]
        by_cases h2 : k = 2
        · rw [if_pos h2, h2]
        · rw [if_neg h2, if_neg h2]; rfl
    have f1 : (if zKd k = 1 then (313 : Int32) else 262) = (if k = 1 then 313 else 262) := by
      unfold zKd
      by_cases h1 : k = 1
      · rw [if_pos h1, h1]
      · rw [if_neg h1, if_neg h1]
        by_cases h2 : k = 2
        · rw [if_pos h2, h2]; rfl
        · rw [if_neg h2]; rfl
    unfold zRk
    rw [q]
    refine ⟨zKd_r k, ?_, ?_, ?_, ?_, ?_⟩
    · rw [f2]; rfl
    · rw [f2]; rfl
    · rw [f2]; rfl
    · rw [f2]
      have z := a6.1.ro (k := 6) rfl
      show (σ6 (if k = 2 then 1 else 0)).1 6 0 = _
      rw [z]
      rfl
    · rw [f1]; rfl
  have pr : zPr (0, 0, 0) (zC1 k σ4 σ5 σ6 σ9) (zsi (zsi (zsi (zsi (zsi zS0 0 8 (-1)) 0 3 c) 3 44 0) 3 45 1) 3 46 1) := by
    refine ⟨fun j hj => ?_, ⟨rfl, rfl, rfl, rfl, fun j hj => ?_, fun hj => ?_⟩, fun j j1 j2 => ?_, ⟨?_, ?_, ?_, ?_, Or.inl rfl⟩, Or.inl ⟨rfl, rfl⟩, ⟨fun i hi => ?_, fun i hi => ?_, fun i hi => ?_, fun i hi => rfl⟩, ⟨⟨?_, ?_, fun j h1 h2 => ?_⟩, ?_⟩, kd, ⟨?_, ?_, ?_, fun k r hk hr => ?_, fun k hk => ?_⟩, ⟨?_, ?_, ?_, ?_, fun j hj => ⟨fun q => ?_, fun _ => k44 j hj⟩⟩, ⟨rfl, rfl, rfl, ?_, ?_⟩⟩
    · show (0 : Int32) = 0 &&& 255
      decide
    · have hj : (j : Int) < (0 : Int32).toInt := hj
      rw [z0] at hj
      exfalso; omega
    · have hj : 0 ≤ (-1 : Int32).toInt := hj
      exact absurd hj (by decide)
    · have j2 : (j : Int) < 16384 * (0 : Int32).toInt := j2
      rw [z0] at j2
      exfalso; omega
    · exact zr_c (x := 0) (by decide)
    · exact zr_c (x := 0) (by decide)
    · exact zr_c (x := 0) (by decide)
    · exact zr_c (x := 0) (by decide)
    · rw [p34 (7 + i) (by omega) (by omega)]
      rcases (show i = 0 ∨ i = 1 ∨ i = 2 ∨ i = 3 ∨ i = 4 by omega) with rfl | rfl | rfl | rfl | rfl <;> rfl
    · rw [k40]
      rcases (show i = 0 ∨ i = 1 ∨ i = 2 ∨ i = 3 ∨ i = 4 ∨ i = 5 ∨ i = 6 ∨ i = 7 by omega) with rfl | rfl | rfl | rfl | rfl | rfl | rfl | rfl <;> rfl
    · rw [k40]
      obtain rfl : i = 0 := by omega
      rfl
    · rw [p34 7 (by decide) (by decide)]; exact zr_c (x := 0) (by decide)
    · rw [p34 8 (by decide) (by decide)]; exact zr_c (x := 0) (by decide)
    · rw [p34 j (by omega) h2]
      rcases (show j = 9 ∨ j = 10 ∨ j = 11 by omega) with rfl | rfl | rfl
      · exact zr_c (x := 0) (by decide)
      · exact zr_c (x := 1) (by decide)
      · exact zr_c (x := 1) (by decide)
    · rw [k40]; exact zr_c (by decide)
    · rw [k42]; rfl
    · exact zr_c (x := 0) (by decide)
    · rw [k42]; exact zr_c (by decide)
    · have hk : (k : Int) < (0 : Int32).toInt := hk
      rw [z0] at hk
      exfalso; omega
    · have hk : (k : Int) < (0 : Int32).toInt := hk
      rw [z0] at hk
      exfalso; omega
    · exact (by decide : 0 ≤ (0 : Int64).toInt)
    · exact (by decide : (0 : Int64).toInt ≤ 0)
    · rw [k9]; exact zr_c (by decide)
    · rw [k9]
      exact (by decide : (0 : Int32).toInt = (0 : Int64).toInt % 32)
    · have q : (j : Int) < (0 : Int64).toInt := q
      rw [show (0 : Int64).toInt = 0 from rfl] at q
      exfalso; omega
    · exact (by decide : 0 ≤ (0 : Int64).toInt)
    · exact (by decide : (0 : Int64).toInt ≤ 0)
  have cx : zCx (zC1 k σ4 σ5 σ6 σ9) (zC1 k σ4 σ5 σ6 σ9) := by
    refine ⟨zQ.rf, ⟨rfl, rfl, ?_, rfl⟩, fun j hj => rfl, fun j hj => rfl, fun j hj => ?_, fun j hj => ?_, ?_, ?_, fun j hj => ?_⟩
    · show (2 : Int32) = if (0 : Int32) = 2 then 0 else 2
      rw [if_neg (by decide)]
    · rw [k30]; exact a4.2 j hj
    · rw [k32]; exact a5.2.1 j hj
    · rw [k32]; exact a5.2.2
    · rw [k34, k34, k34, k34, k34, k34, k34]; exact a6.2
    · show (zsi (zsi zS0 7 4 6) 36 18 57328).1 36 j = _
      by_cases z : j = 18
      · rw [z, zsi_ej, if_pos rfl]
      · rw [zsi_nj z, if_neg z]; rfl
  refine pr.rst cx b.x (fun j hj => ?_)
  rw [b.1.ro (k := 5) rfl]
  show (0 : Int32) = 0 &&& 255
  decide
theorem z_freshA {k c : Int32} {σ4 σ5 σ9 σ1 : zSt} {σ6 : Int32 → zSt} (ec : c = zKd k) (e4 : fX7_clear zS0 = some σ4) (e5 : fX10_clear zS0 = some σ5) (e6 : ∀ v, fX4_clear (zsi (zsi (zsi zS0 6 0 v) 34 10 1) 34 11 1) = some (σ6 v)) (e9 : fJ7_fill_53178_k44 zS0 (-1) = some σ9) (e : fX12_anew (zsi (zsi (zsi (zsi (zsi zS0 0 8 (-1)) 0 3 c) 3 44 0) 3 45 1) 3 46 1) = some σ1) : zAll 0 (zC1 k σ4 σ5 σ6 σ9) σ1 := ⟨⟨(0, 0, 0), Int.le_refl _, z_freshN ec e4 e5 e6 e9 e⟩, z_fresh6 e, fun q => absurd rfl q⟩
/-! save, restore -/
theorem g_save (h : zAll K σ μ) : zp2 (fX11_save σ ) (fX12_save μ ) (zAll K) := by
  unfold fX12_save
  refine zp2_bvr (fun t1 e1 => zp2_ckr (zp2_bvr (fun t2 e2 => ?_)))
  intro a b ea eb
  have ha := k_save a ea
  have hb := m_save' (μ := t2) b eb
  obtain ⟨C, hC, n⟩ := h.1
  obtain ⟨b0, w3, w4, w5, w6, w7, w8, w9⟩ := hb
  have n2 : zNow C σ t2 := by
    rw [e2, e1]
    exact n.kp (zQ.rf (R := []) (A := []) (S := []) (B := [])) (zQ.wi (R := []) (A := [(0, 0, 0), (0, 19, 19)]) (S := []) (B := []) (zQ.wi zQ.rf rfl) rfl) (by decide +kernel) (by decide +kernel)
  have q1 := (zKept_q (σ := σ)).1
  have q2 : zQ [16, 18, 20, 22, 24, 26, 31, 33, 35, 37, 41, 43, 11, 12] [(0, 11, 11)] [39, 47, 49] [] σ a := by rw [ha]; exact zQ.wi q1 rfl
  have nn : zNow C a b := n2.kp q2 b0 (by decide +kernel) (by decide +kernel)
  have fr : zQ [12, 14, 15, 16, 17, 18] [(0, 0, 0), (0, 19, 19)] [13, 19, 20] [] μ b := by
    have f1 : zQ [12, 14, 15, 16, 17, 18] [(0, 0, 0), (0, 19, 19)] [13, 19, 20] [] μ t2 := by rw [e2, e1]; exact zQ.wi (zQ.wi zQ.rf rfl) rfl
    exact f1.tr b0
  refine ⟨⟨C, hC, nn⟩, ?_, fun _ => ⟨C, hC, ?_⟩⟩
  · -- tape and cartridge
    obtain ⟨h1, h2, h3, h4⟩ := h.2.1
    have k1 : a.1 1 = σ.1 1 := q2.ro (k := 1) rfl
    have kt : ∀ w, a.1 (ztp w) = σ.1 (ztp w) := fun w => by
      rcases z_tp13 w with z | z
      · rw [z]; exact q2.ro (k := 13) rfl
      · rw [z]; exact q2.ro (k := 14) rfl
    have g0 : ∀ j : Nat, 1 ≤ j → j ≤ 18 → b.1 0 j = μ.1 0 j := fun j h1 h2 => fr.o (k := 0) (a := 1) (b := 18) rfl h1 h2
    refine ⟨?_, fun j hj => ?_, ?_, ?_⟩
    · rw [k1, g0 2 (by decide) (by decide)]; exact h1
    · rw [g0 2 (by decide) (by decide)] at hj
      rw [k1, kt, fr.ro (k := 1) rfl]
      exact h2 j hj
    · rw [k1]; exact h3
    · exact h4.keep (fun j _ => by rw [k1]) (kt _) (fun j hj => g0 j (by revert hj; simp only [List.mem_cons, List.not_mem_nil, or_false]; omega) (by revert hj; simp only [List.mem_cons, List.not_mem_nil, or_false]; omega)) (fr.ro (k := 2) rfl)
  · -- what was kept
    have kc : zQ [16, 18, 20, 22, 24, 26, 31, 33, 35, 37, 41, 43, 11, 12] [(0, 11, 11)] [39, 47, 49] [] σ (zKc a) := by rw [ha]; exact zKept_k
    have n3 : zNow C (zKc a) t2 := n2.kp kc (zQ.rf (R := []) (A := []) (S := []) (B := [])) (by decide +kernel) (by decide +kernel)
    have vm : ∀ p ∈ zsm, ∀ i : Nat, i < p.2.2 → ¬ (5 ≤ p.1 ∧ p.1 ≤ 8) → zmb p.1 (b.1 p.2.1 i) = t2.1 p.1 i := by
      unfold zsm
      exact List.forall_mem_cons.2 ⟨fun i hi _ => w9 i hi, List.forall_mem_cons.2 ⟨fun i hi q => absurd ⟨by decide, by decide⟩ q, List.forall_mem_cons.2 ⟨fun i hi q => absurd ⟨by decide, by decide⟩ q, List.forall_mem_cons.2 ⟨fun i hi q => absurd ⟨by decide, by decide⟩ q, List.forall_mem_cons.2 ⟨fun i hi q => absurd ⟨by decide, by decide⟩ q, List.forall_mem_cons.2 ⟨fun i hi _ => w3 i hi, fun _ h => absurd h List.not_mem_nil⟩⟩⟩⟩⟩⟩
    have fm : zQ [5, 6, 7, 8, 12, 14, 15, 16, 17, 18] [(0, 0, 0), (0, 19, 19)] [13, 19, 20] [] t2 (zKm b) := by
      refine ⟨fun k j c => ?_, fun k j c => ?_⟩
      · by_cases q : 5 ≤ k ∧ k ≤ 8
        · rcases (show k = 5 ∨ k = 6 ∨ k = 7 ∨ k = 8 by omega) with rfl | rfl | rfl | rfl <;> exact Bool.noConfusion (show true = false from c)
        · have b0' := (b0.mono (R' := [5, 6, 7, 8, 12, 14, 15, 16, 17, 18]) (A' := [(0, 0, 0), (0, 19, 19)]) (S' := [13, 19, 20]) (B' := []) rfl rfl).1 k j c
          refine zkp_at (k := k) b0' (fun p hp e i hi => ?_)
          have z := vm p hp i hi (fun y => q (by rw [← e]; exact y))
          exact z
      · refine zkp_of (b0.2 k j c) (fun p hp i hi => ?_)
        rw [List.mem_singleton] at hp
        subst hp
        exact w4 i hi
    refine n3.msk fm (fun j hj => ?_) (fun j hj => ?_) (fun j hj => ?_) (fun j hj => ?_)
    · rw [zKm_5 hj, z_nar, w5 j hj, z_nar]
    · rw [zKm_6 hj, z_nar, w6 j hj, z_nar]
    · rw [zKm_7 hj, z_nar, w7 j hj, z_nar]
    · rw [zKm_8 hj, z_nar, w8 j hj, z_nar]
theorem g_restore (h : zAll K σ μ) (hf : σ.1 0 11 = 0 ↔ μ.1 0 19 = 0) : zp2 (fX11_restore σ ) (fX12_restore μ ) (fun r r' => zAll K (zRus r) r') := by
  by_cases q : σ.1 0 11 = 0
  · unfold fX11_restore fX12_restore fX12_restore_13
    refine zp2_ifl (fun _ => ?_) (fun z => absurd q z)
    refine zp2_ifr (fun _ => ?_) (fun z => absurd (hf.mp q) z)
    refine zp2_fails1 (fun t1 e1 => zp2_ifr (fun z => absurd z (by decide)) (fun _ => zp2_some ?_))
    obtain ⟨C, hC, n⟩ := h.1
    rw [e1]
    refine ⟨⟨C, hC, n.th⟩, h.2.1.thr rfl, fun z => absurd q z⟩
  · intro a b ea eb
    have ha := c_restore q a ea
    subst ha
    obtain ⟨C, hC, n⟩ := h.2.2 q
    obtain ⟨C0, hC0, n0⟩ := h.1
    have nq : ¬ μ.1 0 19 = 0 := fun z => q (hf.mpr z)
    obtain ⟨k1, k2⟩ : zQ [] [(0, 0, 0)] [10, 11] [] (zKm μ) b ∧ zQ [3, 5, 6, 7, 8, 9] [(0, 0, 0)] [4, 10, 11] [] μ b := by
      have hb : zpc (fX12_restore μ ) (fun r => zQ [] [(0, 0, 0)] [10, 11] [] (zKm μ) r ∧ zQ [3, 5, 6, 7, 8, 9] [(0, 0, 0)] [4, 10, 11] [] μ r) := by
        unfold fX12_restore fX12_restore_13
        refine zpc_if (fun z => absurd z nq) (fun _ => zpc_fails0' (fun t1 e1 => zpc_if (fun _ => ?_) (fun z => absurd rfl z)))
        refine zpc_mono (zpc_and m_back m_backf) (fun r p => ?_)
        have f0 : zQ [] [(0, 0, 0)] [10, 11] [] (zKm μ) (zKm t1) := by
          rw [e1]
          exact ⟨fun k j c => zKm_th (fun z => by rw [z.1, z.2] at c; cases c), fun k j _ => rfl⟩
        have f1 : zQ [3, 5, 6, 7, 8, 9] [(0, 0, 0)] [4, 10, 11] [] μ t1 := by rw [e1]; exact zQ.wi zQ.rf rfl
        exact ⟨f0.tr (p.1.mono rfl rfl), f1.tr (p.2.mono rfl rfl)⟩
      exact hb b eb
    have nn : zNow C (zBack σ) b := n.kp zBack_k k1 (by decide +kernel) (by decide +kernel)
    have q1 := (zBack_q (σ := σ)).1
    have e0 : (zBack σ).1 0 11 = σ.1 0 11 := q1.o (k := 0) (a := 11) (b := 11) rfl (by decide) (by decide)
    have c1 : (zBack σ).1 1 = σ.1 1 := q1.ro (k := 1) rfl
    have kt : ∀ w, (zBack σ).1 (ztp w) = σ.1 (ztp w) := fun w => by
      rcases z_tp13 w with z | z
      · rw [z]; exact q1.ro (k := 13) rfl
      · rw [z]; exact q1.ro (k := 14) rfl
    have g0 : ∀ j : Nat, 1 ≤ j → b.1 0 j = μ.1 0 j := fun j h1 => k2.o (k := 0) (a := 1) (b := j) (zof_0 h1) h1 (Nat.le_refl _)
    show zAll K (zBack σ) b
    refine zAll.go (B := (K, 0, 0)) h (Int.le_refl _) hC nn ?_ (fun z => ⟨by rw [← e0]; exact z, ?_, q1.rlo (k := 39) rfl, ?_, k2.rlo (k := 13) rfl, g0 3 (by decide)⟩)
    · obtain ⟨h1, h2, h3, h4⟩ := h.2.1
      refine ⟨?_, fun j hj => ?_, ?_, ?_⟩
      · rw [c1, g0 2 (by decide)]; exact h1
      · rw [g0 2 (by decide)] at hj
        rw [c1, kt, k2.ro (k := 1) rfl]
        exact h2 j hj
      · rw [c1]; exact h3
      · exact h4.keep (fun j _ => by rw [c1]) (kt _) (fun j hj => g0 j (by revert hj; simp only [List.mem_cons, List.not_mem_nil, or_false]; omega)) (k2.ro (k := 2) rfl)
    · unfold zsv
      exact List.forall_mem_cons.2 ⟨q1.ro (k := 43) rfl, List.forall_mem_cons.2 ⟨q1.ro (k := 41) rfl, List.forall_mem_cons.2 ⟨q1.ro (k := 37) rfl, List.forall_mem_cons.2 ⟨q1.ro (k := 35) rfl, List.forall_mem_cons.2 ⟨q1.ro (k := 33) rfl, List.forall_mem_cons.2 ⟨q1.ro (k := 31) rfl, List.forall_mem_cons.2 ⟨q1.ro (k := 26) rfl, List.forall_mem_cons.2 ⟨q1.ro (k := 24) rfl, List.forall_mem_cons.2 ⟨q1.ro (k := 22) rfl, List.forall_mem_cons.2 ⟨q1.ro (k := 20) rfl, List.forall_mem_cons.2 ⟨q1.ro (k := 18) rfl, List.forall_mem_cons.2 ⟨q1.ro (k := 16) rfl, fun _ h => absurd h List.not_mem_nil⟩⟩⟩⟩⟩⟩⟩⟩⟩⟩⟩⟩
    · unfold zsm
      exact List.forall_mem_cons.2 ⟨k2.ro (k := 18) rfl, List.forall_mem_cons.2 ⟨k2.ro (k := 17) rfl, List.forall_mem_cons.2 ⟨k2.ro (k := 16) rfl, List.forall_mem_cons.2 ⟨k2.ro (k := 15) rfl, List.forall_mem_cons.2 ⟨k2.ro (k := 14) rfl, List.forall_mem_cons.2 ⟨k2.ro (k := 12) rfl, fun _ h => absurd h List.not_mem_nil⟩⟩⟩⟩⟩⟩
end ZF4
end ZJN3
section ZJN4
/-! EVERY CALL KEEPS THE WHOLE RELATION -/
section ZG5
variable {K K0 n k s : Int} {σ μ : zSt} {o : Nat → Int64}
theorem zAll.mono {K K' : Int} (h : zAll K σ μ) (c : K ≤ K') : zAll K' σ μ := by
  obtain ⟨⟨C, hC, a⟩, b, d⟩ := h
  refine ⟨⟨C, Int.le_trans hC c, a⟩, b, fun q => ?_⟩
  obtain ⟨D, hD, e⟩ := d q
  exact ⟨D, Int.le_trans hD c, e⟩
theorem zRM.pic (h : zRM K0 n k s μ) : (μ.2 4 2).toInt ≤ 268435456 := by
  obtain ⟨c, G, i, a, b, e0, e1, e2⟩ := h
  have q : (μ.2 4 2).toInt = G 101 := i.fl 1 (4, 2) rfl
  have z := a.2.2.2.2.1
  omega
theorem zRM.svd (h : zRM K0 n k s μ) : (μ.1 0 19).toInt = s := by
  obtain ⟨c, G, i, a, b, e0, e1, e2⟩ := h
  exact Eq.trans (i.at 2 (by decide)) e2
theorem zRC.svd {k' : Int} (h : zRC n k' s σ) : (σ.1 0 11).toInt = s := by
  obtain ⟨H, i, e0, e1, e2⟩ := h
  exact Eq.trans (i.fz 1 (0, 11) rfl) e2
theorem z_flag {k' : Int} (a : zRM K0 n k s μ) (b : zRC n k' s σ) : σ.1 0 11 = 0 ↔ μ.1 0 19 = 0 := by
  have x := a.svd
  have y := b.svd
  rw [← Int32.toInt_inj, ← Int32.toInt_inj, x, y]
theorem g_feed (h : zAll K σ μ) (hr : zr 0 262656 (zgi μ 0 2)) {x1 : Int32} {x2 : Int64} {x4 : Int64} {x6 : Int64} : zp2 (fX11_feed σ x1 x2 x4 x6) (fX12_feed μ x1 x2 x4 x6) (fun r r' => zAll K (zRis r) (r'.1)) := fun a b ea eb => by
  obtain ⟨C, hC, n⟩ := h.1
  obtain ⟨m, r6⟩ := b_feed n h.2.1 hr a b ea eb
  exact h.tp hC m r6 (fy_fX11_feed zQ.rf a ea) (fY_fX12_feed zQ.rf b eb)
theorem g_grow (h : zAll K σ μ) (hr : zr 0 262656 (zgi μ 0 2)) {x1 : Int32} : zp2 (fX11_grow σ x1) (fX12_grow μ x1) (fun r r' => zAll K (zRis r) (r'.1)) := fun a b ea eb => by
  obtain ⟨C, hC, n⟩ := h.1
  obtain ⟨m, r6⟩ := b_grow n h.2.1 hr a b ea eb
  exact h.tp hC m r6 (fy_fX11_grow zQ.rf a ea) (fY_fX12_grow zQ.rf b eb)
theorem g_patch (h : zAll K σ μ) (hr : zr 0 262656 (zgi μ 0 2)) {x1 : Int32} {x2 : Int64} : zp2 (fX11_patch σ x1 x2) (fX12_patch μ x1 x2) (fun r r' => zAll K (zRus r) r') := fun a b ea eb => by
  obtain ⟨C, hC, n⟩ := h.1
  obtain ⟨m, r6⟩ := b_patch n h.2.1 hr a b ea eb
  exact h.tp hC m r6 (fy_fX11_patch zQ.rf a ea) (fY_fX12_patch zQ.rf b eb)
theorem g_load (h : zAll K σ μ) (hr : zr 0 262656 (zgi μ 0 2)) : zp2 (fX11_load σ ) (fX12_load μ ) (fun r r' => r.2 = r'.2 → zr 0 512 (r.1.1 1 3) → zr 0 262144 (r.1.1 1 4) → zR6 r.1 r'.1 → zAll K r.1 r'.1) := fun a b ea eb e r3 r4 r6 => by
  obtain ⟨C, hC, n⟩ := h.1
  have m := b_load n h.2.1 hr a b ea eb e r3 r4
  refine zAll.go (B := (K, 0, 0)) h (Int.le_refl _) (C := (C.1, C.2.1, 0)) hC m r6 (fun q => ?_)
  have hM := l_load n.pr.2.2.2.1.2.2.2.1 hr b eb
  rcases k_load a ea with ⟨x1, x2⟩ | ⟨_, σa, _, _, _, x5⟩
  · rcases hM with ⟨y1, y2⟩ | ⟨y1, _⟩
    · refine ⟨?_, ?_, x2.rlo (k := 39) rfl, ?_, y2.rlo (k := 13) rfl, y2.o (k := 0) (a := 3) (b := 3) rfl (by decide) (by decide)⟩
      · rw [← x2.o (k := 0) (a := 11) (b := 11) rfl (j := 11) (by decide) (by decide)]; exact q
      · unfold zsv
        exact List.forall_mem_cons.2 ⟨x2.ro (k := 43) rfl, List.forall_mem_cons.2 ⟨x2.ro (k := 41) rfl, List.forall_mem_cons.2 ⟨x2.ro (k := 37) rfl, List.forall_mem_cons.2 ⟨x2.ro (k := 35) rfl, List.forall_mem_cons.2 ⟨x2.ro (k := 33) rfl, List.forall_mem_cons.2 ⟨x2.ro (k := 31) rfl, List.forall_mem_cons.2 ⟨x2.ro (k := 26) rfl, List.forall_mem_cons.2 ⟨x2.ro (k := 24) rfl, List.forall_mem_cons.2 ⟨x2.ro (k := 22) rfl, List.forall_mem_cons.2 ⟨x2.ro (k := 20) rfl, List.forall_mem_cons.2 ⟨x2.ro (k := 18) rfl, List.forall_mem_cons.2 ⟨x2.ro (k := 16) rfl, fun _ h => absurd h List.not_mem_nil⟩⟩⟩⟩⟩⟩⟩⟩⟩⟩⟩⟩
      · unfold zsm
        exact List.forall_mem_cons.2 ⟨y2.ro (k := 18) rfl, List.forall_mem_cons.2 ⟨y2.ro (k := 17) rfl, List.forall_mem_cons.2 ⟨y2.ro (k := 16) rfl, List.forall_mem_cons.2 ⟨y2.ro (k := 15) rfl, List.forall_mem_cons.2 ⟨y2.ro (k := 14) rfl, List.forall_mem_cons.2 ⟨y2.ro (k := 12) rfl, fun _ h => absurd h List.not_mem_nil⟩⟩⟩⟩⟩⟩
    · exact absurd (e.trans y1) x1
  · exact absurd x5 q
theorem g_card (h : zAll K σ μ) {x1 : Int32} : zp2 (fX11_card σ x1) (fX12_card μ x1) (fun r r' => zAll K (zRis r) (r'.1)) := fun a b ea eb => by
  obtain ⟨C, hC, n⟩ := h.1
  exact h.kp (Int.le_refl _) hC (n.kp (fn_fX11_card zQ.rf a ea) (fN_fX12_card zQ.rf b eb) (by decide +kernel) (by decide +kernel)) (fv_fX11_card zQ.rf a ea) (fV_fX12_card zQ.rf b eb)
theorem g_step (h : zAll K σ μ) (hK : K ≤ 900000000000000) (hP : (μ.2 4 2).toInt ≤ 268435456) {x1 : Int32} : zp2 (fX11_step σ x1) (fX12_step μ x1) (fun r r' => zAll (K + 1000000) (zRis r) (r'.1)) := fun a b ea eb => by
  obtain ⟨C, hC, n⟩ := h.1
  obtain ⟨⟨D, hD, m⟩, _⟩ := a_step n (by omega) (by omega) a b ea eb
  exact h.kp (by omega) (show D.1 ≤ K + 1000000 by omega) m (fv_fX11_step zQ.rf a ea) (fV_fX12_step zQ.rf b eb)
theorem g_picture (h : zAll K σ μ) (hK : K ≤ 900000000000000) (hP : (μ.2 4 2).toInt ≤ 268435456) {x1 : Int32} : zp2 (fX11_picture σ x1) (fX12_picture μ x1) (fun r r' => zAll (K + 1000000) (zRis r) (r'.1)) := fun a b ea eb => by
  obtain ⟨C, hC, n⟩ := h.1
  obtain ⟨⟨D, hD, m⟩, _⟩ := a_picture n (by omega) (by omega) a b ea eb
  exact h.kp (by omega) (show D.1 ≤ K + 1000000 by omega) m (fv_fX11_picture zQ.rf a ea) (fV_fX12_picture zQ.rf b eb)
theorem g_reset (h : zAll K σ μ) : zp2 (fX11_reset σ ) (fX12_reset μ ) (fun r r' => zAll K r r') := fun a b ea eb => by
  obtain ⟨C, hC, n⟩ := h.1
  exact h.kp (Int.le_refl _) (C := (C.1, C.2.1, 0)) hC (b_reset n a b ea eb) (fv_fX11_reset zQ.rf a ea) (fV_fX12_reset zQ.rf b eb)
theorem g_pause (h : zAll K σ μ) : zp2 (fX11_pause σ ) (fX12_pause μ ) (fun r r' => zAll K r.1 (r'.1)) := fun a b ea eb => by
  obtain ⟨C, hC, n⟩ := h.1
  exact h.kp (Int.le_refl _) hC (b_pause n a b ea eb) (fv_fX11_pause zQ.rf a ea) (fV_fX12_pause zQ.rf b eb)
theorem g_press (h : zAll K σ μ) {x1 : Int32} {x2 : Int32} : zp2 (fX11_press σ x1 x2) (fX12_press μ x1 x2) (fun r r' => zAll K (zRus r) r') := fun a b ea eb => by
  obtain ⟨C, hC, n⟩ := h.1
  exact h.kp (Int.le_refl _) hC (b_press n a b ea eb) (fv_fX11_press zQ.rf a ea) (fV_fX12_press zQ.rf b eb)
theorem g_start (h : zAll K σ μ) {x1 : Int32} : zp2 (fX11_start σ x1) (fX12_start μ x1) (fun r r' => zAll K r r') := fun a b ea eb => by
  obtain ⟨C, hC, n⟩ := h.1
  exact h.kp (Int.le_refl _) hC (b_start n a b ea eb) (fv_fX11_start zQ.rf a ea) (fV_fX12_start zQ.rf b eb)
theorem g_line (h : zAll K σ μ) {x1 : Int32} {x2 : Int32} : zp2 (fX11_line σ x1 x2) (fX12_line μ x1 x2) (fun r r' => zAll K (zRus r) r') := fun a b ea eb => by
  obtain ⟨C, hC, n⟩ := h.1
  exact h.kp (Int.le_refl _) hC (b_line n a b ea eb) (fv_fX11_line zQ.rf a ea) (fV_fX12_line zQ.rf b eb)
theorem g_plan (h : zAll K σ μ) {x1 : Int32} {x2 : Int32} {x3 : Int32} : zp2 (fX11_plan σ x1 x2 x3) (fX12_plan μ x1 x2 x3) (fun r r' => zAll K (zRis r) (r'.1)) := fun a b ea eb => by
  obtain ⟨C, hC, n⟩ := h.1
  exact h.kp (Int.le_refl _) hC (b_plan n a b ea eb).1 (fv_fX11_plan zQ.rf a ea) (fV_fX12_plan zQ.rf b eb)
theorem g_tell (h : zAll K σ μ) {x1 : Int32} : zp2 (fX11_tell σ x1) (fX12_tell μ x1) (fun r r' => zAll K r.1 (r'.1)) := fun a b ea eb => by
  obtain ⟨C, hC, n⟩ := h.1
  exact h.kp (Int.le_refl _) hC (n.kp (fn_fX11_tell zQ.rf a ea) (fN_fX12_tell zQ.rf b eb) (by decide +kernel) (by decide +kernel)) (fv_fX11_tell zQ.rf a ea) (fV_fX12_tell zQ.rf b eb)
theorem g_text (h : zAll K σ μ) {x1 : Int32} : zp2 (fX11_text σ x1) (fX12_text μ x1) (fun r r' => zAll K (zRls r) (r'.1)) := fun a b ea eb => by
  obtain ⟨C, hC, n⟩ := h.1
  exact h.kp (Int.le_refl _) hC (n.kp (fn_fX11_text zQ.rf a ea) (fN_fX12_text zQ.rf b eb) (by decide +kernel) (by decide +kernel)) (fv_fX11_text zQ.rf a ea) (fV_fX12_text zQ.rf b eb)
theorem g_stop (h : zAll K σ μ) {x1 : Int32} {x2 : Int32} : zp2 (fX11_stop σ x1 x2) (fX12_stop μ x1 x2) (fun r r' => zAll K (zRis r) (r'.1)) := fun a b ea eb => by
  obtain ⟨C, hC, n⟩ := h.1
  exact h.kp (Int.le_refl _) hC (b_stop n a b ea eb) (fv_fX11_stop zQ.rf a ea) (fV_fX12_stop zQ.rf b eb)
theorem g_register (h : zAll K σ μ) {x1 : Int32} : zp2 (fX11_register σ x1) (fX12_register μ x1) (fun r r' => zAll K (zRis r) (r'.1)) := fun a b ea eb => by
  obtain ⟨C, hC, n⟩ := h.1
  exact h.kp (Int.le_refl _) hC (n.kp (fn_fX11_register zQ.rf a ea) (fN_fX12_register zQ.rf b eb) (by decide +kernel) (by decide +kernel)) (fv_fX11_register zQ.rf a ea) (fV_fX12_register zQ.rf b eb)
theorem g_set (h : zAll K σ μ) {x1 : Int32} {x2 : Int32} : zp2 (fX11_set σ x1 x2) (fX12_set μ x1 x2) (fun r r' => zAll K (zRus r) r') := fun a b ea eb => by
  obtain ⟨C, hC, n⟩ := h.1
  exact h.kp (Int.le_refl _) hC (b_set n a b ea eb) (fv_fX11_set zQ.rf a ea) (fV_fX12_set zQ.rf b eb)
theorem g_peek (h : zAll K σ μ) {x1 : Int32} : zp2 (fX11_peek σ x1) (fX12_peek μ x1) (fun r r' => zAll K r.1 (r'.1)) := fun a b ea eb => by
  obtain ⟨C, hC, n⟩ := h.1
  exact h.kp (Int.le_refl _) hC (n.kp (fn_fX11_peek zQ.rf a ea) (fN_fX12_peek zQ.rf b eb) (by decide +kernel) (by decide +kernel)) (fv_fX11_peek zQ.rf a ea) (fV_fX12_peek zQ.rf b eb)
theorem g_poke (h : zAll K σ μ) {x1 : Int32} {x2 : Int32} : zp2 (fX11_poke σ x1 x2) (fX12_poke μ x1 x2) (fun r r' => zAll K r r') := fun a b ea eb => by
  obtain ⟨C, hC, n⟩ := h.1
  exact h.kp (Int.le_refl _) hC (b_poke n a b ea eb) (fv_fX11_poke zQ.rf a ea) (fV_fX12_poke zQ.rf b eb)
theorem g_in (h : zAll K σ μ) {x1 : Int32} : zp2 (fX11_in σ x1) (fX12_in μ x1) (fun r r' => zAll K r.1 (r'.1)) := fun a b ea eb => by
  obtain ⟨C, hC, n⟩ := h.1
  exact h.kp (Int.le_refl _) hC (b_in n a b ea eb).1 (fv_fX11_in zQ.rf a ea) (fV_fX12_in zQ.rf b eb)
theorem g_out (h : zAll K σ μ) {x1 : Int32} {x2 : Int32} : zp2 (fX11_out σ x1 x2) (fX12_out μ x1 x2) (fun r r' => zAll K r r') := fun a b ea eb => by
  obtain ⟨C, hC, n⟩ := h.1
  exact h.kp (Int.le_refl _) hC (b_out n a b ea eb) (fv_fX11_out zQ.rf a ea) (fV_fX12_out zQ.rf b eb)
theorem g_battery (h : zAll K σ μ) {x1 : Int32} : zp2 (fX11_battery σ x1) (fX12_battery μ x1) (fun r r' => zAll K (zRis r) (r'.1)) := fun a b ea eb => by
  obtain ⟨C, hC, n⟩ := h.1
  exact h.kp (Int.le_refl _) hC (n.kp (fn_fX11_battery zQ.rf a ea) (fN_fX12_battery zQ.rf b eb) (by decide +kernel) (by decide +kernel)) (fv_fX11_battery zQ.rf a ea) (fV_fX12_battery zQ.rf b eb)
theorem g_wipe (h : zAll K σ μ) : zp2 (fX11_wipe σ ) (fX12_wipe μ ) (fun r r' => zAll K r r') := fun a b ea eb => by
  obtain ⟨C, hC, n⟩ := h.1
  exact h.kp (Int.le_refl _) hC (b_wipe n a b ea eb) (fv_fX11_wipe zQ.rf a ea) (fV_fX12_wipe zQ.rf b eb)
theorem g_video (h : zAll K σ μ) {x1 : Int32} : zp2 (fX11_video σ x1) (fX12_video μ x1) (fun r r' => zAll K r.1 (r'.1)) := fun a b ea eb => by
  obtain ⟨C, hC, n⟩ := h.1
  exact h.kp (Int.le_refl _) hC (n.kp (fn_fX11_video zQ.rf a ea) (fN_fX12_video zQ.rf b eb) (by decide +kernel) (by decide +kernel)) (fv_fX11_video zQ.rf a ea) (fV_fX12_video zQ.rf b eb)
theorem g_chip (h : zAll K σ μ) {x1 : Int32} : zp2 (fX11_chip σ x1) (fX12_chip μ x1) (fun r r' => zAll K (zRis r) (r'.1)) := fun a b ea eb => by
  obtain ⟨C, hC, n⟩ := h.1
  exact h.kp (Int.le_refl _) hC (n.kp (fn_fX11_chip zQ.rf a ea) (fN_fX12_chip zQ.rf b eb) (by decide +kernel) (by decide +kernel)) (fv_fX11_chip zQ.rf a ea) (fV_fX12_chip zQ.rf b eb)
theorem g_dot (h : zAll K σ μ) {x1 : Int32} {x2 : Int32} : zp2 (fX11_dot σ x1 x2) (fX12_dot μ x1 x2) (fun r r' => zAll K (zRis r) (r'.1)) := fun a b ea eb => by
  obtain ⟨C, hC, n⟩ := h.1
  exact h.kp (Int.le_refl _) hC (n.kp (fn_fX11_dot zQ.rf a ea) (fN_fX12_dot zQ.rf b eb) (by decide +kernel) (by decide +kernel)) (fv_fX11_dot zQ.rf a ea) (fV_fX12_dot zQ.rf b eb)
theorem g_row (h : zAll K σ μ) {x1 : Int32} : zp2 (fX11_row σ x1) (fX12_row μ x1) (fun r r' => zAll K (zRis r) (r'.1)) := fun a b ea eb => by
  obtain ⟨C, hC, n⟩ := h.1
  exact h.kp (Int.le_refl _) hC (n.kp (fn_fX11_row zQ.rf a ea) (fN_fX12_row zQ.rf b eb) (by decide +kernel) (by decide +kernel)) (fv_fX11_row zQ.rf a ea) (fV_fX12_row zQ.rf b eb)
theorem g_hear (h : zAll K σ μ) : zp2 (fX11_hear σ ) (fX12_hear μ ) (fun r r' => zAll K (zRls r) (r'.1)) := fun a b ea eb => by
  obtain ⟨C, hC, n⟩ := h.1
  exact h.kp (Int.le_refl _) hC (n.kp (fn_fX11_hear zQ.rf a ea) (fN_fX12_hear zQ.rf b eb) (by decide +kernel) (by decide +kernel)) (fv_fX11_hear zQ.rf a ea) (fV_fX12_hear zQ.rf b eb)
theorem g_mix (h : zAll K σ μ) : zp2 (fX11_mix σ ) (fX12_mix μ ) (fun r r' => zAll K (zRls r) (r'.1)) := fun a b ea eb => by
  obtain ⟨C, hC, n⟩ := h.1
  exact h.kp (Int.le_refl _) hC (n.kp (fn_fX11_mix zQ.rf a ea) (fN_fX12_mix zQ.rf b eb) (by decide +kernel) (by decide +kernel)) (fv_fX11_mix zQ.rf a ea) (fV_fX12_mix zQ.rf b eb)
theorem g_wave (h : zAll K σ μ) {x1 : Int32} : zp2 (fX11_wave σ x1) (fX12_wave μ x1) (fun r r' => zAll K (zRis r) (r'.1)) := fun a b ea eb => by
  obtain ⟨C, hC, n⟩ := h.1
  exact h.kp (Int.le_refl _) hC (n.kp (fn_fX11_wave zQ.rf a ea) (fN_fX12_wave zQ.rf b eb) (by decide +kernel) (by decide +kernel)) (fv_fX11_wave zQ.rf a ea) (fV_fX12_wave zQ.rf b eb)
theorem g_sound (h : zAll K σ μ) {x1 : Int32} : zp2 (fX11_sound σ x1) (fX12_sound μ x1) (fun r r' => zAll K (zRis r) (r'.1)) := fun a b ea eb => by
  obtain ⟨C, hC, n⟩ := h.1
  exact h.kp (Int.le_refl _) hC (n.kp (fn_fX11_sound zQ.rf a ea) (fN_fX12_sound zQ.rf b eb) (by decide +kernel) (by decide +kernel)) (fv_fX11_sound zQ.rf a ea) (fV_fX12_sound zQ.rf b eb)
theorem g_trace (h : zAll K σ μ) {x1 : Int32} : zp2 (fX11_trace σ x1) (fX12_trace μ x1) (fun r r' => zAll K r.1 (r'.1)) := fun a b ea eb => by
  obtain ⟨C, hC, n⟩ := h.1
  exact h.kp (Int.le_refl _) hC (n.kp (fn_fX11_trace zQ.rf a ea) (fN_fX12_trace zQ.rf b eb) (by decide +kernel) (by decide +kernel)) (fv_fX11_trace zQ.rf a ea) (fV_fX12_trace zQ.rf b eb)
theorem g_look (h : zAll K σ μ) {x1 : Int32} : zp2 (fX11_look σ x1) (fX12_look μ x1) (fun r r' => zAll K (zRls r) (r'.1)) := fun a b ea eb => by
  obtain ⟨C, hC, n⟩ := h.1
  exact h.kp (Int.le_refl _) hC (n.kp (fn_fX11_look zQ.rf a ea) (fN_fX12_look zQ.rf b eb) (by decide +kernel) (by decide +kernel)) (fv_fX11_look zQ.rf a ea) (fV_fX12_look zQ.rf b eb)
theorem r_feed (h : zAll K σ μ) (hr : zr 0 262656 (zgi μ 0 2)) {x1 : Int32} {x2 : Int64} {x4 : Int64} {x6 : Int64} : zp2 (fL_feed o σ x1 x2 x4 x6) (fX12_feed μ x1 x2 x4 x6) (fun r r' => zAll K (r.1.2) (r'.1)) := by
  unfold fL_feed
  exact zp2_hi (I := fun s (r' : zSt × Int32) => zAll K s (r'.1)) (fun _ _ _ h => zh2_st h) (g_feed h hr)
theorem r_grow (h : zAll K σ μ) (hr : zr 0 262656 (zgi μ 0 2)) {x1 : Int32} : zp2 (fL_grow o σ x1) (fX12_grow μ x1) (fun r r' => zAll K (r.1.2) (r'.1)) := by
  unfold fL_grow
  exact zp2_hi (I := fun s (r' : zSt × Int32) => zAll K s (r'.1)) (fun _ _ _ h => zh2_st h) (g_grow h hr)
theorem r_patch (h : zAll K σ μ) (hr : zr 0 262656 (zgi μ 0 2)) {x1 : Int32} {x2 : Int64} : zp2 (fL_patch σ x1 x2) (fX12_patch μ x1 x2) (fun r r' => zAll K (r.1) (r')) := by
  unfold fL_patch
  exact zp2_hu (I := fun s (r' : zSt) => zAll K s (r')) (fun _ _ _ h => zh1_st h) (g_patch h hr)
theorem r_card (h : zAll K σ μ) {x1 : Int32} : zp2 (fL_card o σ x1) (fX12_card μ x1) (fun r r' => zAll K (r.1.2) (r'.1)) := by
  unfold fL_card
  exact zp2_hi (I := fun s (r' : zSt × Int32) => zAll K s (r'.1)) (fun _ _ _ h => zh1_st h) (g_card h)
theorem r_step (h : zAll K σ μ) (hK : K ≤ 900000000000000) (hP : (μ.2 4 2).toInt ≤ 268435456) {x1 : Int32} : zp2 (fL_step o σ x1) (fX12_step μ x1) (fun r r' => zAll (K + 1000000) (r.1.2) (r'.1)) := by
  unfold fL_step
  exact zp2_hi (I := fun s (r' : zSt × Int32) => zAll (K + 1000000) s (r'.1)) (fun _ _ _ h => zh1_st h) (g_step h hK hP)
theorem r_picture (h : zAll K σ μ) (hK : K ≤ 900000000000000) (hP : (μ.2 4 2).toInt ≤ 268435456) {x1 : Int32} : zp2 (fL_picture o σ x1) (fX12_picture μ x1) (fun r r' => zAll (K + 1000000) (r.1.2) (r'.1)) := by
  unfold fL_picture
  exact zp2_hi (I := fun s (r' : zSt × Int32) => zAll (K + 1000000) s (r'.1)) (fun _ _ _ h => zh1_st h) (g_picture h hK hP)
theorem r_press (h : zAll K σ μ) {x1 : Int32} {x2 : Int32} : zp2 (fL_press σ x1 x2) (fX12_press μ x1 x2) (fun r r' => zAll K (r.1) (r')) := by
  unfold fL_press
  exact zp2_hu (I := fun s (r' : zSt) => zAll K s (r')) (fun _ _ _ h => zh1_st h) (g_press h)
theorem r_line (h : zAll K σ μ) {x1 : Int32} {x2 : Int32} : zp2 (fL_line σ x1 x2) (fX12_line μ x1 x2) (fun r r' => zAll K (r.1) (r')) := by
  unfold fL_line
  exact zp2_hu (I := fun s (r' : zSt) => zAll K s (r')) (fun _ _ _ h => zh1_st h) (g_line h)
theorem r_plan (h : zAll K σ μ) {x1 : Int32} {x2 : Int32} {x3 : Int32} : zp2 (fL_plan o σ x1 x2 x3) (fX12_plan μ x1 x2 x3) (fun r r' => zAll K (r.1.2) (r'.1)) := by
  unfold fL_plan
  exact zp2_hi (I := fun s (r' : zSt × Int32) => zAll K s (r'.1)) (fun _ _ _ h => zh2_st h) (g_plan h)
theorem r_text (h : zAll K σ μ) {x1 : Int32} : zp2 (fL_text o σ x1) (fX12_text μ x1) (fun r r' => zAll K (r.1.2) (r'.1)) := by
  unfold fL_text
  exact zp2_hl (I := fun s (r' : zSt × Int64) => zAll K s (r'.1)) (fun _ _ _ h => zh1_st h) (g_text h)
theorem r_stop (h : zAll K σ μ) {x1 : Int32} {x2 : Int32} : zp2 (fL_stop o σ x1 x2) (fX12_stop μ x1 x2) (fun r r' => zAll K (r.1.2) (r'.1)) := by
  unfold fL_stop
  exact zp2_hi (I := fun s (r' : zSt × Int32) => zAll K s (r'.1)) (fun _ _ _ h => zh2_st h) (g_stop h)
theorem r_restore (h : zAll K σ μ) (hf : σ.1 0 11 = 0 ↔ μ.1 0 19 = 0) : zp2 (fL_restore σ ) (fX12_restore μ ) (fun r r' => zAll K (r.1) (r')) := by
  unfold fL_restore
  exact zp2_hu (I := fun s (r' : zSt) => zAll K s (r')) (fun _ _ _ h => zh1_st h) (g_restore h hf)
theorem r_register (h : zAll K σ μ) {x1 : Int32} : zp2 (fL_register o σ x1) (fX12_register μ x1) (fun r r' => zAll K (r.1.2) (r'.1)) := by
  unfold fL_register
  exact zp2_hi (I := fun s (r' : zSt × Int32) => zAll K s (r'.1)) (fun _ _ _ h => zh1_st h) (g_register h)
theorem r_set (h : zAll K σ μ) {x1 : Int32} {x2 : Int32} : zp2 (fL_set σ x1 x2) (fX12_set μ x1 x2) (fun r r' => zAll K (r.1) (r')) := by
  unfold fL_set
  exact zp2_hu (I := fun s (r' : zSt) => zAll K s (r')) (fun _ _ _ h => zh1_st h) (g_set h)
theorem r_battery (h : zAll K σ μ) {x1 : Int32} : zp2 (fL_battery o σ x1) (fX12_battery μ x1) (fun r r' => zAll K (r.1.2) (r'.1)) := by
  unfold fL_battery
  exact zp2_hi (I := fun s (r' : zSt × Int32) => zAll K s (r'.1)) (fun _ _ _ h => zh1_st h) (g_battery h)
theorem r_chip (h : zAll K σ μ) {x1 : Int32} : zp2 (fL_chip o σ x1) (fX12_chip μ x1) (fun r r' => zAll K (r.1.2) (r'.1)) := by
  unfold fL_chip
  exact zp2_hi (I := fun s (r' : zSt × Int32) => zAll K s (r'.1)) (fun _ _ _ h => zh1_st h) (g_chip h)
theorem r_dot (h : zAll K σ μ) {x1 : Int32} {x2 : Int32} : zp2 (fL_dot o σ x1 x2) (fX12_dot μ x1 x2) (fun r r' => zAll K (r.1.2) (r'.1)) := by
  unfold fL_dot
  exact zp2_hi (I := fun s (r' : zSt × Int32) => zAll K s (r'.1)) (fun _ _ _ h => zh1_st h) (g_dot h)
theorem r_row (h : zAll K σ μ) {x1 : Int32} : zp2 (fL_row o σ x1) (fX12_row μ x1) (fun r r' => zAll K (r.1.2) (r'.1)) := by
  unfold fL_row
  exact zp2_hi (I := fun s (r' : zSt × Int32) => zAll K s (r'.1)) (fun _ _ _ h => zh1_st h) (g_row h)
theorem r_hear (h : zAll K σ μ) : zp2 (fL_hear o σ ) (fX12_hear μ ) (fun r r' => zAll K (r.1.2) (r'.1)) := by
  unfold fL_hear
  exact zp2_hl (I := fun s (r' : zSt × Int64) => zAll K s (r'.1)) (fun _ _ _ h => zh1_st h) (g_hear h)
theorem r_mix (h : zAll K σ μ) : zp2 (fL_mix o σ ) (fX12_mix μ ) (fun r r' => zAll K (r.1.2) (r'.1)) := by
  unfold fL_mix
  exact zp2_hl (I := fun s (r' : zSt × Int64) => zAll K s (r'.1)) (fun _ _ _ h => zh1_st h) (g_mix h)
theorem r_wave (h : zAll K σ μ) {x1 : Int32} : zp2 (fL_wave o σ x1) (fX12_wave μ x1) (fun r r' => zAll K (r.1.2) (r'.1)) := by
  unfold fL_wave
  exact zp2_hi (I := fun s (r' : zSt × Int32) => zAll K s (r'.1)) (fun _ _ _ h => zh1_st h) (g_wave h)
theorem r_sound (h : zAll K σ μ) {x1 : Int32} : zp2 (fL_sound o σ x1) (fX12_sound μ x1) (fun r r' => zAll K (r.1.2) (r'.1)) := by
  unfold fL_sound
  exact zp2_hi (I := fun s (r' : zSt × Int32) => zAll K s (r'.1)) (fun _ _ _ h => zh1_st h) (g_sound h)
theorem r_look (h : zAll K σ μ) {x1 : Int32} : zp2 (fL_look o σ x1) (fX12_look μ x1) (fun r r' => zAll K (r.1.2) (r'.1)) := by
  unfold fL_look
  exact zp2_hl (I := fun s (r' : zSt × Int64) => zAll K s (r'.1)) (fun _ _ _ h => zh1_st h) (g_look h)
theorem zAn2.h {o : Nat → Int64} {q : Option zRi} {p : Option (zSt × Int32)} (h : zp2 q p zAn2) : zp2 (zbr q (zhi o zh2)) p zCv := by
  intro a c ea ec
  cases e : q with
  | none => rw [e] at ea; cases ea
  | some r =>
    have i := h r c e ec
    rw [e] at ea
    have ea : zhi o zh2 r = some a := ea
    rcases i with ⟨s, e1, t⟩ | ⟨s, e1, t⟩ | ⟨s, e1, t⟩
    · subst e1
      have ea : (if (1 : Nat) = 1 then some ((o, s), (1 : Int32)) else if (1 : Nat) = 2 then some ((o, s), (2 : Int32)) else none) = some a := ea
      rw [if_pos rfl] at ea
      cases ea
      exact ⟨t, fun z => absurd (show (1 : Int32) = 0 from z) (by decide)⟩
    · subst e1
      have ea : (if (2 : Nat) = 1 then some ((o, s), (1 : Int32)) else if (2 : Nat) = 2 then some ((o, s), (2 : Int32)) else none) = some a := ea
      rw [if_neg (by decide), if_pos rfl] at ea
      cases ea
      exact ⟨t, fun z => absurd (show (2 : Int32) = 0 from z) (by decide)⟩
    · subst e1
      have ea : some ((vp_updL o 0 c.2.toInt64, s), (0 : Int32)) = some a := ea
      cases ea
      refine ⟨t, fun _ => ?_⟩
      show (if (0 : Nat) = 0 then c.2.toInt64 else o 0).toInt = _
      rw [if_pos rfl, Int32.toInt_toInt64]
theorem w_trace (h : zAll K σ μ) (hK : K ≤ 900000000000000) (hP : (μ.2 4 2).toInt ≤ 268435456) {x1 : Int32} : zp2 (fX11_trace σ x1) (fX12_trace μ x1) (fun r r' => r.2 = r'.2) := by
  obtain ⟨C, hC, n⟩ := h.1
  exact v_trace n (by omega)
end ZG5
end ZJN4
section ZJN5
theorem q_fLaw_208 {K n k s h A : Int} {xs : Nat → Int32} {L : Nat} {kn : zSt → (Nat → Int64) → zSt → Int32 → Option Int32} {μ σ : zSt} {o : Nat → Int64} {x4 : Int32} (hM : zRM K n k s μ) (hC : zRC n h s σ) (hR : zAll A σ μ) (hA : A ≤ 900000000000000) (hb : K + 2100000 ≤ 268435456) (hz : ∀ j : Int32, 0 ≤ j.toInt → j.toInt ≤ 7 → zin (x4 + j) L = true) (hK : ∀ (μ1 : zSt) (o1 : Nat → Int64) (σ1 : zSt) (n s : Int), zRM (K + 2100000) n k s μ1 → zRC n h s σ1 → zAll (A + 1000000) σ1 μ1 → zok (kn μ1 o1 σ1 (x4 + 8)) (fun r => r = 1)) : zok (fLaw_208 xs L kn μ o σ x4) (fun r => r = 1) := by
  unfold fLaw_208
  refine zok_ck (hz 1 (by decide) (by decide)) ?_
  refine zok_ck (hz 2 (by decide) (by decide)) ?_
  refine zok_ck (hz 3 (by decide) (by decide)) ?_
  refine zok_ck (hz 4 (by decide) (by decide)) ?_
  refine zok_ck (hz 5 (by decide) (by decide)) ?_
  refine zok_ck (hz 6 (by decide) (by decide)) ?_
  refine zok_ck (hz 7 (by decide) (by decide)) ?_
  refine zok_bhE (l_feedx hC) (fun o3 s4 _ e2 p1 => ?_)
  refine zok_ck (hz 1 (by decide) (by decide)) ?_
  refine zok_ck (hz 2 (by decide) (by decide)) ?_
  refine zok_ck (hz 3 (by decide) (by decide)) ?_
  refine zok_ck (hz 4 (by decide) (by decide)) ?_
  refine zok_ck (hz 5 (by decide) (by decide)) ?_
  refine zok_ck (hz 6 (by decide) (by decide)) ?_
  refine zok_ck (hz 7 (by decide) (by decide)) ?_
  refine zok_biE (m_feedx hM) (fun s7 _ e6 p5 => ?_)
  have R6 := r_feed hR hM.len.1 _ _ e2 e6
  obtain ⟨_, ⟨_, c8, m9⟩, _⟩ := zBr.both p1 p5
  refine zok_bv (fun v8 e8 => ?_)
  subst e8
  exact hK _ _ _ _ _ (zRM.mono m9 (by omega) hb) c8 (zAll.mono R6 (by omega))
theorem q_fLaw_372 {K n k s h A : Int} {xs : Nat → Int32} {L : Nat} {kn : zSt → (Nat → Int64) → zSt → Int32 → Option Int32} {μ σ : zSt} {o : Nat → Int64} {x4 : Int32} (hM : zRM K n k s μ) (hC : zRC n h s σ) (hR : zAll A σ μ) (hA : A ≤ 900000000000000) (hb : K + 2100000 ≤ 268435456) (hz : ∀ j : Int32, 0 ≤ j.toInt → j.toInt ≤ 7 → zin (x4 + j) L = true) (hK : ∀ (μ1 : zSt) (o1 : Nat → Int64) (σ1 : zSt) (n s : Int), zRM (K + 2100000) n k s μ1 → zRC n h s σ1 → zAll (A + 1000000) σ1 μ1 → zok (kn μ1 o1 σ1 (x4 + 8)) (fun r => r = 1)) : zok (fLaw_372 xs L kn μ o σ x4) (fun r => r = 1) := by
  unfold fLaw_372
  refine zok_ck (hz 1 (by decide) (by decide)) ?_
  refine zok_bhE (l_growx hC) (fun o3 s4 _ e2 p1 => ?_)
  refine zok_ck (hz 1 (by decide) (by decide)) ?_
  refine zok_biE (m_growx hM) (fun s7 _ e6 p5 => ?_)
  have R6 := r_grow hR hM.len.1 _ _ e2 e6
  obtain ⟨_, ⟨_, c8, m9⟩, _⟩ := zBr.both p1 p5
  refine zok_bv (fun v8 e8 => ?_)
  subst e8
  exact hK _ _ _ _ _ (zRM.mono m9 (by omega) hb) c8 (zAll.mono R6 (by omega))
theorem q_fLaw_400 {K n k s h A : Int} {xs : Nat → Int32} {L : Nat} {kn : zSt → (Nat → Int64) → zSt → Int32 → Option Int32} {μ σ : zSt} {o : Nat → Int64} {x4 : Int32} (hM : zRM K n k s μ) (hC : zRC n h s σ) (hR : zAll A σ μ) (hA : A ≤ 900000000000000) (hb : K + 2100000 ≤ 268435456) (hz : ∀ j : Int32, 0 ≤ j.toInt → j.toInt ≤ 7 → zin (x4 + j) L = true) (hK : ∀ (μ1 : zSt) (o1 : Nat → Int64) (σ1 : zSt) (n s : Int), zRM (K + 2100000) n k s μ1 → zRC n h s σ1 → zAll (A + 1000000) σ1 μ1 → zok (kn μ1 o1 σ1 (x4 + 8)) (fun r => r = 1)) : zok (fLaw_400 xs L kn μ o σ x4) (fun r => r = 1) := by
  unfold fLaw_400
  refine zok_ck (hz 1 (by decide) (by decide)) ?_
  refine zok_ck (hz 2 (by decide) (by decide)) ?_
  refine zok_ck (hz 3 (by decide) (by decide)) ?_
  refine zok_biE (l_patchx hC) (fun s3 _ e2 p1 => ?_)
  refine zok_ck (hz 1 (by decide) (by decide)) ?_
  refine zok_ck (hz 2 (by decide) (by decide)) ?_
  refine zok_ck (hz 3 (by decide) (by decide)) ?_
  refine zok_buE (m_patchx hM) (fun s6 e5 p4 => ?_)
  have R6 := r_patch hR hM.len.1 _ _ e2 e5
  refine zok_bv (fun v8 e8 => ?_)
  subst e8
  exact hK _ _ _ _ _ (zRM.mono p4.1 (by omega) hb) p1.1 (zAll.mono R6 (by omega))
theorem q_fLaw_469 {K n k s h A : Int} {xs : Nat → Int32} {L : Nat} {kn : zSt → (Nat → Int64) → zSt → Int32 → Option Int32} {μ σ : zSt} {o : Nat → Int64} {x4 : Int32} (hM : zRM K n k s μ) (hC : zRC n h s σ) (hR : zAll A σ μ) (hA : A ≤ 900000000000000) (hb : K + 2100000 ≤ 268435456) (hz : ∀ j : Int32, 0 ≤ j.toInt → j.toInt ≤ 7 → zin (x4 + j) L = true) (hK : ∀ (μ1 : zSt) (o1 : Nat → Int64) (σ1 : zSt) (n s : Int), zRM (K + 2100000) n k s μ1 → zRC n h s σ1 → zAll (A + 1000000) σ1 μ1 → zok (kn μ1 o1 σ1 (x4 + 8)) (fun r => r = 1)) : zok (fLaw_469 xs L kn μ o σ x4) (fun r => r = 1) := by
  unfold fLaw_469
  refine zok_biE (c_loadx hC) (fun s3 _ e2 p1 => ?_)
  refine zok_biE (m_loadx hM) (fun s6 _ e5 p4 => ?_)
  have l10 := z2_load hR.2.1 hM.len.1 _ _ e2 e5
  have R5 := g_load hR hM.len.1 _ _ e2 e5
  obtain ⟨e9, _, c7, m8⟩ := zLo.both p1 p4
  have R6 := R5 e9 c7.len.2.1 c7.len.2.2 (zR6.ofL m8 c7 (l10 e9))
  refine zok_bv (fun v8 e8 => ?_)
  subst e8
  exact hK _ _ _ _ _ (zRM.mono m8 (by omega) hb) c7 (zAll.mono R6 (by omega))
theorem q_fLaw_482 {K n k s h A : Int} {xs : Nat → Int32} {L : Nat} {kn : zSt → (Nat → Int64) → zSt → Int32 → Option Int32} {μ σ : zSt} {o : Nat → Int64} {x4 : Int32} (hM : zRM K n k s μ) (hC : zRC n h s σ) (hR : zAll A σ μ) (hA : A ≤ 900000000000000) (hb : K + 2100000 ≤ 268435456) (hz : ∀ j : Int32, 0 ≤ j.toInt → j.toInt ≤ 7 → zin (x4 + j) L = true) (hK : ∀ (μ1 : zSt) (o1 : Nat → Int64) (σ1 : zSt) (n s : Int), zRM (K + 2100000) n k s μ1 → zRC n h s σ1 → zAll (A + 1000000) σ1 μ1 → zok (kn μ1 o1 σ1 (x4 + 8)) (fun r => r = 1)) : zok (fLaw_482 xs L kn μ o σ x4) (fun r => r = 1) := by
  unfold fLaw_482
  refine zok_ck (hz 1 (by decide) (by decide)) ?_
  refine zok_bhE (l_card hC) (fun o3 s4 _ e2 p1 => ?_)
  refine zok_ck (hz 1 (by decide) (by decide)) ?_
  refine zok_biE (m_card hM) (fun s7 _ e6 p5 => ?_)
  have R6 := r_card hR _ _ e2 e6
  refine zok_bv (fun v8 e8 => ?_)
  subst e8
  exact hK _ _ _ _ _ (zRM.mono p5 (by omega) hb) p1 (zAll.mono R6 (by omega))
theorem q_fLaw_510 {K n k s h A : Int} {xs : Nat → Int32} {L : Nat} {kn : zSt → (Nat → Int64) → zSt → Int32 → Option Int32} {μ σ : zSt} {o : Nat → Int64} {x4 : Int32} (hM : zRM K n k s μ) (hC : zRC n h s σ) (hR : zAll A σ μ) (hA : A ≤ 900000000000000) (hb : K + 2100000 ≤ 268435456) (hz : ∀ j : Int32, 0 ≤ j.toInt → j.toInt ≤ 7 → zin (x4 + j) L = true) (hK : ∀ (μ1 : zSt) (o1 : Nat → Int64) (σ1 : zSt) (n s : Int), zRM (K + 2100000) n k s μ1 → zRC n h s σ1 → zAll (A + 1000000) σ1 μ1 → zok (kn μ1 o1 σ1 (x4 + 8)) (fun r => r = 1)) : zok (fLaw_510 xs L kn μ o σ x4) (fun r => r = 1) := by
  unfold fLaw_510
  refine zok_ck (hz 1 (by decide) (by decide)) ?_
  refine zok_bhE (l_step hC) (fun o3 s4 _ e2 p1 => ?_)
  refine zok_ck (hz 1 (by decide) (by decide)) ?_
  refine zok_biE (m_step hM hb) (fun s7 _ e6 p5 => ?_)
  have R6 := r_step hR hA hM.pic _ _ e2 e6
  refine zok_bv (fun v8 e8 => ?_)
  subst e8
  exact hK _ _ _ _ _ p5 p1 R6
theorem q_fLaw_538 {K n k s h A : Int} {xs : Nat → Int32} {L : Nat} {kn : zSt → (Nat → Int64) → zSt → Int32 → Option Int32} {μ σ : zSt} {o : Nat → Int64} {x4 : Int32} (hM : zRM K n k s μ) (hC : zRC n h s σ) (hR : zAll A σ μ) (hA : A ≤ 900000000000000) (hb : K + 2100000 ≤ 268435456) (hz : ∀ j : Int32, 0 ≤ j.toInt → j.toInt ≤ 7 → zin (x4 + j) L = true) (hK : ∀ (μ1 : zSt) (o1 : Nat → Int64) (σ1 : zSt) (n s : Int), zRM (K + 2100000) n k s μ1 → zRC n h s σ1 → zAll (A + 1000000) σ1 μ1 → zok (kn μ1 o1 σ1 (x4 + 8)) (fun r => r = 1)) : zok (fLaw_538 xs L kn μ o σ x4) (fun r => r = 1) := by
  unfold fLaw_538
  refine zok_ck (hz 1 (by decide) (by decide)) ?_
  refine zok_bhE (l_picture hC) (fun o3 s4 _ e2 p1 => ?_)
  refine zok_ck (hz 1 (by decide) (by decide)) ?_
  refine zok_biE (m_picture hM hb) (fun s7 _ e6 p5 => ?_)
  have R6 := r_picture hR hA hM.pic _ _ e2 e6
  refine zok_bv (fun v8 e8 => ?_)
  subst e8
  exact hK _ _ _ _ _ p5 p1 R6
theorem q_fLaw_566 {K n k s h A : Int} {xs : Nat → Int32} {L : Nat} {kn : zSt → (Nat → Int64) → zSt → Int32 → Option Int32} {μ σ : zSt} {o : Nat → Int64} {x4 : Int32} (hM : zRM K n k s μ) (hC : zRC n h s σ) (hR : zAll A σ μ) (hA : A ≤ 900000000000000) (hb : K + 2100000 ≤ 268435456) (hz : ∀ j : Int32, 0 ≤ j.toInt → j.toInt ≤ 7 → zin (x4 + j) L = true) (hK : ∀ (μ1 : zSt) (o1 : Nat → Int64) (σ1 : zSt) (n s : Int), zRM (K + 2100000) n k s μ1 → zRC n h s σ1 → zAll (A + 1000000) σ1 μ1 → zok (kn μ1 o1 σ1 (x4 + 8)) (fun r => r = 1)) : zok (fLaw_566 xs L kn μ o σ x4) (fun r => r = 1) := by
  unfold fLaw_566
  refine zok_buE (c_reset hC) (fun s3 e2 p1 => ?_)
  refine zok_buE (m_reset hM) (fun s6 e5 p4 => ?_)
  have R6 := g_reset hR _ _ e2 e5
  refine zok_bv (fun v8 e8 => ?_)
  subst e8
  exact hK _ _ _ _ _ (zRM.mono p4 (by omega) hb) p1 (zAll.mono R6 (by omega))
theorem q_fLaw_577 {K n k s h A : Int} {xs : Nat → Int32} {L : Nat} {kn : zSt → (Nat → Int64) → zSt → Int32 → Option Int32} {μ σ : zSt} {o : Nat → Int64} {x4 : Int32} (hM : zRM K n k s μ) (hC : zRC n h s σ) (hR : zAll A σ μ) (hA : A ≤ 900000000000000) (hb : K + 2100000 ≤ 268435456) (hz : ∀ j : Int32, 0 ≤ j.toInt → j.toInt ≤ 7 → zin (x4 + j) L = true) (hK : ∀ (μ1 : zSt) (o1 : Nat → Int64) (σ1 : zSt) (n s : Int), zRM (K + 2100000) n k s μ1 → zRC n h s σ1 → zAll (A + 1000000) σ1 μ1 → zok (kn μ1 o1 σ1 (x4 + 8)) (fun r => r = 1)) : zok (fLaw_577 xs L kn μ o σ x4) (fun r => r = 1) := by
  unfold fLaw_577
  refine zok_biE (c_pause hC) (fun s3 _ e2 p1 => ?_)
  refine zok_biE (m_pause hM) (fun s6 _ e5 p4 => ?_)
  have R6 := g_pause hR _ _ e2 e5
  refine zok_bv (fun v8 e8 => ?_)
  subst e8
  exact hK _ _ _ _ _ (zRM.mono p4 (by omega) hb) p1 (zAll.mono R6 (by omega))
theorem q_fLaw_590 {K n k s h A : Int} {xs : Nat → Int32} {L : Nat} {kn : zSt → (Nat → Int64) → zSt → Int32 → Option Int32} {μ σ : zSt} {o : Nat → Int64} {x4 : Int32} (hM : zRM K n k s μ) (hC : zRC n h s σ) (hR : zAll A σ μ) (hA : A ≤ 900000000000000) (hb : K + 2100000 ≤ 268435456) (hz : ∀ j : Int32, 0 ≤ j.toInt → j.toInt ≤ 7 → zin (x4 + j) L = true) (hK : ∀ (μ1 : zSt) (o1 : Nat → Int64) (σ1 : zSt) (n s : Int), zRM (K + 2100000) n k s μ1 → zRC n h s σ1 → zAll (A + 1000000) σ1 μ1 → zok (kn μ1 o1 σ1 (x4 + 8)) (fun r => r = 1)) : zok (fLaw_590 xs L kn μ o σ x4) (fun r => r = 1) := by
  unfold fLaw_590
  refine zok_ck (hz 1 (by decide) (by decide)) ?_
  refine zok_ck (hz 2 (by decide) (by decide)) ?_
  refine zok_biE (l_press hC) (fun s3 _ e2 p1 => ?_)
  refine zok_ck (hz 1 (by decide) (by decide)) ?_
  refine zok_ck (hz 2 (by decide) (by decide)) ?_
  refine zok_buE (m_press hM) (fun s6 e5 p4 => ?_)
  have R6 := r_press hR _ _ e2 e5
  refine zok_bv (fun v8 e8 => ?_)
  subst e8
  exact hK _ _ _ _ _ (zRM.mono p4 (by omega) hb) p1 (zAll.mono R6 (by omega))
theorem q_fLaw_627 {K n k s h A : Int} {xs : Nat → Int32} {L : Nat} {kn : zSt → (Nat → Int64) → zSt → Int32 → Option Int32} {μ σ : zSt} {o : Nat → Int64} {x4 : Int32} (hM : zRM K n k s μ) (hC : zRC n h s σ) (hR : zAll A σ μ) (hA : A ≤ 900000000000000) (hb : K + 2100000 ≤ 268435456) (hz : ∀ j : Int32, 0 ≤ j.toInt → j.toInt ≤ 7 → zin (x4 + j) L = true) (hK : ∀ (μ1 : zSt) (o1 : Nat → Int64) (σ1 : zSt) (n s : Int), zRM (K + 2100000) n k s μ1 → zRC n h s σ1 → zAll (A + 1000000) σ1 μ1 → zok (kn μ1 o1 σ1 (x4 + 8)) (fun r => r = 1)) : zok (fLaw_627 xs L kn μ o σ x4) (fun r => r = 1) := by
  unfold fLaw_627
  refine zok_ck (hz 1 (by decide) (by decide)) ?_
  refine zok_if (fun q1 => ?_) (fun q1 => ?_)
  · refine zok_buE (c_start hC (zr_c (by decide))) (fun s4 e3 p2 => ?_)
    refine zok_ck (hz 1 (by decide) (by decide)) ?_
    refine zok_if (fun _ => ?_) (fun z => absurd q1 z)
    refine zok_buE (m_start hM (zr_c (by decide))) (fun s7 e6 p5 => ?_)
    have R6 := g_start hR _ _ e3 e6
    refine zok_bv (fun v8 e8 => ?_)
    subst e8
    exact hK _ _ _ _ _ (zRM.mono p5 (by omega) hb) p2 (zAll.mono R6 (by omega))
  · refine zok_buE (c_start hC (zr_c (by decide))) (fun s10 e9 p8 => ?_)
    refine zok_ck (hz 1 (by decide) (by decide)) ?_
    refine zok_if (fun z => absurd z q1) (fun _ => ?_)
    refine zok_buE (m_start hM (zr_c (by decide))) (fun s13 e12 p11 => ?_)
    have R6 := g_start hR _ _ e9 e12
    refine zok_bv (fun v8 e8 => ?_)
    subst e8
    exact hK _ _ _ _ _ (zRM.mono p11 (by omega) hb) p8 (zAll.mono R6 (by omega))
theorem q_fLaw_666 {K n k s h A : Int} {xs : Nat → Int32} {L : Nat} {kn : zSt → (Nat → Int64) → zSt → Int32 → Option Int32} {μ σ : zSt} {o : Nat → Int64} {x4 : Int32} (hM : zRM K n k s μ) (hC : zRC n h s σ) (hR : zAll A σ μ) (hA : A ≤ 900000000000000) (hb : K + 2100000 ≤ 268435456) (hz : ∀ j : Int32, 0 ≤ j.toInt → j.toInt ≤ 7 → zin (x4 + j) L = true) (hK : ∀ (μ1 : zSt) (o1 : Nat → Int64) (σ1 : zSt) (n s : Int), zRM (K + 2100000) n k s μ1 → zRC n h s σ1 → zAll (A + 1000000) σ1 μ1 → zok (kn μ1 o1 σ1 (x4 + 8)) (fun r => r = 1)) : zok (fLaw_666 xs L kn μ o σ x4) (fun r => r = 1) := by
  unfold fLaw_666
  refine zok_ck (hz 1 (by decide) (by decide)) ?_
  refine zok_ck (hz 2 (by decide) (by decide)) ?_
  refine zok_if (fun q1 => ?_) (fun q1 => ?_)
  · refine zok_biE (l_line hC (zr_c (by decide))) (fun s4 _ e3 p2 => ?_)
    refine zok_ck (hz 1 (by decide) (by decide)) ?_
    refine zok_ck (hz 2 (by decide) (by decide)) ?_
    refine zok_if (fun _ => ?_) (fun z => absurd q1 z)
    refine zok_buE (m_line hM (zr_c (by decide))) (fun s7 e6 p5 => ?_)
    have R6 := r_line hR _ _ e3 e6
    refine zok_bv (fun v8 e8 => ?_)
    subst e8
    exact hK _ _ _ _ _ (zRM.mono p5 (by omega) hb) p2 (zAll.mono R6 (by omega))
  · refine zok_biE (l_line hC (zr_c (by decide))) (fun s10 _ e9 p8 => ?_)
    refine zok_ck (hz 1 (by decide) (by decide)) ?_
    refine zok_ck (hz 2 (by decide) (by decide)) ?_
    refine zok_if (fun z => absurd z q1) (fun _ => ?_)
    refine zok_buE (m_line hM (zr_c (by decide))) (fun s13 e12 p11 => ?_)
    have R6 := r_line hR _ _ e9 e12
    refine zok_bv (fun v8 e8 => ?_)
    subst e8
    exact hK _ _ _ _ _ (zRM.mono p11 (by omega) hb) p8 (zAll.mono R6 (by omega))
theorem q_fLaw_719 {K n k s h A : Int} {xs : Nat → Int32} {L : Nat} {kn : zSt → (Nat → Int64) → zSt → Int32 → Option Int32} {μ σ : zSt} {o : Nat → Int64} {x4 : Int32} (hM : zRM K n k s μ) (hC : zRC n h s σ) (hR : zAll A σ μ) (hA : A ≤ 900000000000000) (hb : K + 2100000 ≤ 268435456) (hz : ∀ j : Int32, 0 ≤ j.toInt → j.toInt ≤ 7 → zin (x4 + j) L = true) (hK : ∀ (μ1 : zSt) (o1 : Nat → Int64) (σ1 : zSt) (n s : Int), zRM (K + 2100000) n k s μ1 → zRC n h s σ1 → zAll (A + 1000000) σ1 μ1 → zok (kn μ1 o1 σ1 (x4 + 8)) (fun r => r = 1)) : zok (fLaw_719 xs L kn μ o σ x4) (fun r => r = 1) := by
  unfold fLaw_719
  refine zok_ck (hz 1 (by decide) (by decide)) ?_
  refine zok_ck (hz 2 (by decide) (by decide)) ?_
  refine zok_ck (hz 3 (by decide) (by decide)) ?_
  refine zok_bhE (l_plan hC) (fun o3 s4 _ e2 p1 => ?_)
  refine zok_ck (hz 1 (by decide) (by decide)) ?_
  refine zok_ck (hz 2 (by decide) (by decide)) ?_
  refine zok_ck (hz 3 (by decide) (by decide)) ?_
  refine zok_biE (m_plan hM) (fun s7 _ e6 p5 => ?_)
  have R6 := r_plan hR _ _ e2 e6
  refine zok_bv (fun v8 e8 => ?_)
  subst e8
  exact hK _ _ _ _ _ (zRM.mono p5 (by omega) hb) p1 (zAll.mono R6 (by omega))
theorem q_fLaw_771 {K n k s h A : Int} {xs : Nat → Int32} {L : Nat} {kn : zSt → (Nat → Int64) → zSt → Int32 → Option Int32} {μ σ : zSt} {o : Nat → Int64} {x4 : Int32} (hM : zRM K n k s μ) (hC : zRC n h s σ) (hR : zAll A σ μ) (hA : A ≤ 900000000000000) (hb : K + 2100000 ≤ 268435456) (hz : ∀ j : Int32, 0 ≤ j.toInt → j.toInt ≤ 7 → zin (x4 + j) L = true) (hK : ∀ (μ1 : zSt) (o1 : Nat → Int64) (σ1 : zSt) (n s : Int), zRM (K + 2100000) n k s μ1 → zRC n h s σ1 → zAll (A + 1000000) σ1 μ1 → zok (kn μ1 o1 σ1 (x4 + 8)) (fun r => r = 1)) : zok (fLaw_771 xs L kn μ o σ x4) (fun r => r = 1) := by
  unfold fLaw_771
  refine zok_ck (hz 1 (by decide) (by decide)) ?_
  refine zok_biE (c_tell hC) (fun s3 _ e2 p1 => ?_)
  refine zok_ck (hz 1 (by decide) (by decide)) ?_
  refine zok_biE (m_tell hM) (fun s6 _ e5 p4 => ?_)
  have R6 := g_tell hR _ _ e2 e5
  refine zok_bv (fun v8 e8 => ?_)
  subst e8
  exact hK _ _ _ _ _ (zRM.mono p4 (by omega) hb) p1 (zAll.mono R6 (by omega))
theorem q_fLaw_796 {K n k s h A : Int} {xs : Nat → Int32} {L : Nat} {kn : zSt → (Nat → Int64) → zSt → Int32 → Option Int32} {μ σ : zSt} {o : Nat → Int64} {x4 : Int32} (hM : zRM K n k s μ) (hC : zRC n h s σ) (hR : zAll A σ μ) (hA : A ≤ 900000000000000) (hb : K + 2100000 ≤ 268435456) (hz : ∀ j : Int32, 0 ≤ j.toInt → j.toInt ≤ 7 → zin (x4 + j) L = true) (hK : ∀ (μ1 : zSt) (o1 : Nat → Int64) (σ1 : zSt) (n s : Int), zRM (K + 2100000) n k s μ1 → zRC n h s σ1 → zAll (A + 1000000) σ1 μ1 → zok (kn μ1 o1 σ1 (x4 + 8)) (fun r => r = 1)) : zok (fLaw_796 xs L kn μ o σ x4) (fun r => r = 1) := by
  unfold fLaw_796
  refine zok_ck (hz 1 (by decide) (by decide)) ?_
  refine zok_bhE (l_text hC) (fun o3 s4 _ e2 p1 => ?_)
  refine zok_ck (hz 1 (by decide) (by decide)) ?_
  refine zok_bllE (m_text hM) (fun s7 _ e6 p5 => ?_)
  have R6 := r_text hR _ _ e2 e6
  refine zok_bv (fun v8 e8 => ?_)
  subst e8
  exact hK _ _ _ _ _ (zRM.mono p5 (by omega) hb) p1 (zAll.mono R6 (by omega))
theorem q_fLaw_824 {K n k s h A : Int} {xs : Nat → Int32} {L : Nat} {kn : zSt → (Nat → Int64) → zSt → Int32 → Option Int32} {μ σ : zSt} {o : Nat → Int64} {x4 : Int32} (hM : zRM K n k s μ) (hC : zRC n h s σ) (hR : zAll A σ μ) (hA : A ≤ 900000000000000) (hb : K + 2100000 ≤ 268435456) (hz : ∀ j : Int32, 0 ≤ j.toInt → j.toInt ≤ 7 → zin (x4 + j) L = true) (hK : ∀ (μ1 : zSt) (o1 : Nat → Int64) (σ1 : zSt) (n s : Int), zRM (K + 2100000) n k s μ1 → zRC n h s σ1 → zAll (A + 1000000) σ1 μ1 → zok (kn μ1 o1 σ1 (x4 + 8)) (fun r => r = 1)) : zok (fLaw_824 xs L kn μ o σ x4) (fun r => r = 1) := by
  unfold fLaw_824
  refine zok_ck (hz 1 (by decide) (by decide)) ?_
  refine zok_ck (hz 2 (by decide) (by decide)) ?_
  refine zok_if (fun q1 => ?_) (fun q1 => ?_)
  · refine zok_bhE (l_stop hC (zr_c (by decide))) (fun o4 s5 _ e3 p2 => ?_)
    refine zok_ck (hz 1 (by decide) (by decide)) ?_
    refine zok_ck (hz 2 (by decide) (by decide)) ?_
    refine zok_if (fun _ => ?_) (fun z => absurd q1 z)
    refine zok_biE (m_stop hM (zr_c (by decide))) (fun s8 _ e7 p6 => ?_)
    have R6 := r_stop hR _ _ e3 e7
    refine zok_bv (fun v8 e8 => ?_)
    subst e8
    exact hK _ _ _ _ _ (zRM.mono p6 (by omega) hb) p2 (zAll.mono R6 (by omega))
  · refine zok_bhE (l_stop hC (zr_c (by decide))) (fun o11 s12 _ e10 p9 => ?_)
    refine zok_ck (hz 1 (by decide) (by decide)) ?_
    refine zok_ck (hz 2 (by decide) (by decide)) ?_
    refine zok_if (fun z => absurd z q1) (fun _ => ?_)
    refine zok_biE (m_stop hM (zr_c (by decide))) (fun s15 _ e14 p13 => ?_)
    have R6 := r_stop hR _ _ e10 e14
    refine zok_bv (fun v8 e8 => ?_)
    subst e8
    exact hK _ _ _ _ _ (zRM.mono p13 (by omega) hb) p9 (zAll.mono R6 (by omega))
theorem q_fLaw_880 {K n k s h A : Int} {xs : Nat → Int32} {L : Nat} {kn : zSt → (Nat → Int64) → zSt → Int32 → Option Int32} {μ σ : zSt} {o : Nat → Int64} {x4 : Int32} (hM : zRM K n k s μ) (hC : zRC n h s σ) (hR : zAll A σ μ) (hA : A ≤ 900000000000000) (hb : K + 2100000 ≤ 268435456) (hz : ∀ j : Int32, 0 ≤ j.toInt → j.toInt ≤ 7 → zin (x4 + j) L = true) (hK : ∀ (μ1 : zSt) (o1 : Nat → Int64) (σ1 : zSt) (n s : Int), zRM (K + 2100000) n k s μ1 → zRC n h s σ1 → zAll (A + 1000000) σ1 μ1 → zok (kn μ1 o1 σ1 (x4 + 8)) (fun r => r = 1)) : zok (fLaw_880 xs L kn μ o σ x4) (fun r => r = 1) := by
  unfold fLaw_880
  refine zok_buE (c_savex hC) (fun s3 e2 p1 => ?_)
  refine zok_buE (m_save hM) (fun s6 e5 p4 => ?_)
  have R6 := g_save hR _ _ e2 e5
  refine zok_bv (fun v8 e8 => ?_)
  subst e8
  exact hK _ _ _ _ _ (zRM.mono p4 (by omega) hb) p1 (zAll.mono R6 (by omega))
theorem q_fLaw_891 {K n k s h A : Int} {xs : Nat → Int32} {L : Nat} {kn : zSt → (Nat → Int64) → zSt → Int32 → Option Int32} {μ σ : zSt} {o : Nat → Int64} {x4 : Int32} (hM : zRM K n k s μ) (hC : zRC n h s σ) (hR : zAll A σ μ) (hA : A ≤ 900000000000000) (hb : K + 2100000 ≤ 268435456) (hz : ∀ j : Int32, 0 ≤ j.toInt → j.toInt ≤ 7 → zin (x4 + j) L = true) (hK : ∀ (μ1 : zSt) (o1 : Nat → Int64) (σ1 : zSt) (n s : Int), zRM (K + 2100000) n k s μ1 → zRC n h s σ1 → zAll (A + 1000000) σ1 μ1 → zok (kn μ1 o1 σ1 (x4 + 8)) (fun r => r = 1)) : zok (fLaw_891 xs L kn μ o σ x4) (fun r => r = 1) := by
  unfold fLaw_891
  refine zok_biE (l_restorex hC) (fun s3 _ e2 p1 => ?_)
  refine zok_buE (m_restorex hM) (fun s6 e5 p4 => ?_)
  have R6 := r_restore hR (z_flag hM hC) _ _ e2 e5
  refine zok_bv (fun v8 e8 => ?_)
  subst e8
  exact hK _ _ _ _ _ (zRM.mono p4.1 (by omega) hb) p1.1 (zAll.mono R6 (by omega))
theorem q_fLaw_904 {K n k s h A : Int} {xs : Nat → Int32} {L : Nat} {kn : zSt → (Nat → Int64) → zSt → Int32 → Option Int32} {μ σ : zSt} {o : Nat → Int64} {x4 : Int32} (hM : zRM K n k s μ) (hC : zRC n h s σ) (hR : zAll A σ μ) (hA : A ≤ 900000000000000) (hb : K + 2100000 ≤ 268435456) (hz : ∀ j : Int32, 0 ≤ j.toInt → j.toInt ≤ 7 → zin (x4 + j) L = true) (hK : ∀ (μ1 : zSt) (o1 : Nat → Int64) (σ1 : zSt) (n s : Int), zRM (K + 2100000) n k s μ1 → zRC n h s σ1 → zAll (A + 1000000) σ1 μ1 → zok (kn μ1 o1 σ1 (x4 + 8)) (fun r => r = 1)) : zok (fLaw_904 xs L kn μ o σ x4) (fun r => r = 1) := by
  unfold fLaw_904
  refine zok_ck (hz 1 (by decide) (by decide)) ?_
  refine zok_bhE (l_register hC) (fun o3 s4 _ e2 p1 => ?_)
  refine zok_ck (hz 1 (by decide) (by decide)) ?_
  refine zok_biE (m_register hM) (fun s7 _ e6 p5 => ?_)
  have R6 := r_register hR _ _ e2 e6
  refine zok_bv (fun v8 e8 => ?_)
  subst e8
  exact hK _ _ _ _ _ (zRM.mono p5 (by omega) hb) p1 (zAll.mono R6 (by omega))
theorem q_fLaw_932 {K n k s h A : Int} {xs : Nat → Int32} {L : Nat} {kn : zSt → (Nat → Int64) → zSt → Int32 → Option Int32} {μ σ : zSt} {o : Nat → Int64} {x4 : Int32} (hM : zRM K n k s μ) (hC : zRC n h s σ) (hR : zAll A σ μ) (hA : A ≤ 900000000000000) (hb : K + 2100000 ≤ 268435456) (hz : ∀ j : Int32, 0 ≤ j.toInt → j.toInt ≤ 7 → zin (x4 + j) L = true) (hK : ∀ (μ1 : zSt) (o1 : Nat → Int64) (σ1 : zSt) (n s : Int), zRM (K + 2100000) n k s μ1 → zRC n h s σ1 → zAll (A + 1000000) σ1 μ1 → zok (kn μ1 o1 σ1 (x4 + 8)) (fun r => r = 1)) : zok (fLaw_932 xs L kn μ o σ x4) (fun r => r = 1) := by
  unfold fLaw_932
  refine zok_ck (hz 1 (by decide) (by decide)) ?_
  refine zok_ck (hz 2 (by decide) (by decide)) ?_
  refine zok_biE (l_set hC) (fun s3 _ e2 p1 => ?_)
  refine zok_ck (hz 1 (by decide) (by decide)) ?_
  refine zok_ck (hz 2 (by decide) (by decide)) ?_
  refine zok_buE (m_set hM) (fun s6 e5 p4 => ?_)
  have R6 := r_set hR _ _ e2 e5
  refine zok_bv (fun v8 e8 => ?_)
  subst e8
  exact hK _ _ _ _ _ (zRM.mono p4 (by omega) hb) p1 (zAll.mono R6 (by omega))
theorem q_fLaw_969 {K n k s h A : Int} {xs : Nat → Int32} {L : Nat} {kn : zSt → (Nat → Int64) → zSt → Int32 → Option Int32} {μ σ : zSt} {o : Nat → Int64} {x4 : Int32} (hM : zRM K n k s μ) (hC : zRC n h s σ) (hR : zAll A σ μ) (hA : A ≤ 900000000000000) (hb : K + 2100000 ≤ 268435456) (hz : ∀ j : Int32, 0 ≤ j.toInt → j.toInt ≤ 7 → zin (x4 + j) L = true) (hK : ∀ (μ1 : zSt) (o1 : Nat → Int64) (σ1 : zSt) (n s : Int), zRM (K + 2100000) n k s μ1 → zRC n h s σ1 → zAll (A + 1000000) σ1 μ1 → zok (kn μ1 o1 σ1 (x4 + 8)) (fun r => r = 1)) : zok (fLaw_969 xs L kn μ o σ x4) (fun r => r = 1) := by
  unfold fLaw_969
  refine zok_ck (hz 1 (by decide) (by decide)) ?_
  refine zok_biE (c_peek hC) (fun s3 _ e2 p1 => ?_)
  refine zok_ck (hz 1 (by decide) (by decide)) ?_
  refine zok_biE (m_peek hM) (fun s6 _ e5 p4 => ?_)
  have R6 := g_peek hR _ _ e2 e5
  refine zok_bv (fun v8 e8 => ?_)
  subst e8
  exact hK _ _ _ _ _ (zRM.mono p4 (by omega) hb) p1 (zAll.mono R6 (by omega))
theorem q_fLaw_994 {K n k s h A : Int} {xs : Nat → Int32} {L : Nat} {kn : zSt → (Nat → Int64) → zSt → Int32 → Option Int32} {μ σ : zSt} {o : Nat → Int64} {x4 : Int32} (hM : zRM K n k s μ) (hC : zRC n h s σ) (hR : zAll A σ μ) (hA : A ≤ 900000000000000) (hb : K + 2100000 ≤ 268435456) (hz : ∀ j : Int32, 0 ≤ j.toInt → j.toInt ≤ 7 → zin (x4 + j) L = true) (hK : ∀ (μ1 : zSt) (o1 : Nat → Int64) (σ1 : zSt) (n s : Int), zRM (K + 2100000) n k s μ1 → zRC n h s σ1 → zAll (A + 1000000) σ1 μ1 → zok (kn μ1 o1 σ1 (x4 + 8)) (fun r => r = 1)) : zok (fLaw_994 xs L kn μ o σ x4) (fun r => r = 1) := by
  unfold fLaw_994
  refine zok_ck (hz 1 (by decide) (by decide)) ?_
  refine zok_ck (hz 2 (by decide) (by decide)) ?_
  refine zok_buE (c_poke hC) (fun s3 e2 p1 => ?_)
  refine zok_ck (hz 1 (by decide) (by decide)) ?_
  refine zok_ck (hz 2 (by decide) (by decide)) ?_
  refine zok_buE (m_poke hM) (fun s6 e5 p4 => ?_)
  have R6 := g_poke hR _ _ e2 e5
  refine zok_bv (fun v8 e8 => ?_)
  subst e8
  exact hK _ _ _ _ _ (zRM.mono p4 (by omega) hb) p1 (zAll.mono R6 (by omega))
theorem q_fLaw_1029 {K n k s h A : Int} {xs : Nat → Int32} {L : Nat} {kn : zSt → (Nat → Int64) → zSt → Int32 → Option Int32} {μ σ : zSt} {o : Nat → Int64} {x4 : Int32} (hM : zRM K n k s μ) (hC : zRC n h s σ) (hR : zAll A σ μ) (hA : A ≤ 900000000000000) (hb : K + 2100000 ≤ 268435456) (hz : ∀ j : Int32, 0 ≤ j.toInt → j.toInt ≤ 7 → zin (x4 + j) L = true) (hK : ∀ (μ1 : zSt) (o1 : Nat → Int64) (σ1 : zSt) (n s : Int), zRM (K + 2100000) n k s μ1 → zRC n h s σ1 → zAll (A + 1000000) σ1 μ1 → zok (kn μ1 o1 σ1 (x4 + 8)) (fun r => r = 1)) : zok (fLaw_1029 xs L kn μ o σ x4) (fun r => r = 1) := by
  unfold fLaw_1029
  refine zok_ck (hz 1 (by decide) (by decide)) ?_
  refine zok_biE (c_in hC) (fun s3 _ e2 p1 => ?_)
  refine zok_ck (hz 1 (by decide) (by decide)) ?_
  refine zok_biE (m_in hM) (fun s6 _ e5 p4 => ?_)
  have R6 := g_in hR _ _ e2 e5
  refine zok_bv (fun v8 e8 => ?_)
  subst e8
  exact hK _ _ _ _ _ (zRM.mono p4 (by omega) hb) p1 (zAll.mono R6 (by omega))
theorem q_fLaw_1054 {K n k s h A : Int} {xs : Nat → Int32} {L : Nat} {kn : zSt → (Nat → Int64) → zSt → Int32 → Option Int32} {μ σ : zSt} {o : Nat → Int64} {x4 : Int32} (hM : zRM K n k s μ) (hC : zRC n h s σ) (hR : zAll A σ μ) (hA : A ≤ 900000000000000) (hb : K + 2100000 ≤ 268435456) (hz : ∀ j : Int32, 0 ≤ j.toInt → j.toInt ≤ 7 → zin (x4 + j) L = true) (hK : ∀ (μ1 : zSt) (o1 : Nat → Int64) (σ1 : zSt) (n s : Int), zRM (K + 2100000) n k s μ1 → zRC n h s σ1 → zAll (A + 1000000) σ1 μ1 → zok (kn μ1 o1 σ1 (x4 + 8)) (fun r => r = 1)) : zok (fLaw_1054 xs L kn μ o σ x4) (fun r => r = 1) := by
  unfold fLaw_1054
  refine zok_ck (hz 1 (by decide) (by decide)) ?_
  refine zok_ck (hz 2 (by decide) (by decide)) ?_
  refine zok_buE (c_out hC) (fun s3 e2 p1 => ?_)
  refine zok_ck (hz 1 (by decide) (by decide)) ?_
  refine zok_ck (hz 2 (by decide) (by decide)) ?_
  refine zok_buE (m_out hM) (fun s6 e5 p4 => ?_)
  have R6 := g_out hR _ _ e2 e5
  refine zok_bv (fun v8 e8 => ?_)
  subst e8
  exact hK _ _ _ _ _ (zRM.mono p4 (by omega) hb) p1 (zAll.mono R6 (by omega))
theorem q_fLaw_1089 {K n k s h A : Int} {xs : Nat → Int32} {L : Nat} {kn : zSt → (Nat → Int64) → zSt → Int32 → Option Int32} {μ σ : zSt} {o : Nat → Int64} {x4 : Int32} (hM : zRM K n k s μ) (hC : zRC n h s σ) (hR : zAll A σ μ) (hA : A ≤ 900000000000000) (hb : K + 2100000 ≤ 268435456) (hz : ∀ j : Int32, 0 ≤ j.toInt → j.toInt ≤ 7 → zin (x4 + j) L = true) (hK : ∀ (μ1 : zSt) (o1 : Nat → Int64) (σ1 : zSt) (n s : Int), zRM (K + 2100000) n k s μ1 → zRC n h s σ1 → zAll (A + 1000000) σ1 μ1 → zok (kn μ1 o1 σ1 (x4 + 8)) (fun r => r = 1)) : zok (fLaw_1089 xs L kn μ o σ x4) (fun r => r = 1) := by
  unfold fLaw_1089
  refine zok_ck (hz 1 (by decide) (by decide)) ?_
  refine zok_bhE (l_battery hC) (fun o3 s4 _ e2 p1 => ?_)
  refine zok_ck (hz 1 (by decide) (by decide)) ?_
  refine zok_biE (m_battery hM) (fun s7 _ e6 p5 => ?_)
  have R6 := r_battery hR _ _ e2 e6
  refine zok_bv (fun v8 e8 => ?_)
  subst e8
  exact hK _ _ _ _ _ (zRM.mono p5 (by omega) hb) p1 (zAll.mono R6 (by omega))
theorem q_fLaw_1117 {K n k s h A : Int} {xs : Nat → Int32} {L : Nat} {kn : zSt → (Nat → Int64) → zSt → Int32 → Option Int32} {μ σ : zSt} {o : Nat → Int64} {x4 : Int32} (hM : zRM K n k s μ) (hC : zRC n h s σ) (hR : zAll A σ μ) (hA : A ≤ 900000000000000) (hb : K + 2100000 ≤ 268435456) (hz : ∀ j : Int32, 0 ≤ j.toInt → j.toInt ≤ 7 → zin (x4 + j) L = true) (hK : ∀ (μ1 : zSt) (o1 : Nat → Int64) (σ1 : zSt) (n s : Int), zRM (K + 2100000) n k s μ1 → zRC n h s σ1 → zAll (A + 1000000) σ1 μ1 → zok (kn μ1 o1 σ1 (x4 + 8)) (fun r => r = 1)) : zok (fLaw_1117 xs L kn μ o σ x4) (fun r => r = 1) := by
  unfold fLaw_1117
  refine zok_buE (c_wipe hC) (fun s3 e2 p1 => ?_)
  refine zok_buE (m_wipe hM) (fun s6 e5 p4 => ?_)
  have R6 := g_wipe hR _ _ e2 e5
  refine zok_bv (fun v8 e8 => ?_)
  subst e8
  exact hK _ _ _ _ _ (zRM.mono p4 (by omega) hb) p1 (zAll.mono R6 (by omega))
theorem q_fLaw_1128 {K n k s h A : Int} {xs : Nat → Int32} {L : Nat} {kn : zSt → (Nat → Int64) → zSt → Int32 → Option Int32} {μ σ : zSt} {o : Nat → Int64} {x4 : Int32} (hM : zRM K n k s μ) (hC : zRC n h s σ) (hR : zAll A σ μ) (hA : A ≤ 900000000000000) (hb : K + 2100000 ≤ 268435456) (hz : ∀ j : Int32, 0 ≤ j.toInt → j.toInt ≤ 7 → zin (x4 + j) L = true) (hK : ∀ (μ1 : zSt) (o1 : Nat → Int64) (σ1 : zSt) (n s : Int), zRM (K + 2100000) n k s μ1 → zRC n h s σ1 → zAll (A + 1000000) σ1 μ1 → zok (kn μ1 o1 σ1 (x4 + 8)) (fun r => r = 1)) : zok (fLaw_1128 xs L kn μ o σ x4) (fun r => r = 1) := by
  unfold fLaw_1128
  refine zok_ck (hz 1 (by decide) (by decide)) ?_
  refine zok_bllE (c_video hC) (fun s3 _ e2 p1 => ?_)
  refine zok_ck (hz 1 (by decide) (by decide)) ?_
  refine zok_bllE (m_video hM) (fun s6 _ e5 p4 => ?_)
  have R6 := g_video hR _ _ e2 e5
  refine zok_bv (fun v8 e8 => ?_)
  subst e8
  exact hK _ _ _ _ _ (zRM.mono p4 (by omega) hb) p1 (zAll.mono R6 (by omega))
theorem q_fLaw_1153 {K n k s h A : Int} {xs : Nat → Int32} {L : Nat} {kn : zSt → (Nat → Int64) → zSt → Int32 → Option Int32} {μ σ : zSt} {o : Nat → Int64} {x4 : Int32} (hM : zRM K n k s μ) (hC : zRC n h s σ) (hR : zAll A σ μ) (hA : A ≤ 900000000000000) (hb : K + 2100000 ≤ 268435456) (hz : ∀ j : Int32, 0 ≤ j.toInt → j.toInt ≤ 7 → zin (x4 + j) L = true) (hK : ∀ (μ1 : zSt) (o1 : Nat → Int64) (σ1 : zSt) (n s : Int), zRM (K + 2100000) n k s μ1 → zRC n h s σ1 → zAll (A + 1000000) σ1 μ1 → zok (kn μ1 o1 σ1 (x4 + 8)) (fun r => r = 1)) : zok (fLaw_1153 xs L kn μ o σ x4) (fun r => r = 1) := by
  unfold fLaw_1153
  refine zok_ck (hz 1 (by decide) (by decide)) ?_
  refine zok_bhE (l_chip hC) (fun o3 s4 _ e2 p1 => ?_)
  refine zok_ck (hz 1 (by decide) (by decide)) ?_
  refine zok_biE (m_chip hM) (fun s7 _ e6 p5 => ?_)
  have R6 := r_chip hR _ _ e2 e6
  refine zok_bv (fun v8 e8 => ?_)
  subst e8
  exact hK _ _ _ _ _ (zRM.mono p5 (by omega) hb) p1 (zAll.mono R6 (by omega))
theorem q_fLaw_1181 {K n k s h A : Int} {xs : Nat → Int32} {L : Nat} {kn : zSt → (Nat → Int64) → zSt → Int32 → Option Int32} {μ σ : zSt} {o : Nat → Int64} {x4 : Int32} (hM : zRM K n k s μ) (hC : zRC n h s σ) (hR : zAll A σ μ) (hA : A ≤ 900000000000000) (hb : K + 2100000 ≤ 268435456) (hz : ∀ j : Int32, 0 ≤ j.toInt → j.toInt ≤ 7 → zin (x4 + j) L = true) (hK : ∀ (μ1 : zSt) (o1 : Nat → Int64) (σ1 : zSt) (n s : Int), zRM (K + 2100000) n k s μ1 → zRC n h s σ1 → zAll (A + 1000000) σ1 μ1 → zok (kn μ1 o1 σ1 (x4 + 8)) (fun r => r = 1)) : zok (fLaw_1181 xs L kn μ o σ x4) (fun r => r = 1) := by
  unfold fLaw_1181
  refine zok_ck (hz 1 (by decide) (by decide)) ?_
  refine zok_ck (hz 2 (by decide) (by decide)) ?_
  refine zok_bhE (l_dot hC) (fun o3 s4 _ e2 p1 => ?_)
  refine zok_ck (hz 1 (by decide) (by decide)) ?_
  refine zok_ck (hz 2 (by decide) (by decide)) ?_
  refine zok_biE (m_dot hM) (fun s7 _ e6 p5 => ?_)
  have R6 := r_dot hR _ _ e2 e6
  refine zok_bv (fun v8 e8 => ?_)
  subst e8
  exact hK _ _ _ _ _ (zRM.mono p5 (by omega) hb) p1 (zAll.mono R6 (by omega))
theorem q_fLaw_1221 {K n k s h A : Int} {xs : Nat → Int32} {L : Nat} {kn : zSt → (Nat → Int64) → zSt → Int32 → Option Int32} {μ σ : zSt} {o : Nat → Int64} {x4 : Int32} (hM : zRM K n k s μ) (hC : zRC n h s σ) (hR : zAll A σ μ) (hA : A ≤ 900000000000000) (hb : K + 2100000 ≤ 268435456) (hz : ∀ j : Int32, 0 ≤ j.toInt → j.toInt ≤ 7 → zin (x4 + j) L = true) (hK : ∀ (μ1 : zSt) (o1 : Nat → Int64) (σ1 : zSt) (n s : Int), zRM (K + 2100000) n k s μ1 → zRC n h s σ1 → zAll (A + 1000000) σ1 μ1 → zok (kn μ1 o1 σ1 (x4 + 8)) (fun r => r = 1)) : zok (fLaw_1221 xs L kn μ o σ x4) (fun r => r = 1) := by
  unfold fLaw_1221
  refine zok_ck (hz 1 (by decide) (by decide)) ?_
  refine zok_bhE (l_row hC) (fun o3 s4 _ e2 p1 => ?_)
  refine zok_ck (hz 1 (by decide) (by decide)) ?_
  refine zok_biE (m_row hM) (fun s7 _ e6 p5 => ?_)
  have R6 := r_row hR _ _ e2 e6
  refine zok_bv (fun v8 e8 => ?_)
  subst e8
  exact hK _ _ _ _ _ (zRM.mono p5 (by omega) hb) p1 (zAll.mono R6 (by omega))
theorem q_fLaw_1249 {K n k s h A : Int} {xs : Nat → Int32} {L : Nat} {kn : zSt → (Nat → Int64) → zSt → Int32 → Option Int32} {μ σ : zSt} {o : Nat → Int64} {x4 : Int32} (hM : zRM K n k s μ) (hC : zRC n h s σ) (hR : zAll A σ μ) (hA : A ≤ 900000000000000) (hb : K + 2100000 ≤ 268435456) (hz : ∀ j : Int32, 0 ≤ j.toInt → j.toInt ≤ 7 → zin (x4 + j) L = true) (hK : ∀ (μ1 : zSt) (o1 : Nat → Int64) (σ1 : zSt) (n s : Int), zRM (K + 2100000) n k s μ1 → zRC n h s σ1 → zAll (A + 1000000) σ1 μ1 → zok (kn μ1 o1 σ1 (x4 + 8)) (fun r => r = 1)) : zok (fLaw_1249 xs L kn μ o σ x4) (fun r => r = 1) := by
  unfold fLaw_1249
  refine zok_bhE (l_hear hC) (fun o3 s4 _ e2 p1 => ?_)
  refine zok_bllE (m_hear hM) (fun s7 _ e6 p5 => ?_)
  have R6 := r_hear hR _ _ e2 e6
  refine zok_bv (fun v8 e8 => ?_)
  subst e8
  exact hK _ _ _ _ _ (zRM.mono p5 (by omega) hb) p1 (zAll.mono R6 (by omega))
theorem q_fLaw_1265 {K n k s h A : Int} {xs : Nat → Int32} {L : Nat} {kn : zSt → (Nat → Int64) → zSt → Int32 → Option Int32} {μ σ : zSt} {o : Nat → Int64} {x4 : Int32} (hM : zRM K n k s μ) (hC : zRC n h s σ) (hR : zAll A σ μ) (hA : A ≤ 900000000000000) (hb : K + 2100000 ≤ 268435456) (hz : ∀ j : Int32, 0 ≤ j.toInt → j.toInt ≤ 7 → zin (x4 + j) L = true) (hK : ∀ (μ1 : zSt) (o1 : Nat → Int64) (σ1 : zSt) (n s : Int), zRM (K + 2100000) n k s μ1 → zRC n h s σ1 → zAll (A + 1000000) σ1 μ1 → zok (kn μ1 o1 σ1 (x4 + 8)) (fun r => r = 1)) : zok (fLaw_1265 xs L kn μ o σ x4) (fun r => r = 1) := by
  unfold fLaw_1265
  refine zok_bhE (l_mix hC) (fun o3 s4 _ e2 p1 => ?_)
  refine zok_bllE (m_mix hM) (fun s7 _ e6 p5 => ?_)
  have R6 := r_mix hR _ _ e2 e6
  refine zok_bv (fun v8 e8 => ?_)
  subst e8
  exact hK _ _ _ _ _ (zRM.mono p5 (by omega) hb) p1 (zAll.mono R6 (by omega))
theorem q_fLaw_1281 {K n k s h A : Int} {xs : Nat → Int32} {L : Nat} {kn : zSt → (Nat → Int64) → zSt → Int32 → Option Int32} {μ σ : zSt} {o : Nat → Int64} {x4 : Int32} (hM : zRM K n k s μ) (hC : zRC n h s σ) (hR : zAll A σ μ) (hA : A ≤ 900000000000000) (hb : K + 2100000 ≤ 268435456) (hz : ∀ j : Int32, 0 ≤ j.toInt → j.toInt ≤ 7 → zin (x4 + j) L = true) (hK : ∀ (μ1 : zSt) (o1 : Nat → Int64) (σ1 : zSt) (n s : Int), zRM (K + 2100000) n k s μ1 → zRC n h s σ1 → zAll (A + 1000000) σ1 μ1 → zok (kn μ1 o1 σ1 (x4 + 8)) (fun r => r = 1)) : zok (fLaw_1281 xs L kn μ o σ x4) (fun r => r = 1) := by
  unfold fLaw_1281
  refine zok_ck (hz 1 (by decide) (by decide)) ?_
  refine zok_bhE (l_wave hC) (fun o3 s4 _ e2 p1 => ?_)
  refine zok_ck (hz 1 (by decide) (by decide)) ?_
  refine zok_biE (m_wave hM) (fun s7 _ e6 p5 => ?_)
  have R6 := r_wave hR _ _ e2 e6
  refine zok_bv (fun v8 e8 => ?_)
  subst e8
  exact hK _ _ _ _ _ (zRM.mono p5 (by omega) hb) p1 (zAll.mono R6 (by omega))
theorem q_fLaw_1309 {K n k s h A : Int} {xs : Nat → Int32} {L : Nat} {kn : zSt → (Nat → Int64) → zSt → Int32 → Option Int32} {μ σ : zSt} {o : Nat → Int64} {x4 : Int32} (hM : zRM K n k s μ) (hC : zRC n h s σ) (hR : zAll A σ μ) (hA : A ≤ 900000000000000) (hb : K + 2100000 ≤ 268435456) (hz : ∀ j : Int32, 0 ≤ j.toInt → j.toInt ≤ 7 → zin (x4 + j) L = true) (hK : ∀ (μ1 : zSt) (o1 : Nat → Int64) (σ1 : zSt) (n s : Int), zRM (K + 2100000) n k s μ1 → zRC n h s σ1 → zAll (A + 1000000) σ1 μ1 → zok (kn μ1 o1 σ1 (x4 + 8)) (fun r => r = 1)) : zok (fLaw_1309 xs L kn μ o σ x4) (fun r => r = 1) := by
  unfold fLaw_1309
  refine zok_ck (hz 1 (by decide) (by decide)) ?_
  refine zok_bhE (l_sound hC) (fun o3 s4 _ e2 p1 => ?_)
  refine zok_ck (hz 1 (by decide) (by decide)) ?_
  refine zok_biE (m_sound hM) (fun s7 _ e6 p5 => ?_)
  have R6 := r_sound hR _ _ e2 e6
  refine zok_bv (fun v8 e8 => ?_)
  subst e8
  exact hK _ _ _ _ _ (zRM.mono p5 (by omega) hb) p1 (zAll.mono R6 (by omega))
theorem q_fLaw_1337 {K n k s h A : Int} {xs : Nat → Int32} {L : Nat} {kn : zSt → (Nat → Int64) → zSt → Int32 → Option Int32} {μ σ : zSt} {o : Nat → Int64} {x4 : Int32} (hM : zRM K n k s μ) (hC : zRC n h s σ) (hR : zAll A σ μ) (hA : A ≤ 900000000000000) (hb : K + 2100000 ≤ 268435456) (hz : ∀ j : Int32, 0 ≤ j.toInt → j.toInt ≤ 7 → zin (x4 + j) L = true) (hK : ∀ (μ1 : zSt) (o1 : Nat → Int64) (σ1 : zSt) (n s : Int), zRM (K + 2100000) n k s μ1 → zRC n h s σ1 → zAll (A + 1000000) σ1 μ1 → zok (kn μ1 o1 σ1 (x4 + 8)) (fun r => r = 1)) : zok (fLaw_1337 xs L kn μ o σ x4) (fun r => r = 1) := by
  unfold fLaw_1337
  refine zok_ck (hz 1 (by decide) (by decide)) ?_
  refine zok_biE (c_trace hC) (fun s3 _ e2 p1 => ?_)
  refine zok_ck (hz 1 (by decide) (by decide)) ?_
  refine zok_biE (m_trace hM) (fun s6 _ e5 p4 => ?_)
  have d7 := w_trace hR hA hM.pic _ _ e2 e5
  have R6 := g_trace hR _ _ e2 e5
  refine zok_if (fun _ => ?_) (fun q => absurd d7 q)
  refine zok_bv (fun v8 e8 => ?_)
  subst e8
  exact hK _ _ _ _ _ (zRM.mono p4 (by omega) hb) p1 (zAll.mono R6 (by omega))
theorem q_fLaw_1362 {K n k s h A : Int} {xs : Nat → Int32} {L : Nat} {kn : zSt → (Nat → Int64) → zSt → Int32 → Option Int32} {μ σ : zSt} {o : Nat → Int64} {x4 : Int32} (hM : zRM K n k s μ) (hC : zRC n h s σ) (hR : zAll A σ μ) (hA : A ≤ 900000000000000) (hb : K + 2100000 ≤ 268435456) (hz : ∀ j : Int32, 0 ≤ j.toInt → j.toInt ≤ 7 → zin (x4 + j) L = true) (hK : ∀ (μ1 : zSt) (o1 : Nat → Int64) (σ1 : zSt) (n s : Int), zRM (K + 2100000) n k s μ1 → zRC n h s σ1 → zAll (A + 1000000) σ1 μ1 → zok (kn μ1 o1 σ1 (x4 + 8)) (fun r => r = 1)) : zok (fLaw_1362 xs L kn μ o σ x4) (fun r => r = 1) := by
  unfold fLaw_1362
  refine zok_ck (hz 1 (by decide) (by decide)) ?_
  refine zok_bhE (l_look hC) (fun o3 s4 _ e2 p1 => ?_)
  refine zok_ck (hz 1 (by decide) (by decide)) ?_
  refine zok_bllE (m_look hM) (fun s7 _ e6 p5 => ?_)
  have R6 := r_look hR _ _ e2 e6
  refine zok_bv (fun v8 e8 => ?_)
  subst e8
  exact hK _ _ _ _ _ (zRM.mono p5 (by omega) hb) p1 (zAll.mono R6 (by omega))
theorem q_fLaw_1390 {K n k s h A : Int} {xs : Nat → Int32} {L : Nat} {kn : zSt → (Nat → Int64) → zSt → Int32 → Option Int32} {μ σ : zSt} {o : Nat → Int64} {x4 : Int32} (hM : zRM K n k s μ) (hC : zRC n h s σ) (hR : zAll A σ μ) (hA : A ≤ 900000000000000) (hb : K + 2100000 ≤ 268435456) (hz : ∀ j : Int32, 0 ≤ j.toInt → j.toInt ≤ 7 → zin (x4 + j) L = true) (hK : ∀ (μ1 : zSt) (o1 : Nat → Int64) (σ1 : zSt) (n s : Int), zRM (K + 2100000) n k s μ1 → zRC n h s σ1 → zAll (A + 1000000) σ1 μ1 → zok (kn μ1 o1 σ1 (x4 + 8)) (fun r => r = 1)) : zok (fLaw_1390 xs L kn μ o σ x4) (fun r => r = 1) := by
  unfold fLaw_1390
  refine zok_bv (fun v8 e8 => ?_)
  subst e8
  exact hK _ _ _ _ _ (zRM.mono hM (by omega) hb) hC (zAll.mono hR (by omega))
end ZJN5
section ZJN6
theorem z_at8 {L : Nat} (hL : L ≤ 513) {x4 : Int32} {c : Nat} (e : x4.toInt = 1 + 8 * (c : Int)) (hc : c ≤ 64) (q : ¬ Int32.ofNat L - 8 < x4) : c ≤ 63 ∧ (∀ j : Int32, 0 ≤ j.toInt → j.toInt ≤ 7 → zin (x4 + j) L = true) ∧ zin x4 L = true ∧ (x4 + 8).toInt = 1 + 8 * ((c + 1 : Nat) : Int) := by
  have eL : (Int32.ofNat L).toInt = L := Int32.toInt_ofNat_of_lt (by omega)
  have c8 : (8 : Int32).toInt = 8 := rfl
  have r8 : zr 8 8 (8 : Int32) := zr_c (by decide)
  have rL : zr 0 513 (Int32.ofNat L) := ⟨by omega, by omega⟩
  have r4 : zr 1 513 x4 := ⟨by omega, by omega⟩
  have t := z_tsub rL r8 (by decide)
  have q1 := Int32.le_iff_toInt_le.mp (z_nlt q)
  rw [t, eL, c8, e] at q1
  have t8 := z_tadd r4 r8 (by decide)
  refine ⟨by omega, fun j j1 j2 => ?_, zin_ok (lo := x4.toInt) (hi := x4.toInt) ⟨Int.le_refl _, Int.le_refl _⟩ (by omega), by rw [t8, e, c8]; omega⟩
  have rj : zr 0 7 j := ⟨j1, j2⟩
  have tj := z_tadd r4 rj (by decide)
  exact zin_ok (lo := (x4 + j).toInt) (hi := (x4 + j).toInt) ⟨Int.le_refl _, Int.le_refl _⟩ (by omega)
theorem z_loop {L : Nat} (hL : L ≤ 513) {xs : Nat → Int32} {k h : Int} : ∀ (n c : Nat) (μ : zSt) (o : Nat → Int64) (σ : zSt) (x4 : Int32) (a d : Int), x4.toInt = 1 + 8 * (c : Int) → c + n = 66 → c ≤ 64 → zRM (2100000 * (c : Int)) a k d μ → zRC a h d σ → zAll (1000000 * (c : Int)) σ μ → zok (fLaw xs L n μ o σ x4) (fun r => r = 1) := by
  intro n
  induction n with
  | zero => intro c μ o σ x4 a d e hn hc; exfalso; omega
  | succ n ih =>
    intro c μ o σ x4 a d e hn hc hM hC hR
    show zok (fLaw_body xs L (fLaw xs L n) μ o σ x4) _
    unfold fLaw_body
    refine zok_if (fun _ => zok_some rfl) (fun q => ?_)
    obtain ⟨c1, hz, h0, e8⟩ := z_at8 hL e hc q
    have hb : 2100000 * (c : Int) + 2100000 ≤ 268435456 := by omega
    have hA : 1000000 * (c : Int) ≤ 900000000000000 := by omega
    have hK : ∀ (μ1 : zSt) (o1 : Nat → Int64) (σ1 : zSt) (a d : Int), zRM (2100000 * (c : Int) + 2100000) a k d μ1 → zRC a h d σ1 → zAll (1000000 * (c : Int) + 1000000) σ1 μ1 → zok (fLaw xs L n μ1 o1 σ1 (x4 + 8)) (fun r => r = 1) := fun μ1 o1 σ1 a d h1 h2 h3 => by
      refine ih (c + 1) μ1 o1 σ1 (x4 + 8) a d e8 (by omega) (by omega) ?_ h2 ?_
      · rw [show 2100000 * ((c + 1 : Nat) : Int) = 2100000 * (c : Int) + 2100000 by omega]
        exact h1
      · rw [show 1000000 * ((c + 1 : Nat) : Int) = 1000000 * (c : Int) + 1000000 by omega]
        exact h3
    refine zok_ck h0 (zok_bv (fun t _ => ?_))
    refine zok_if (fun _ => q_fLaw_208 hM hC hR hA hb hz hK) (fun _ => ?_)
    refine zok_if (fun _ => q_fLaw_372 hM hC hR hA hb hz hK) (fun _ => ?_)
    refine zok_if (fun _ => q_fLaw_400 hM hC hR hA hb hz hK) (fun _ => ?_)
    refine zok_if (fun _ => q_fLaw_469 hM hC hR hA hb hz hK) (fun _ => ?_)
    refine zok_if (fun _ => q_fLaw_482 hM hC hR hA hb hz hK) (fun _ => ?_)
    refine zok_if (fun _ => q_fLaw_510 hM hC hR hA hb hz hK) (fun _ => ?_)
    refine zok_if (fun _ => q_fLaw_538 hM hC hR hA hb hz hK) (fun _ => ?_)
    refine zok_if (fun _ => q_fLaw_566 hM hC hR hA hb hz hK) (fun _ => ?_)
    refine zok_if (fun _ => q_fLaw_577 hM hC hR hA hb hz hK) (fun _ => ?_)
    refine zok_if (fun _ => q_fLaw_590 hM hC hR hA hb hz hK) (fun _ => ?_)
    refine zok_if (fun _ => q_fLaw_627 hM hC hR hA hb hz hK) (fun _ => ?_)
    refine zok_if (fun _ => q_fLaw_666 hM hC hR hA hb hz hK) (fun _ => ?_)
    refine zok_if (fun _ => q_fLaw_719 hM hC hR hA hb hz hK) (fun _ => ?_)
    refine zok_if (fun _ => q_fLaw_771 hM hC hR hA hb hz hK) (fun _ => ?_)
    refine zok_if (fun _ => q_fLaw_796 hM hC hR hA hb hz hK) (fun _ => ?_)
    refine zok_if (fun _ => q_fLaw_824 hM hC hR hA hb hz hK) (fun _ => ?_)
    refine zok_if (fun _ => q_fLaw_880 hM hC hR hA hb hz hK) (fun _ => ?_)
    refine zok_if (fun _ => q_fLaw_891 hM hC hR hA hb hz hK) (fun _ => ?_)
    refine zok_if (fun _ => q_fLaw_904 hM hC hR hA hb hz hK) (fun _ => ?_)
    refine zok_if (fun _ => q_fLaw_932 hM hC hR hA hb hz hK) (fun _ => ?_)
    refine zok_if (fun _ => q_fLaw_969 hM hC hR hA hb hz hK) (fun _ => ?_)
    refine zok_if (fun _ => q_fLaw_994 hM hC hR hA hb hz hK) (fun _ => ?_)
    refine zok_if (fun _ => q_fLaw_1029 hM hC hR hA hb hz hK) (fun _ => ?_)
    refine zok_if (fun _ => q_fLaw_1054 hM hC hR hA hb hz hK) (fun _ => ?_)
    refine zok_if (fun _ => q_fLaw_1089 hM hC hR hA hb hz hK) (fun _ => ?_)
    refine zok_if (fun _ => q_fLaw_1117 hM hC hR hA hb hz hK) (fun _ => ?_)
    refine zok_if (fun _ => q_fLaw_1128 hM hC hR hA hb hz hK) (fun _ => ?_)
    refine zok_if (fun _ => q_fLaw_1153 hM hC hR hA hb hz hK) (fun _ => ?_)
    refine zok_if (fun _ => q_fLaw_1181 hM hC hR hA hb hz hK) (fun _ => ?_)
    refine zok_if (fun _ => q_fLaw_1221 hM hC hR hA hb hz hK) (fun _ => ?_)
    refine zok_if (fun _ => q_fLaw_1249 hM hC hR hA hb hz hK) (fun _ => ?_)
    refine zok_if (fun _ => q_fLaw_1265 hM hC hR hA hb hz hK) (fun _ => ?_)
    refine zok_if (fun _ => q_fLaw_1281 hM hC hR hA hb hz hK) (fun _ => ?_)
    refine zok_if (fun _ => q_fLaw_1309 hM hC hR hA hb hz hK) (fun _ => ?_)
    refine zok_if (fun _ => q_fLaw_1337 hM hC hR hA hb hz hK) (fun _ => ?_)
    refine zok_if (fun _ => q_fLaw_1362 hM hC hR hA hb hz hK) (fun _ => ?_)
    exact q_fLaw_1390 hM hC hR hA hb hz hK
theorem zKS_fresh {k : Int32} : zKS 0 (zG0 k) := by
  have v : ∀ i, ¬ i = 1 → zG0 k i = 0 := fun i h1 => by
    unfold zG0 zset
    split
    · rfl
    · split
      · rfl
      · first | rfl | rw [if_neg h1]
  have lb := zln_b (zG0 k)
  unfold zKS zJ
  rw [v 102 (by decide), v 105 (by decide), v 106 (by decide), v 6 (by decide), v 7 (by decide), v 8 (by decide)]
  omega
theorem z_owed {L : Nat} {xs : Nat → Int32} (hL : L ≤ 513) : zOwed L xs := by
  obtain ⟨σ4, e4, i4⟩ := z_c4
  obtain ⟨σ5, e5, i5⟩ := z_c5
  obtain ⟨σ9, e9, i9⟩ := z_c9
  obtain ⟨σ1, e1, i1⟩ := s_freshM (zKd_r (zCell L xs))
  have hC := s_freshC i4 i5 (fun v => (Classical.choose_spec (z_c6 v)).2) i9 (k := zCell L xs)
  have z0 : zG0 (zKd (zCell L xs)) 0 = 0 := by unfold zG0; rw [zset_ne (by decide), zset_ne (by decide), zset_ne (by decide)]
  have z2 : zG0 (zKd (zCell L xs)) 2 = 0 := by unfold zG0; rw [zset_ne (by decide), zset_ne (by decide), zset_ne (by decide)]
  have h0 : zRM (2100000 * ((0 : Nat) : Int)) 0 (zG0 (zKd (zCell L xs)) 1) 0 σ1 := by
    rw [show (2100000 * ((0 : Nat) : Int)) = 0 by decide]
    exact ⟨by decide, _, i1, zG0_J (zKd_r _), zKS_fresh, z0, rfl, z2⟩
  have h1 : zRC 0 (zH0 (zCell L xs) 2) 0 (zC1 (zCell L xs) σ4 σ5 (fun v => Classical.choose (z_c6 v)) σ9) := ⟨_, hC, rfl, rfl, rfl⟩
  obtain ⟨r, e, h⟩ := z_loop hL (xs := xs) 66 0 σ1 (fun _ => 0) _ 1 _ _ (by decide) rfl (by decide) h0 h1 (by rw [show (1000000 * ((0 : Nat) : Int)) = 0 by decide]; exact z_freshA rfl e4 e5 (fun v => (Classical.choose_spec (z_c6 v)).1) e9 e1)
  refine ⟨σ4, e4, σ5, e5, _, fun v => (Classical.choose_spec (z_c6 v)).1, σ9, e9, σ1, e1, 66, by decide, ?_⟩
  rw [e, h]
end ZJN6
