section ZJN0
/-! WHAT IS KEPT -/
noncomputable def zkp {α : Type} (g : Nat → α → α) (f : Nat → Nat → α) (k j : Nat) : List (Nat × Nat × Nat) → α
  | [] => f k j
  | t :: l => bif (Nat.beq t.1 k && Nat.blt j t.2.2) then g k (f t.2.1 j) else zkp g f k j l
noncomputable def zsv : List (Nat × Nat × Nat) := [(42, 43, 770), (40, 41, 9), (36, 37, 29), (34, 35, 12), (32, 33, 272), (30, 31, 19), (25, 26, 61440), (23, 24, 96), (21, 22, 16384), (19, 20, 4), (17, 18, 32768), (15, 16, 8192)]
noncomputable def zsm : List (Nat × Nat × Nat) := [(9, 18, 61440), (8, 17, 64), (7, 16, 16384), (6, 15, 32768), (5, 14, 8192), (3, 12, 1048)]
noncomputable def zid {α : Type} (_ : Nat) (v : α) : α := v
noncomputable def zmb (k : Nat) (v : Int32) : Int32 := bif (Nat.ble 5 k && Nat.ble k 8) then vp_nar .byte v else v
/-- the class, the reference as they were kept -/
noncomputable def zKc (σ : zSt) : zSt := (fun k j => zkp zid σ.1 k j zsv, fun k j => zkp zid σ.2 k j [(38, 39, 7)])
noncomputable def zKm (μ : zSt) : zSt := (fun k j => zkp zmb μ.1 k j zsm, fun k j => zkp zid μ.2 k j [(4, 13, 5)])
theorem zkp_of {α : Type} {g : Nat → α → α} {f f0 : Nat → Nat → α} {k j : Nat} (h0 : f k j = f0 k j) : ∀ {l : List (Nat × Nat × Nat)}, (∀ t ∈ l, ∀ i : Nat, i < t.2.2 → g t.1 (f t.2.1 i) = f0 t.1 i) → zkp g f k j l = f0 k j
  | [], _ => h0
  | t :: l, h => by
    unfold zkp
    cases q : (Nat.beq t.1 k && Nat.blt j t.2.2) with
    | true =>
      rw [Bool.and_eq_true] at q
      have e : t.1 = k := Nat.eq_of_beq_eq_true q.1
      have z := h t List.mem_cons_self j (Nat.le_of_ble_eq_true q.2)
      rw [e] at z
      exact z
    | false => exact zkp_of h0 (fun t ht => h t (List.mem_cons_of_mem _ ht))
theorem zkp_rev {α : Type} {g : Nat → α → α} {f r : Nat → Nat → α} {k j : Nat} : ∀ {l : List (Nat × Nat × Nat)}, (∀ t ∈ l, ∀ i : Nat, i < t.2.2 → r t.1 i = g t.1 (f t.2.1 i)) → ((∀ t ∈ l, t.1 = k → ¬ j < t.2.2) → r k j = f k j) → r k j = zkp g f k j l
  | [], _, h0 => h0 (fun _ h => absurd h List.not_mem_nil)
  | t :: l, h, h0 => by
    unfold zkp
    cases q : (Nat.beq t.1 k && Nat.blt j t.2.2) with
    | true =>
      rw [Bool.and_eq_true] at q
      have e : t.1 = k := Nat.eq_of_beq_eq_true q.1
      have z := h t List.mem_cons_self j (Nat.le_of_ble_eq_true q.2)
      rw [e] at z
      exact z
    | false =>
      refine zkp_rev (fun t ht => h t (List.mem_cons_of_mem _ ht)) (fun z => h0 (fun u hu e => ?_))
      rcases List.mem_cons.mp hu with x | x
      · subst x
        intro l
        rw [show Nat.beq u.1 k = true by rw [e]; exact Nat.beq_refl k, show Nat.blt j u.2.2 = true from Nat.ble_eq.mpr l] at q
        cases q
      · exact z u x e
theorem zkp_skip {α : Type} {g : Nat → α → α} {f : Nat → Nat → α} {k j : Nat} {t : Nat × Nat × Nat} {l : List (Nat × Nat × Nat)} (h : Nat.beq t.1 k = false) : zkp g f k j (t :: l) = zkp g f k j l := by
  show (bif (Nat.beq t.1 k && Nat.blt j t.2.2) then g k (f t.2.1 j) else zkp g f k j l) = _
  rw [h]
  rfl
theorem zkp_hit {α : Type} {g : Nat → α → α} {f : Nat → Nat → α} {k j : Nat} {t : Nat × Nat × Nat} {l : List (Nat × Nat × Nat)} (h : Nat.beq t.1 k = true) (hj : j < t.2.2) : zkp g f k j (t :: l) = g k (f t.2.1 j) := by
  have e : Nat.blt j t.2.2 = true := Nat.ble_eq.mpr hj
  show (bif (Nat.beq t.1 k && Nat.blt j t.2.2) then g k (f t.2.1 j) else zkp g f k j l) = _
  rw [h, e]
  rfl
section ZKC
variable {σ μ s t r : zSt} {B : Int × Int × Int} {Q : zSt → Prop}
theorem zKc_42 {j : Nat} (h : j < 770) : (zKc σ).1 42 j = σ.1 43 j := zkp_hit (g := zid) (f := σ.1) (k := 42) (j := j) (t := (42, 43, 770)) (l := [(40, 41, 9), (36, 37, 29), (34, 35, 12), (32, 33, 272), (30, 31, 19), (25, 26, 61440), (23, 24, 96), (21, 22, 16384), (19, 20, 4), (17, 18, 32768), (15, 16, 8192)]) rfl h
theorem zKc_40 {j : Nat} (h : j < 9) : (zKc σ).1 40 j = σ.1 41 j := (zkp_skip (g := zid) (f := σ.1) (k := 40) (j := j) (t := (42, 43, 770)) (l := [(40, 41, 9), (36, 37, 29), (34, 35, 12), (32, 33, 272), (30, 31, 19), (25, 26, 61440), (23, 24, 96), (21, 22, 16384), (19, 20, 4), (17, 18, 32768), (15, 16, 8192)]) rfl).trans (zkp_hit (g := zid) (f := σ.1) (k := 40) (j := j) (t := (40, 41, 9)) (l := [(36, 37, 29), (34, 35, 12), (32, 33, 272), (30, 31, 19), (25, 26, 61440), (23, 24, 96), (21, 22, 16384), (19, 20, 4), (17, 18, 32768), (15, 16, 8192)]) rfl h)
theorem zKc_36 {j : Nat} (h : j < 29) : (zKc σ).1 36 j = σ.1 37 j := (zkp_skip (g := zid) (f := σ.1) (k := 36) (j := j) (t := (42, 43, 770)) (l := [(40, 41, 9), (36, 37, 29), (34, 35, 12), (32, 33, 272), (30, 31, 19), (25, 26, 61440), (23, 24, 96), (21, 22, 16384), (19, 20, 4), (17, 18, 32768), (15, 16, 8192)]) rfl).trans ((zkp_skip (g := zid) (f := σ.1) (k := 36) (j := j) (t := (40, 41, 9)) (l := [(36, 37, 29), (34, 35, 12), (32, 33, 272), (30, 31, 19), (25, 26, 61440), (23, 24, 96), (21, 22, 16384), (19, 20, 4), (17, 18, 32768), (15, 16, 8192)]) rfl).trans (zkp_hit (g := zid) (f := σ.1) (k := 36) (j := j) (t := (36, 37, 29)) (l := [(34, 35, 12), (32, 33, 272), (30, 31, 19), (25, 26, 61440), (23, 24, 96), (21, 22, 16384), (19, 20, 4), (17, 18, 32768), (15, 16, 8192)]) rfl h))
theorem zKc_34 {j : Nat} (h : j < 12) : (zKc σ).1 34 j = σ.1 35 j := (zkp_skip (g := zid) (f := σ.1) (k := 34) (j := j) (t := (42, 43, 770)) (l := [(40, 41, 9), (36, 37, 29), (34, 35, 12), (32, 33, 272), (30, 31, 19), (25, 26, 61440), (23, 24, 96), (21, 22, 16384), (19, 20, 4), (17, 18, 32768), (15, 16, 8192)]) rfl).trans ((zkp_skip (g := zid) (f := σ.1) (k := 34) (j := j) (t := (40, 41, 9)) (l := [(36, 37, 29), (34, 35, 12), (32, 33, 272), (30, 31, 19), (25, 26, 61440), (23, 24, 96), (21, 22, 16384), (19, 20, 4), (17, 18, 32768), (15, 16, 8192)]) rfl).trans ((zkp_skip (g := zid) (f := σ.1) (k := 34) (j := j) (t := (36, 37, 29)) (l := [(34, 35, 12), (32, 33, 272), (30, 31, 19), (25, 26, 61440), (23, 24, 96), (21, 22, 16384), (19, 20, 4), (17, 18, 32768), (15, 16, 8192)]) rfl).trans (zkp_hit (g := zid) (f := σ.1) (k := 34) (j := j) (t := (34, 35, 12)) (l := [(32, 33, 272), (30, 31, 19), (25, 26, 61440), (23, 24, 96), (21, 22, 16384), (19, 20, 4), (17, 18, 32768), (15, 16, 8192)]) rfl h)))
theorem zKc_32 {j : Nat} (h : j < 272) : (zKc σ).1 32 j = σ.1 33 j := (zkp_skip (g := zid) (f := σ.1) (k := 32) (j := j) (t := (42, 43, 770)) (l := [(40, 41, 9), (36, 37, 29), (34, 35, 12), (32, 33, 272), (30, 31, 19), (25, 26, 61440), (23, 24, 96), (21, 22, 16384), (19, 20, 4), (17, 18, 32768), (15, 16, 8192)]) rfl).trans ((zkp_skip (g := zid) (f := σ.1) (k := 32) (j := j) (t := (40, 41, 9)) (l := [(36, 37, 29), (34, 35, 12), (32, 33, 272), (30, 31, 19), (25, 26, 61440), (23, 24, 96), (21, 22, 16384), (19, 20, 4), (17, 18, 32768), (15, 16, 8192)]) rfl).trans ((zkp_skip (g := zid) (f := σ.1) (k := 32) (j := j) (t := (36, 37, 29)) (l := [(34, 35, 12), (32, 33, 272), (30, 31, 19), (25, 26, 61440), (23, 24, 96), (21, 22, 16384), (19, 20, 4), (17, 18, 32768), (15, 16, 8192)]) rfl).trans ((zkp_skip (g := zid) (f := σ.1) (k := 32) (j := j) (t := (34, 35, 12)) (l := [(32, 33, 272), (30, 31, 19), (25, 26, 61440), (23, 24, 96), (21, 22, 16384), (19, 20, 4), (17, 18, 32768), (15, 16, 8192)]) rfl).trans (zkp_hit (g := zid) (f := σ.1) (k := 32) (j := j) (t := (32, 33, 272)) (l := [(30, 31, 19), (25, 26, 61440), (23, 24, 96), (21, 22, 16384), (19, 20, 4), (17, 18, 32768), (15, 16, 8192)]) rfl h))))
theorem zKc_30 {j : Nat} (h : j < 19) : (zKc σ).1 30 j = σ.1 31 j := (zkp_skip (g := zid) (f := σ.1) (k := 30) (j := j) (t := (42, 43, 770)) (l := [(40, 41, 9), (36, 37, 29), (34, 35, 12), (32, 33, 272), (30, 31, 19), (25, 26, 61440), (23, 24, 96), (21, 22, 16384), (19, 20, 4), (17, 18, 32768), (15, 16, 8192)]) rfl).trans ((zkp_skip (g := zid) (f := σ.1) (k := 30) (j := j) (t := (40, 41, 9)) (l := [(36, 37, 29), (34, 35, 12), (32, 33, 272), (30, 31, 19), (25, 26, 61440), (23, 24, 96), (21, 22, 16384), (19, 20, 4), (17, 18, 32768), (15, 16, 8192)]) rfl).trans ((zkp_skip (g := zid) (f := σ.1) (k := 30) (j := j) (t := (36, 37, 29)) (l := [(34, 35, 12), (32, 33, 272), (30, 31, 19), (25, 26, 61440), (23, 24, 96), (21, 22, 16384), (19, 20, 4), (17, 18, 32768), (15, 16, 8192)]) rfl).trans ((zkp_skip (g := zid) (f := σ.1) (k := 30) (j := j) (t := (34, 35, 12)) (l := [(32, 33, 272), (30, 31, 19), (25, 26, 61440), (23, 24, 96), (21, 22, 16384), (19, 20, 4), (17, 18, 32768), (15, 16, 8192)]) rfl).trans ((zkp_skip (g := zid) (f := σ.1) (k := 30) (j := j) (t := (32, 33, 272)) (l := [(30, 31, 19), (25, 26, 61440), (23, 24, 96), (21, 22, 16384), (19, 20, 4), (17, 18, 32768), (15, 16, 8192)]) rfl).trans (zkp_hit (g := zid) (f := σ.1) (k := 30) (j := j) (t := (30, 31, 19)) (l := [(25, 26, 61440), (23, 24, 96), (21, 22, 16384), (19, 20, 4), (17, 18, 32768), (15, 16, 8192)]) rfl h)))))
theorem zKc_25 {j : Nat} (h : j < 61440) : (zKc σ).1 25 j = σ.1 26 j := (zkp_skip (g := zid) (f := σ.1) (k := 25) (j := j) (t := (42, 43, 770)) (l := [(40, 41, 9), (36, 37, 29), (34, 35, 12), (32, 33, 272), (30, 31, 19), (25, 26, 61440), (23, 24, 96), (21, 22, 16384), (19, 20, 4), (17, 18, 32768), (15, 16, 8192)]) rfl).trans ((zkp_skip (g := zid) (f := σ.1) (k := 25) (j := j) (t := (40, 41, 9)) (l := [(36, 37, 29), (34, 35, 12), (32, 33, 272), (30, 31, 19), (25, 26, 61440), (23, 24, 96), (21, 22, 16384), (19, 20, 4), (17, 18, 32768), (15, 16, 8192)]) rfl).trans ((zkp_skip (g := zid) (f := σ.1) (k := 25) (j := j) (t := (36, 37, 29)) (l := [(34, 35, 12), (32, 33, 272), (30, 31, 19), (25, 26, 61440), (23, 24, 96), (21, 22, 16384), (19, 20, 4), (17, 18, 32768), (15, 16, 8192)]) rfl).trans ((zkp_skip (g := zid) (f := σ.1) (k := 25) (j := j) (t := (34, 35, 12)) (l := [(32, 33, 272), (30, 31, 19), (25, 26, 61440), (23, 24, 96), (21, 22, 16384), (19, 20, 4), (17, 18, 32768), (15, 16, 8192)]) rfl).trans ((zkp_skip (g := zid) (f := σ.1) (k := 25) (j := j) (t := (32, 33, 272)) (l := [(30, 31, 19), (25, 26, 61440), (23, 24, 96), (21, 22, 16384), (19, 20, 4), (17, 18, 32768), (15, 16, 8192)]) rfl).trans ((zkp_skip (g := zid) (f := σ.1) (k := 25) (j := j) (t := (30, 31, 19)) (l := [(25, 26, 61440), (23, 24, 96), (21, 22, 16384), (19, 20, 4), (17, 18, 32768), (15, 16, 8192)]) rfl).trans (zkp_hit (g := zid) (f := σ.1) (k := 25) (j := j) (t := (25, 26, 61440)) (l := [(23, 24, 96), (21, 22, 16384), (19, 20, 4), (17, 18, 32768), (15, 16, 8192)]) rfl h))))))
theorem zKc_23 {j : Nat} (h : j < 96) : (zKc σ).1 23 j = σ.1 24 j := (zkp_skip (g := zid) (f := σ.1) (k := 23) (j := j) (t := (42, 43, 770)) (l := [(40, 41, 9), (36, 37, 29), (34, 35, 12), (32, 33, 272), (30, 31, 19), (25, 26, 61440), (23, 24, 96), (21, 22, 16384), (19, 20, 4), (17, 18, 32768), (15, 16, 8192)]) rfl).trans ((zkp_skip (g := zid) (f := σ.1) (k := 23) (j := j) (t := (40, 41, 9)) (l := [(36, 37, 29), (34, 35, 12), (32, 33, 272), (30, 31, 19), (25, 26, 61440), (23, 24, 96), (21, 22, 16384), (19, 20, 4), (17, 18, 32768), (15, 16, 8192)]) rfl).trans ((zkp_skip (g := zid) (f := σ.1) (k := 23) (j := j) (t := (36, 37, 29)) (l := [(34, 35, 12), (32, 33, 272), (30, 31, 19), (25, 26, 61440), (23, 24, 96), (21, 22, 16384), (19, 20, 4), (17, 18, 32768), (15, 16, 8192)]) rfl).trans ((zkp_skip (g := zid) (f := σ.1) (k := 23) (j := j) (t := (34, 35, 12)) (l := [(32, 33, 272), (30, 31, 19), (25, 26, 61440), (23, 24, 96), (21, 22, 16384), (19, 20, 4), (17, 18, 32768), (15, 16, 8192)]) rfl).trans ((zkp_skip (g := zid) (f := σ.1) (k := 23) (j := j) (t := (32, 33, 272)) (l := [(30, 31, 19), (25, 26, 61440), (23, 24, 96), (21, 22, 16384), (19, 20, 4), (17, 18, 32768), (15, 16, 8192)]) rfl).trans ((zkp_skip (g := zid) (f := σ.1) (k := 23) (j := j) (t := (30, 31, 19)) (l := [(25, 26, 61440), (23, 24, 96), (21, 22, 16384), (19, 20, 4), (17, 18, 32768), (15, 16, 8192)]) rfl).trans ((zkp_skip (g := zid) (f := σ.1) (k := 23) (j := j) (t := (25, 26, 61440)) (l := [(23, 24, 96), (21, 22, 16384), (19, 20, 4), (17, 18, 32768), (15, 16, 8192)]) rfl).trans (zkp_hit (g := zid) (f := σ.1) (k := 23) (j := j) (t := (23, 24, 96)) (l := [(21, 22, 16384), (19, 20, 4), (17, 18, 32768), (15, 16, 8192)]) rfl h)))))))
theorem zKc_21 {j : Nat} (h : j < 16384) : (zKc σ).1 21 j = σ.1 22 j := (zkp_skip (g := zid) (f := σ.1) (k := 21) (j := j) (t := (42, 43, 770)) (l := [(40, 41, 9), (36, 37, 29), (34, 35, 12), (32, 33, 272), (30, 31, 19), (25, 26, 61440), (23, 24, 96), (21, 22, 16384), (19, 20, 4), (17, 18, 32768), (15, 16, 8192)]) rfl).trans ((zkp_skip (g := zid) (f := σ.1) (k := 21) (j := j) (t := (40, 41, 9)) (l := [(36, 37, 29), (34, 35, 12), (32, 33, 272), (30, 31, 19), (25, 26, 61440), (23, 24, 96), (21, 22, 16384), (19, 20, 4), (17, 18, 32768), (15, 16, 8192)]) rfl).trans ((zkp_skip (g := zid) (f := σ.1) (k := 21) (j := j) (t := (36, 37, 29)) (l := [(34, 35, 12), (32, 33, 272), (30, 31, 19), (25, 26, 61440), (23, 24, 96), (21, 22, 16384), (19, 20, 4), (17, 18, 32768), (15, 16, 8192)]) rfl).trans ((zkp_skip (g := zid) (f := σ.1) (k := 21) (j := j) (t := (34, 35, 12)) (l := [(32, 33, 272), (30, 31, 19), (25, 26, 61440), (23, 24, 96), (21, 22, 16384), (19, 20, 4), (17, 18, 32768), (15, 16, 8192)]) rfl).trans ((zkp_skip (g := zid) (f := σ.1) (k := 21) (j := j) (t := (32, 33, 272)) (l := [(30, 31, 19), (25, 26, 61440), (23, 24, 96), (21, 22, 16384), (19, 20, 4), (17, 18, 32768), (15, 16, 8192)]) rfl).trans ((zkp_skip (g := zid) (f := σ.1) (k := 21) (j := j) (t := (30, 31, 19)) (l := [(25, 26, 61440), (23, 24, 96), (21, 22, 16384), (19, 20, 4), (17, 18, 32768), (15, 16, 8192)]) rfl).trans ((zkp_skip (g := zid) (f := σ.1) (k := 21) (j := j) (t := (25, 26, 61440)) (l := [(23, 24, 96), (21, 22, 16384), (19, 20, 4), (17, 18, 32768), (15, 16, 8192)]) rfl).trans ((zkp_skip (g := zid) (f := σ.1) (k := 21) (j := j) (t := (23, 24, 96)) (l := [(21, 22, 16384), (19, 20, 4), (17, 18, 32768), (15, 16, 8192)]) rfl).trans (zkp_hit (g := zid) (f := σ.1) (k := 21) (j := j) (t := (21, 22, 16384)) (l := [(19, 20, 4), (17, 18, 32768), (15, 16, 8192)]) rfl h))))))))
theorem zKc_19 {j : Nat} (h : j < 4) : (zKc σ).1 19 j = σ.1 20 j := (zkp_skip (g := zid) (f := σ.1) (k := 19) (j := j) (t := (42, 43, 770)) (l := [(40, 41, 9), (36, 37, 29), (34, 35, 12), (32, 33, 272), (30, 31, 19), (25, 26, 61440), (23, 24, 96), (21, 22, 16384), (19, 20, 4), (17, 18, 32768), (15, 16, 8192)]) rfl).trans ((zkp_skip (g := zid) (f := σ.1) (k := 19) (j := j) (t := (40, 41, 9)) (l := [(36, 37, 29), (34, 35, 12), (32, 33, 272), (30, 31, 19), (25, 26, 61440), (23, 24, 96), (21, 22, 16384), (19, 20, 4), (17, 18, 32768), (15, 16, 8192)]) rfl).trans ((zkp_skip (g := zid) (f := σ.1) (k := 19) (j := j) (t := (36, 37, 29)) (l := [(34, 35, 12), (32, 33, 272), (30, 31, 19), (25, 26, 61440), (23, 24, 96), (21, 22, 16384), (19, 20, 4), (17, 18, 32768), (15, 16, 8192)]) rfl).trans ((zkp_skip (g := zid) (f := σ.1) (k := 19) (j := j) (t := (34, 35, 12)) (l := [(32, 33, 272), (30, 31, 19), (25, 26, 61440), (23, 24, 96), (21, 22, 16384), (19, 20, 4), (17, 18, 32768), (15, 16, 8192)]) rfl).trans ((zkp_skip (g := zid) (f := σ.1) (k := 19) (j := j) (t := (32, 33, 272)) (l := [(30, 31, 19), (25, 26, 61440), (23, 24, 96), (21, 22, 16384), (19, 20, 4), (17, 18, 32768), (15, 16, 8192)]) rfl).trans ((zkp_skip (g := zid) (f := σ.1) (k := 19) (j := j) (t := (30, 31, 19)) (l := [(25, 26, 61440), (23, 24, 96), (21, 22, 16384), (19, 20, 4), (17, 18, 32768), (15, 16, 8192)]) rfl).trans ((zkp_skip (g := zid) (f := σ.1) (k := 19) (j := j) (t := (25, 26, 61440)) (l := [(23, 24, 96), (21, 22, 16384), (19, 20, 4), (17, 18, 32768), (15, 16, 8192)]) rfl).trans ((zkp_skip (g := zid) (f := σ.1) (k := 19) (j := j) (t := (23, 24, 96)) (l := [(21, 22, 16384), (19, 20, 4), (17, 18, 32768), (15, 16, 8192)]) rfl).trans ((zkp_skip (g := zid) (f := σ.1) (k := 19) (j := j) (t := (21, 22, 16384)) (l := [(19, 20, 4), (17, 18, 32768), (15, 16, 8192)]) rfl).trans (zkp_hit (g := zid) (f := σ.1) (k := 19) (j := j) (t := (19, 20, 4)) (l := [(17, 18, 32768), (15, 16, 8192)]) rfl h)))))))))
theorem zKc_17 {j : Nat} (h : j < 32768) : (zKc σ).1 17 j = σ.1 18 j := (zkp_skip (g := zid) (f := σ.1) (k := 17) (j := j) (t := (42, 43, 770)) (l := [(40, 41, 9), (36, 37, 29), (34, 35, 12), (32, 33, 272), (30, 31, 19), (25, 26, 61440), (23, 24, 96), (21, 22, 16384), (19, 20, 4), (17, 18, 32768), (15, 16, 8192)]) rfl).trans ((zkp_skip (g := zid) (f := σ.1) (k := 17) (j := j) (t := (40, 41, 9)) (l := [(36, 37, 29), (34, 35, 12), (32, 33, 272), (30, 31, 19), (25, 26, 61440), (23, 24, 96), (21, 22, 16384), (19, 20, 4), (17, 18, 32768), (15, 16, 8192)]) rfl).trans ((zkp_skip (g := zid) (f := σ.1) (k := 17) (j := j) (t := (36, 37, 29)) (l := [(34, 35, 12), (32, 33, 272), (30, 31, 19), (25, 26, 61440), (23, 24, 96), (21, 22, 16384), (19, 20, 4), (17, 18, 32768), (15, 16, 8192)]) rfl).trans ((zkp_skip (g := zid) (f := σ.1) (k := 17) (j := j) (t := (34, 35, 12)) (l := [(32, 33, 272), (30, 31, 19), (25, 26, 61440), (23, 24, 96), (21, 22, 16384), (19, 20, 4), (17, 18, 32768), (15, 16, 8192)]) rfl).trans ((zkp_skip (g := zid) (f := σ.1) (k := 17) (j := j) (t := (32, 33, 272)) (l := [(30, 31, 19), (25, 26, 61440), (23, 24, 96), (21, 22, 16384), (19, 20, 4), (17, 18, 32768), (15, 16, 8192)]) rfl).trans ((zkp_skip (g := zid) (f := σ.1) (k := 17) (j := j) (t := (30, 31, 19)) (l := [(25, 26, 61440), (23, 24, 96), (21, 22, 16384), (19, 20, 4), (17, 18, 32768), (15, 16, 8192)]) rfl).trans ((zkp_skip (g := zid) (f := σ.1) (k := 17) (j := j) (t := (25, 26, 61440)) (l := [(23, 24, 96), (21, 22, 16384), (19, 20, 4), (17, 18, 32768), (15, 16, 8192)]) rfl).trans ((zkp_skip (g := zid) (f := σ.1) (k := 17) (j := j) (t := (23, 24, 96)) (l := [(21, 22, 16384), (19, 20, 4), (17, 18, 32768), (15, 16, 8192)]) rfl).trans ((zkp_skip (g := zid) (f := σ.1) (k := 17) (j := j) (t := (21, 22, 16384)) (l := [(19, 20, 4), (17, 18, 32768), (15, 16, 8192)]) rfl).trans ((zkp_skip (g := zid) (f := σ.1) (k := 17) (j := j) (t := (19, 20, 4)) (l := [(17, 18, 32768), (15, 16, 8192)]) rfl).trans (zkp_hit (g := zid) (f := σ.1) (k := 17) (j := j) (t := (17, 18, 32768)) (l := [(15, 16, 8192)]) rfl h))))))))))
theorem zKc_15 {j : Nat} (h : j < 8192) : (zKc σ).1 15 j = σ.1 16 j := (zkp_skip (g := zid) (f := σ.1) (k := 15) (j := j) (t := (42, 43, 770)) (l := [(40, 41, 9), (36, 37, 29), (34, 35, 12), (32, 33, 272), (30, 31, 19), (25, 26, 61440), (23, 24, 96), (21, 22, 16384), (19, 20, 4), (17, 18, 32768), (15, 16, 8192)]) rfl).trans ((zkp_skip (g := zid) (f := σ.1) (k := 15) (j := j) (t := (40, 41, 9)) (l := [(36, 37, 29), (34, 35, 12), (32, 33, 272), (30, 31, 19), (25, 26, 61440), (23, 24, 96), (21, 22, 16384), (19, 20, 4), (17, 18, 32768), (15, 16, 8192)]) rfl).trans ((zkp_skip (g := zid) (f := σ.1) (k := 15) (j := j) (t := (36, 37, 29)) (l := [(34, 35, 12), (32, 33, 272), (30, 31, 19), (25, 26, 61440), (23, 24, 96), (21, 22, 16384), (19, 20, 4), (17, 18, 32768), (15, 16, 8192)]) rfl).trans ((zkp_skip (g := zid) (f := σ.1) (k := 15) (j := j) (t := (34, 35, 12)) (l := [(32, 33, 272), (30, 31, 19), (25, 26, 61440), (23, 24, 96), (21, 22, 16384), (19, 20, 4), (17, 18, 32768), (15, 16, 8192)]) rfl).trans ((zkp_skip (g := zid) (f := σ.1) (k := 15) (j := j) (t := (32, 33, 272)) (l := [(30, 31, 19), (25, 26, 61440), (23, 24, 96), (21, 22, 16384), (19, 20, 4), (17, 18, 32768), (15, 16, 8192)]) rfl).trans ((zkp_skip (g := zid) (f := σ.1) (k := 15) (j := j) (t := (30, 31, 19)) (l := [(25, 26, 61440), (23, 24, 96), (21, 22, 16384), (19, 20, 4), (17, 18, 32768), (15, 16, 8192)]) rfl).trans ((zkp_skip (g := zid) (f := σ.1) (k := 15) (j := j) (t := (25, 26, 61440)) (l := [(23, 24, 96), (21, 22, 16384), (19, 20, 4), (17, 18, 32768), (15, 16, 8192)]) rfl).trans ((zkp_skip (g := zid) (f := σ.1) (k := 15) (j := j) (t := (23, 24, 96)) (l := [(21, 22, 16384), (19, 20, 4), (17, 18, 32768), (15, 16, 8192)]) rfl).trans ((zkp_skip (g := zid) (f := σ.1) (k := 15) (j := j) (t := (21, 22, 16384)) (l := [(19, 20, 4), (17, 18, 32768), (15, 16, 8192)]) rfl).trans ((zkp_skip (g := zid) (f := σ.1) (k := 15) (j := j) (t := (19, 20, 4)) (l := [(17, 18, 32768), (15, 16, 8192)]) rfl).trans ((zkp_skip (g := zid) (f := σ.1) (k := 15) (j := j) (t := (17, 18, 32768)) (l := [(15, 16, 8192)]) rfl).trans (zkp_hit (g := zid) (f := σ.1) (k := 15) (j := j) (t := (15, 16, 8192)) (l := []) rfl h)))))))))))
theorem zKm_9 {j : Nat} (h : j < 61440) : (zKm μ).1 9 j = μ.1 18 j := zkp_hit (g := zmb) (f := μ.1) (k := 9) (j := j) (t := (9, 18, 61440)) (l := [(8, 17, 64), (7, 16, 16384), (6, 15, 32768), (5, 14, 8192), (3, 12, 1048)]) rfl h
theorem zKm_8 {j : Nat} (h : j < 64) : (zKm μ).1 8 j = vp_nar .byte (μ.1 17 j) := (zkp_skip (g := zmb) (f := μ.1) (k := 8) (j := j) (t := (9, 18, 61440)) (l := [(8, 17, 64), (7, 16, 16384), (6, 15, 32768), (5, 14, 8192), (3, 12, 1048)]) rfl).trans (zkp_hit (g := zmb) (f := μ.1) (k := 8) (j := j) (t := (8, 17, 64)) (l := [(7, 16, 16384), (6, 15, 32768), (5, 14, 8192), (3, 12, 1048)]) rfl h)
theorem zKm_7 {j : Nat} (h : j < 16384) : (zKm μ).1 7 j = vp_nar .byte (μ.1 16 j) := (zkp_skip (g := zmb) (f := μ.1) (k := 7) (j := j) (t := (9, 18, 61440)) (l := [(8, 17, 64), (7, 16, 16384), (6, 15, 32768), (5, 14, 8192), (3, 12, 1048)]) rfl).trans ((zkp_skip (g := zmb) (f := μ.1) (k := 7) (j := j) (t := (8, 17, 64)) (l := [(7, 16, 16384), (6, 15, 32768), (5, 14, 8192), (3, 12, 1048)]) rfl).trans (zkp_hit (g := zmb) (f := μ.1) (k := 7) (j := j) (t := (7, 16, 16384)) (l := [(6, 15, 32768), (5, 14, 8192), (3, 12, 1048)]) rfl h))
theorem zKm_6 {j : Nat} (h : j < 32768) : (zKm μ).1 6 j = vp_nar .byte (μ.1 15 j) := (zkp_skip (g := zmb) (f := μ.1) (k := 6) (j := j) (t := (9, 18, 61440)) (l := [(8, 17, 64), (7, 16, 16384), (6, 15, 32768), (5, 14, 8192), (3, 12, 1048)]) rfl).trans ((zkp_skip (g := zmb) (f := μ.1) (k := 6) (j := j) (t := (8, 17, 64)) (l := [(7, 16, 16384), (6, 15, 32768), (5, 14, 8192), (3, 12, 1048)]) rfl).trans ((zkp_skip (g := zmb) (f := μ.1) (k := 6) (j := j) (t := (7, 16, 16384)) (l := [(6, 15, 32768), (5, 14, 8192), (3, 12, 1048)]) rfl).trans (zkp_hit (g := zmb) (f := μ.1) (k := 6) (j := j) (t := (6, 15, 32768)) (l := [(5, 14, 8192), (3, 12, 1048)]) rfl h)))
theorem zKm_5 {j : Nat} (h : j < 8192) : (zKm μ).1 5 j = vp_nar .byte (μ.1 14 j) := (zkp_skip (g := zmb) (f := μ.1) (k := 5) (j := j) (t := (9, 18, 61440)) (l := [(8, 17, 64), (7, 16, 16384), (6, 15, 32768), (5, 14, 8192), (3, 12, 1048)]) rfl).trans ((zkp_skip (g := zmb) (f := μ.1) (k := 5) (j := j) (t := (8, 17, 64)) (l := [(7, 16, 16384), (6, 15, 32768), (5, 14, 8192), (3, 12, 1048)]) rfl).trans ((zkp_skip (g := zmb) (f := μ.1) (k := 5) (j := j) (t := (7, 16, 16384)) (l := [(6, 15, 32768), (5, 14, 8192), (3, 12, 1048)]) rfl).trans ((zkp_skip (g := zmb) (f := μ.1) (k := 5) (j := j) (t := (6, 15, 32768)) (l := [(5, 14, 8192), (3, 12, 1048)]) rfl).trans (zkp_hit (g := zmb) (f := μ.1) (k := 5) (j := j) (t := (5, 14, 8192)) (l := [(3, 12, 1048)]) rfl h))))
theorem zKm_3 {j : Nat} (h : j < 1048) : (zKm μ).1 3 j = μ.1 12 j := (zkp_skip (g := zmb) (f := μ.1) (k := 3) (j := j) (t := (9, 18, 61440)) (l := [(8, 17, 64), (7, 16, 16384), (6, 15, 32768), (5, 14, 8192), (3, 12, 1048)]) rfl).trans ((zkp_skip (g := zmb) (f := μ.1) (k := 3) (j := j) (t := (8, 17, 64)) (l := [(7, 16, 16384), (6, 15, 32768), (5, 14, 8192), (3, 12, 1048)]) rfl).trans ((zkp_skip (g := zmb) (f := μ.1) (k := 3) (j := j) (t := (7, 16, 16384)) (l := [(6, 15, 32768), (5, 14, 8192), (3, 12, 1048)]) rfl).trans ((zkp_skip (g := zmb) (f := μ.1) (k := 3) (j := j) (t := (6, 15, 32768)) (l := [(5, 14, 8192), (3, 12, 1048)]) rfl).trans ((zkp_skip (g := zmb) (f := μ.1) (k := 3) (j := j) (t := (5, 14, 8192)) (l := [(3, 12, 1048)]) rfl).trans (zkp_hit (g := zmb) (f := μ.1) (k := 3) (j := j) (t := (3, 12, 1048)) (l := []) rfl h)))))
theorem zKc_l {j : Nat} (h : j < 7) : (zKc σ).2 38 j = σ.2 39 j := by
  have e : Nat.blt j 7 = true := Nat.ble_eq.mpr h
  show (bif (Nat.blt j 7) then σ.2 39 j else zkp zid σ.2 38 j []) = _
  rw [e]
  rfl
theorem zKm_l {j : Nat} (h : j < 5) : (zKm μ).2 4 j = μ.2 13 j := by
  have e : Nat.blt j 5 = true := Nat.ble_eq.mpr h
  show (bif (Nat.blt j 5) then μ.2 13 j else zkp zid μ.2 4 j []) = _
  rw [e]
  rfl
theorem zKc_all : ∀ p ∈ zsv, ∀ j : Nat, j < p.2.2 → (zKc σ).1 p.1 j = σ.1 p.2.1 j := by
  unfold zsv
  exact List.forall_mem_cons.2 ⟨fun j h => zKc_42 h, List.forall_mem_cons.2 ⟨fun j h => zKc_40 h, List.forall_mem_cons.2 ⟨fun j h => zKc_36 h, List.forall_mem_cons.2 ⟨fun j h => zKc_34 h, List.forall_mem_cons.2 ⟨fun j h => zKc_32 h, List.forall_mem_cons.2 ⟨fun j h => zKc_30 h, List.forall_mem_cons.2 ⟨fun j h => zKc_25 h, List.forall_mem_cons.2 ⟨fun j h => zKc_23 h, List.forall_mem_cons.2 ⟨fun j h => zKc_21 h, List.forall_mem_cons.2 ⟨fun j h => zKc_19 h, List.forall_mem_cons.2 ⟨fun j h => zKc_17 h, List.forall_mem_cons.2 ⟨fun j h => zKc_15 h, fun _ h => absurd h List.not_mem_nil⟩⟩⟩⟩⟩⟩⟩⟩⟩⟩⟩⟩
theorem zKm_all : ∀ p ∈ zsm, ∀ j : Nat, j < p.2.2 → (zKm μ).1 p.1 j = zmb p.1 (μ.1 p.2.1 j) := by
  unfold zsm
  exact List.forall_mem_cons.2 ⟨fun j h => zKm_9 h, List.forall_mem_cons.2 ⟨fun j h => zKm_8 h, List.forall_mem_cons.2 ⟨fun j h => zKm_7 h, List.forall_mem_cons.2 ⟨fun j h => zKm_6 h, List.forall_mem_cons.2 ⟨fun j h => zKm_5 h, List.forall_mem_cons.2 ⟨fun j h => zKm_3 h, fun _ h => absurd h List.not_mem_nil⟩⟩⟩⟩⟩⟩
/-! rows copied -/
theorem zcpl_ne {k0 k1 sp dp n k : Nat} (h : ¬ k = k1) : (zcpl σ k0 k1 sp dp n).2 k = σ.2 k := by
  have e : Nat.beq k k1 = false := Bool.eq_false_iff.mpr (fun r => h (Nat.eq_of_beq_eq_true r))
  show (bif Nat.beq k k1 then va_cpy (σ.2 k0) (σ.2 k) sp dp n else σ.2 k) = _
  rw [e]; rfl
theorem zcpl_eq {k0 k1 n j : Nat} : (zcpl σ k0 k1 0 0 n).2 k1 j = if j < n then σ.2 k0 j else σ.2 k1 j := by
  show (bif Nat.beq k1 k1 then va_cpy (σ.2 k0) (σ.2 k1) 0 0 n else σ.2 k1) j = _
  rw [show Nat.beq k1 k1 = true from Nat.beq_refl k1]
  show (if 0 ≤ j ∧ j < 0 + n then σ.2 k0 (0 + (j - 0)) else σ.2 k1 j) = _
  by_cases h : j < n
  · rw [if_pos h, if_pos ⟨Nat.zero_le _, by omega⟩, show 0 + (j - 0) = j by omega]
  · rw [if_neg h, if_neg (fun r => h (by omega))]
noncomputable def zcw (R : List Nat) (A : List (Nat × Nat × Nat)) (k n : Nat) : Bool := R.any (Nat.beq k) || A.any (fun e => Nat.beq e.1 k && (Nat.beq e.2.1 0 && Nat.ble n (e.2.2 + 1)))
theorem zcw_cv {R : List Nat} {A : List (Nat × Nat × Nat)} {k n j : Nat} (c : zcw R A k n = true) (h : j < n) : zcv R A k j = true := by
  unfold zcw at c
  unfold zcv
  rw [Bool.or_eq_true] at c ⊢
  rcases c with c | c
  · exact Or.inl c
  · right
    rw [List.any_eq_true] at c ⊢
    obtain ⟨e, he, q⟩ := c
    rw [Bool.and_eq_true, Bool.and_eq_true] at q
    refine ⟨e, he, ?_⟩
    have a0 : e.2.1 = 0 := Nat.eq_of_beq_eq_true q.2.1
    have a1 := Nat.le_of_ble_eq_true q.2.2
    rw [Bool.and_eq_true, Bool.and_eq_true]
    exact ⟨q.1, Nat.ble_eq.mpr (by omega), Nat.ble_eq.mpr (by omega)⟩
/-- a frame, and rows that were copied so far: (to, from, how many) -/
noncomputable def zSq (R : List Nat) (A : List (Nat × Nat × Nat)) (S : List Nat) (D : List (Nat × Nat × Nat)) (l : List (Nat × Nat × Nat)) (σ s : zSt) : Prop := zQ R A S D σ s ∧ ∀ p ∈ l, ∀ j : Nat, j < p.2.2 → s.1 p.1 j = σ.1 p.2.1 j
section ZSQ
variable {R S : List Nat} {A D : List (Nat × Nat × Nat)} {l : List (Nat × Nat × Nat)}
theorem zSq.rf : zSq R A S D [] σ σ := ⟨zQ.rf, fun _ h => absurd h List.not_mem_nil⟩
theorem zSq.cp (h : zSq R A S D l σ s) {k0 k1 n : Nat} (c : zcw R A k1 n = true) (d : zrw R A k0 = true) (e : l.all (fun p => !(Nat.beq p.1 k1)) = true) : zSq R A S D ((k1, k0, n) :: l) σ (zcpi s k0 k1 0 0 n) := by
  have q0 : s.1 k0 = σ.1 k0 := h.1.ro d
  refine ⟨⟨fun k j q => ?_, h.1.2⟩, fun p hp j hj => ?_⟩
  · by_cases z : k = k1
    · subst z
      rw [zcpi_eq, if_neg (fun y => by rw [zcw_cv c y] at q; cases q)]
      exact h.1.1 _ j q
    · rw [zcpi_ne z]
      exact h.1.1 k j q
  · rcases List.mem_cons.mp hp with x | x
    · subst x
      show (zcpi s k0 k1 0 0 n).1 k1 j = σ.1 k0 j
      rw [zcpi_eq, if_pos hj, q0]
    · have y := (List.all_eq_true.mp e) p x
      rw [zcpi_ne (fun z => by rw [z, Nat.beq_refl] at y; cases y)]
      exact h.2 p x j hj
theorem zSq.cl (h : zSq R A S D l σ s) {k0 k1 n : Nat} (c : zcw S D k1 n = true) : zSq R A S D l σ (zcpl s k0 k1 0 0 n) := by
  refine ⟨⟨h.1.1, fun k j q => ?_⟩, h.2⟩
  by_cases z : k = k1
  · subst z
    rw [zcpl_eq, if_neg (fun y => by rw [zcw_cv c y] at q; cases q)]
    exact h.1.2 _ j q
  · rw [zcpl_ne z]
    exact h.1.2 k j q
theorem zSq.wi (h : zSq R A S D l σ s) {k j : Nat} {v : Int32} (c : zcv R A k j = true) (e : l.all (fun p => !(Nat.beq p.1 k)) = true) : zSq R A S D l σ (zsi s k j v) := by
  refine ⟨zQ.wi h.1 c, fun p hp i hi => ?_⟩
  have y := (List.all_eq_true.mp e) p hp
  rw [zsi_ne (fun z => by rw [z, Nat.beq_refl] at y; cases y)]
  exact h.2 p hp i hi
end ZSQ
/-- one field of an object copied to another -/
noncomputable def zWf (s : zSt) (k p q : Nat) : zSt := zsi s k p (zgi s k q)
noncomputable def zKept (s : zSt) : zSt := (zcpi (zcpi (zWf (zWf (zcpl (zWf (zWf (zcpl (zcpl (zcpi (zcpi (zcpi (zcpi (zcpi (zcpi (zcpi (zcpi (zcpi (zcpi s 15 16 0 0 8192) 17 18 0 0 32768) 19 20 0 0 4) 21 22 0 0 16384) 23 24 0 0 96) 25 26 0 0 61440) 30 31 0 0 19) 32 33 0 0 272) 34 35 0 0 12) 36 37 0 0 29) 38 39 0 0 7) 46 47 0 0 4096) 11 4 2) 11 5 3) 48 49 0 0 4096) 12 4 2) 12 5 3) 40 41 0 0 9) 42 43 0 0 770)
noncomputable def zBack (s : zSt) : zSt := (zcpi (zcpi (zWf (zWf (zcpl (zWf (zWf (zcpl (zcpl (zcpi (zcpi (zcpi (zcpi (zcpi (zcpi (zcpi (zcpi (zcpi (zcpi s 16 15 0 0 8192) 18 17 0 0 32768) 20 19 0 0 4) 22 21 0 0 16384) 24 23 0 0 96) 26 25 0 0 61440) 31 30 0 0 19) 33 32 0 0 272) 35 34 0 0 12) 37 36 0 0 29) 39 38 0 0 7) 47 46 0 0 4096) 11 2 4) 11 3 5) 49 48 0 0 4096) 12 2 4) 12 3 5) 41 40 0 0 9) 43 42 0 0 770)
theorem c_keep_X2 : zpc (fX2_keep s ) (fun r => r = (zcpi (zcpi (zcpi s 15 16 0 0 8192) 17 18 0 0 32768) 19 20 0 0 4)) := by
  unfold fX2_keep
  refine zpc_ck (zpc_bv (fun s0 e0 => zpc_ck (zpc_bv (fun s1 e1 => zpc_ck (zpc_bv (fun s2 e2 => zpc_some ?_))))))
  rw [e2, e1, e0]
  rfl
theorem c_keep_X9 : zpc (fX9_keep s ) (fun r => r = (zcpi (zcpi s 21 22 0 0 16384) 23 24 0 0 96)) := by
  unfold fX9_keep
  refine zpc_ck (zpc_bv (fun s0 e0 => zpc_ck (zpc_bv (fun s1 e1 => zpc_some ?_))))
  rw [e1, e0]
  rfl
theorem c_keep_X3 : zpc (fX3_keep s ) (fun r => r = (zcpi s 25 26 0 0 61440)) := by
  unfold fX3_keep
  refine zpc_ck (zpc_bv (fun s0 e0 => zpc_some ?_))
  rw [e0]
  rfl
theorem c_keep_X7 : zpc (fX7_keep s ) (fun r => r = (zcpi s 30 31 0 0 19)) := by
  unfold fX7_keep
  refine zpc_ck (zpc_bv (fun s0 e0 => zpc_some ?_))
  rw [e0]
  rfl
theorem c_keep_X10 : zpc (fX10_keep s ) (fun r => r = (zcpi s 32 33 0 0 272)) := by
  unfold fX10_keep
  refine zpc_ck (zpc_bv (fun s0 e0 => zpc_some ?_))
  rw [e0]
  rfl
theorem c_keep_X4 : zpc (fX4_keep s ) (fun r => r = (zcpi s 34 35 0 0 12)) := by
  unfold fX4_keep
  refine zpc_ck (zpc_bv (fun s0 e0 => zpc_some ?_))
  rw [e0]
  rfl
theorem c_keep_X5 : zpc (fX5_keep s ) (fun r => r = (zcpi s 36 37 0 0 29)) := by
  unfold fX5_keep
  refine zpc_ck (zpc_bv (fun s0 e0 => zpc_some ?_))
  rw [e0]
  rfl
theorem c_keep_X1 : zpc (fX1_keep s ) (fun r => r = (zcpi (zcpi s 40 41 0 0 9) 42 43 0 0 770)) := by
  unfold fX1_keep
  refine zpc_ck (zpc_bv (fun s0 e0 => zpc_ck (zpc_bv (fun s1 e1 => zpc_some ?_))))
  rw [e1, e0]
  rfl
theorem c_keep_k11 : zpc (fX6_keep_k11 s ) (fun r => r = (zWf (zWf (zcpl s 46 47 0 0 4096) 11 4 2) 11 5 3)) := by
  unfold fX6_keep_k11
  refine zpc_ck (zpc_bv (fun s1 e1 => zpc_bv (fun s2 e2 => zpc_bv (fun s3 e3 => zpc_some ?_))))
  rw [e3, e2, e1]
  rfl
theorem c_keep_k12 : zpc (fX6_keep_k12 s ) (fun r => r = (zWf (zWf (zcpl s 48 49 0 0 4096) 12 4 2) 12 5 3)) := by
  unfold fX6_keep_k12
  refine zpc_ck (zpc_bv (fun s1 e1 => zpc_bv (fun s2 e2 => zpc_bv (fun s3 e3 => zpc_some ?_))))
  rw [e3, e2, e1]
  rfl
theorem c_keep_X0 : zpc (fX0_keep s ) (fun r => r = (zWf (zWf (zcpl (zWf (zWf (zcpl (zcpl s 38 39 0 0 7) 46 47 0 0 4096) 11 4 2) 11 5 3) 48 49 0 0 4096) 12 4 2) 12 5 3)) := by
  unfold fX0_keep
  refine zpc_ck (zpc_bv (fun s1 e1 => zpc_bu c_keep_k11 (fun s2 e2 => zpc_bu c_keep_k12 (fun s3 e3 => zpc_some ?_))))
  rw [e3, e2, e1]
  rfl
theorem c_bringBack_X2 : zpc (fX2_bringBack s ) (fun r => r = (zcpi (zcpi (zcpi s 16 15 0 0 8192) 18 17 0 0 32768) 20 19 0 0 4)) := by
  unfold fX2_bringBack
  refine zpc_ck (zpc_bv (fun s0 e0 => zpc_ck (zpc_bv (fun s1 e1 => zpc_ck (zpc_bv (fun s2 e2 => zpc_some ?_))))))
  rw [e2, e1, e0]
  rfl
theorem c_bringBack_X9 : zpc (fX9_bringBack s ) (fun r => r = (zcpi (zcpi s 22 21 0 0 16384) 24 23 0 0 96)) := by
  unfold fX9_bringBack
  refine zpc_ck (zpc_bv (fun s0 e0 => zpc_ck (zpc_bv (fun s1 e1 => zpc_some ?_))))
  rw [e1, e0]
  rfl
theorem c_bringBack_X3 : zpc (fX3_bringBack s ) (fun r => r = (zcpi s 26 25 0 0 61440)) := by
  unfold fX3_bringBack
  refine zpc_ck (zpc_bv (fun s0 e0 => zpc_some ?_))
  rw [e0]
  rfl
theorem c_bringBack_X7 : zpc (fX7_bringBack s ) (fun r => r = (zcpi s 31 30 0 0 19)) := by
  unfold fX7_bringBack
  refine zpc_ck (zpc_bv (fun s0 e0 => zpc_some ?_))
  rw [e0]
  rfl
theorem c_bringBack_X10 : zpc (fX10_bringBack s ) (fun r => r = (zcpi s 33 32 0 0 272)) := by
  unfold fX10_bringBack
  refine zpc_ck (zpc_bv (fun s0 e0 => zpc_some ?_))
  rw [e0]
  rfl
theorem c_bringBack_X4 : zpc (fX4_bringBack s ) (fun r => r = (zcpi s 35 34 0 0 12)) := by
  unfold fX4_bringBack
  refine zpc_ck (zpc_bv (fun s0 e0 => zpc_some ?_))
  rw [e0]
  rfl
theorem c_bringBack_X5 : zpc (fX5_bringBack s ) (fun r => r = (zcpi s 37 36 0 0 29)) := by
  unfold fX5_bringBack
  refine zpc_ck (zpc_bv (fun s0 e0 => zpc_some ?_))
  rw [e0]
  rfl
theorem c_bringBack_X1 : zpc (fX1_bringBack s ) (fun r => r = (zcpi (zcpi s 41 40 0 0 9) 43 42 0 0 770)) := by
  unfold fX1_bringBack
  refine zpc_ck (zpc_bv (fun s0 e0 => zpc_ck (zpc_bv (fun s1 e1 => zpc_some ?_))))
  rw [e1, e0]
  rfl
theorem c_bringBack_k11 : zpc (fX6_bringBack_k11 s ) (fun r => r = (zWf (zWf (zcpl s 47 46 0 0 4096) 11 2 4) 11 3 5)) := by
  unfold fX6_bringBack_k11
  refine zpc_ck (zpc_bv (fun s1 e1 => zpc_bv (fun s2 e2 => zpc_bv (fun s3 e3 => zpc_some ?_))))
  rw [e3, e2, e1]
  rfl
theorem c_bringBack_k12 : zpc (fX6_bringBack_k12 s ) (fun r => r = (zWf (zWf (zcpl s 49 48 0 0 4096) 12 2 4) 12 3 5)) := by
  unfold fX6_bringBack_k12
  refine zpc_ck (zpc_bv (fun s1 e1 => zpc_bv (fun s2 e2 => zpc_bv (fun s3 e3 => zpc_some ?_))))
  rw [e3, e2, e1]
  rfl
theorem c_bringBack_X0 : zpc (fX0_bringBack s ) (fun r => r = (zWf (zWf (zcpl (zWf (zWf (zcpl (zcpl s 39 38 0 0 7) 47 46 0 0 4096) 11 2 4) 11 3 5) 49 48 0 0 4096) 12 2 4) 12 3 5)) := by
  unfold fX0_bringBack
  refine zpc_ck (zpc_bv (fun s1 e1 => zpc_bu c_bringBack_k11 (fun s2 e2 => zpc_bu c_bringBack_k12 (fun s3 e3 => zpc_some ?_))))
  rw [e3, e2, e1]
  rfl
theorem k_save : zpc (fX11_save s ) (fun r => r = zsi (zKept s) 0 11 1) := by
  unfold fX11_save
  refine zpc_bu c_keep_X2 (fun s0 e0 => zpc_bu c_keep_X9 (fun s1 e1 => zpc_bu c_keep_X3 (fun s2 e2 => zpc_bu c_keep_X7 (fun s3 e3 => zpc_bu c_keep_X10 (fun s4 e4 => zpc_bu c_keep_X4 (fun s5 e5 => zpc_bu c_keep_X5 (fun s6 e6 => zpc_bu c_keep_X0 (fun s7 e7 => zpc_bu c_keep_X1 (fun s8 e8 => zpc_ck (zpc_bv (fun sa ea => zpc_some ?_)))))))))))
  rw [ea, e8, e7, e6, e5, e4, e3, e2, e1, e0]
  rfl
theorem c_restore (h : ¬ s.1 0 11 = 0) : zpc (fX11_restore s ) (fun r => r = Sum.inl (zBack s)) := by
  unfold fX11_restore
  refine zpc_if (fun q => absurd q h) (fun _ => zpc_bu c_bringBack_X2 (fun s0 e0 => zpc_bu c_bringBack_X9 (fun s1 e1 => zpc_bu c_bringBack_X3 (fun s2 e2 => zpc_bu c_bringBack_X7 (fun s3 e3 => zpc_bu c_bringBack_X10 (fun s4 e4 => zpc_bu c_bringBack_X4 (fun s5 e5 => zpc_bu c_bringBack_X5 (fun s6 e6 => zpc_bu c_bringBack_X0 (fun s7 e7 => zpc_bu c_bringBack_X1 (fun s8 e8 => zpc_some ?_))))))))))
  rw [e8, e7, e6, e5, e4, e3, e2, e1, e0]
  rfl
theorem zKept_q : zSq [16, 18, 20, 22, 24, 26, 31, 33, 35, 37, 41, 43, 11, 12] [(0, 11, 11)] [39, 47, 49] [] [(43, 42, 770), (41, 40, 9), (37, 36, 29), (35, 34, 12), (33, 32, 272), (31, 30, 19), (26, 25, 61440), (24, 23, 96), (22, 21, 16384), (20, 19, 4), (18, 17, 32768), (16, 15, 8192)] σ (zKept σ) := by
  unfold zKept
  exact (((((((((((((((((((zSq.rf.cp rfl rfl rfl).cp rfl rfl rfl).cp rfl rfl rfl).cp rfl rfl rfl).cp rfl rfl rfl).cp rfl rfl rfl).cp rfl rfl rfl).cp rfl rfl rfl).cp rfl rfl rfl).cp rfl rfl rfl).cl rfl).cl rfl).wi rfl rfl).wi rfl rfl).cl rfl).wi rfl rfl).wi rfl rfl).cp rfl rfl rfl).cp rfl rfl rfl)
theorem zKept_l {j : Nat} (h : j < 7) : (zKept σ).2 39 j = σ.2 38 j := by
  have e : (zKept σ).2 39 = (zcpl (zcpl (zcpl σ 38 39 0 0 7) 46 47 0 0 4096) 48 49 0 0 4096).2 39 := rfl
  rw [e, zcpl_ne (by decide), zcpl_ne (by decide), zcpl_eq, if_pos h]
theorem zBack_q : zSq [11, 12] [(42, 0, 769), (40, 0, 8), (36, 0, 28), (34, 0, 11), (32, 0, 271), (30, 0, 18), (25, 0, 61439), (23, 0, 95), (21, 0, 16383), (19, 0, 3), (17, 0, 32767), (15, 0, 8191)] [46, 48] [(38, 0, 6)] zsv σ (zBack σ) := by
  unfold zBack
  exact (((((((((((((((((((zSq.rf.cp rfl rfl rfl).cp rfl rfl rfl).cp rfl rfl rfl).cp rfl rfl rfl).cp rfl rfl rfl).cp rfl rfl rfl).cp rfl rfl rfl).cp rfl rfl rfl).cp rfl rfl rfl).cp rfl rfl rfl).cl rfl).cl rfl).wi rfl rfl).wi rfl rfl).cl rfl).wi rfl rfl).wi rfl rfl).cp rfl rfl rfl).cp rfl rfl rfl)
theorem zBack_l {j : Nat} (h : j < 7) : (zBack σ).2 38 j = σ.2 39 j := by
  have e : (zBack σ).2 38 = (zcpl (zcpl (zcpl σ 39 38 0 0 7) 47 46 0 0 4096) 49 48 0 0 4096).2 38 := rfl
  rw [e, zcpl_ne (by decide), zcpl_ne (by decide), zcpl_eq, if_pos h]
/-- what was kept is what there was -/
theorem zKept_k {v : Int32} : zQ [16, 18, 20, 22, 24, 26, 31, 33, 35, 37, 41, 43, 11, 12] [(0, 11, 11)] [39, 47, 49] [] σ (zKc (zsi (zKept σ) 0 11 v)) := by
  obtain ⟨q1, q2⟩ := zKept_q (σ := σ)
  have q1 : zQ [16, 18, 20, 22, 24, 26, 31, 33, 35, 37, 41, 43, 11, 12] [(0, 11, 11)] [39, 47, 49] [] σ (zsi (zKept σ) 0 11 v) := zQ.wi q1 rfl
  refine ⟨fun k j c => zkp_of (q1.1 k j c) (fun p hp i hi => ?_), fun k j c => zkp_of (q1.2 k j c) (fun p hp i hi => ?_)⟩
  · have z : ∀ p ∈ zsv, ∀ i : Nat, i < p.2.2 → (zKept σ).1 p.2.1 i = σ.1 p.1 i := by
      unfold zsv
      exact List.forall_mem_cons.2 ⟨fun i hi => q2 (43, 42, 770) (by decide +kernel) i hi, List.forall_mem_cons.2 ⟨fun i hi => q2 (41, 40, 9) (by decide +kernel) i hi, List.forall_mem_cons.2 ⟨fun i hi => q2 (37, 36, 29) (by decide +kernel) i hi, List.forall_mem_cons.2 ⟨fun i hi => q2 (35, 34, 12) (by decide +kernel) i hi, List.forall_mem_cons.2 ⟨fun i hi => q2 (33, 32, 272) (by decide +kernel) i hi, List.forall_mem_cons.2 ⟨fun i hi => q2 (31, 30, 19) (by decide +kernel) i hi, List.forall_mem_cons.2 ⟨fun i hi => q2 (26, 25, 61440) (by decide +kernel) i hi, List.forall_mem_cons.2 ⟨fun i hi => q2 (24, 23, 96) (by decide +kernel) i hi, List.forall_mem_cons.2 ⟨fun i hi => q2 (22, 21, 16384) (by decide +kernel) i hi, List.forall_mem_cons.2 ⟨fun i hi => q2 (20, 19, 4) (by decide +kernel) i hi, List.forall_mem_cons.2 ⟨fun i hi => q2 (18, 17, 32768) (by decide +kernel) i hi, List.forall_mem_cons.2 ⟨fun i hi => q2 (16, 15, 8192) (by decide +kernel) i hi, fun _ h => absurd h List.not_mem_nil⟩⟩⟩⟩⟩⟩⟩⟩⟩⟩⟩⟩
    have n0 : ∀ p ∈ zsv, ¬ p.2.1 = 0 := by decide +kernel
    show (zsi (zKept σ) 0 11 v).1 p.2.1 i = σ.1 p.1 i
    rw [zsi_ne (n0 p hp)]
    exact z p hp i hi
  · rw [List.mem_singleton] at hp
    subst hp
    exact zKept_l hi
theorem zBack_k : zQ [11, 12] [] [46, 48] [] (zKc σ) (zBack σ) := by
  obtain ⟨q1, q2⟩ := zBack_q (σ := σ)
  refine ⟨fun k j c => zkp_rev q2 (fun z => q1.1 k j ?_), fun k j c => zkp_rev (fun p hp i hi => ?_) (fun z => q1.2 k j ?_)⟩
  · unfold zcv at c ⊢
    rw [Bool.or_eq_false_iff] at c ⊢
    refine ⟨c.1, List.any_eq_false.mpr (fun e he q => ?_)⟩
    rw [Bool.and_eq_true, Bool.and_eq_true] at q
    have n : ∀ e ∈ ([(42, 0, 769), (40, 0, 8), (36, 0, 28), (34, 0, 11), (32, 0, 271), (30, 0, 18), (25, 0, 61439), (23, 0, 95), (21, 0, 16383), (19, 0, 3), (17, 0, 32767), (15, 0, 8191)] : List (Nat × Nat × Nat)), ∃ p ∈ zsv, p.1 = e.1 ∧ e.2.2 < p.2.2 := by decide +kernel
    obtain ⟨p, hp, e1, e2⟩ := n e he
    have a3 := Nat.le_of_ble_eq_true q.2.2
    exact z p hp (e1.trans (Nat.eq_of_beq_eq_true q.1)) (by omega)
  · rw [List.mem_singleton] at hp
    subst hp
    exact zBack_l hi
  · unfold zcv at c ⊢
    rw [Bool.or_eq_false_iff] at c ⊢
    refine ⟨c.1, List.any_eq_false.mpr (fun e he q => ?_)⟩
    rw [List.mem_singleton] at he
    subst he
    rw [Bool.and_eq_true, Bool.and_eq_true] at q
    have a3 := Nat.le_of_ble_eq_true q.2.2
    exact z (38, 39, 7) List.mem_cons_self (Nat.eq_of_beq_eq_true q.1) (by show j < 7; have a3 : j ≤ 6 := a3; omega)
/-! the reference's loops -/
theorem zsl_ej {k j : Nat} {v : Int64} : (zsl s k j v).2 k j = v := by
  show (bif Nat.beq k k then vp_updL (s.2 k) j v else s.2 k) j = v
  rw [show Nat.beq k k = true from Nat.beq_refl k]
  show (if j = j then v else s.2 k j) = v
  rw [if_pos rfl]
theorem zsl_nj {k j i : Nat} {v : Int64} (h : ¬ j = i) : (zsl s k i v).2 k j = s.2 k j := zsl_off (fun q => h q.2)
theorem m_sv12 : ∀ (n i : Nat) (t : zSt), i ≤ 1048 → zQ [] [(12, 0, 1047)] [] [] μ t → (∀ j : Nat, j < i → t.1 12 j = μ.1 3 j) → (∀ t : zSt, zQ [] [(12, 0, 1047)] [] [] μ t → (∀ j : Nat, j < 1048 → t.1 12 j = μ.1 3 j) → zpc (fX12_save_39 zfuel t 0) Q) → zpc (fX12_save_12 n t (Int32.ofNat i)) Q := by
  intro n
  induction n with
  | zero => intro i t _ _ _ _; exact zpc_none
  | succ n ih =>
    intro i t hi hd hin k
    show zpc (fX12_save_12_body (fX12_save_12 n) t (Int32.ofNat i)) Q
    unfold fX12_save_12_body
    refine zpc_if (fun q => ?_) (fun q => ?_)
    · have := (z_ofL (k := 1048) (by omega) rfl).mp q
      exact k t hd (fun j h1 => hin j (by omega))
    have hi2 : i < 1048 := by
      have : ¬ 1048 ≤ i := fun z => q ((z_ofL (c := 1048) (k := 1048) (i := i) (by omega) rfl).mpr z)
      omega
    rw [z_ofC (by omega), z_ofS (by omega)]
    refine zpc_ck (zpc_ck (zpc_bv (fun t1 g1 => zpc_bv (fun x ex => ?_))))
    subst ex
    refine ih (i + 1) t1 (by omega) (by rw [g1]; exact zQ.wi hd (zcv_m (a := 0) (b := 1047) (by decide) (by omega) (by omega))) (fun j hj => ?_) k
    by_cases z : j = i
    · rw [z, g1, zsi_ej]
      show t.1 3 i = μ.1 3 i
      rw [hd.ro (k := 3) rfl]
    · rw [g1, zsi_nj z]; exact hin j (by omega)
theorem m_sv39 : ∀ (n i : Nat) (t : zSt), i ≤ 5 → zQ [] [] [] [(13, 0, 4)] μ t → (∀ j : Nat, j < i → t.2 13 j = μ.2 4 j) → (∀ t : zSt, zQ [] [] [] [(13, 0, 4)] μ t → (∀ j : Nat, j < 5 → t.2 13 j = μ.2 4 j) → zpc (fX12_save_64 zfuel t 0) Q) → zpc (fX12_save_39 n t (Int32.ofNat i)) Q := by
  intro n
  induction n with
  | zero => intro i t _ _ _ _; exact zpc_none
  | succ n ih =>
    intro i t hi hd hin k
    show zpc (fX12_save_39_body (fX12_save_39 n) t (Int32.ofNat i)) Q
    unfold fX12_save_39_body
    refine zpc_if (fun q => ?_) (fun q => ?_)
    · have := (z_ofL (k := 5) (by omega) rfl).mp q
      exact k t hd (fun j h1 => hin j (by omega))
    have hi2 : i < 5 := by
      have : ¬ 5 ≤ i := fun z => q ((z_ofL (c := 5) (k := 5) (i := i) (by omega) rfl).mpr z)
      omega
    rw [z_ofC (by omega), z_ofS (by omega)]
    refine zpc_ck (zpc_ck (zpc_bv (fun t1 g1 => zpc_bv (fun x ex => ?_))))
    subst ex
    refine ih (i + 1) t1 (by omega) (by rw [g1]; exact zQ.wl hd (zcv_m (a := 0) (b := 4) (by decide) (by omega) (by omega))) (fun j hj => ?_) k
    by_cases z : j = i
    · rw [z, g1, zsl_ej]
      show t.2 4 i = μ.2 4 i
      rw [hd.rlo (k := 4) rfl]
    · rw [g1, zsl_nj z]; exact hin j (by omega)
theorem m_sv64 : ∀ (n i : Nat) (t : zSt), i ≤ 8192 → zQ [] [(14, 0, 8191)] [] [] μ t → (∀ j : Nat, j < i → t.1 14 j = vp_nar .byte (μ.1 5 j)) → (∀ t : zSt, zQ [] [(14, 0, 8191)] [] [] μ t → (∀ j : Nat, j < 8192 → t.1 14 j = vp_nar .byte (μ.1 5 j)) → zpc (fX12_save_91 zfuel t 0) Q) → zpc (fX12_save_64 n t (Int32.ofNat i)) Q := by
  intro n
  induction n with
  | zero => intro i t _ _ _ _; exact zpc_none
  | succ n ih =>
    intro i t hi hd hin k
    show zpc (fX12_save_64_body (fX12_save_64 n) t (Int32.ofNat i)) Q
    unfold fX12_save_64_body
    refine zpc_if (fun q => ?_) (fun q => ?_)
    · have := (z_ofL (k := 8192) (by omega) rfl).mp q
      exact k t hd (fun j h1 => hin j (by omega))
    have hi2 : i < 8192 := by
      have : ¬ 8192 ≤ i := fun z => q ((z_ofL (c := 8192) (k := 8192) (i := i) (by omega) rfl).mpr z)
      omega
    rw [z_ofC (by omega), z_ofS (by omega)]
    refine zpc_ck (zpc_ck (zpc_bv (fun t1 g1 => zpc_bv (fun x ex => ?_))))
    subst ex
    refine ih (i + 1) t1 (by omega) (by rw [g1]; exact zQ.wi hd (zcv_m (a := 0) (b := 8191) (by decide) (by omega) (by omega))) (fun j hj => ?_) k
    by_cases z : j = i
    · rw [z, g1, zsi_ej]
      show vp_nar .byte (t.1 5 i) = vp_nar .byte (μ.1 5 i)
      rw [hd.ro (k := 5) rfl]
    · rw [g1, zsi_nj z]; exact hin j (by omega)
theorem m_sv91 : ∀ (n i : Nat) (t : zSt), i ≤ 32768 → zQ [] [(15, 0, 32767)] [] [] μ t → (∀ j : Nat, j < i → t.1 15 j = vp_nar .byte (μ.1 6 j)) → (∀ t : zSt, zQ [] [(15, 0, 32767)] [] [] μ t → (∀ j : Nat, j < 32768 → t.1 15 j = vp_nar .byte (μ.1 6 j)) → zpc (fX12_save_117 zfuel t 0) Q) → zpc (fX12_save_91 n t (Int32.ofNat i)) Q := by
  intro n
  induction n with
  | zero => intro i t _ _ _ _; exact zpc_none
  | succ n ih =>
    intro i t hi hd hin k
    show zpc (fX12_save_91_body (fX12_save_91 n) t (Int32.ofNat i)) Q
    unfold fX12_save_91_body
    refine zpc_if (fun q => ?_) (fun q => ?_)
    · have := (z_ofL (k := 32768) (by omega) rfl).mp q
      exact k t hd (fun j h1 => hin j (by omega))
    have hi2 : i < 32768 := by
      have : ¬ 32768 ≤ i := fun z => q ((z_ofL (c := 32768) (k := 32768) (i := i) (by omega) rfl).mpr z)
      omega
    rw [z_ofC (by omega), z_ofS (by omega)]
    refine zpc_ck (zpc_ck (zpc_bv (fun t1 g1 => zpc_bv (fun x ex => ?_))))
    subst ex
    refine ih (i + 1) t1 (by omega) (by rw [g1]; exact zQ.wi hd (zcv_m (a := 0) (b := 32767) (by decide) (by omega) (by omega))) (fun j hj => ?_) k
    by_cases z : j = i
    · rw [z, g1, zsi_ej]
      show vp_nar .byte (t.1 6 i) = vp_nar .byte (μ.1 6 i)
      rw [hd.ro (k := 6) rfl]
    · rw [g1, zsi_nj z]; exact hin j (by omega)
theorem m_sv117 : ∀ (n i : Nat) (t : zSt), i ≤ 16384 → zQ [] [(16, 0, 16383)] [] [] μ t → (∀ j : Nat, j < i → t.1 16 j = vp_nar .byte (μ.1 7 j)) → (∀ t : zSt, zQ [] [(16, 0, 16383)] [] [] μ t → (∀ j : Nat, j < 16384 → t.1 16 j = vp_nar .byte (μ.1 7 j)) → zpc (fX12_save_144 zfuel t 0) Q) → zpc (fX12_save_117 n t (Int32.ofNat i)) Q := by
  intro n
  induction n with
  | zero => intro i t _ _ _ _; exact zpc_none
  | succ n ih =>
    intro i t hi hd hin k
    show zpc (fX12_save_117_body (fX12_save_117 n) t (Int32.ofNat i)) Q
    unfold fX12_save_117_body
    refine zpc_if (fun q => ?_) (fun q => ?_)
    · have := (z_ofL (k := 16384) (by omega) rfl).mp q
      exact k t hd (fun j h1 => hin j (by omega))
    have hi2 : i < 16384 := by
      have : ¬ 16384 ≤ i := fun z => q ((z_ofL (c := 16384) (k := 16384) (i := i) (by omega) rfl).mpr z)
      omega
    rw [z_ofC (by omega), z_ofS (by omega)]
    refine zpc_ck (zpc_ck (zpc_bv (fun t1 g1 => zpc_bv (fun x ex => ?_))))
    subst ex
    refine ih (i + 1) t1 (by omega) (by rw [g1]; exact zQ.wi hd (zcv_m (a := 0) (b := 16383) (by decide) (by omega) (by omega))) (fun j hj => ?_) k
    by_cases z : j = i
    · rw [z, g1, zsi_ej]
      show vp_nar .byte (t.1 7 i) = vp_nar .byte (μ.1 7 i)
      rw [hd.ro (k := 7) rfl]
    · rw [g1, zsi_nj z]; exact hin j (by omega)
theorem m_sv144 : ∀ (n i : Nat) (t : zSt), i ≤ 64 → zQ [] [(17, 0, 63)] [] [] μ t → (∀ j : Nat, j < i → t.1 17 j = vp_nar .byte (μ.1 8 j)) → (∀ t : zSt, zQ [] [(17, 0, 63)] [] [] μ t → (∀ j : Nat, j < 64 → t.1 17 j = vp_nar .byte (μ.1 8 j)) → zpc (fX12_save_170 zfuel t 0) Q) → zpc (fX12_save_144 n t (Int32.ofNat i)) Q := by
  intro n
  induction n with
  | zero => intro i t _ _ _ _; exact zpc_none
  | succ n ih =>
    intro i t hi hd hin k
    show zpc (fX12_save_144_body (fX12_save_144 n) t (Int32.ofNat i)) Q
    unfold fX12_save_144_body
    refine zpc_if (fun q => ?_) (fun q => ?_)
    · have := (z_ofL (k := 64) (by omega) rfl).mp q
      exact k t hd (fun j h1 => hin j (by omega))
    have hi2 : i < 64 := by
      have : ¬ 64 ≤ i := fun z => q ((z_ofL (c := 64) (k := 64) (i := i) (by omega) rfl).mpr z)
      omega
    rw [z_ofC (by omega), z_ofS (by omega)]
    refine zpc_ck (zpc_ck (zpc_bv (fun t1 g1 => zpc_bv (fun x ex => ?_))))
    subst ex
    refine ih (i + 1) t1 (by omega) (by rw [g1]; exact zQ.wi hd (zcv_m (a := 0) (b := 63) (by decide) (by omega) (by omega))) (fun j hj => ?_) k
    by_cases z : j = i
    · rw [z, g1, zsi_ej]
      show vp_nar .byte (t.1 8 i) = vp_nar .byte (μ.1 8 i)
      rw [hd.ro (k := 8) rfl]
    · rw [g1, zsi_nj z]; exact hin j (by omega)
theorem m_sv170 : ∀ (n i : Nat) (t : zSt), i ≤ 61440 → zQ [] [(18, 0, 61439)] [] [] μ t → (∀ j : Nat, j < i → t.1 18 j = μ.1 9 j) → (∀ t : zSt, zQ [] [(18, 0, 61439)] [] [] μ t → (∀ j : Nat, j < 61440 → t.1 18 j = μ.1 9 j) → zpc (fX12_save_196 zfuel t 0) Q) → zpc (fX12_save_170 n t (Int32.ofNat i)) Q := by
  intro n
  induction n with
  | zero => intro i t _ _ _ _; exact zpc_none
  | succ n ih =>
    intro i t hi hd hin k
    show zpc (fX12_save_170_body (fX12_save_170 n) t (Int32.ofNat i)) Q
    unfold fX12_save_170_body
    refine zpc_if (fun q => ?_) (fun q => ?_)
    · have := (z_ofL (k := 61440) (by omega) rfl).mp q
      exact k t hd (fun j h1 => hin j (by omega))
    have hi2 : i < 61440 := by
      have : ¬ 61440 ≤ i := fun z => q ((z_ofL (c := 61440) (k := 61440) (i := i) (by omega) rfl).mpr z)
      omega
    rw [z_ofC (by omega), z_ofS (by omega)]
    refine zpc_ck (zpc_ck (zpc_bv (fun t1 g1 => zpc_bv (fun x ex => ?_))))
    subst ex
    refine ih (i + 1) t1 (by omega) (by rw [g1]; exact zQ.wi hd (zcv_m (a := 0) (b := 61439) (by decide) (by omega) (by omega))) (fun j hj => ?_) k
    by_cases z : j = i
    · rw [z, g1, zsi_ej]
      show t.1 9 i = μ.1 9 i
      rw [hd.ro (k := 9) rfl]
    · rw [g1, zsi_nj z]; exact hin j (by omega)
theorem m_sv196 : ∀ (n i : Nat) (t : zSt), i ≤ 4096 → zQ [] [] [19, 20] [] μ t → zpc (fX12_save_196 n t (Int32.ofNat i)) (fun r => zQ [] [] [19, 20] [] μ r) := by
  intro n
  induction n with
  | zero => intro i t _ _; exact zpc_none
  | succ n ih =>
    intro i t hi hd
    show zpc (fX12_save_196_body (fX12_save_196 n) t (Int32.ofNat i)) _
    unfold fX12_save_196_body
    refine zpc_if (fun q => zpc_some hd) (fun q => ?_)
    have hi2 : i < 4096 := by
      have : ¬ 4096 ≤ i := fun z => q ((z_ofL (c := 4096) (k := 4096) (i := i) (by omega) rfl).mpr z)
      omega
    rw [z_ofC (by omega), z_ofS (by omega)]
    refine zpc_ck (zpc_ck (zpc_bv (fun t1 g1 => zpc_ck (zpc_ck (zpc_bv (fun t2 g2 => zpc_bv (fun x ex => ?_)))))))
    subst ex
    exact ih (i + 1) t2 (by omega) (by rw [g2, g1]; exact zQ.wl (zQ.wl hd rfl) rfl)
theorem m_rs23 : ∀ (n i : Nat) (t : zSt), i ≤ 1048 → zQ [] [(3, 0, 1047)] [] [] μ t → (∀ j : Nat, j < i → t.1 3 j = μ.1 12 j) → (∀ t : zSt, zQ [] [(3, 0, 1047)] [] [] μ t → (∀ j : Nat, j < 1048 → t.1 3 j = μ.1 12 j) → zpc (fX12_restore_50 zfuel t 0) Q) → zpc (fX12_restore_23 n t (Int32.ofNat i)) Q := by
  intro n
  induction n with
  | zero => intro i t _ _ _ _; exact zpc_none
  | succ n ih =>
    intro i t hi hd hin k
    show zpc (fX12_restore_23_body (fX12_restore_23 n) t (Int32.ofNat i)) Q
    unfold fX12_restore_23_body
    refine zpc_if (fun q => ?_) (fun q => ?_)
    · have := (z_ofL (k := 1048) (by omega) rfl).mp q
      exact k t hd (fun j h1 => hin j (by omega))
    have hi2 : i < 1048 := by
      have : ¬ 1048 ≤ i := fun z => q ((z_ofL (c := 1048) (k := 1048) (i := i) (by omega) rfl).mpr z)
      omega
    rw [z_ofC (by omega), z_ofS (by omega)]
    refine zpc_ck (zpc_ck (zpc_bv (fun t1 g1 => zpc_bv (fun x ex => ?_))))
    subst ex
    refine ih (i + 1) t1 (by omega) (by rw [g1]; exact zQ.wi hd (zcv_m (a := 0) (b := 1047) (by decide) (by omega) (by omega))) (fun j hj => ?_) k
    by_cases z : j = i
    · rw [z, g1, zsi_ej]
      show t.1 12 i = μ.1 12 i
      rw [hd.ro (k := 12) rfl]
    · rw [g1, zsi_nj z]; exact hin j (by omega)
theorem m_rs50 : ∀ (n i : Nat) (t : zSt), i ≤ 5 → zQ [] [] [] [(4, 0, 4)] μ t → (∀ j : Nat, j < i → t.2 4 j = μ.2 13 j) → (∀ t : zSt, zQ [] [] [] [(4, 0, 4)] μ t → (∀ j : Nat, j < 5 → t.2 4 j = μ.2 13 j) → zpc (fX12_restore_75 zfuel t 0) Q) → zpc (fX12_restore_50 n t (Int32.ofNat i)) Q := by
  intro n
  induction n with
  | zero => intro i t _ _ _ _; exact zpc_none
  | succ n ih =>
    intro i t hi hd hin k
    show zpc (fX12_restore_50_body (fX12_restore_50 n) t (Int32.ofNat i)) Q
    unfold fX12_restore_50_body
    refine zpc_if (fun q => ?_) (fun q => ?_)
    · have := (z_ofL (k := 5) (by omega) rfl).mp q
      exact k t hd (fun j h1 => hin j (by omega))
    have hi2 : i < 5 := by
      have : ¬ 5 ≤ i := fun z => q ((z_ofL (c := 5) (k := 5) (i := i) (by omega) rfl).mpr z)
      omega
    rw [z_ofC (by omega), z_ofS (by omega)]
    refine zpc_ck (zpc_ck (zpc_bv (fun t1 g1 => zpc_bv (fun x ex => ?_))))
    subst ex
    refine ih (i + 1) t1 (by omega) (by rw [g1]; exact zQ.wl hd (zcv_m (a := 0) (b := 4) (by decide) (by omega) (by omega))) (fun j hj => ?_) k
    by_cases z : j = i
    · rw [z, g1, zsl_ej]
      show t.2 13 i = μ.2 13 i
      rw [hd.rlo (k := 13) rfl]
    · rw [g1, zsl_nj z]; exact hin j (by omega)
theorem m_rs75 : ∀ (n i : Nat) (t : zSt), i ≤ 8192 → zQ [] [(5, 0, 8191)] [] [] μ t → (∀ j : Nat, j < i → t.1 5 j = vp_nar .byte (μ.1 14 j)) → (∀ t : zSt, zQ [] [(5, 0, 8191)] [] [] μ t → (∀ j : Nat, j < 8192 → t.1 5 j = vp_nar .byte (μ.1 14 j)) → zpc (fX12_restore_102 zfuel t 0) Q) → zpc (fX12_restore_75 n t (Int32.ofNat i)) Q := by
  intro n
  induction n with
  | zero => intro i t _ _ _ _; exact zpc_none
  | succ n ih =>
    intro i t hi hd hin k
    show zpc (fX12_restore_75_body (fX12_restore_75 n) t (Int32.ofNat i)) Q
    unfold fX12_restore_75_body
    refine zpc_if (fun q => ?_) (fun q => ?_)
    · have := (z_ofL (k := 8192) (by omega) rfl).mp q
      exact k t hd (fun j h1 => hin j (by omega))
    have hi2 : i < 8192 := by
      have : ¬ 8192 ≤ i := fun z => q ((z_ofL (c := 8192) (k := 8192) (i := i) (by omega) rfl).mpr z)
      omega
    rw [z_ofC (by omega), z_ofS (by omega)]
    refine zpc_ck (zpc_ck (zpc_bv (fun t1 g1 => zpc_bv (fun x ex => ?_))))
    subst ex
    refine ih (i + 1) t1 (by omega) (by rw [g1]; exact zQ.wi hd (zcv_m (a := 0) (b := 8191) (by decide) (by omega) (by omega))) (fun j hj => ?_) k
    by_cases z : j = i
    · rw [z, g1, zsi_ej]
      show vp_nar .byte (t.1 14 i) = vp_nar .byte (μ.1 14 i)
      rw [hd.ro (k := 14) rfl]
    · rw [g1, zsi_nj z]; exact hin j (by omega)
theorem m_rs102 : ∀ (n i : Nat) (t : zSt), i ≤ 32768 → zQ [] [(6, 0, 32767)] [] [] μ t → (∀ j : Nat, j < i → t.1 6 j = vp_nar .byte (μ.1 15 j)) → (∀ t : zSt, zQ [] [(6, 0, 32767)] [] [] μ t → (∀ j : Nat, j < 32768 → t.1 6 j = vp_nar .byte (μ.1 15 j)) → zpc (fX12_restore_128 zfuel t 0) Q) → zpc (fX12_restore_102 n t (Int32.ofNat i)) Q := by
  intro n
  induction n with
  | zero => intro i t _ _ _ _; exact zpc_none
  | succ n ih =>
    intro i t hi hd hin k
    show zpc (fX12_restore_102_body (fX12_restore_102 n) t (Int32.ofNat i)) Q
    unfold fX12_restore_102_body
    refine zpc_if (fun q => ?_) (fun q => ?_)
    · have := (z_ofL (k := 32768) (by omega) rfl).mp q
      exact k t hd (fun j h1 => hin j (by omega))
    have hi2 : i < 32768 := by
      have : ¬ 32768 ≤ i := fun z => q ((z_ofL (c := 32768) (k := 32768) (i := i) (by omega) rfl).mpr z)
      omega
    rw [z_ofC (by omega), z_ofS (by omega)]
    refine zpc_ck (zpc_ck (zpc_bv (fun t1 g1 => zpc_bv (fun x ex => ?_))))
    subst ex
    refine ih (i + 1) t1 (by omega) (by rw [g1]; exact zQ.wi hd (zcv_m (a := 0) (b := 32767) (by decide) (by omega) (by omega))) (fun j hj => ?_) k
    by_cases z : j = i
    · rw [z, g1, zsi_ej]
      show vp_nar .byte (t.1 15 i) = vp_nar .byte (μ.1 15 i)
      rw [hd.ro (k := 15) rfl]
    · rw [g1, zsi_nj z]; exact hin j (by omega)
theorem m_rs128 : ∀ (n i : Nat) (t : zSt), i ≤ 16384 → zQ [] [(7, 0, 16383)] [] [] μ t → (∀ j : Nat, j < i → t.1 7 j = vp_nar .byte (μ.1 16 j)) → (∀ t : zSt, zQ [] [(7, 0, 16383)] [] [] μ t → (∀ j : Nat, j < 16384 → t.1 7 j = vp_nar .byte (μ.1 16 j)) → zpc (fX12_restore_155 zfuel t 0) Q) → zpc (fX12_restore_128 n t (Int32.ofNat i)) Q := by
  intro n
  induction n with
  | zero => intro i t _ _ _ _; exact zpc_none
  | succ n ih =>
    intro i t hi hd hin k
    show zpc (fX12_restore_128_body (fX12_restore_128 n) t (Int32.ofNat i)) Q
    unfold fX12_restore_128_body
    refine zpc_if (fun q => ?_) (fun q => ?_)
    · have := (z_ofL (k := 16384) (by omega) rfl).mp q
      exact k t hd (fun j h1 => hin j (by omega))
    have hi2 : i < 16384 := by
      have : ¬ 16384 ≤ i := fun z => q ((z_ofL (c := 16384) (k := 16384) (i := i) (by omega) rfl).mpr z)
      omega
    rw [z_ofC (by omega), z_ofS (by omega)]
    refine zpc_ck (zpc_ck (zpc_bv (fun t1 g1 => zpc_bv (fun x ex => ?_))))
    subst ex
    refine ih (i + 1) t1 (by omega) (by rw [g1]; exact zQ.wi hd (zcv_m (a := 0) (b := 16383) (by decide) (by omega) (by omega))) (fun j hj => ?_) k
    by_cases z : j = i
    · rw [z, g1, zsi_ej]
      show vp_nar .byte (t.1 16 i) = vp_nar .byte (μ.1 16 i)
      rw [hd.ro (k := 16) rfl]
    · rw [g1, zsi_nj z]; exact hin j (by omega)
theorem m_rs155 : ∀ (n i : Nat) (t : zSt), i ≤ 64 → zQ [] [(8, 0, 63)] [] [] μ t → (∀ j : Nat, j < i → t.1 8 j = vp_nar .byte (μ.1 17 j)) → (∀ t : zSt, zQ [] [(8, 0, 63)] [] [] μ t → (∀ j : Nat, j < 64 → t.1 8 j = vp_nar .byte (μ.1 17 j)) → zpc (fX12_restore_181 zfuel t 0) Q) → zpc (fX12_restore_155 n t (Int32.ofNat i)) Q := by
  intro n
  induction n with
  | zero => intro i t _ _ _ _; exact zpc_none
  | succ n ih =>
    intro i t hi hd hin k
    show zpc (fX12_restore_155_body (fX12_restore_155 n) t (Int32.ofNat i)) Q
    unfold fX12_restore_155_body
    refine zpc_if (fun q => ?_) (fun q => ?_)
    · have := (z_ofL (k := 64) (by omega) rfl).mp q
      exact k t hd (fun j h1 => hin j (by omega))
    have hi2 : i < 64 := by
      have : ¬ 64 ≤ i := fun z => q ((z_ofL (c := 64) (k := 64) (i := i) (by omega) rfl).mpr z)
      omega
    rw [z_ofC (by omega), z_ofS (by omega)]
    refine zpc_ck (zpc_ck (zpc_bv (fun t1 g1 => zpc_bv (fun x ex => ?_))))
    subst ex
    refine ih (i + 1) t1 (by omega) (by rw [g1]; exact zQ.wi hd (zcv_m (a := 0) (b := 63) (by decide) (by omega) (by omega))) (fun j hj => ?_) k
    by_cases z : j = i
    · rw [z, g1, zsi_ej]
      show vp_nar .byte (t.1 17 i) = vp_nar .byte (μ.1 17 i)
      rw [hd.ro (k := 17) rfl]
    · rw [g1, zsi_nj z]; exact hin j (by omega)
theorem m_rs181 : ∀ (n i : Nat) (t : zSt), i ≤ 61440 → zQ [] [(9, 0, 61439)] [] [] μ t → (∀ j : Nat, j < i → t.1 9 j = μ.1 18 j) → (∀ t : zSt, zQ [] [(9, 0, 61439)] [] [] μ t → (∀ j : Nat, j < 61440 → t.1 9 j = μ.1 18 j) → zpc (fX12_restore_207 zfuel t 0) Q) → zpc (fX12_restore_181 n t (Int32.ofNat i)) Q := by
  intro n
  induction n with
  | zero => intro i t _ _ _ _; exact zpc_none
  | succ n ih =>
    intro i t hi hd hin k
    show zpc (fX12_restore_181_body (fX12_restore_181 n) t (Int32.ofNat i)) Q
    unfold fX12_restore_181_body
    refine zpc_if (fun q => ?_) (fun q => ?_)
    · have := (z_ofL (k := 61440) (by omega) rfl).mp q
      exact k t hd (fun j h1 => hin j (by omega))
    have hi2 : i < 61440 := by
      have : ¬ 61440 ≤ i := fun z => q ((z_ofL (c := 61440) (k := 61440) (i := i) (by omega) rfl).mpr z)
      omega
    rw [z_ofC (by omega), z_ofS (by omega)]
    refine zpc_ck (zpc_ck (zpc_bv (fun t1 g1 => zpc_bv (fun x ex => ?_))))
    subst ex
    refine ih (i + 1) t1 (by omega) (by rw [g1]; exact zQ.wi hd (zcv_m (a := 0) (b := 61439) (by decide) (by omega) (by omega))) (fun j hj => ?_) k
    by_cases z : j = i
    · rw [z, g1, zsi_ej]
      show t.1 18 i = μ.1 18 i
      rw [hd.ro (k := 18) rfl]
    · rw [g1, zsi_nj z]; exact hin j (by omega)
theorem m_rs207 : ∀ (n i : Nat) (t : zSt), i ≤ 4096 → zQ [] [] [10, 11] [] μ t → zpc (fX12_restore_207 n t (Int32.ofNat i)) (fun r => zQ [] [] [10, 11] [] μ r) := by
  intro n
  induction n with
  | zero => intro i t _ _; exact zpc_none
  | succ n ih =>
    intro i t hi hd
    show zpc (fX12_restore_207_body (fX12_restore_207 n) t (Int32.ofNat i)) _
    unfold fX12_restore_207_body
    refine zpc_if (fun q => zpc_some hd) (fun q => ?_)
    have hi2 : i < 4096 := by
      have : ¬ 4096 ≤ i := fun z => q ((z_ofL (c := 4096) (k := 4096) (i := i) (by omega) rfl).mpr z)
      omega
    rw [z_ofC (by omega), z_ofS (by omega)]
    refine zpc_ck (zpc_ck (zpc_bv (fun t1 g1 => zpc_ck (zpc_ck (zpc_bv (fun t2 g2 => zpc_bv (fun x ex => ?_)))))))
    subst ex
    exact ih (i + 1) t2 (by omega) (by rw [g2, g1]; exact zQ.wl (zQ.wl hd rfl) rfl)
noncomputable def zMkk (μ r : zSt) : Prop := zQ [12, 14, 15, 16, 17, 18] [(0, 0, 0), (0, 19, 19)] [13, 19, 20] [] μ r ∧ (∀ j : Nat, j < 1048 → r.1 12 j = μ.1 3 j) ∧ (∀ j : Nat, j < 5 → r.2 13 j = μ.2 4 j) ∧ (∀ j : Nat, j < 8192 → r.1 14 j = vp_nar .byte (μ.1 5 j)) ∧ (∀ j : Nat, j < 32768 → r.1 15 j = vp_nar .byte (μ.1 6 j)) ∧ (∀ j : Nat, j < 16384 → r.1 16 j = vp_nar .byte (μ.1 7 j)) ∧ (∀ j : Nat, j < 64 → r.1 17 j = vp_nar .byte (μ.1 8 j)) ∧ (∀ j : Nat, j < 61440 → r.1 18 j = μ.1 9 j)
theorem m_save' : zpc (fX12_save_12 zfuel μ 0) (zMkk μ) := by
  refine m_sv12 (μ := μ) zfuel 0 μ (by decide) zQ.rf (fun j hj => absurd hj (by omega)) (fun u0 d0 v0 => ?_)
  refine m_sv39 (μ := u0) zfuel 0 u0 (by decide) zQ.rf (fun j hj => absurd hj (by omega)) (fun u1 d1 v1 => ?_)
  refine m_sv64 (μ := u1) zfuel 0 u1 (by decide) zQ.rf (fun j hj => absurd hj (by omega)) (fun u2 d2 v2 => ?_)
  refine m_sv91 (μ := u2) zfuel 0 u2 (by decide) zQ.rf (fun j hj => absurd hj (by omega)) (fun u3 d3 v3 => ?_)
  refine m_sv117 (μ := u3) zfuel 0 u3 (by decide) zQ.rf (fun j hj => absurd hj (by omega)) (fun u4 d4 v4 => ?_)
  refine m_sv144 (μ := u4) zfuel 0 u4 (by decide) zQ.rf (fun j hj => absurd hj (by omega)) (fun u5 d5 v5 => ?_)
  refine m_sv170 (μ := u5) zfuel 0 u5 (by decide) zQ.rf (fun j hj => absurd hj (by omega)) (fun u6 d6 v6 => ?_)
  refine zpc_mono (m_sv196 (μ := u6) zfuel 0 u6 (by decide) zQ.rf) (fun r d7 => ?_)
  have w0 : ∀ j : Nat, j < 1048 → r.1 12 j = μ.1 3 j := fun j hj => by
    rw [d7.ro (k := 12) rfl, d6.ro (k := 12) rfl, d5.ro (k := 12) rfl, d4.ro (k := 12) rfl, d3.ro (k := 12) rfl, d2.ro (k := 12) rfl, d1.ro (k := 12) rfl, v0 j hj]
  have w1 : ∀ j : Nat, j < 5 → r.2 13 j = μ.2 4 j := fun j hj => by
    rw [d7.rlo (k := 13) rfl, d6.rlo (k := 13) rfl, d5.rlo (k := 13) rfl, d4.rlo (k := 13) rfl, d3.rlo (k := 13) rfl, d2.rlo (k := 13) rfl, v1 j hj, d0.rlo (k := 4) rfl]
  have w2 : ∀ j : Nat, j < 8192 → r.1 14 j = vp_nar .byte (μ.1 5 j) := fun j hj => by
    rw [d7.ro (k := 14) rfl, d6.ro (k := 14) rfl, d5.ro (k := 14) rfl, d4.ro (k := 14) rfl, d3.ro (k := 14) rfl, v2 j hj, d1.ro (k := 5) rfl, d0.ro (k := 5) rfl]
  have w3 : ∀ j : Nat, j < 32768 → r.1 15 j = vp_nar .byte (μ.1 6 j) := fun j hj => by
    rw [d7.ro (k := 15) rfl, d6.ro (k := 15) rfl, d5.ro (k := 15) rfl, d4.ro (k := 15) rfl, v3 j hj, d2.ro (k := 6) rfl, d1.ro (k := 6) rfl, d0.ro (k := 6) rfl]
  have w4 : ∀ j : Nat, j < 16384 → r.1 16 j = vp_nar .byte (μ.1 7 j) := fun j hj => by
    rw [d7.ro (k := 16) rfl, d6.ro (k := 16) rfl, d5.ro (k := 16) rfl, v4 j hj, d3.ro (k := 7) rfl, d2.ro (k := 7) rfl, d1.ro (k := 7) rfl, d0.ro (k := 7) rfl]
  have w5 : ∀ j : Nat, j < 64 → r.1 17 j = vp_nar .byte (μ.1 8 j) := fun j hj => by
    rw [d7.ro (k := 17) rfl, d6.ro (k := 17) rfl, v5 j hj, d4.ro (k := 8) rfl, d3.ro (k := 8) rfl, d2.ro (k := 8) rfl, d1.ro (k := 8) rfl, d0.ro (k := 8) rfl]
  have w6 : ∀ j : Nat, j < 61440 → r.1 18 j = μ.1 9 j := fun j hj => by
    rw [d7.ro (k := 18) rfl, v6 j hj, d5.ro (k := 9) rfl, d4.ro (k := 9) rfl, d3.ro (k := 9) rfl, d2.ro (k := 9) rfl, d1.ro (k := 9) rfl, d0.ro (k := 9) rfl]
  refine ⟨?_, w0, w1, w2, w3, w4, w5, w6⟩
  have m0 := d0.mono (R' := [12, 14, 15, 16, 17, 18]) (A' := [(0, 0, 0), (0, 19, 19)]) (S' := [13, 19, 20]) (B' := []) rfl rfl
  have m1 := d1.mono (R' := [12, 14, 15, 16, 17, 18]) (A' := [(0, 0, 0), (0, 19, 19)]) (S' := [13, 19, 20]) (B' := []) rfl rfl
  have m2 := d2.mono (R' := [12, 14, 15, 16, 17, 18]) (A' := [(0, 0, 0), (0, 19, 19)]) (S' := [13, 19, 20]) (B' := []) rfl rfl
  have m3 := d3.mono (R' := [12, 14, 15, 16, 17, 18]) (A' := [(0, 0, 0), (0, 19, 19)]) (S' := [13, 19, 20]) (B' := []) rfl rfl
  have m4 := d4.mono (R' := [12, 14, 15, 16, 17, 18]) (A' := [(0, 0, 0), (0, 19, 19)]) (S' := [13, 19, 20]) (B' := []) rfl rfl
  have m5 := d5.mono (R' := [12, 14, 15, 16, 17, 18]) (A' := [(0, 0, 0), (0, 19, 19)]) (S' := [13, 19, 20]) (B' := []) rfl rfl
  have m6 := d6.mono (R' := [12, 14, 15, 16, 17, 18]) (A' := [(0, 0, 0), (0, 19, 19)]) (S' := [13, 19, 20]) (B' := []) rfl rfl
  have m7 := d7.mono (R' := [12, 14, 15, 16, 17, 18]) (A' := [(0, 0, 0), (0, 19, 19)]) (S' := [13, 19, 20]) (B' := []) rfl rfl
  exact ((((((m0.tr m1).tr m2).tr m3).tr m4).tr m5).tr m6).tr m7
theorem m_back : zpc (fX12_restore_23 zfuel μ 0) (fun r => zQ [] [] [10, 11] [] (zKm μ) r) := by
  refine m_rs23 (μ := μ) zfuel 0 μ (by decide) zQ.rf (fun j hj => absurd hj (by omega)) (fun u0 d0 v0 => ?_)
  refine m_rs50 (μ := u0) zfuel 0 u0 (by decide) zQ.rf (fun j hj => absurd hj (by omega)) (fun u1 d1 v1 => ?_)
  refine m_rs75 (μ := u1) zfuel 0 u1 (by decide) zQ.rf (fun j hj => absurd hj (by omega)) (fun u2 d2 v2 => ?_)
  refine m_rs102 (μ := u2) zfuel 0 u2 (by decide) zQ.rf (fun j hj => absurd hj (by omega)) (fun u3 d3 v3 => ?_)
  refine m_rs128 (μ := u3) zfuel 0 u3 (by decide) zQ.rf (fun j hj => absurd hj (by omega)) (fun u4 d4 v4 => ?_)
  refine m_rs155 (μ := u4) zfuel 0 u4 (by decide) zQ.rf (fun j hj => absurd hj (by omega)) (fun u5 d5 v5 => ?_)
  refine m_rs181 (μ := u5) zfuel 0 u5 (by decide) zQ.rf (fun j hj => absurd hj (by omega)) (fun u6 d6 v6 => ?_)
  refine zpc_mono (m_rs207 (μ := u6) zfuel 0 u6 (by decide) zQ.rf) (fun r d7 => ?_)
  have w0 : ∀ j : Nat, j < 1048 → r.1 3 j = μ.1 12 j := fun j hj => by
    rw [d7.ro (k := 3) rfl, d6.ro (k := 3) rfl, d5.ro (k := 3) rfl, d4.ro (k := 3) rfl, d3.ro (k := 3) rfl, d2.ro (k := 3) rfl, d1.ro (k := 3) rfl, v0 j hj]
  have w1 : ∀ j : Nat, j < 5 → r.2 4 j = μ.2 13 j := fun j hj => by
    rw [d7.rlo (k := 4) rfl, d6.rlo (k := 4) rfl, d5.rlo (k := 4) rfl, d4.rlo (k := 4) rfl, d3.rlo (k := 4) rfl, d2.rlo (k := 4) rfl, v1 j hj, d0.rlo (k := 13) rfl]
  have w2 : ∀ j : Nat, j < 8192 → r.1 5 j = vp_nar .byte (μ.1 14 j) := fun j hj => by
    rw [d7.ro (k := 5) rfl, d6.ro (k := 5) rfl, d5.ro (k := 5) rfl, d4.ro (k := 5) rfl, d3.ro (k := 5) rfl, v2 j hj, d1.ro (k := 14) rfl, d0.ro (k := 14) rfl]
  have w3 : ∀ j : Nat, j < 32768 → r.1 6 j = vp_nar .byte (μ.1 15 j) := fun j hj => by
    rw [d7.ro (k := 6) rfl, d6.ro (k := 6) rfl, d5.ro (k := 6) rfl, d4.ro (k := 6) rfl, v3 j hj, d2.ro (k := 15) rfl, d1.ro (k := 15) rfl, d0.ro (k := 15) rfl]
  have w4 : ∀ j : Nat, j < 16384 → r.1 7 j = vp_nar .byte (μ.1 16 j) := fun j hj => by
    rw [d7.ro (k := 7) rfl, d6.ro (k := 7) rfl, d5.ro (k := 7) rfl, v4 j hj, d3.ro (k := 16) rfl, d2.ro (k := 16) rfl, d1.ro (k := 16) rfl, d0.ro (k := 16) rfl]
  have w5 : ∀ j : Nat, j < 64 → r.1 8 j = vp_nar .byte (μ.1 17 j) := fun j hj => by
    rw [d7.ro (k := 8) rfl, d6.ro (k := 8) rfl, v5 j hj, d4.ro (k := 17) rfl, d3.ro (k := 17) rfl, d2.ro (k := 17) rfl, d1.ro (k := 17) rfl, d0.ro (k := 17) rfl]
  have w6 : ∀ j : Nat, j < 61440 → r.1 9 j = μ.1 18 j := fun j hj => by
    rw [d7.ro (k := 9) rfl, v6 j hj, d5.ro (k := 18) rfl, d4.ro (k := 18) rfl, d3.ro (k := 18) rfl, d2.ro (k := 18) rfl, d1.ro (k := 18) rfl, d0.ro (k := 18) rfl]
  have m0 := d0.mono (R' := []) (A' := [(0, 0, 0), (3, 0, 1047), (5, 0, 8191), (6, 0, 32767), (7, 0, 16383), (8, 0, 63), (9, 0, 61439)]) (S' := [10, 11]) (B' := [(4, 0, 4)]) rfl rfl
  have m1 := d1.mono (R' := []) (A' := [(0, 0, 0), (3, 0, 1047), (5, 0, 8191), (6, 0, 32767), (7, 0, 16383), (8, 0, 63), (9, 0, 61439)]) (S' := [10, 11]) (B' := [(4, 0, 4)]) rfl rfl
  have m2 := d2.mono (R' := []) (A' := [(0, 0, 0), (3, 0, 1047), (5, 0, 8191), (6, 0, 32767), (7, 0, 16383), (8, 0, 63), (9, 0, 61439)]) (S' := [10, 11]) (B' := [(4, 0, 4)]) rfl rfl
  have m3 := d3.mono (R' := []) (A' := [(0, 0, 0), (3, 0, 1047), (5, 0, 8191), (6, 0, 32767), (7, 0, 16383), (8, 0, 63), (9, 0, 61439)]) (S' := [10, 11]) (B' := [(4, 0, 4)]) rfl rfl
  have m4 := d4.mono (R' := []) (A' := [(0, 0, 0), (3, 0, 1047), (5, 0, 8191), (6, 0, 32767), (7, 0, 16383), (8, 0, 63), (9, 0, 61439)]) (S' := [10, 11]) (B' := [(4, 0, 4)]) rfl rfl
  have m5 := d5.mono (R' := []) (A' := [(0, 0, 0), (3, 0, 1047), (5, 0, 8191), (6, 0, 32767), (7, 0, 16383), (8, 0, 63), (9, 0, 61439)]) (S' := [10, 11]) (B' := [(4, 0, 4)]) rfl rfl
  have m6 := d6.mono (R' := []) (A' := [(0, 0, 0), (3, 0, 1047), (5, 0, 8191), (6, 0, 32767), (7, 0, 16383), (8, 0, 63), (9, 0, 61439)]) (S' := [10, 11]) (B' := [(4, 0, 4)]) rfl rfl
  have m7 := d7.mono (R' := []) (A' := [(0, 0, 0), (3, 0, 1047), (5, 0, 8191), (6, 0, 32767), (7, 0, 16383), (8, 0, 63), (9, 0, 61439)]) (S' := [10, 11]) (B' := [(4, 0, 4)]) rfl rfl
  have fr := ((((((m0.tr m1).tr m2).tr m3).tr m4).tr m5).tr m6).tr m7
  have z0 : r.1 0 0 = μ.1 0 0 := by rw [d7.ro (k := 0) rfl, d6.ro (k := 0) rfl, d5.ro (k := 0) rfl, d4.ro (k := 0) rfl, d3.ro (k := 0) rfl, d2.ro (k := 0) rfl, d1.ro (k := 0) rfl, d0.ro (k := 0) rfl]
  have vals : ∀ p ∈ zsm, ∀ i : Nat, i < p.2.2 → r.1 p.1 i = zmb p.1 (μ.1 p.2.1 i) := by
    unfold zsm
    exact List.forall_mem_cons.2 ⟨fun i hi => w6 i hi, List.forall_mem_cons.2 ⟨fun i hi => w5 i hi, List.forall_mem_cons.2 ⟨fun i hi => w4 i hi, List.forall_mem_cons.2 ⟨fun i hi => w3 i hi, List.forall_mem_cons.2 ⟨fun i hi => w2 i hi, List.forall_mem_cons.2 ⟨fun i hi => w0 i hi, fun _ h => absurd h List.not_mem_nil⟩⟩⟩⟩⟩⟩
  refine ⟨fun k j c => zkp_rev vals (fun z => ?_), fun k j c => zkp_rev (fun p hp i hi => ?_) (fun z => fr.2 k j ?_)⟩
  · by_cases y : k = 0 ∧ j = 0
    · rw [y.1, y.2]; exact z0
    refine fr.1 k j ?_
    unfold zcv
    show (false || _) = false
    rw [Bool.false_or]
    refine List.any_eq_false.mpr (fun e he q => ?_)
    rw [Bool.and_eq_true, Bool.and_eq_true] at q
    have n : ∀ e ∈ ([(0, 0, 0), (3, 0, 1047), (5, 0, 8191), (6, 0, 32767), (7, 0, 16383), (8, 0, 63), (9, 0, 61439)] : List (Nat × Nat × Nat)), e = (0, 0, 0) ∨ ∃ p ∈ zsm, p.1 = e.1 ∧ e.2.2 < p.2.2 := by decide +kernel
    have a3 := Nat.le_of_ble_eq_true q.2.2
    have a1 := Nat.eq_of_beq_eq_true q.1
    rcases n e he with x | ⟨p, hp, e1, e2⟩
    · subst x
      have a3 : j ≤ 0 := a3
      exact y ⟨a1.symm, by omega⟩
    · exact z p hp (e1.trans a1) (by omega)
  · rw [List.mem_singleton] at hp
    subst hp
    exact w1 i hi
  · unfold zcv at c ⊢
    rw [Bool.or_eq_false_iff] at c ⊢
    refine ⟨c.1, List.any_eq_false.mpr (fun e he q => ?_)⟩
    rw [List.mem_singleton] at he
    subst he
    rw [Bool.and_eq_true, Bool.and_eq_true] at q
    have a3 : j ≤ 4 := Nat.le_of_ble_eq_true q.2.2
    exact z (4, 13, 5) List.mem_cons_self (Nat.eq_of_beq_eq_true q.1) (by show j < 5; omega)
/-- frame of restoring, from the state itself -/
theorem m_backf : zpc (fX12_restore_23 zfuel μ 0) (fun r => zQ [3, 5, 6, 7, 8, 9] [] [4, 10, 11] [] μ r) := by
  refine m_rs23 (μ := μ) zfuel 0 μ (by decide) zQ.rf (fun j hj => absurd hj (by omega)) (fun u0 d0 v0 => ?_)
  refine m_rs50 (μ := u0) zfuel 0 u0 (by decide) zQ.rf (fun j hj => absurd hj (by omega)) (fun u1 d1 v1 => ?_)
  refine m_rs75 (μ := u1) zfuel 0 u1 (by decide) zQ.rf (fun j hj => absurd hj (by omega)) (fun u2 d2 v2 => ?_)
  refine m_rs102 (μ := u2) zfuel 0 u2 (by decide) zQ.rf (fun j hj => absurd hj (by omega)) (fun u3 d3 v3 => ?_)
  refine m_rs128 (μ := u3) zfuel 0 u3 (by decide) zQ.rf (fun j hj => absurd hj (by omega)) (fun u4 d4 v4 => ?_)
  refine m_rs155 (μ := u4) zfuel 0 u4 (by decide) zQ.rf (fun j hj => absurd hj (by omega)) (fun u5 d5 v5 => ?_)
  refine m_rs181 (μ := u5) zfuel 0 u5 (by decide) zQ.rf (fun j hj => absurd hj (by omega)) (fun u6 d6 v6 => ?_)
  refine zpc_mono (m_rs207 (μ := u6) zfuel 0 u6 (by decide) zQ.rf) (fun r d7 => ?_)
  have m0 := d0.mono (R' := [3, 5, 6, 7, 8, 9]) (A' := []) (S' := [4, 10, 11]) (B' := []) rfl rfl
  have m1 := d1.mono (R' := [3, 5, 6, 7, 8, 9]) (A' := []) (S' := [4, 10, 11]) (B' := []) rfl rfl
  have m2 := d2.mono (R' := [3, 5, 6, 7, 8, 9]) (A' := []) (S' := [4, 10, 11]) (B' := []) rfl rfl
  have m3 := d3.mono (R' := [3, 5, 6, 7, 8, 9]) (A' := []) (S' := [4, 10, 11]) (B' := []) rfl rfl
  have m4 := d4.mono (R' := [3, 5, 6, 7, 8, 9]) (A' := []) (S' := [4, 10, 11]) (B' := []) rfl rfl
  have m5 := d5.mono (R' := [3, 5, 6, 7, 8, 9]) (A' := []) (S' := [4, 10, 11]) (B' := []) rfl rfl
  have m6 := d6.mono (R' := [3, 5, 6, 7, 8, 9]) (A' := []) (S' := [4, 10, 11]) (B' := []) rfl rfl
  have m7 := d7.mono (R' := [3, 5, 6, 7, 8, 9]) (A' := []) (S' := [4, 10, 11]) (B' := []) rfl rfl
  exact ((((((m0.tr m1).tr m2).tr m3).tr m4).tr m5).tr m6).tr m7
end ZKC
end ZJN0
section ZJN1
/-! THE WHOLE RELATION BETWEEN TWO CALLS -/
section ZAL
variable {σ μ s t r : zSt} {B C : Int × Int × Int}
/-- bytes of the reference may be written otherwise -/
theorem zNow.msk (h : zNow B σ μ) (b : zQ [5, 6, 7, 8, 12, 14, 15, 16, 17, 18] [(0, 0, 0), (0, 19, 19)] [13, 19, 20] [] μ t) (e5 : ∀ j : Nat, j < 8192 → t.1 5 j &&& 255 = μ.1 5 j &&& 255) (e6 : ∀ j : Nat, j < 32768 → t.1 6 j &&& 255 = μ.1 6 j &&& 255) (e7 : ∀ j : Nat, j < 16384 → t.1 7 j &&& 255 = μ.1 7 j &&& 255) (e8 : ∀ j : Nat, j < 64 → t.1 8 j &&& 255 = μ.1 8 j &&& 255) : zNow B σ t := by
  obtain ⟨⟨⟨⟨m1, m2, m3, m4, m5, m6⟩, r1, r2, r3, r4, r5, r6⟩, hC, hJ, ⟨⟨hE, hG, hR, hL⟩, hj⟩⟩, hF, hW⟩ := h
  have g3 : t.1 3 = μ.1 3 := b.ro (k := 3) rfl
  have g2 : t.1 2 = μ.1 2 := b.ro (k := 2) rfl
  have g0 : ∀ j : Nat, 1 ≤ j → j ≤ 18 → t.1 0 j = μ.1 0 j := fun j h1 h2 => b.o (k := 0) (a := 1) (b := 18) rfl h1 h2
  have a0 : zQ [] [] [] [] σ σ := zQ.rf
  refine ⟨⟨⟨⟨fun j hj => ?_, fun j hj => ?_, fun j hj => ?_, ?_, ?_, ?_⟩, r1, r2, ?_, ?_, ?_, fun j j1 j2 => ?_⟩, ?_, ?_, ⟨⟨?_, hG, ?_, hL⟩, hj.kp a0 b rfl rfl⟩⟩, ?_, ?_⟩
  · rw [e5 j hj]; exact m1 j hj
  · rw [e6 j hj]; exact m2 j hj
  · rw [g3]; exact m3 j hj
  · rw [g3]; exact m4
  · exact m5.keep (fun _ _ => rfl) rfl (fun j hj => g0 j (by revert hj; simp only [List.mem_cons, List.not_mem_nil, or_false]; omega) (by revert hj; simp only [List.mem_cons, List.not_mem_nil, or_false]; omega)) g2
  · unfold zFil
    rw [g0 5 (by decide) (by decide), g0 6 (by decide) (by decide), g2]
    exact m6
  · rw [g0 6 (by decide) (by decide)]; exact r3
  · rw [g0 7 (by decide) (by decide)]; exact r4
  · rw [g0 7 (by decide) (by decide), g0 6 (by decide) (by decide)]; exact r5
  · rw [g3]; exact r6 j j1 j2
  · unfold zCq
    rw [g3]
    exact hC
  · unfold zJp
    rw [b.o (k := 0) (a := 31) (b := 31) rfl (j := 31) (by decide) (by decide)]
    exact hJ
  · refine zE_all (fun i hi => ?_) (fun i hi => ?_) (fun i hi => ?_) (fun i hi => ?_) (fun i hi => ?_) (fun i hi => ?_) (fun i hi => ?_) (fun i hi => ?_) (fun i hi => ?_) (fun i hi => ?_) (fun i hi => ?_) (fun i hi => ?_) (fun i hi => ?_) (fun i hi => ?_) (fun i hi => ?_) (fun i hi => ?_) (fun i hi => ?_) (fun i hi => ?_) (fun i hi => ?_)
    · rw [g3]
      exact hE (34, 0, 1, 3, 33, (-1)) (by decide +kernel) i hi
    · rw [g3]
      exact hE (34, 1, 5, 3, 37, (-1)) (by decide +kernel) i hi
    · rw [g3]
      exact hE (34, 6, 1, 3, 35, (-1)) (by decide +kernel) i hi
    · rw [g3]
      exact hE (34, 7, 5, 3, 42, (-1)) (by decide +kernel) i hi
    · rw [g3]
      exact hE (23, 0, 17, 3, 47, (-1)) (by decide +kernel) i hi
    · rw [g3]
      exact hE (23, 18, 4, 3, 64, (-1)) (by decide +kernel) i hi
    · rw [g3]
      exact hE (23, 26, 1, 3, 68, (-1)) (by decide +kernel) i hi
    · rw [e8 (0 + i) (by omega)]
      exact hE (23, 32, 64, 8, 0, 255) (by decide +kernel) i hi
    · rw [e7 (0 + i) (by omega)]
      exact hE (21, 0, 16384, 7, 0, 255) (by decide +kernel) i hi
    · rw [g3]
      exact hE (30, 0, 3, 3, 69, (-1)) (by decide +kernel) i hi
    · rw [g3]
      exact hE (30, 9, 5, 3, 78, (-1)) (by decide +kernel) i hi
    · rw [g3]
      exact hE (30, 17, 1, 3, 86, (-1)) (by decide +kernel) i hi
    · rw [g3]
      exact hE (30, 18, 1, 3, 34, (-1)) (by decide +kernel) i hi
    · rw [g3]
      exact hE (32, 0, 64, 3, 98, (-1)) (by decide +kernel) i hi
    · rw [g3]
      exact hE (32, 64, 1, 3, 163, (-1)) (by decide +kernel) i hi
    · rw [g3]
      exact hE (32, 68, 1, 3, 162, (-1)) (by decide +kernel) i hi
    · rw [g3]
      exact hE (40, 0, 8, 3, 90, (-1)) (by decide +kernel) i hi
    · rw [g3]
      exact hE (40, 8, 1, 3, 89, (-1)) (by decide +kernel) i hi
    · rw [b.ro (k := 9) rfl]
      exact hE (25, 0, 61440, 9, 0, (-1)) (by decide +kernel) i hi
  · unfold zRk
    rw [g0 3 (by decide) (by decide)]
    exact hR
  · unfold zF
    rw [g3]
    exact hF
  · unfold zWzz
    rw [g3]
    exact hW
/-! what is kept stays related while both go on -/
theorem zsv_tb : (zTb.all (fun q => zsv.any (fun p => Nat.beq p.1 q.1 && Nat.ble (q.2.1 + q.2.2.1) p.2.2))) = true := by decide +kernel
theorem zsm_tb : (zTb.all (fun q => zsm.any (fun p => Nat.beq p.1 q.2.2.2.1 && Nat.ble (q.2.2.2.2.1 + q.2.2.1) p.2.2))) = true := by decide +kernel
theorem zsv_gt : (zGt.all (fun q => zsv.any (fun p => Nat.beq p.1 q.1 && Nat.ble (q.2.1 + q.2.2.1) p.2.2))) = true := by decide +kernel
theorem zNow.sav (k : zNow B (zKc σ) (zKm μ)) (n : zNow C s t) (c : ∀ p ∈ zsv, s.1 p.2.1 = σ.1 p.2.1) (cl : s.2 39 = σ.2 39) (d : ∀ p ∈ zsm, t.1 p.2.1 = μ.1 p.2.1) (dl : t.2 13 = μ.2 13) (kd : t.1 0 3 = μ.1 0 3) : zNow (C.1, B.2.1, B.2.2) (zKc s) (zKm t) := by
  have eC : ∀ p ∈ zsv, ∀ j : Nat, j < p.2.2 → (zKc s).1 p.1 j = (zKc σ).1 p.1 j := fun p hp j hj => by
    rw [zKc_all p hp j hj, zKc_all p hp j hj, c p hp]
  have eM : ∀ p ∈ zsm, ∀ j : Nat, j < p.2.2 → (zKm t).1 p.1 j = (zKm μ).1 p.1 j := fun p hp j hj => by
    rw [zKm_all p hp j hj, zKm_all p hp j hj, d p hp]
  have fC : ∀ j : Nat, j < 7 → (zKc s).2 38 j = (zKc σ).2 38 j := fun j hj => by rw [zKc_l hj, zKc_l hj, cl]
  have fM : ∀ j : Nat, j < 5 → (zKm t).2 4 j = (zKm μ).2 4 j := fun j hj => by rw [zKm_l hj, zKm_l hj, dl]
  have c15 : ∀ j : Nat, j < 8192 → (zKc s).1 15 j = (zKc σ).1 15 j := fun j hj => eC (15, 16, 8192) (by decide +kernel) j hj
  have c17 : ∀ j : Nat, j < 32768 → (zKc s).1 17 j = (zKc σ).1 17 j := fun j hj => eC (17, 18, 32768) (by decide +kernel) j hj
  have c19 : ∀ j : Nat, j < 4 → (zKc s).1 19 j = (zKc σ).1 19 j := fun j hj => eC (19, 20, 4) (by decide +kernel) j hj
  have c23 : ∀ j : Nat, j < 96 → (zKc s).1 23 j = (zKc σ).1 23 j := fun j hj => eC (23, 24, 96) (by decide +kernel) j hj
  have c36 : ∀ j : Nat, j < 29 → (zKc s).1 36 j = (zKc σ).1 36 j := fun j hj => eC (36, 37, 29) (by decide +kernel) j hj
  have c42 : ∀ j : Nat, j < 770 → (zKc s).1 42 j = (zKc σ).1 42 j := fun j hj => eC (42, 43, 770) (by decide +kernel) j hj
  have d3 : ∀ j : Nat, j < 1048 → (zKm t).1 3 j = (zKm μ).1 3 j := fun j hj => eM (3, 12, 1048) (by decide +kernel) j hj
  have d5 : ∀ j : Nat, j < 8192 → (zKm t).1 5 j = (zKm μ).1 5 j := fun j hj => eM (5, 14, 8192) (by decide +kernel) j hj
  have d6 : ∀ j : Nat, j < 32768 → (zKm t).1 6 j = (zKm μ).1 6 j := fun j hj => eM (6, 15, 32768) (by decide +kernel) j hj
  obtain ⟨⟨⟨⟨m1, m2, m3, m4, m5, m6⟩, r1, r2, r3, r4, r5, r6⟩, hC, hJ, ⟨⟨hE, hG, hR, hL⟩, hP, hS, hT, hM⟩⟩, hF, hW⟩ := k
  obtain ⟨⟨⟨⟨n1, n2, n3, n4, n5, n6⟩, u1, u2, u3, u4, u5, u6⟩, iC, iJ, ⟨⟨iE, iG, iR, iL⟩, iP, iS, iT, iM⟩⟩, iF, iW⟩ := n
  have k3 : (zKm t).1 0 3 = (zKm μ).1 0 3 := kd
  refine ⟨⟨⟨⟨fun j hj => ?_, fun j hj => ?_, fun j hj => ?_, ?_, ?_, n6⟩, u1, u2, u3, u4, u5, fun j j1 j2 => ?_⟩, ⟨fun j hj j1 j20 => ?_, ?_, ?_, fun j hj => ?_⟩, iJ, ⟨⟨?_, ?_, iR, ?_⟩, ⟨?_, ?_, ?_, fun k r hk hr => ?_, fun k hk => ?_⟩, iS, ⟨?_, ?_, ?_, ?_, ?_⟩, ?_⟩⟩, ?_, ?_⟩
  · rw [c15 j hj, d5 j hj]; exact m1 j hj
  · rw [c17 j hj, d6 j hj]; exact m2 j hj
  · rw [c19 j (by omega), d3 (29 + j) (by omega)]; exact m3 j hj
  · rw [c19 3 (by decide), d3 32 (by decide)]; exact m4
  · refine zCart.keep n5 (fun j hj => ?_) ?_ (fun j hj => ?_) rfl
    · rfl
    · rcases z_tp13 (s.1 1 1) with z | z
      · rw [z]; rfl
      · rw [z]; rfl
    · rfl
  · rw [d3 j (by omega)]; exact r6 j j1 j2
  · rw [c36 j (by omega), d3 j (by omega)]; exact hC.1 j hj j1 j20
  · rw [c36 27 (by decide), d3 28 (by decide)]; exact hC.2.1
  · rw [c36 28 (by decide), d3 27 (by decide)]; exact hC.2.2.1
  · rw [c36 j (by omega)]; exact hC.2.2.2 j hj
  · refine hE.keep (fun q hq i hi => ?_) (fun q hq i hi => ?_)
    · obtain ⟨p, hp, z⟩ := List.any_eq_true.mp ((List.all_eq_true.mp zsv_tb) q hq)
      rw [Bool.and_eq_true] at z
      have z1 : p.1 = q.1 := Nat.eq_of_beq_eq_true z.1
      have z2 := Nat.le_of_ble_eq_true z.2
      rw [← z1]
      exact eC p hp _ (by omega)
    · obtain ⟨p, hp, z⟩ := List.any_eq_true.mp ((List.all_eq_true.mp zsm_tb) q hq)
      rw [Bool.and_eq_true] at z
      have z1 : p.1 = q.2.2.2.1 := Nat.eq_of_beq_eq_true z.1
      have z2 := Nat.le_of_ble_eq_true z.2
      rw [← z1]
      exact eM p hp _ (by omega)
  · intro k j a b q
    obtain ⟨g, hg, e1, e2, e3⟩ := zGf_mem q
    obtain ⟨p, hp, z⟩ := List.any_eq_true.mp ((List.all_eq_true.mp zsv_gt) g hg)
    rw [Bool.and_eq_true] at z
    have z1 : p.1 = g.1 := Nat.eq_of_beq_eq_true z.1
    have z2 := Nat.le_of_ble_eq_true z.2
    have w := eC p hp j (by omega)
    rw [z1, e1] at w
    rw [w]
    exact hG k j a b q
  · have x1 : (zKc s).1 2 1 = (zKc σ).1 2 1 := by
      have y1 : (zKc s).1 2 1 = (if (zKm t).1 0 3 = 1 then 313 else 262) := iR.2.2.2.2.2
      rw [y1, k3]
      exact hR.2.2.2.2.2.symm
    unfold zLn
    rw [c23 20 (by decide), x1]
    exact hL
  · rw [c42 769 (by decide), d3 171 (by decide)]; exact hP.1
  · rw [d3 171 (by decide)]; exact hP.2.1
  · rw [c42 768 (by decide)]; exact hP.2.2.1
  · rw [d3 171 (by decide)] at hk
    have q2 := hP.2.1.2
    rw [c42 768 (by decide), d3 (280 + 3 * k + r) (by omega), c42 _ (by omega)]
    exact hP.2.2.2.1 k r hk hr
  · rw [d3 171 (by decide)] at hk
    have q2 := hP.2.1.2
    rw [d3 (280 + 3 * k + 1) (by omega), d3 (280 + 3 * k + 2) (by omega), d3 (280 + 3 * k + 0) (by omega)]
    exact hP.2.2.2.2 k hk
  · rw [fC 0 (by decide), fM 0 (by decide)]; exact hT.1
  · rw [fC 1 (by decide), fM 1 (by decide)]; exact hT.2.1
  · rw [fC 2 (by decide), fM 2 (by decide)]; exact hT.2.2.1
  · rw [fM 2 (by decide)]; exact hT.2.2.2.1
  · rw [fM 2 (by decide)]; exact hT.2.2.2.2
  · show B.2.2 ≤ zMt (zKm t)
    unfold zMt
    rw [fM 2 (by decide), d3 66 (by decide), d3 67 (by decide), k3]
    exact hM
  · unfold zF
    rw [c36 1 (by decide), d3 1 (by decide)]
    exact hF
  · unfold zWzz
    rw [c36 20 (by decide), d3 20 (by decide)]
    exact hW
/-- both machines, tape and cartridge, what was kept -/
noncomputable def zAll (K : Int) (σ μ : zSt) : Prop := (∃ C : Int × Int × Int, C.1 ≤ K ∧ zNow C σ μ) ∧ zR6 σ μ ∧ (¬ σ.1 0 11 = 0 → ∃ C : Int × Int × Int, C.1 ≤ K ∧ zNow C (zKc σ) (zKm μ))
theorem zAll.go (h : zAll B.1 σ μ) {K : Int} (hB : B.1 ≤ K) (hC : C.1 ≤ K) (n : zNow C s t) (r6 : zR6 s t) (f : ¬ s.1 0 11 = 0 → ¬ σ.1 0 11 = 0 ∧ (∀ p ∈ zsv, s.1 p.2.1 = σ.1 p.2.1) ∧ s.2 39 = σ.2 39 ∧ (∀ p ∈ zsm, t.1 p.2.1 = μ.1 p.2.1) ∧ t.2 13 = μ.2 13 ∧ t.1 0 3 = μ.1 0 3) : zAll K s t := by
  refine ⟨⟨C, hC, n⟩, r6, fun q => ?_⟩
  obtain ⟨q1, q2, q3, q4, q5, q6⟩ := f q
  obtain ⟨D, hD, k⟩ := h.2.2 q1
  exact ⟨(C.1, D.2.1, D.2.2), hC, k.sav n q2 q3 q4 q5 q6⟩
theorem zR6.kp (h : zR6 σ μ) (a : zQ [3, 5, 7, 9, 10, 11, 12, 15, 17, 19, 21, 23, 25, 27, 28, 29, 30, 32, 34, 36, 40, 42, 44, 45] [] [5, 38, 46, 48] [] σ s) (b : zQ [3, 5, 6, 7, 8, 9, 21, 22, 23, 24, 25, 26] [(0, 0, 0), (0, 31, 33), (0, 39, 49)] [4, 10, 11] [(0, 30, 30)] μ t) : zR6 s t := by
  have k1 : s.1 1 = σ.1 1 := a.ro (k := 1) rfl
  have kt : ∀ w, s.1 (ztp w) = σ.1 (ztp w) := fun w => by
    rcases z_tp13 w with z | z
    · rw [z]; exact a.ro (k := 13) rfl
    · rw [z]; exact a.ro (k := 14) rfl
  have g0 : ∀ j : Nat, 1 ≤ j → j ≤ 18 → t.1 0 j = μ.1 0 j := fun j h1 h2 => b.o (k := 0) (a := 1) (b := 18) rfl h1 h2
  obtain ⟨h1, h2, h3, h4⟩ := h
  refine ⟨?_, fun j hj => ?_, ?_, ?_⟩
  · rw [k1, g0 2 (by decide) (by decide)]; exact h1
  · rw [g0 2 (by decide) (by decide)] at hj
    rw [k1, kt, b.ro (k := 1) rfl]
    exact h2 j hj
  · rw [k1]; exact h3
  · exact h4.keep (fun j _ => by rw [k1]) (kt _) (fun j hj => g0 j (by revert hj; simp only [List.mem_cons, List.not_mem_nil, or_false]; omega) (by revert hj; simp only [List.mem_cons, List.not_mem_nil, or_false]; omega)) (b.ro (k := 2) rfl)
theorem zAll.kp {K0 K : Int} (h : zAll K0 σ μ) (hK : K0 ≤ K) (hC : C.1 ≤ K) (n : zNow C s t) (a : zQ [3, 5, 7, 9, 10, 11, 12, 15, 17, 19, 21, 23, 25, 27, 28, 29, 30, 32, 34, 36, 40, 42, 44, 45] [] [5, 38, 46, 48] [] σ s) (b : zQ [3, 5, 6, 7, 8, 9, 21, 22, 23, 24, 25, 26] [(0, 0, 0), (0, 31, 33), (0, 39, 49)] [4, 10, 11] [(0, 30, 30)] μ t) : zAll K s t := by
  have e0 : s.1 0 11 = σ.1 0 11 := a.o (k := 0) (a := 11) (b := 11) rfl (by decide) (by decide)
  refine zAll.go (B := (K0, 0, 0)) h hK hC n (h.2.1.kp a b) (fun q => ⟨by rw [← e0]; exact q, ?_, a.rlo (k := 39) rfl, ?_, b.rlo (k := 13) rfl, b.o (k := 0) (a := 3) (b := 3) rfl (by decide) (by decide)⟩)
  · unfold zsv
    exact List.forall_mem_cons.2 ⟨a.ro (k := 43) rfl, List.forall_mem_cons.2 ⟨a.ro (k := 41) rfl, List.forall_mem_cons.2 ⟨a.ro (k := 37) rfl, List.forall_mem_cons.2 ⟨a.ro (k := 35) rfl, List.forall_mem_cons.2 ⟨a.ro (k := 33) rfl, List.forall_mem_cons.2 ⟨a.ro (k := 31) rfl, List.forall_mem_cons.2 ⟨a.ro (k := 26) rfl, List.forall_mem_cons.2 ⟨a.ro (k := 24) rfl, List.forall_mem_cons.2 ⟨a.ro (k := 22) rfl, List.forall_mem_cons.2 ⟨a.ro (k := 20) rfl, List.forall_mem_cons.2 ⟨a.ro (k := 18) rfl, List.forall_mem_cons.2 ⟨a.ro (k := 16) rfl, fun _ h => absurd h List.not_mem_nil⟩⟩⟩⟩⟩⟩⟩⟩⟩⟩⟩⟩
  · unfold zsm
    exact List.forall_mem_cons.2 ⟨b.ro (k := 18) rfl, List.forall_mem_cons.2 ⟨b.ro (k := 17) rfl, List.forall_mem_cons.2 ⟨b.ro (k := 16) rfl, List.forall_mem_cons.2 ⟨b.ro (k := 15) rfl, List.forall_mem_cons.2 ⟨b.ro (k := 14) rfl, List.forall_mem_cons.2 ⟨b.ro (k := 12) rfl, fun _ h => absurd h List.not_mem_nil⟩⟩⟩⟩⟩⟩
theorem zAll.tp {K : Int} (h : zAll K σ μ) (hC : C.1 ≤ K) (n : zNow C s t) (r6 : zR6 s t) (a : zQ [13, 14] [(1, 2, 2)] [] [] σ s) (b : zQ [1] [(0, 0, 0), (0, 2, 2)] [] [] μ t) : zAll K s t := by
  have e0 : s.1 0 11 = σ.1 0 11 := a.o (k := 0) (a := 11) (b := 11) rfl (by decide) (by decide)
  refine zAll.go (B := (K, 0, 0)) h (Int.le_refl _) hC n r6 (fun q => ⟨by rw [← e0]; exact q, ?_, a.rlo (k := 39) rfl, ?_, b.rlo (k := 13) rfl, b.o (k := 0) (a := 3) (b := 3) rfl (by decide) (by decide)⟩)
  · unfold zsv
    exact List.forall_mem_cons.2 ⟨a.ro (k := 43) rfl, List.forall_mem_cons.2 ⟨a.ro (k := 41) rfl, List.forall_mem_cons.2 ⟨a.ro (k := 37) rfl, List.forall_mem_cons.2 ⟨a.ro (k := 35) rfl, List.forall_mem_cons.2 ⟨a.ro (k := 33) rfl, List.forall_mem_cons.2 ⟨a.ro (k := 31) rfl, List.forall_mem_cons.2 ⟨a.ro (k := 26) rfl, List.forall_mem_cons.2 ⟨a.ro (k := 24) rfl, List.forall_mem_cons.2 ⟨a.ro (k := 22) rfl, List.forall_mem_cons.2 ⟨a.ro (k := 20) rfl, List.forall_mem_cons.2 ⟨a.ro (k := 18) rfl, List.forall_mem_cons.2 ⟨a.ro (k := 16) rfl, fun _ h => absurd h List.not_mem_nil⟩⟩⟩⟩⟩⟩⟩⟩⟩⟩⟩⟩
  · unfold zsm
    exact List.forall_mem_cons.2 ⟨b.ro (k := 18) rfl, List.forall_mem_cons.2 ⟨b.ro (k := 17) rfl, List.forall_mem_cons.2 ⟨b.ro (k := 16) rfl, List.forall_mem_cons.2 ⟨b.ro (k := 15) rfl, List.forall_mem_cons.2 ⟨b.ro (k := 14) rfl, List.forall_mem_cons.2 ⟨b.ro (k := 12) rfl, fun _ h => absurd h List.not_mem_nil⟩⟩⟩⟩⟩⟩
end ZAL
end ZJN1
section ZJN2
/-! ANSWERS -/
section ZAV
variable {σ μ s t : zSt} {B : Int × Int × Int}
theorem zNow.cp (h : zNow B σ μ) : zCp σ μ := by
  obtain ⟨hT, hF, hW⟩ := h
  obtain ⟨c1, c2, c3, c4⟩ := hT.2.1
  refine ⟨fun j hj => ?_, c2.symm, c3.symm, fun j hj => (c4 j (by omega)).1 hj, fun j h1 h2 => (c4 j (by omega)).2.1 h1 h2, fun j h1 h2 => (c4 j (by omega)).2.2.1 h1 h2⟩
  by_cases q1 : j = 1
  · subst q1; exact hF.symm
  · by_cases q2 : j = 20
    · subst q2; exact hW.symm
    · exact (c1 j hj q1 q2).symm
end ZAV
end ZJN2
section ZJN3
/-! more rows on what is kept -/
theorem zkp_at {α : Type} {g : Nat → α → α} {f : Nat → Nat → α} {f0 : Nat → Nat → α} {k j : Nat} (h0 : f k j = f0 k j) : ∀ {l : List (Nat × Nat × Nat)}, (∀ t ∈ l, t.1 = k → ∀ i : Nat, i < t.2.2 → g t.1 (f t.2.1 i) = f0 t.1 i) → zkp g f k j l = f0 k j
  | [], _ => h0
  | t :: l, h => by
    unfold zkp
    cases q : (Nat.beq t.1 k && Nat.blt j t.2.2) with
    | true =>
      rw [Bool.and_eq_true] at q
      have e : t.1 = k := Nat.eq_of_beq_eq_true q.1
      have z := h t List.mem_cons_self e j (Nat.le_of_ble_eq_true q.2)
      rw [e] at z
      exact z
    | false => exact zkp_at h0 (fun t ht => h t (List.mem_cons_of_mem _ ht))
theorem zpc_fails0' {β : Type} {σ : zSt} {c : Int32} {f : zSt → Int32 → Option β} {Q : β → Prop} (k : ∀ σ1, σ1 = zsi σ 0 0 0 → zpc (f σ1 0) Q) : zpc (zbi (fX12_fails σ 0 c) f) Q := by
  intro b eb
  have h : zp2 (some ()) (zbi (fX12_fails σ 0 c) f) (fun _ b => Q b) := zp2_fails0 (fun σ1 e => fun _ b _ eb => k σ1 e b eb)
  exact h () b rfl eb
theorem zKm_th {μ : zSt} {v : Int32} {k j : Nat} (h : ¬ (k = 0 ∧ j = 0)) : (zKm (zsi μ 0 0 v)).1 k j = (zKm μ).1 k j := by
  have g : ∀ l : List (Nat × Nat × Nat), (∀ t ∈ l, ¬ t.2.1 = 0) → zkp zmb (zsi μ 0 0 v).1 k j l = zkp zmb μ.1 k j l := by
    intro l
    induction l with
    | nil =>
      intro _
      show (zsi μ 0 0 v).1 k j = μ.1 k j
      exact zsi_off h
    | cons t l ih =>
      intro hl
      unfold zkp
      rw [zsi_ne (hl t List.mem_cons_self), ih (fun u hu => hl u (List.mem_cons_of_mem _ hu))]
  exact g zsm (by decide +kernel)
theorem zof_0 {j : Nat} (h : 1 ≤ j) : zof [3, 5, 6, 7, 8, 9] [(0, 0, 0)] 0 1 j = true := by
  show (true && ((!(true) || (Nat.blt 0 1 || Nat.blt j 0)) && true)) = true
  rfl
/-! FRESH STATES; SAVE, RESTORE -/
section ZF4
variable {σ μ s t : zSt} {B : Int × Int × Int} {K : Int}
theorem z_freshN {k c : Int32} {σ4 σ5 σ9 σ1 : zSt} {σ6 : Int32 → zSt} (ec : c = zKd k) (e4 : fX7_clear zS0 = some σ4) (e5 : fX10_clear zS0 = some σ5) (e6 : ∀ v, fX4_clear (zsi (zsi (zsi zS0 6 0 v) 34 10 1) 34 11 1) = some (σ6 v)) (e9 : fJ7_fill_53178_k44 zS0 (-1) = some σ9) (e : fX12_anew (zsi (zsi (zsi (zsi (zsi zS0 0 8 (-1)) 0 3 c) 3 44 0) 3 45 1) 3 46 1) = some σ1) : zNow (0, 0, 0) (zC1 k σ4 σ5 σ6 σ9) σ1 := by
  have a4 := c_clr7 σ4 e4
  have a5 := c_clr10 σ5 e5
  have a6 := c_clr4 (σ6 (if k = 2 then 1 else 0)) (e6 (if k = 2 then 1 else 0))
  have a9 : zQ [44] [] [] [] zS0 σ9 ∧ ∀ j : Nat, j < 32 → σ9.1 44 j = -1 := by
    unfold fJ7_fill_53178_k44 at e9
    exact c_f44 (σ := zS0) zfuel 0 zS0 (by decide) zQ.rf (fun j hj => absurd hj (by omega)) σ9 e9
  have b := m_anewx σ1 e
  have z0 : (0 : Int32).toInt = 0 := rfl
  have k30 : ∀ j, (zC1 k σ4 σ5 σ6 σ9).1 30 j = σ4.1 30 j := fun j => rfl
  have k32 : ∀ j, (zC1 k σ4 σ5 σ6 σ9).1 32 j = σ5.1 32 j := fun j => rfl
  have k34 : ∀ j, (zC1 k σ4 σ5 σ6 σ9).1 34 j = (σ6 (if k = 2 then 1 else 0)).1 34 j := fun j => rfl
  have k40 : ∀ j, (zC1 k σ4 σ5 σ6 σ9).1 40 j = 0 := fun j => (show (zC1 k σ4 σ5 σ6 σ9).1 40 j = σ9.1 40 j from rfl).trans (by rw [a9.1.ro (k := 40) rfl]; rfl)
  have k42 : ∀ j, (zC1 k σ4 σ5 σ6 σ9).1 42 j = 0 := fun j => (show (zC1 k σ4 σ5 σ6 σ9).1 42 j = σ9.1 42 j from rfl).trans (by rw [a9.1.ro (k := 42) rfl]; rfl)
  have k9 : (zC1 k σ4 σ5 σ6 σ9).1 9 5 = 0 := (show (zC1 k σ4 σ5 σ6 σ9).1 9 5 = σ9.1 9 5 from rfl).trans (by rw [a9.1.ro (k := 9) rfl]; rfl)
  have k44 : ∀ j : Nat, j < 32 → (zC1 k σ4 σ5 σ6 σ9).1 44 j = -1 := fun j hj => a9.2 j hj
  have p34 : ∀ j : Nat, 7 ≤ j → j ≤ 11 → (zC1 k σ4 σ5 σ6 σ9).1 34 j = (zsi (zsi (zsi zS0 6 0 (if k = 2 then 1 else 0)) 34 10 1) 34 11 1).1 34 j := fun j h1 h2 => by
    rw [k34, a6.1.o (k := 34) (a := 7) (b := 11) rfl h1 h2]
  have kd : zRk (zC1 k σ4 σ5 σ6 σ9) (zsi (zsi (zsi (zsi (zsi zS0 0 8 (-1)) 0 3 c) 3 44 0) 3 45 1) 3 46 1) := by
    have q : (zsi (zsi (zsi (zsi (zsi zS0 0 8 (-1)) 0 3 c) 3 44 0) 3 45 1) 3 46 1).1 0 3 = zKd k := ec
    have f2 : (if zKd k = 2 then (1 : Int32) else 0) = (if k = 2 then 1 else 0) := by
      unfold zKd
      by_cases h1 : k = 1
      · rw [if_pos h1, h1]
      · rw [if_neg h1]
        by_cases h2 : k = 2
        · rw [if_pos h2, h2]
        · rw [if_neg h2, if_neg h2]; rfl
    have f1 : (if zKd k = 1 then (313 : Int32) else 262) = (if k = 1 then 313 else 262) := by
      unfold zKd
      by_cases h1 : k = 1
      · rw [if_pos h1, h1]
      · rw [if_neg h1, if_neg h1]
        by_cases h2 : k = 2
        · rw [if_pos h2, h2]; rfl
        · rw [if_neg h2]; rfl
    unfold zRk
    rw [q]
    refine ⟨zKd_r k, ?_, ?_, ?_, ?_, ?_⟩
    · rw [f2]; rfl
    · rw [f2]; rfl
    · rw [f2]; rfl
    · rw [f2]
      have z := a6.1.ro (k := 6) rfl
      show (σ6 (if k = 2 then 1 else 0)).1 6 0 = _
      rw [z]
      rfl
    · rw [f1]; rfl
  have pr : zPr (0, 0, 0) (zC1 k σ4 σ5 σ6 σ9) (zsi (zsi (zsi (zsi (zsi zS0 0 8 (-1)) 0 3 c) 3 44 0) 3 45 1) 3 46 1) := by
    refine ⟨fun j hj => ?_, ⟨rfl, rfl, rfl, rfl, fun j hj => ?_, fun hj => ?_⟩, fun j j1 j2 => ?_, ⟨?_, ?_, ?_, ?_, Or.inl rfl⟩, Or.inl ⟨rfl, rfl⟩, ⟨fun i hi => ?_, fun i hi => ?_, fun i hi => ?_, fun i hi => rfl⟩, ⟨⟨?_, ?_, fun j h1 h2 => ?_⟩, ?_⟩, kd, ⟨?_, ?_, ?_, fun k r hk hr => ?_, fun k hk => ?_⟩, ⟨?_, ?_, ?_, ?_, fun j hj => ⟨fun q => ?_, fun _ => k44 j hj⟩⟩, ⟨rfl, rfl, rfl, ?_, ?_⟩⟩
    · show (0 : Int32) = 0 &&& 255
      decide
    · have hj : (j : Int) < (0 : Int32).toInt := hj
      rw [z0] at hj
      exfalso; omega
    · have hj : 0 ≤ (-1 : Int32).toInt := hj
      exact absurd hj (by decide)
    · have j2 : (j : Int) < 16384 * (0 : Int32).toInt := j2
      rw [z0] at j2
      exfalso; omega
    · exact zr_c (x := 0) (by decide)
    · exact zr_c (x := 0) (by decide)
    · exact zr_c (x := 0) (by decide)
    · exact zr_c (x := 0) (by decide)
    · rw [p34 (7 + i) (by omega) (by omega)]
      rcases (show i = 0 ∨ i = 1 ∨ i = 2 ∨ i = 3 ∨ i = 4 by omega) with rfl | rfl | rfl | rfl | rfl <;> rfl
    · rw [k40]
      rcases (show i = 0 ∨ i = 1 ∨ i = 2 ∨ i = 3 ∨ i = 4 ∨ i = 5 ∨ i = 6 ∨ i = 7 by omega) with rfl | rfl | rfl | rfl | rfl | rfl | rfl | rfl <;> rfl
    · rw [k40]
      obtain rfl : i = 0 := by omega
      rfl
    · rw [p34 7 (by decide) (by decide)]; exact zr_c (x := 0) (by decide)
    · rw [p34 8 (by decide) (by decide)]; exact zr_c (x := 0) (by decide)
    · rw [p34 j (by omega) h2]
      rcases (show j = 9 ∨ j = 10 ∨ j = 11 by omega) with rfl | rfl | rfl
      · exact zr_c (x := 0) (by decide)
      · exact zr_c (x := 1) (by decide)
      · exact zr_c (x := 1) (by decide)
    · rw [k40]; exact zr_c (by decide)
    · rw [k42]; rfl
    · exact zr_c (x := 0) (by decide)
    · rw [k42]; exact zr_c (by decide)
    · have hk : (k : Int) < (0 : Int32).toInt := hk
      rw [z0] at hk
      exfalso; omega
    · have hk : (k : Int) < (0 : Int32).toInt := hk
      rw [z0] at hk
      exfalso; omega
    · exact (by decide : 0 ≤ (0 : Int64).toInt)
    · exact (by decide : (0 : Int64).toInt ≤ 0)
    · rw [k9]; exact zr_c (by decide)
    · rw [k9]
      exact (by decide : (0 : Int32).toInt = (0 : Int64).toInt % 32)
    · have q : (j : Int) < (0 : Int64).toInt := q
      rw [show (0 : Int64).toInt = 0 from rfl] at q
      exfalso; omega
    · exact (by decide : 0 ≤ (0 : Int64).toInt)
    · exact (by decide : (0 : Int64).toInt ≤ 0)
  have cx : zCx (zC1 k σ4 σ5 σ6 σ9) (zC1 k σ4 σ5 σ6 σ9) := by
    refine ⟨zQ.rf, ⟨rfl, rfl, ?_, rfl⟩, fun j hj => rfl, fun j hj => rfl, fun j hj => ?_, fun j hj => ?_, ?_, ?_, fun j hj => ?_, ?_, rfl, ?_, fun j h1 h2 => ?_⟩
    · show (2 : Int32) = if (0 : Int32) = 2 then 0 else 2
      rw [if_neg (by decide)]
    · rw [k30]; exact a4.2 j hj
    · rw [k32]; exact a5.2.1 j hj
    · rw [k32]; exact a5.2.2.1
    · rw [k34, k34, k34, k34, k34, k34, k34]; exact a6.2
    · show (zsi (zsi zS0 7 4 6) 36 18 57328).1 36 j = _
      by_cases z : j = 18
      · rw [z, zsi_ej, if_pos rfl]
      · rw [zsi_nj z, if_neg z]; rfl
    · rw [k32]; exact a5.2.2.2.1
    · rw [k32]; exact a5.2.2.2.2.2.1
    · rw [k32]; exact a5.2.2.2.2.2.2 j h1 h2
  refine pr.rst cx b.x (fun j hj => ?_)
  rw [b.1.ro (k := 5) rfl]
  show (0 : Int32) = 0 &&& 255
  decide
theorem z_freshA {k c : Int32} {σ4 σ5 σ9 σ1 : zSt} {σ6 : Int32 → zSt} (ec : c = zKd k) (e4 : fX7_clear zS0 = some σ4) (e5 : fX10_clear zS0 = some σ5) (e6 : ∀ v, fX4_clear (zsi (zsi (zsi zS0 6 0 v) 34 10 1) 34 11 1) = some (σ6 v)) (e9 : fJ7_fill_53178_k44 zS0 (-1) = some σ9) (e : fX12_anew (zsi (zsi (zsi (zsi (zsi zS0 0 8 (-1)) 0 3 c) 3 44 0) 3 45 1) 3 46 1) = some σ1) : zAll 0 (zC1 k σ4 σ5 σ6 σ9) σ1 := ⟨⟨(0, 0, 0), Int.le_refl _, z_freshN ec e4 e5 e6 e9 e⟩, z_fresh6 e, fun q => absurd rfl q⟩
/-! save, restore -/
theorem g_save (h : zAll K σ μ) : zp2 (fX11_save σ ) (fX12_save μ ) (zAll K) := by
  unfold fX12_save
  refine zp2_bvr (fun t1 e1 => zp2_ckr (zp2_bvr (fun t2 e2 => ?_)))
  intro a b ea eb
  have ha := k_save a ea
  have hb := m_save' (μ := t2) b eb
  obtain ⟨C, hC, n⟩ := h.1
  obtain ⟨b0, w3, w4, w5, w6, w7, w8, w9⟩ := hb
  have n2 : zNow C σ t2 := by
    rw [e2, e1]
    exact n.kp (zQ.rf (R := []) (A := []) (S := []) (B := [])) (zQ.wi (R := []) (A := [(0, 0, 0), (0, 19, 19)]) (S := []) (B := []) (zQ.wi zQ.rf rfl) rfl) (by decide +kernel) (by decide +kernel)
  have q1 := (zKept_q (σ := σ)).1
  have q2 : zQ [16, 18, 20, 22, 24, 26, 31, 33, 35, 37, 41, 43, 11, 12] [(0, 11, 11)] [39, 47, 49] [] σ a := by rw [ha]; exact zQ.wi q1 rfl
  have nn : zNow C a b := n2.kp q2 b0 (by decide +kernel) (by decide +kernel)
  have fr : zQ [12, 14, 15, 16, 17, 18] [(0, 0, 0), (0, 19, 19)] [13, 19, 20] [] μ b := by
    have f1 : zQ [12, 14, 15, 16, 17, 18] [(0, 0, 0), (0, 19, 19)] [13, 19, 20] [] μ t2 := by rw [e2, e1]; exact zQ.wi (zQ.wi zQ.rf rfl) rfl
    exact f1.tr b0
  refine ⟨⟨C, hC, nn⟩, ?_, fun _ => ⟨C, hC, ?_⟩⟩
  · -- tape and cartridge
    obtain ⟨h1, h2, h3, h4⟩ := h.2.1
    have k1 : a.1 1 = σ.1 1 := q2.ro (k := 1) rfl
    have kt : ∀ w, a.1 (ztp w) = σ.1 (ztp w) := fun w => by
      rcases z_tp13 w with z | z
      · rw [z]; exact q2.ro (k := 13) rfl
      · rw [z]; exact q2.ro (k := 14) rfl
    have g0 : ∀ j : Nat, 1 ≤ j → j ≤ 18 → b.1 0 j = μ.1 0 j := fun j h1 h2 => fr.o (k := 0) (a := 1) (b := 18) rfl h1 h2
    refine ⟨?_, fun j hj => ?_, ?_, ?_⟩
    · rw [k1, g0 2 (by decide) (by decide)]; exact h1
    · rw [g0 2 (by decide) (by decide)] at hj
      rw [k1, kt, fr.ro (k := 1) rfl]
      exact h2 j hj
    · rw [k1]; exact h3
    · exact h4.keep (fun j _ => by rw [k1]) (kt _) (fun j hj => g0 j (by revert hj; simp only [List.mem_cons, List.not_mem_nil, or_false]; omega) (by revert hj; simp only [List.mem_cons, List.not_mem_nil, or_false]; omega)) (fr.ro (k := 2) rfl)
  · -- what was kept
    have kc : zQ [16, 18, 20, 22, 24, 26, 31, 33, 35, 37, 41, 43, 11, 12] [(0, 11, 11)] [39, 47, 49] [] σ (zKc a) := by rw [ha]; exact zKept_k
    have n3 : zNow C (zKc a) t2 := n2.kp kc (zQ.rf (R := []) (A := []) (S := []) (B := [])) (by decide +kernel) (by decide +kernel)
    have vm : ∀ p ∈ zsm, ∀ i : Nat, i < p.2.2 → ¬ (5 ≤ p.1 ∧ p.1 ≤ 8) → zmb p.1 (b.1 p.2.1 i) = t2.1 p.1 i := by
      unfold zsm
      exact List.forall_mem_cons.2 ⟨fun i hi _ => w9 i hi, List.forall_mem_cons.2 ⟨fun i hi q => absurd ⟨by decide, by decide⟩ q, List.forall_mem_cons.2 ⟨fun i hi q => absurd ⟨by decide, by decide⟩ q, List.forall_mem_cons.2 ⟨fun i hi q => absurd ⟨by decide, by decide⟩ q, List.forall_mem_cons.2 ⟨fun i hi q => absurd ⟨by decide, by decide⟩ q, List.forall_mem_cons.2 ⟨fun i hi _ => w3 i hi, fun _ h => absurd h List.not_mem_nil⟩⟩⟩⟩⟩⟩
    have fm : zQ [5, 6, 7, 8, 12, 14, 15, 16, 17, 18] [(0, 0, 0), (0, 19, 19)] [13, 19, 20] [] t2 (zKm b) := by
      refine ⟨fun k j c => ?_, fun k j c => ?_⟩
      · by_cases q : 5 ≤ k ∧ k ≤ 8
        · rcases (show k = 5 ∨ k = 6 ∨ k = 7 ∨ k = 8 by omega) with rfl | rfl | rfl | rfl <;> exact Bool.noConfusion (show true = false from c)
        · have b0' := (b0.mono (R' := [5, 6, 7, 8, 12, 14, 15, 16, 17, 18]) (A' := [(0, 0, 0), (0, 19, 19)]) (S' := [13, 19, 20]) (B' := []) rfl rfl).1 k j c
          refine zkp_at (k := k) b0' (fun p hp e i hi => ?_)
          have z := vm p hp i hi (fun y => q (by rw [← e]; exact y))
          exact z
      · refine zkp_of (b0.2 k j c) (fun p hp i hi => ?_)
        rw [List.mem_singleton] at hp
        subst hp
        exact w4 i hi
    refine n3.msk fm (fun j hj => ?_) (fun j hj => ?_) (fun j hj => ?_) (fun j hj => ?_)
    · rw [zKm_5 hj, z_nar, w5 j hj, z_nar]
    · rw [zKm_6 hj, z_nar, w6 j hj, z_nar]
    · rw [zKm_7 hj, z_nar, w7 j hj, z_nar]
    · rw [zKm_8 hj, z_nar, w8 j hj, z_nar]
theorem g_restore (h : zAll K σ μ) (hf : σ.1 0 11 = 0 ↔ μ.1 0 19 = 0) : zp2 (fX11_restore σ ) (fX12_restore μ ) (fun r r' => zAll K (zRus r) r') := by
  by_cases q : σ.1 0 11 = 0
  · unfold fX11_restore fX12_restore fX12_restore_13
    refine zp2_ifl (fun _ => ?_) (fun z => absurd q z)
    refine zp2_ifr (fun _ => ?_) (fun z => absurd (hf.mp q) z)
    refine zp2_fails1 (fun t1 e1 => zp2_ifr (fun z => absurd z (by decide)) (fun _ => zp2_some ?_))
    obtain ⟨C, hC, n⟩ := h.1
    rw [e1]
    refine ⟨⟨C, hC, n.th⟩, h.2.1.thr rfl, fun z => absurd q z⟩
  · intro a b ea eb
    have ha := c_restore q a ea
    subst ha
    obtain ⟨C, hC, n⟩ := h.2.2 q
    obtain ⟨C0, hC0, n0⟩ := h.1
    have nq : ¬ μ.1 0 19 = 0 := fun z => q (hf.mpr z)
    obtain ⟨k1, k2⟩ : zQ [] [(0, 0, 0)] [10, 11] [] (zKm μ) b ∧ zQ [3, 5, 6, 7, 8, 9] [(0, 0, 0)] [4, 10, 11] [] μ b := by
      have hb : zpc (fX12_restore μ ) (fun r => zQ [] [(0, 0, 0)] [10, 11] [] (zKm μ) r ∧ zQ [3, 5, 6, 7, 8, 9] [(0, 0, 0)] [4, 10, 11] [] μ r) := by
        unfold fX12_restore fX12_restore_13
        refine zpc_if (fun z => absurd z nq) (fun _ => zpc_fails0' (fun t1 e1 => zpc_if (fun _ => ?_) (fun z => absurd rfl z)))
        refine zpc_mono (zpc_and m_back m_backf) (fun r p => ?_)
        have f0 : zQ [] [(0, 0, 0)] [10, 11] [] (zKm μ) (zKm t1) := by
          rw [e1]
          exact ⟨fun k j c => zKm_th (fun z => by rw [z.1, z.2] at c; cases c), fun k j _ => rfl⟩
        have f1 : zQ [3, 5, 6, 7, 8, 9] [(0, 0, 0)] [4, 10, 11] [] μ t1 := by rw [e1]; exact zQ.wi zQ.rf rfl
        exact ⟨f0.tr (p.1.mono rfl rfl), f1.tr (p.2.mono rfl rfl)⟩
      exact hb b eb
    have nn : zNow C (zBack σ) b := n.kp zBack_k k1 (by decide +kernel) (by decide +kernel)
    have q1 := (zBack_q (σ := σ)).1
    have e0 : (zBack σ).1 0 11 = σ.1 0 11 := q1.o (k := 0) (a := 11) (b := 11) rfl (by decide) (by decide)
    have c1 : (zBack σ).1 1 = σ.1 1 := q1.ro (k := 1) rfl
    have kt : ∀ w, (zBack σ).1 (ztp w) = σ.1 (ztp w) := fun w => by
      rcases z_tp13 w with z | z
      · rw [z]; exact q1.ro (k := 13) rfl
      · rw [z]; exact q1.ro (k := 14) rfl
    have g0 : ∀ j : Nat, 1 ≤ j → b.1 0 j = μ.1 0 j := fun j h1 => k2.o (k := 0) (a := 1) (b := j) (zof_0 h1) h1 (Nat.le_refl _)
    show zAll K (zBack σ) b
    refine zAll.go (B := (K, 0, 0)) h (Int.le_refl _) hC nn ?_ (fun z => ⟨by rw [← e0]; exact z, ?_, q1.rlo (k := 39) rfl, ?_, k2.rlo (k := 13) rfl, g0 3 (by decide)⟩)
    · obtain ⟨h1, h2, h3, h4⟩ := h.2.1
      refine ⟨?_, fun j hj => ?_, ?_, ?_⟩
      · rw [c1, g0 2 (by decide)]; exact h1
      · rw [g0 2 (by decide)] at hj
        rw [c1, kt, k2.ro (k := 1) rfl]
        exact h2 j hj
      · rw [c1]; exact h3
      · exact h4.keep (fun j _ => by rw [c1]) (kt _) (fun j hj => g0 j (by revert hj; simp only [List.mem_cons, List.not_mem_nil, or_false]; omega)) (k2.ro (k := 2) rfl)
    · unfold zsv
      exact List.forall_mem_cons.2 ⟨q1.ro (k := 43) rfl, List.forall_mem_cons.2 ⟨q1.ro (k := 41) rfl, List.forall_mem_cons.2 ⟨q1.ro (k := 37) rfl, List.forall_mem_cons.2 ⟨q1.ro (k := 35) rfl, List.forall_mem_cons.2 ⟨q1.ro (k := 33) rfl, List.forall_mem_cons.2 ⟨q1.ro (k := 31) rfl, List.forall_mem_cons.2 ⟨q1.ro (k := 26) rfl, List.forall_mem_cons.2 ⟨q1.ro (k := 24) rfl, List.forall_mem_cons.2 ⟨q1.ro (k := 22) rfl, List.forall_mem_cons.2 ⟨q1.ro (k := 20) rfl, List.forall_mem_cons.2 ⟨q1.ro (k := 18) rfl, List.forall_mem_cons.2 ⟨q1.ro (k := 16) rfl, fun _ h => absurd h List.not_mem_nil⟩⟩⟩⟩⟩⟩⟩⟩⟩⟩⟩⟩
    · unfold zsm
      exact List.forall_mem_cons.2 ⟨k2.ro (k := 18) rfl, List.forall_mem_cons.2 ⟨k2.ro (k := 17) rfl, List.forall_mem_cons.2 ⟨k2.ro (k := 16) rfl, List.forall_mem_cons.2 ⟨k2.ro (k := 15) rfl, List.forall_mem_cons.2 ⟨k2.ro (k := 14) rfl, List.forall_mem_cons.2 ⟨k2.ro (k := 12) rfl, fun _ h => absurd h List.not_mem_nil⟩⟩⟩⟩⟩⟩
end ZF4
end ZJN3
section ZJN4
theorem fl_fX0_count_20 {σ0 : zSt} {σ : zSt} {s0 : Int64} (h : (zQ [3, 23, 25, 27, 28, 29, 34, 42] [] [] [(38, 2, 2)]) σ0 σ) : zpc (fX0_count_20 σ s0) (fun r => (zQ [3, 23, 25, 27, 28, 29, 34, 42] [] [] [(38, 2, 2)]) σ0 (r.1)) := by
  unfold fX0_count_20
  exact zpc_some h
theorem fl_fX0_count_19 {σ0 : zSt} {σ : zSt} (h : (zQ [3, 23, 25, 27, 28, 29, 34, 42] [] [] [(38, 2, 2)]) σ0 σ) : zpc (fX0_count_19 σ) (fun r => (zQ [3, 23, 25, 27, 28, 29, 34, 42] [] [] [(38, 2, 2)]) σ0 (r.1)) := by
  unfold fX0_count_19
  exact fl_fX0_count_20 h
theorem fl_fX0_count {σ0 : zSt} {σ : zSt} {x1 : Int32} (h : (zQ [3, 23, 25, 27, 28, 29, 34, 42] [] [] [(38, 2, 2)]) σ0 σ) : zpc (fX0_count σ x1) (fun r => (zQ [3, 23, 25, 27, 28, 29, 34, 42] [] [] [(38, 2, 2)]) σ0 (r.1)) := by
  unfold fX0_count
  exact zpc_if (fun _ => fl_fX0_count_19 h) (fun _ => zpc_if (fun _ => fl_fX0_count_19 h) (fun _ => zpc_ck (fl_fX0_count_20 h)))
theorem fl_fX0_countPicture {σ0 : zSt} {σ : zSt} (h : (zQ [3, 23, 25, 27, 28, 29, 34, 42] [] [] [(38, 2, 2)]) σ0 σ) : zpc (fX0_countPicture σ) (fun r => (zQ [3, 23, 25, 27, 28, 29, 34, 42] [] [] [(38, 2, 2)]) σ0 (r)) := by
  unfold fX0_countPicture
  exact zpc_ck (zpc_ck (zpc_bs (zQ.wl h rfl) (fun σ1 hσ1 => zpc_some hσ1)))
theorem fl_fX1_placeOfPlan {σ0 : zSt} {σ : zSt} {x1 : Int32} (h : (zQ [3, 23, 25, 27, 28, 29, 34, 42] [] [] [(38, 2, 2)]) σ0 σ) : zpc (fX1_placeOfPlan σ x1) (fun r => (zQ [3, 23, 25, 27, 28, 29, 34, 42] [] [] [(38, 2, 2)]) σ0 (r.1)) := by
  unfold fX1_placeOfPlan
  exact zpc_ck (zpc_some h)
theorem fl_fX4_holdButtons {σ0 : zSt} {σ : zSt} {x1 : Int32} {x2 : Int32} (h : (zQ [3, 23, 25, 27, 28, 29, 34, 42] [] [] [(38, 2, 2)]) σ0 σ) : zpc (fX4_holdButtons σ x1 x2) (fun r => (zQ [3, 23, 25, 27, 28, 29, 34, 42] [] [] [(38, 2, 2)]) σ0 (r)) := by
  unfold fX4_holdButtons
  exact zpc_ck (zpc_bs (zQ.wi h rfl) (fun σ1 hσ1 => zpc_some hσ1))
theorem fl_fX1_carryOutPlans_107 {σ0 : zSt} {σ : zSt} (h : (zQ [3, 23, 25, 27, 28, 29, 34, 42] [] [] [(38, 2, 2)]) σ0 σ) : zpc (fX1_carryOutPlans_107 σ) (fun r => (zQ [3, 23, 25, 27, 28, 29, 34, 42] [] [] [(38, 2, 2)]) σ0 (r)) := by
  unfold fX1_carryOutPlans_107
  exact zpc_some h
theorem fl_fX1_carryOutPlans_3_body {σ0 : zSt} {k3 : zSt → Int64 → Int32 → Option (zSt)} (hk3 : ∀ (y0 : zSt) (y1 : Int64) (y2 : Int32), (zQ [3, 23, 25, 27, 28, 29, 34, 42] [] [] [(38, 2, 2)]) σ0 y0 → zpc (k3 y0 y1 y2) (fun r => (zQ [3, 23, 25, 27, 28, 29, 34, 42] [] [] [(38, 2, 2)]) σ0 (r))) {σ : zSt} {x1 : Int64} {x4 : Int32} (h : (zQ [3, 23, 25, 27, 28, 29, 34, 42] [] [] [(38, 2, 2)]) σ0 σ) : zpc (fX1_carryOutPlans_3_body k3 σ x1 x4) (fun r => (zQ [3, 23, 25, 27, 28, 29, 34, 42] [] [] [(38, 2, 2)]) σ0 (r)) := by
  unfold fX1_carryOutPlans_3_body
  exact zpc_if (fun _ => fl_fX1_carryOutPlans_107 h) (fun _ => zpc_ck (zpc_if (fun _ => fl_fX1_carryOutPlans_107 h) (fun _ => zpc_bi (fl_fX1_placeOfPlan h) (fun σ1 v2 hσ1 => zpc_ck (zpc_if (fun _ => zpc_ck (zpc_ck (zpc_bu (fl_fX4_holdButtons hσ1) (fun σ3 hσ3 => zpc_ck (zpc_ck (zpc_bs (zQ.wi hσ3 rfl) (fun σ4 hσ4 => zpc_ck (zpc_ck (zpc_bs (zQ.wi hσ4 rfl) (fun σ5 hσ5 => zpc_bv (fun v6 _ => hk3 _ _ _ hσ5))))))))))) (fun _ => fl_fX1_carryOutPlans_107 hσ1))))))
theorem fl_fX1_carryOutPlans_3 {σ0 : zSt} : ∀ (n : Nat) (y0 : zSt) (y1 : Int64) (y2 : Int32), (zQ [3, 23, 25, 27, 28, 29, 34, 42] [] [] [(38, 2, 2)]) σ0 y0 → zpc (fX1_carryOutPlans_3 n y0 y1 y2) (fun r => (zQ [3, 23, 25, 27, 28, 29, 34, 42] [] [] [(38, 2, 2)]) σ0 (r)) := by
  intro n
  induction n with
  | zero => intro y0 y1 y2 h; exact zpc_none
  | succ n ih => intro y0 y1 y2 h; exact fl_fX1_carryOutPlans_3_body ih h
theorem fl_fX1_carryOutPlans {σ0 : zSt} {σ : zSt} {x1 : Int64} (h : (zQ [3, 23, 25, 27, 28, 29, 34, 42] [] [] [(38, 2, 2)]) σ0 σ) : zpc (fX1_carryOutPlans σ x1) (fun r => (zQ [3, 23, 25, 27, 28, 29, 34, 42] [] [] [(38, 2, 2)]) σ0 (r)) := by
  unfold fX1_carryOutPlans
  exact fl_fX1_carryOutPlans_3 _ _ _ _ h
theorem fl_fX9_height {σ0 : zSt} {σ : zSt} (h : (zQ [3, 23, 25, 27, 28, 29, 34, 42] [] [] [(38, 2, 2)]) σ0 σ) : zpc (fX9_height σ) (fun r => (zQ [3, 23, 25, 27, 28, 29, 34, 42] [] [] [(38, 2, 2)]) σ0 (r.1)) := by
  unfold fX9_height
  exact zpc_ck (zpc_if (fun _ => zpc_ck (zpc_if (fun _ => zpc_some h) (fun _ => zpc_if (fun _ => zpc_some h) (fun _ => zpc_some h)))) (fun _ => zpc_some h))
theorem fl_fX9_held_20 {σ0 : zSt} {σ : zSt} {s0 : Int32} (h : (zQ [3, 23, 25, 27, 28, 29, 34, 42] [] [] [(38, 2, 2)]) σ0 σ) : zpc (fX9_held_20 σ s0) (fun r => (zQ [3, 23, 25, 27, 28, 29, 34, 42] [] [] [(38, 2, 2)]) σ0 (r.1)) := by
  unfold fX9_held_20
  exact zpc_some h
theorem fl_fX9_held_19 {σ0 : zSt} {σ : zSt} (h : (zQ [3, 23, 25, 27, 28, 29, 34, 42] [] [] [(38, 2, 2)]) σ0 σ) : zpc (fX9_held_19 σ) (fun r => (zQ [3, 23, 25, 27, 28, 29, 34, 42] [] [] [(38, 2, 2)]) σ0 (r.1)) := by
  unfold fX9_held_19
  exact fl_fX9_held_20 h
theorem fl_fX9_held {σ0 : zSt} {σ : zSt} {x1 : Int32} (h : (zQ [3, 23, 25, 27, 28, 29, 34, 42] [] [] [(38, 2, 2)]) σ0 σ) : zpc (fX9_held σ x1) (fun r => (zQ [3, 23, 25, 27, 28, 29, 34, 42] [] [] [(38, 2, 2)]) σ0 (r.1)) := by
  unfold fX9_held
  exact zpc_if (fun _ => fl_fX9_held_19 h) (fun _ => zpc_if (fun _ => fl_fX9_held_19 h) (fun _ => zpc_ck (fl_fX9_held_20 h)))
theorem fl_fX9_mode_57 {σ0 : zSt} {σ : zSt} {s0 : Int32} (h : (zQ [3, 23, 25, 27, 28, 29, 34, 42] [] [] [(38, 2, 2)]) σ0 σ) : zpc (fX9_mode_57 σ s0) (fun r => (zQ [3, 23, 25, 27, 28, 29, 34, 42] [] [] [(38, 2, 2)]) σ0 (r.1)) := by
  unfold fX9_mode_57
  exact zpc_some h
theorem fl_fX9_mode {σ0 : zSt} {σ : zSt} (h : (zQ [3, 23, 25, 27, 28, 29, 34, 42] [] [] [(38, 2, 2)]) σ0 σ) : zpc (fX9_mode σ) (fun r => (zQ [3, 23, 25, 27, 28, 29, 34, 42] [] [] [(38, 2, 2)]) σ0 (r.1)) := by
  unfold fX9_mode
  exact zpc_ck (zpc_if (fun _ => zpc_ck (zpc_if (fun _ => zpc_ck (zpc_if (fun _ => zpc_ck (zpc_if (fun _ => fl_fX9_mode_57 h) (fun _ => fl_fX9_mode_57 h))) (fun _ => zpc_some h))) (fun _ => zpc_some h))) (fun _ => zpc_some h))
theorem fl_fJ7_fill_53178_k27_5_body {σ0 : zSt} {k5 : zSt → Int32 → Int32 → Int32 → Option (zSt)} (hk5 : ∀ (y0 : zSt) (y1 : Int32) (y2 : Int32) (y3 : Int32), (zQ [3, 23, 25, 27, 28, 29, 34, 42] [] [] [(38, 2, 2)]) σ0 y0 → zpc (k5 y0 y1 y2 y3) (fun r => (zQ [3, 23, 25, 27, 28, 29, 34, 42] [] [] [(38, 2, 2)]) σ0 (r))) {σ : zSt} {x1 : Int32} {x2 : Int32} {x3 : Int32} (h : (zQ [3, 23, 25, 27, 28, 29, 34, 42] [] [] [(38, 2, 2)]) σ0 σ) : zpc (fJ7_fill_53178_k27_5_body k5 σ x1 x2 x3) (fun r => (zQ [3, 23, 25, 27, 28, 29, 34, 42] [] [] [(38, 2, 2)]) σ0 (r)) := by
  unfold fJ7_fill_53178_k27_5_body
  exact zpc_if (fun _ => zpc_some h) (fun _ => zpc_ck (zpc_bs (zQ.wi h rfl) (fun σ1 hσ1 => zpc_bv (fun v2 _ => hk5 _ _ _ _ hσ1))))
theorem fl_fJ7_fill_53178_k27_5 {σ0 : zSt} : ∀ (n : Nat) (y0 : zSt) (y1 : Int32) (y2 : Int32) (y3 : Int32), (zQ [3, 23, 25, 27, 28, 29, 34, 42] [] [] [(38, 2, 2)]) σ0 y0 → zpc (fJ7_fill_53178_k27_5 n y0 y1 y2 y3) (fun r => (zQ [3, 23, 25, 27, 28, 29, 34, 42] [] [] [(38, 2, 2)]) σ0 (r)) := by
  intro n
  induction n with
  | zero => intro y0 y1 y2 y3 h; exact zpc_none
  | succ n ih => intro y0 y1 y2 y3 h; exact fl_fJ7_fill_53178_k27_5_body ih h
theorem fl_fJ7_fill_53178_k27 {σ0 : zSt} {σ : zSt} {x1 : Int32} (h : (zQ [3, 23, 25, 27, 28, 29, 34, 42] [] [] [(38, 2, 2)]) σ0 σ) : zpc (fJ7_fill_53178_k27 σ x1) (fun r => (zQ [3, 23, 25, 27, 28, 29, 34, 42] [] [] [(38, 2, 2)]) σ0 (r)) := by
  unfold fJ7_fill_53178_k27
  exact fl_fJ7_fill_53178_k27_5 _ _ _ _ _ h
theorem fl_fX3_mixColours_130 {σ0 : zSt} {k2 : zSt → Int32 → Int32 → Option (zSt)} (hk2 : ∀ (y0 : zSt) (y1 : Int32) (y2 : Int32), (zQ [3, 23, 25, 27, 28, 29, 34, 42] [] [] [(38, 2, 2)]) σ0 y0 → zpc (k2 y0 y1 y2) (fun r => (zQ [3, 23, 25, 27, 28, 29, 34, 42] [] [] [(38, 2, 2)]) σ0 (r))) {σ : zSt} {x1 : Int32} {x2 : Int32} (h : (zQ [3, 23, 25, 27, 28, 29, 34, 42] [] [] [(38, 2, 2)]) σ0 σ) : zpc (fX3_mixColours_130 k2 σ x1 x2) (fun r => (zQ [3, 23, 25, 27, 28, 29, 34, 42] [] [] [(38, 2, 2)]) σ0 (r)) := by
  unfold fX3_mixColours_130
  exact zpc_bv (fun v1 _ => hk2 _ _ _ h)
theorem fl_fX3_mixColours_78 {σ0 : zSt} {k2 : zSt → Int32 → Int32 → Option (zSt)} (hk2 : ∀ (y0 : zSt) (y1 : Int32) (y2 : Int32), (zQ [3, 23, 25, 27, 28, 29, 34, 42] [] [] [(38, 2, 2)]) σ0 y0 → zpc (k2 y0 y1 y2) (fun r => (zQ [3, 23, 25, 27, 28, 29, 34, 42] [] [] [(38, 2, 2)]) σ0 (r))) {σ : zSt} {x1 : Int32} {x2 : Int32} {s0 : Int32} {s1 : Int32} (h : (zQ [3, 23, 25, 27, 28, 29, 34, 42] [] [] [(38, 2, 2)]) σ0 σ) : zpc (fX3_mixColours_78 k2 σ x1 x2 s0 s1) (fun r => (zQ [3, 23, 25, 27, 28, 29, 34, 42] [] [] [(38, 2, 2)]) σ0 (r)) := by
  unfold fX3_mixColours_78
  exact zpc_ck (zpc_bs (zQ.wi h rfl) (fun σ2 hσ2 => fl_fX3_mixColours_130 hk2 hσ2))
theorem fl_fX3_mixColours_129 {σ0 : zSt} {k2 : zSt → Int32 → Int32 → Option (zSt)} (hk2 : ∀ (y0 : zSt) (y1 : Int32) (y2 : Int32), (zQ [3, 23, 25, 27, 28, 29, 34, 42] [] [] [(38, 2, 2)]) σ0 y0 → zpc (k2 y0 y1 y2) (fun r => (zQ [3, 23, 25, 27, 28, 29, 34, 42] [] [] [(38, 2, 2)]) σ0 (r))) {σ : zSt} {x1 : Int32} {x2 : Int32} {s0 : Int32} {s1 : Int32} (h : (zQ [3, 23, 25, 27, 28, 29, 34, 42] [] [] [(38, 2, 2)]) σ0 σ) : zpc (fX3_mixColours_129 k2 σ x1 x2 s0 s1) (fun r => (zQ [3, 23, 25, 27, 28, 29, 34, 42] [] [] [(38, 2, 2)]) σ0 (r)) := by
  unfold fX3_mixColours_129
  exact zpc_ck (zpc_bs (zQ.wi h rfl) (fun σ3 hσ3 => fl_fX3_mixColours_130 hk2 hσ3))
theorem fl_fX3_mixColours_2_body {σ0 : zSt} {k2 : zSt → Int32 → Int32 → Option (zSt)} (hk2 : ∀ (y0 : zSt) (y1 : Int32) (y2 : Int32), (zQ [3, 23, 25, 27, 28, 29, 34, 42] [] [] [(38, 2, 2)]) σ0 y0 → zpc (k2 y0 y1 y2) (fun r => (zQ [3, 23, 25, 27, 28, 29, 34, 42] [] [] [(38, 2, 2)]) σ0 (r))) {σ : zSt} {x1 : Int32} {x2 : Int32} (h : (zQ [3, 23, 25, 27, 28, 29, 34, 42] [] [] [(38, 2, 2)]) σ0 σ) : zpc (fX3_mixColours_2_body k2 σ x1 x2) (fun r => (zQ [3, 23, 25, 27, 28, 29, 34, 42] [] [] [(38, 2, 2)]) σ0 (r)) := by
  unfold fX3_mixColours_2_body
  exact zpc_if (fun _ => zpc_some h) (fun _ => zpc_if (fun _ => zpc_if (fun _ => zpc_bi (fl_fX9_held h) (fun σ5 v6 hσ5 => fl_fX3_mixColours_78 hk2 hσ5)) (fun _ => zpc_bi (fl_fX9_held h) (fun σ7 v8 hσ7 => zpc_bi (fl_fX9_held hσ7) (fun σ9 v10 hσ9 => fl_fX3_mixColours_78 hk2 hσ9)))) (fun _ => zpc_ck (zpc_bv (fun v4 _ => zpc_if (fun _ => fl_fX3_mixColours_129 hk2 h) (fun _ => fl_fX3_mixColours_129 hk2 h)))))
theorem fl_fX3_mixColours_2 {σ0 : zSt} : ∀ (n : Nat) (y0 : zSt) (y1 : Int32) (y2 : Int32), (zQ [3, 23, 25, 27, 28, 29, 34, 42] [] [] [(38, 2, 2)]) σ0 y0 → zpc (fX3_mixColours_2 n y0 y1 y2) (fun r => (zQ [3, 23, 25, 27, 28, 29, 34, 42] [] [] [(38, 2, 2)]) σ0 (r)) := by
  intro n
  induction n with
  | zero => intro y0 y1 y2 h; exact zpc_none
  | succ n ih => intro y0 y1 y2 h; exact fl_fX3_mixColours_2_body ih h
theorem fl_fX3_mixColours {σ0 : zSt} {σ : zSt} {x1 : Int32} (h : (zQ [3, 23, 25, 27, 28, 29, 34, 42] [] [] [(38, 2, 2)]) σ0 σ) : zpc (fX3_mixColours σ x1) (fun r => (zQ [3, 23, 25, 27, 28, 29, 34, 42] [] [] [(38, 2, 2)]) σ0 (r)) := by
  unfold fX3_mixColours
  exact fl_fX3_mixColours_2 _ _ _ _ h
theorem fl_fX9_vramByte {σ0 : zSt} {σ : zSt} {x1 : Int32} (h : (zQ [3, 23, 25, 27, 28, 29, 34, 42] [] [] [(38, 2, 2)]) σ0 σ) : zpc (fX9_vramByte σ x1) (fun r => (zQ [3, 23, 25, 27, 28, 29, 34, 42] [] [] [(38, 2, 2)]) σ0 (r.1)) := by
  unfold fX9_vramByte
  exact zpc_ck (zpc_some h)
theorem fl_fX3_takePlanes {σ0 : zSt} {σ : zSt} {x1 : Int32} (h : (zQ [3, 23, 25, 27, 28, 29, 34, 42] [] [] [(38, 2, 2)]) σ0 σ) : zpc (fX3_takePlanes σ x1) (fun r => (zQ [3, 23, 25, 27, 28, 29, 34, 42] [] [] [(38, 2, 2)]) σ0 (r)) := by
  unfold fX3_takePlanes
  exact zpc_bi (fl_fX9_vramByte h) (fun σ1 v2 hσ1 => zpc_bi (fl_fX9_vramByte hσ1) (fun σ3 v4 hσ3 => zpc_bi (fl_fX9_vramByte hσ3) (fun σ5 v6 hσ5 => zpc_bi (fl_fX9_vramByte hσ5) (fun σ7 v8 hσ7 => zpc_bs (zQ.wi hσ7 rfl) (fun σ9 hσ9 => zpc_some hσ9)))))
theorem fl_fX3_takeTile_60 {σ0 : zSt} {σ : zSt} {s0 : Int32} (h : (zQ [3, 23, 25, 27, 28, 29, 34, 42] [] [] [(38, 2, 2)]) σ0 σ) : zpc (fX3_takeTile_60 σ s0) (fun r => (zQ [3, 23, 25, 27, 28, 29, 34, 42] [] [] [(38, 2, 2)]) σ0 (r)) := by
  unfold fX3_takeTile_60
  exact zpc_bu (fl_fX3_takePlanes h) (fun σ1 hσ1 => zpc_some hσ1)
theorem fl_fX3_takeTile {σ0 : zSt} {σ : zSt} {x1 : Int32} {x2 : Int32} (h : (zQ [3, 23, 25, 27, 28, 29, 34, 42] [] [] [(38, 2, 2)]) σ0 σ) : zpc (fX3_takeTile σ x1 x2) (fun r => (zQ [3, 23, 25, 27, 28, 29, 34, 42] [] [] [(38, 2, 2)]) σ0 (r)) := by
  unfold fX3_takeTile
  exact zpc_bv (fun v2 _ => zpc_bi (fl_fX9_vramByte h) (fun σ3 v4 hσ3 => zpc_bi (fl_fX9_vramByte hσ3) (fun σ5 v6 hσ5 => zpc_bs (zQ.wi hσ5 rfl) (fun σ7 hσ7 => zpc_if (fun _ => fl_fX3_takeTile_60 hσ7) (fun _ => fl_fX3_takeTile_60 hσ7)))))
theorem fl_fX3_numberIn {σ0 : zSt} {σ : zSt} {x0 : Int32} {x1 : Int32} (h : (zQ [3, 23, 25, 27, 28, 29, 34, 42] [] [] [(38, 2, 2)]) σ0 σ) : zpc (fX3_numberIn σ x0 x1) (fun r => (zQ [3, 23, 25, 27, 28, 29, 34, 42] [] [] [(38, 2, 2)]) σ0 (r.1)) := by
  unfold fX3_numberIn
  exact zpc_bv (fun v1 _ => zpc_some h)
theorem fl_fX3_drawTiles_316 {σ0 : zSt} {k143 : zSt → Int32 → Int32 → Int32 → Int32 → Int32 → Int32 → Option (zSt)} (hk143 : ∀ (y0 : zSt) (y1 : Int32) (y2 : Int32) (y3 : Int32) (y4 : Int32) (y5 : Int32) (y6 : Int32), (zQ [3, 23, 25, 27, 28, 29, 34, 42] [] [] [(38, 2, 2)]) σ0 y0 → zpc (k143 y0 y1 y2 y3 y4 y5 y6) (fun r => (zQ [3, 23, 25, 27, 28, 29, 34, 42] [] [] [(38, 2, 2)]) σ0 (r))) {σ : zSt} {x1 : Int32} {x5 : Int32} {x6 : Int32} {x7 : Int32} {x8 : Int32} {x9 : Int32} {s0 : Int32} {s1 : Int32} {s2 : Int32} (h : (zQ [3, 23, 25, 27, 28, 29, 34, 42] [] [] [(38, 2, 2)]) σ0 σ) : zpc (fX3_drawTiles_316 k143 σ x1 x5 x6 x7 x8 x9 s0 s1 s2) (fun r => (zQ [3, 23, 25, 27, 28, 29, 34, 42] [] [] [(38, 2, 2)]) σ0 (r)) := by
  unfold fX3_drawTiles_316
  exact zpc_ck (zpc_bs (zQ.wi h rfl) (fun σ1 hσ1 => zpc_bv (fun v2 _ => hk143 _ _ _ _ _ _ _ hσ1)))
theorem fl_fX3_drawTiles_303 {σ0 : zSt} {k143 : zSt → Int32 → Int32 → Int32 → Int32 → Int32 → Int32 → Option (zSt)} (hk143 : ∀ (y0 : zSt) (y1 : Int32) (y2 : Int32) (y3 : Int32) (y4 : Int32) (y5 : Int32) (y6 : Int32), (zQ [3, 23, 25, 27, 28, 29, 34, 42] [] [] [(38, 2, 2)]) σ0 y0 → zpc (k143 y0 y1 y2 y3 y4 y5 y6) (fun r => (zQ [3, 23, 25, 27, 28, 29, 34, 42] [] [] [(38, 2, 2)]) σ0 (r))) {σ : zSt} {x1 : Int32} {x5 : Int32} {x6 : Int32} {x7 : Int32} {x8 : Int32} {x9 : Int32} {x13 : Int32} {s0 : Int32} {s1 : Int32} {s2 : Int32} (h : (zQ [3, 23, 25, 27, 28, 29, 34, 42] [] [] [(38, 2, 2)]) σ0 σ) : zpc (fX3_drawTiles_303 k143 σ x1 x5 x6 x7 x8 x9 x13 s0 s1 s2) (fun r => (zQ [3, 23, 25, 27, 28, 29, 34, 42] [] [] [(38, 2, 2)]) σ0 (r)) := by
  unfold fX3_drawTiles_303
  exact zpc_if (fun _ => fl_fX3_drawTiles_316 hk143 h) (fun _ => fl_fX3_drawTiles_316 hk143 h)
theorem fl_fX3_drawTiles_276 {σ0 : zSt} {k143 : zSt → Int32 → Int32 → Int32 → Int32 → Int32 → Int32 → Option (zSt)} (hk143 : ∀ (y0 : zSt) (y1 : Int32) (y2 : Int32) (y3 : Int32) (y4 : Int32) (y5 : Int32) (y6 : Int32), (zQ [3, 23, 25, 27, 28, 29, 34, 42] [] [] [(38, 2, 2)]) σ0 y0 → zpc (k143 y0 y1 y2 y3 y4 y5 y6) (fun r => (zQ [3, 23, 25, 27, 28, 29, 34, 42] [] [] [(38, 2, 2)]) σ0 (r))) {σ : zSt} {x1 : Int32} {x5 : Int32} {x6 : Int32} {x7 : Int32} {x8 : Int32} {x9 : Int32} {x12 : Int32} {s0 : Int32} (h : (zQ [3, 23, 25, 27, 28, 29, 34, 42] [] [] [(38, 2, 2)]) σ0 σ) : zpc (fX3_drawTiles_276 k143 σ x1 x5 x6 x7 x8 x9 x12 s0) (fun r => (zQ [3, 23, 25, 27, 28, 29, 34, 42] [] [] [(38, 2, 2)]) σ0 (r)) := by
  unfold fX3_drawTiles_276
  exact zpc_if (fun _ => fl_fX3_drawTiles_303 hk143 h) (fun _ => fl_fX3_drawTiles_303 hk143 h)
theorem fl_fX3_drawTiles_275 {σ0 : zSt} {k143 : zSt → Int32 → Int32 → Int32 → Int32 → Int32 → Int32 → Option (zSt)} (hk143 : ∀ (y0 : zSt) (y1 : Int32) (y2 : Int32) (y3 : Int32) (y4 : Int32) (y5 : Int32) (y6 : Int32), (zQ [3, 23, 25, 27, 28, 29, 34, 42] [] [] [(38, 2, 2)]) σ0 y0 → zpc (k143 y0 y1 y2 y3 y4 y5 y6) (fun r => (zQ [3, 23, 25, 27, 28, 29, 34, 42] [] [] [(38, 2, 2)]) σ0 (r))) {σ : zSt} {x1 : Int32} {x5 : Int32} {x6 : Int32} {x7 : Int32} {x8 : Int32} {x9 : Int32} {x12 : Int32} (h : (zQ [3, 23, 25, 27, 28, 29, 34, 42] [] [] [(38, 2, 2)]) σ0 σ) : zpc (fX3_drawTiles_275 k143 σ x1 x5 x6 x7 x8 x9 x12) (fun r => (zQ [3, 23, 25, 27, 28, 29, 34, 42] [] [] [(38, 2, 2)]) σ0 (r)) := by
  unfold fX3_drawTiles_275
  exact fl_fX3_drawTiles_276 hk143 h
theorem fl_fX3_drawTiles_242 {σ0 : zSt} {k143 : zSt → Int32 → Int32 → Int32 → Int32 → Int32 → Int32 → Option (zSt)} (hk143 : ∀ (y0 : zSt) (y1 : Int32) (y2 : Int32) (y3 : Int32) (y4 : Int32) (y5 : Int32) (y6 : Int32), (zQ [3, 23, 25, 27, 28, 29, 34, 42] [] [] [(38, 2, 2)]) σ0 y0 → zpc (k143 y0 y1 y2 y3 y4 y5 y6) (fun r => (zQ [3, 23, 25, 27, 28, 29, 34, 42] [] [] [(38, 2, 2)]) σ0 (r))) {σ : zSt} {x1 : Int32} {x5 : Int32} {x6 : Int32} {x7 : Int32} {x8 : Int32} {x9 : Int32} {s0 : Int32} (h : (zQ [3, 23, 25, 27, 28, 29, 34, 42] [] [] [(38, 2, 2)]) σ0 σ) : zpc (fX3_drawTiles_242 k143 σ x1 x5 x6 x7 x8 x9 s0) (fun r => (zQ [3, 23, 25, 27, 28, 29, 34, 42] [] [] [(38, 2, 2)]) σ0 (r)) := by
  unfold fX3_drawTiles_242
  exact zpc_bi (fl_fX3_numberIn h) (fun σ3 v4 hσ3 => zpc_if (fun _ => fl_fX3_drawTiles_275 hk143 hσ3) (fun _ => zpc_if (fun _ => fl_fX3_drawTiles_275 hk143 hσ3) (fun _ => fl_fX3_drawTiles_276 hk143 hσ3)))
theorem fl_fX3_drawTiles_215 {σ0 : zSt} {k143 : zSt → Int32 → Int32 → Int32 → Int32 → Int32 → Int32 → Option (zSt)} (hk143 : ∀ (y0 : zSt) (y1 : Int32) (y2 : Int32) (y3 : Int32) (y4 : Int32) (y5 : Int32) (y6 : Int32), (zQ [3, 23, 25, 27, 28, 29, 34, 42] [] [] [(38, 2, 2)]) σ0 y0 → zpc (k143 y0 y1 y2 y3 y4 y5 y6) (fun r => (zQ [3, 23, 25, 27, 28, 29, 34, 42] [] [] [(38, 2, 2)]) σ0 (r))) {σ : zSt} {x1 : Int32} {x5 : Int32} {x6 : Int32} {x7 : Int32} {x8 : Int32} {x9 : Int32} {x10 : Int32} (h : (zQ [3, 23, 25, 27, 28, 29, 34, 42] [] [] [(38, 2, 2)]) σ0 σ) : zpc (fX3_drawTiles_215 k143 σ x1 x5 x6 x7 x8 x9 x10) (fun r => (zQ [3, 23, 25, 27, 28, 29, 34, 42] [] [] [(38, 2, 2)]) σ0 (r)) := by
  unfold fX3_drawTiles_215
  exact zpc_if (fun _ => fl_fX3_drawTiles_242 hk143 h) (fun _ => fl_fX3_drawTiles_242 hk143 h)
theorem fl_fX3_drawTiles_212 {σ0 : zSt} {k143 : zSt → Int32 → Int32 → Int32 → Int32 → Int32 → Int32 → Option (zSt)} (hk143 : ∀ (y0 : zSt) (y1 : Int32) (y2 : Int32) (y3 : Int32) (y4 : Int32) (y5 : Int32) (y6 : Int32), (zQ [3, 23, 25, 27, 28, 29, 34, 42] [] [] [(38, 2, 2)]) σ0 y0 → zpc (k143 y0 y1 y2 y3 y4 y5 y6) (fun r => (zQ [3, 23, 25, 27, 28, 29, 34, 42] [] [] [(38, 2, 2)]) σ0 (r))) {σ : zSt} {x1 : Int32} {x5 : Int32} {x6 : Int32} {x7 : Int32} {x8 : Int32} {x9 : Int32} {x10 : Int32} {s0 : Int32} {s1 : Int32} (h : (zQ [3, 23, 25, 27, 28, 29, 34, 42] [] [] [(38, 2, 2)]) σ0 σ) : zpc (fX3_drawTiles_212 k143 σ x1 x5 x6 x7 x8 x9 x10 s0 s1) (fun r => (zQ [3, 23, 25, 27, 28, 29, 34, 42] [] [] [(38, 2, 2)]) σ0 (r)) := by
  unfold fX3_drawTiles_212
  exact zpc_bu (fl_fX3_takeTile h) (fun σ5 hσ5 => fl_fX3_drawTiles_215 hk143 hσ5)
theorem fl_fX3_drawTiles_210 {σ0 : zSt} {k143 : zSt → Int32 → Int32 → Int32 → Int32 → Int32 → Int32 → Option (zSt)} (hk143 : ∀ (y0 : zSt) (y1 : Int32) (y2 : Int32) (y3 : Int32) (y4 : Int32) (y5 : Int32) (y6 : Int32), (zQ [3, 23, 25, 27, 28, 29, 34, 42] [] [] [(38, 2, 2)]) σ0 y0 → zpc (k143 y0 y1 y2 y3 y4 y5 y6) (fun r => (zQ [3, 23, 25, 27, 28, 29, 34, 42] [] [] [(38, 2, 2)]) σ0 (r))) {σ : zSt} {x1 : Int32} {x5 : Int32} {x6 : Int32} {x7 : Int32} {x8 : Int32} {x9 : Int32} {x10 : Int32} {s0 : Int32} (h : (zQ [3, 23, 25, 27, 28, 29, 34, 42] [] [] [(38, 2, 2)]) σ0 σ) : zpc (fX3_drawTiles_210 k143 σ x1 x5 x6 x7 x8 x9 x10 s0) (fun r => (zQ [3, 23, 25, 27, 28, 29, 34, 42] [] [] [(38, 2, 2)]) σ0 (r)) := by
  unfold fX3_drawTiles_210
  exact fl_fX3_drawTiles_212 hk143 h
theorem fl_fX3_drawTiles_183 {σ0 : zSt} {k143 : zSt → Int32 → Int32 → Int32 → Int32 → Int32 → Int32 → Option (zSt)} (hk143 : ∀ (y0 : zSt) (y1 : Int32) (y2 : Int32) (y3 : Int32) (y4 : Int32) (y5 : Int32) (y6 : Int32), (zQ [3, 23, 25, 27, 28, 29, 34, 42] [] [] [(38, 2, 2)]) σ0 y0 → zpc (k143 y0 y1 y2 y3 y4 y5 y6) (fun r => (zQ [3, 23, 25, 27, 28, 29, 34, 42] [] [] [(38, 2, 2)]) σ0 (r))) {σ : zSt} {x1 : Int32} {x5 : Int32} {x6 : Int32} {x7 : Int32} {x8 : Int32} {x9 : Int32} {x10 : Int32} (h : (zQ [3, 23, 25, 27, 28, 29, 34, 42] [] [] [(38, 2, 2)]) σ0 σ) : zpc (fX3_drawTiles_183 k143 σ x1 x5 x6 x7 x8 x9 x10) (fun r => (zQ [3, 23, 25, 27, 28, 29, 34, 42] [] [] [(38, 2, 2)]) σ0 (r)) := by
  unfold fX3_drawTiles_183
  exact zpc_if (fun _ => fl_fX3_drawTiles_210 hk143 h) (fun _ => zpc_if (fun _ => fl_fX3_drawTiles_210 hk143 h) (fun _ => fl_fX3_drawTiles_212 hk143 h))
theorem fl_fX3_drawTiles_143_body {σ0 : zSt} {k143 : zSt → Int32 → Int32 → Int32 → Int32 → Int32 → Int32 → Option (zSt)} (hk143 : ∀ (y0 : zSt) (y1 : Int32) (y2 : Int32) (y3 : Int32) (y4 : Int32) (y5 : Int32) (y6 : Int32), (zQ [3, 23, 25, 27, 28, 29, 34, 42] [] [] [(38, 2, 2)]) σ0 y0 → zpc (k143 y0 y1 y2 y3 y4 y5 y6) (fun r => (zQ [3, 23, 25, 27, 28, 29, 34, 42] [] [] [(38, 2, 2)]) σ0 (r))) {σ : zSt} {x1 : Int32} {x5 : Int32} {x6 : Int32} {x7 : Int32} {x8 : Int32} {x9 : Int32} (h : (zQ [3, 23, 25, 27, 28, 29, 34, 42] [] [] [(38, 2, 2)]) σ0 σ) : zpc (fX3_drawTiles_143_body k143 σ x1 x5 x6 x7 x8 x9) (fun r => (zQ [3, 23, 25, 27, 28, 29, 34, 42] [] [] [(38, 2, 2)]) σ0 (r)) := by
  unfold fX3_drawTiles_143_body
  exact zpc_if (fun _ => zpc_some h) (fun _ => zpc_bv (fun v6 _ => zpc_if (fun _ => fl_fX3_drawTiles_183 hk143 h) (fun _ => zpc_if (fun _ => fl_fX3_drawTiles_183 hk143 h) (fun _ => zpc_if (fun _ => fl_fX3_drawTiles_183 hk143 h) (fun _ => fl_fX3_drawTiles_215 hk143 h)))))
theorem fl_fX3_drawTiles_143 {σ0 : zSt} : ∀ (n : Nat) (y0 : zSt) (y1 : Int32) (y2 : Int32) (y3 : Int32) (y4 : Int32) (y5 : Int32) (y6 : Int32), (zQ [3, 23, 25, 27, 28, 29, 34, 42] [] [] [(38, 2, 2)]) σ0 y0 → zpc (fX3_drawTiles_143 n y0 y1 y2 y3 y4 y5 y6) (fun r => (zQ [3, 23, 25, 27, 28, 29, 34, 42] [] [] [(38, 2, 2)]) σ0 (r)) := by
  intro n
  induction n with
  | zero => intro y0 y1 y2 y3 y4 y5 y6 h; exact zpc_none
  | succ n ih => intro y0 y1 y2 y3 y4 y5 y6 h; exact fl_fX3_drawTiles_143_body ih h
theorem fl_fX3_drawTiles_138 {σ0 : zSt} {σ : zSt} {x1 : Int32} {x5 : Int32} {x6 : Int32} {x7 : Int32} {s0 : Int32} (h : (zQ [3, 23, 25, 27, 28, 29, 34, 42] [] [] [(38, 2, 2)]) σ0 σ) : zpc (fX3_drawTiles_138 σ x1 x5 x6 x7 s0) (fun r => (zQ [3, 23, 25, 27, 28, 29, 34, 42] [] [] [(38, 2, 2)]) σ0 (r)) := by
  unfold fX3_drawTiles_138
  exact fl_fX3_drawTiles_143 _ _ _ _ _ _ _ _ h
theorem fl_fX3_drawTiles_122 {σ0 : zSt} {σ : zSt} {x1 : Int32} {x3 : Int32} {x5 : Int32} {x6 : Int32} {s0 : Int32} {s1 : Int32} (h : (zQ [3, 23, 25, 27, 28, 29, 34, 42] [] [] [(38, 2, 2)]) σ0 σ) : zpc (fX3_drawTiles_122 σ x1 x3 x5 x6 s0 s1) (fun r => (zQ [3, 23, 25, 27, 28, 29, 34, 42] [] [] [(38, 2, 2)]) σ0 (r)) := by
  unfold fX3_drawTiles_122
  exact zpc_ck (zpc_bv (fun v7 _ => zpc_if (fun _ => fl_fX3_drawTiles_138 h) (fun _ => fl_fX3_drawTiles_138 h)))
theorem fl_fX3_drawTiles_96 {σ0 : zSt} {σ : zSt} {x1 : Int32} {x2 : Int32} {x3 : Int32} {x5 : Int32} {s0 : Int32} (h : (zQ [3, 23, 25, 27, 28, 29, 34, 42] [] [] [(38, 2, 2)]) σ0 σ) : zpc (fX3_drawTiles_96 σ x1 x2 x3 x5 s0) (fun r => (zQ [3, 23, 25, 27, 28, 29, 34, 42] [] [] [(38, 2, 2)]) σ0 (r)) := by
  unfold fX3_drawTiles_96
  exact zpc_bi (fl_fX9_held h) (fun σ8 v9 hσ8 => zpc_if (fun _ => fl_fX3_drawTiles_122 hσ8) (fun _ => fl_fX3_drawTiles_122 hσ8))
theorem fl_fX3_drawTiles_87 {σ0 : zSt} {σ : zSt} {x1 : Int32} {x2 : Int32} {x3 : Int32} {x5 : Int32} (h : (zQ [3, 23, 25, 27, 28, 29, 34, 42] [] [] [(38, 2, 2)]) σ0 σ) : zpc (fX3_drawTiles_87 σ x1 x2 x3 x5) (fun r => (zQ [3, 23, 25, 27, 28, 29, 34, 42] [] [] [(38, 2, 2)]) σ0 (r)) := by
  unfold fX3_drawTiles_87
  exact zpc_bi (fl_fX9_held h) (fun σ10 v11 hσ10 => fl_fX3_drawTiles_96 hσ10)
theorem fl_fX3_drawTiles_68 {σ0 : zSt} {σ : zSt} {x1 : Int32} {x2 : Int32} {x3 : Int32} {s0 : Int32} (h : (zQ [3, 23, 25, 27, 28, 29, 34, 42] [] [] [(38, 2, 2)]) σ0 σ) : zpc (fX3_drawTiles_68 σ x1 x2 x3 s0) (fun r => (zQ [3, 23, 25, 27, 28, 29, 34, 42] [] [] [(38, 2, 2)]) σ0 (r)) := by
  unfold fX3_drawTiles_68
  exact zpc_if (fun _ => fl_fX3_drawTiles_87 h) (fun _ => zpc_if (fun _ => fl_fX3_drawTiles_87 h) (fun _ => fl_fX3_drawTiles_96 h))
theorem fl_fX3_drawTiles_18 {σ0 : zSt} {σ : zSt} {x1 : Int32} {s0 : Int32} (h : (zQ [3, 23, 25, 27, 28, 29, 34, 42] [] [] [(38, 2, 2)]) σ0 σ) : zpc (fX3_drawTiles_18 σ x1 s0) (fun r => (zQ [3, 23, 25, 27, 28, 29, 34, 42] [] [] [(38, 2, 2)]) σ0 (r)) := by
  unfold fX3_drawTiles_18
  exact zpc_bi (fl_fX9_held h) (fun σ12 v13 hσ12 => zpc_bi (fl_fX9_held hσ12) (fun σ14 v15 hσ14 => zpc_if (fun _ => fl_fX3_drawTiles_68 hσ14) (fun _ => fl_fX3_drawTiles_68 hσ14)))
theorem fl_fX3_drawTiles {σ0 : zSt} {σ : zSt} {x1 : Int32} (h : (zQ [3, 23, 25, 27, 28, 29, 34, 42] [] [] [(38, 2, 2)]) σ0 σ) : zpc (fX3_drawTiles σ x1) (fun r => (zQ [3, 23, 25, 27, 28, 29, 34, 42] [] [] [(38, 2, 2)]) σ0 (r)) := by
  unfold fX3_drawTiles
  exact zpc_bi (fl_fX9_height h) (fun σ16 v17 hσ16 => zpc_if (fun _ => fl_fX3_drawTiles_18 hσ16) (fun _ => fl_fX3_drawTiles_18 hσ16))
theorem fl_fJ7_fill_53178_k28_5_body {σ0 : zSt} {k5 : zSt → Int32 → Int32 → Int32 → Option (zSt)} (hk5 : ∀ (y0 : zSt) (y1 : Int32) (y2 : Int32) (y3 : Int32), (zQ [3, 23, 25, 27, 28, 29, 34, 42] [] [] [(38, 2, 2)]) σ0 y0 → zpc (k5 y0 y1 y2 y3) (fun r => (zQ [3, 23, 25, 27, 28, 29, 34, 42] [] [] [(38, 2, 2)]) σ0 (r))) {σ : zSt} {x1 : Int32} {x2 : Int32} {x3 : Int32} (h : (zQ [3, 23, 25, 27, 28, 29, 34, 42] [] [] [(38, 2, 2)]) σ0 σ) : zpc (fJ7_fill_53178_k28_5_body k5 σ x1 x2 x3) (fun r => (zQ [3, 23, 25, 27, 28, 29, 34, 42] [] [] [(38, 2, 2)]) σ0 (r)) := by
  unfold fJ7_fill_53178_k28_5_body
  exact zpc_if (fun _ => zpc_some h) (fun _ => zpc_ck (zpc_bs (zQ.wi h rfl) (fun σ1 hσ1 => zpc_bv (fun v2 _ => hk5 _ _ _ _ hσ1))))
theorem fl_fJ7_fill_53178_k28_5 {σ0 : zSt} : ∀ (n : Nat) (y0 : zSt) (y1 : Int32) (y2 : Int32) (y3 : Int32), (zQ [3, 23, 25, 27, 28, 29, 34, 42] [] [] [(38, 2, 2)]) σ0 y0 → zpc (fJ7_fill_53178_k28_5 n y0 y1 y2 y3) (fun r => (zQ [3, 23, 25, 27, 28, 29, 34, 42] [] [] [(38, 2, 2)]) σ0 (r)) := by
  intro n
  induction n with
  | zero => intro y0 y1 y2 y3 h; exact zpc_none
  | succ n ih => intro y0 y1 y2 y3 h; exact fl_fJ7_fill_53178_k28_5_body ih h
theorem fl_fJ7_fill_53178_k28 {σ0 : zSt} {σ : zSt} {x1 : Int32} (h : (zQ [3, 23, 25, 27, 28, 29, 34, 42] [] [] [(38, 2, 2)]) σ0 σ) : zpc (fJ7_fill_53178_k28 σ x1) (fun r => (zQ [3, 23, 25, 27, 28, 29, 34, 42] [] [] [(38, 2, 2)]) σ0 (r)) := by
  unfold fJ7_fill_53178_k28
  exact fl_fJ7_fill_53178_k28_5 _ _ _ _ _ h
theorem fl_fX3_rowOfSprite_56 {σ0 : zSt} {σ : zSt} {s0 : Int32} (h : (zQ [3, 23, 25, 27, 28, 29, 34, 42] [] [] [(38, 2, 2)]) σ0 σ) : zpc (fX3_rowOfSprite_56 σ s0) (fun r => (zQ [3, 23, 25, 27, 28, 29, 34, 42] [] [] [(38, 2, 2)]) σ0 (r.1)) := by
  unfold fX3_rowOfSprite_56
  exact zpc_some h
theorem fl_fX3_rowOfSprite_47 {σ0 : zSt} {σ : zSt} {x4 : Int32} {s0 : Int32} {s1 : Int32} (h : (zQ [3, 23, 25, 27, 28, 29, 34, 42] [] [] [(38, 2, 2)]) σ0 σ) : zpc (fX3_rowOfSprite_47 σ x4 s0 s1) (fun r => (zQ [3, 23, 25, 27, 28, 29, 34, 42] [] [] [(38, 2, 2)]) σ0 (r.1)) := by
  unfold fX3_rowOfSprite_47
  exact zpc_if (fun _ => fl_fX3_rowOfSprite_56 h) (fun _ => fl_fX3_rowOfSprite_56 h)
theorem fl_fX3_rowOfSprite_32 {σ0 : zSt} {σ : zSt} {x3 : Int32} {x4 : Int32} (h : (zQ [3, 23, 25, 27, 28, 29, 34, 42] [] [] [(38, 2, 2)]) σ0 σ) : zpc (fX3_rowOfSprite_32 σ x3 x4) (fun r => (zQ [3, 23, 25, 27, 28, 29, 34, 42] [] [] [(38, 2, 2)]) σ0 (r.1)) := by
  unfold fX3_rowOfSprite_32
  exact zpc_if (fun _ => fl_fX3_rowOfSprite_47 h) (fun _ => fl_fX3_rowOfSprite_47 h)
theorem fl_fX3_rowOfSprite {σ0 : zSt} {σ : zSt} {x1 : Int32} {x2 : Int32} (h : (zQ [3, 23, 25, 27, 28, 29, 34, 42] [] [] [(38, 2, 2)]) σ0 σ) : zpc (fX3_rowOfSprite σ x1 x2) (fun r => (zQ [3, 23, 25, 27, 28, 29, 34, 42] [] [] [(38, 2, 2)]) σ0 (r.1)) := by
  unfold fX3_rowOfSprite
  exact zpc_bi (fl_fX9_held h) (fun σ1 v2 hσ1 => zpc_bv (fun v3 _ => zpc_if (fun _ => fl_fX3_rowOfSprite_32 hσ1) (fun _ => zpc_bv (fun v4 _ => fl_fX3_rowOfSprite_32 hσ1))))
theorem fl_fX9_mark {σ0 : zSt} {σ : zSt} {x1 : Int32} (h : (zQ [3, 23, 25, 27, 28, 29, 34, 42] [] [] [(38, 2, 2)]) σ0 σ) : zpc (fX9_mark σ x1) (fun r => (zQ [3, 23, 25, 27, 28, 29, 34, 42] [] [] [(38, 2, 2)]) σ0 (r)) := by
  unfold fX9_mark
  exact zpc_ck (zpc_ck (zpc_bs (zQ.wi h rfl) (fun σ1 hσ1 => zpc_some hσ1)))
theorem fl_fX3_drawSprite_190 {σ0 : zSt} {k111 : zSt → Int32 → Int32 → Int32 → Option (zSt)} (hk111 : ∀ (y0 : zSt) (y1 : Int32) (y2 : Int32) (y3 : Int32), (zQ [3, 23, 25, 27, 28, 29, 34, 42] [] [] [(38, 2, 2)]) σ0 y0 → zpc (k111 y0 y1 y2 y3) (fun r => (zQ [3, 23, 25, 27, 28, 29, 34, 42] [] [] [(38, 2, 2)]) σ0 (r))) {σ : zSt} {x3 : Int32} {x6 : Int32} {x7 : Int32} (h : (zQ [3, 23, 25, 27, 28, 29, 34, 42] [] [] [(38, 2, 2)]) σ0 σ) : zpc (fX3_drawSprite_190 k111 σ x3 x6 x7) (fun r => (zQ [3, 23, 25, 27, 28, 29, 34, 42] [] [] [(38, 2, 2)]) σ0 (r)) := by
  unfold fX3_drawSprite_190
  exact zpc_bv (fun v1 _ => hk111 _ _ _ _ h)
theorem fl_fX3_drawSprite_111_body {σ0 : zSt} {k111 : zSt → Int32 → Int32 → Int32 → Option (zSt)} (hk111 : ∀ (y0 : zSt) (y1 : Int32) (y2 : Int32) (y3 : Int32), (zQ [3, 23, 25, 27, 28, 29, 34, 42] [] [] [(38, 2, 2)]) σ0 y0 → zpc (k111 y0 y1 y2 y3) (fun r => (zQ [3, 23, 25, 27, 28, 29, 34, 42] [] [] [(38, 2, 2)]) σ0 (r))) {σ : zSt} {x3 : Int32} {x6 : Int32} {x7 : Int32} (h : (zQ [3, 23, 25, 27, 28, 29, 34, 42] [] [] [(38, 2, 2)]) σ0 σ) : zpc (fX3_drawSprite_111_body k111 σ x3 x6 x7) (fun r => (zQ [3, 23, 25, 27, 28, 29, 34, 42] [] [] [(38, 2, 2)]) σ0 (r)) := by
  unfold fX3_drawSprite_111_body
  exact zpc_if (fun _ => zpc_some h) (fun _ => zpc_bv (fun v2 _ => zpc_bi (fl_fX3_numberIn h) (fun σ3 v4 hσ3 => zpc_if (fun _ => fl_fX3_drawSprite_190 hk111 hσ3) (fun _ => zpc_if (fun _ => fl_fX3_drawSprite_190 hk111 hσ3) (fun _ => zpc_if (fun _ => fl_fX3_drawSprite_190 hk111 hσ3) (fun _ => zpc_ck (zpc_if (fun _ => zpc_ck (zpc_bs (zQ.wi hσ3 rfl) (fun σ5 hσ5 => fl_fX3_drawSprite_190 hk111 hσ5))) (fun _ => zpc_bu (fl_fX9_mark hσ3) (fun σ6 hσ6 => fl_fX3_drawSprite_190 hk111 hσ6)))))))))
theorem fl_fX3_drawSprite_111 {σ0 : zSt} : ∀ (n : Nat) (y0 : zSt) (y1 : Int32) (y2 : Int32) (y3 : Int32), (zQ [3, 23, 25, 27, 28, 29, 34, 42] [] [] [(38, 2, 2)]) σ0 y0 → zpc (fX3_drawSprite_111 n y0 y1 y2 y3) (fun r => (zQ [3, 23, 25, 27, 28, 29, 34, 42] [] [] [(38, 2, 2)]) σ0 (r)) := by
  intro n
  induction n with
  | zero => intro y0 y1 y2 y3 h; exact zpc_none
  | succ n ih => intro y0 y1 y2 y3 h; exact fl_fX3_drawSprite_111_body ih h
theorem fl_fX3_drawSprite_100 {σ0 : zSt} {σ : zSt} {x2 : Int32} {x3 : Int32} {x6 : Int32} {s0 : Int32} {s1 : Int32} (h : (zQ [3, 23, 25, 27, 28, 29, 34, 42] [] [] [(38, 2, 2)]) σ0 σ) : zpc (fX3_drawSprite_100 σ x2 x3 x6 s0 s1) (fun r => (zQ [3, 23, 25, 27, 28, 29, 34, 42] [] [] [(38, 2, 2)]) σ0 (r)) := by
  unfold fX3_drawSprite_100
  exact zpc_bu (fl_fX3_takePlanes h) (fun σ7 hσ7 => fl_fX3_drawSprite_111 _ _ _ _ _ hσ7)
theorem fl_fX3_drawSprite_61 {σ0 : zSt} {σ : zSt} {x2 : Int32} {x3 : Int32} {s0 : Int32} {s1 : Int32} (h : (zQ [3, 23, 25, 27, 28, 29, 34, 42] [] [] [(38, 2, 2)]) σ0 σ) : zpc (fX3_drawSprite_61 σ x2 x3 s0 s1) (fun r => (zQ [3, 23, 25, 27, 28, 29, 34, 42] [] [] [(38, 2, 2)]) σ0 (r)) := by
  unfold fX3_drawSprite_61
  exact zpc_bv (fun v8 _ => zpc_bi (fl_fX9_held h) (fun σ9 v10 hσ9 => zpc_bv (fun v11 _ => zpc_if (fun _ => fl_fX3_drawSprite_100 hσ9) (fun _ => fl_fX3_drawSprite_100 hσ9))))
theorem fl_fX3_drawSprite_28 {σ0 : zSt} {σ : zSt} {x1 : Int32} {x2 : Int32} {s0 : Int32} {s1 : Int32} (h : (zQ [3, 23, 25, 27, 28, 29, 34, 42] [] [] [(38, 2, 2)]) σ0 σ) : zpc (fX3_drawSprite_28 σ x1 x2 s0 s1) (fun r => (zQ [3, 23, 25, 27, 28, 29, 34, 42] [] [] [(38, 2, 2)]) σ0 (r)) := by
  unfold fX3_drawSprite_28
  exact zpc_bv (fun v12 _ => zpc_bi (fl_fX9_vramByte h) (fun σ13 v14 hσ13 => zpc_bi (fl_fX9_held hσ13) (fun σ15 v16 hσ15 => zpc_if (fun _ => fl_fX3_drawSprite_61 hσ15) (fun _ => fl_fX3_drawSprite_61 hσ15))))
theorem fl_fX3_drawSprite {σ0 : zSt} {σ : zSt} {x1 : Int32} {x2 : Int32} (h : (zQ [3, 23, 25, 27, 28, 29, 34, 42] [] [] [(38, 2, 2)]) σ0 σ) : zpc (fX3_drawSprite σ x1 x2) (fun r => (zQ [3, 23, 25, 27, 28, 29, 34, 42] [] [] [(38, 2, 2)]) σ0 (r)) := by
  unfold fX3_drawSprite
  exact zpc_bi (fl_fX9_vramByte h) (fun σ17 v18 hσ17 => zpc_bi (fl_fX9_held hσ17) (fun σ19 v20 hσ19 => zpc_if (fun _ => fl_fX3_drawSprite_28 hσ19) (fun _ => fl_fX3_drawSprite_28 hσ19)))
theorem fl_fX3_drawSprites_196 {σ0 : zSt} {k147 : zSt → Int32 → Option (zSt)} (hk147 : ∀ (y0 : zSt) (y1 : Int32), (zQ [3, 23, 25, 27, 28, 29, 34, 42] [] [] [(38, 2, 2)]) σ0 y0 → zpc (k147 y0 y1) (fun r => (zQ [3, 23, 25, 27, 28, 29, 34, 42] [] [] [(38, 2, 2)]) σ0 (r))) {σ : zSt} {x5 : Int32} (h : (zQ [3, 23, 25, 27, 28, 29, 34, 42] [] [] [(38, 2, 2)]) σ0 σ) : zpc (fX3_drawSprites_196 k147 σ x5) (fun r => (zQ [3, 23, 25, 27, 28, 29, 34, 42] [] [] [(38, 2, 2)]) σ0 (r)) := by
  unfold fX3_drawSprites_196
  exact zpc_bv (fun v1 _ => hk147 _ _ h)
theorem fl_fX3_drawSprites_147_body {σ0 : zSt} {k147 : zSt → Int32 → Option (zSt)} (hk147 : ∀ (y0 : zSt) (y1 : Int32), (zQ [3, 23, 25, 27, 28, 29, 34, 42] [] [] [(38, 2, 2)]) σ0 y0 → zpc (k147 y0 y1) (fun r => (zQ [3, 23, 25, 27, 28, 29, 34, 42] [] [] [(38, 2, 2)]) σ0 (r))) {σ : zSt} {x5 : Int32} (h : (zQ [3, 23, 25, 27, 28, 29, 34, 42] [] [] [(38, 2, 2)]) σ0 σ) : zpc (fX3_drawSprites_147_body k147 σ x5) (fun r => (zQ [3, 23, 25, 27, 28, 29, 34, 42] [] [] [(38, 2, 2)]) σ0 (r)) := by
  unfold fX3_drawSprites_147_body
  exact zpc_if (fun _ => zpc_some h) (fun _ => zpc_ck (zpc_if (fun _ => fl_fX3_drawSprites_196 hk147 h) (fun _ => zpc_ck (zpc_if (fun _ => zpc_ck (zpc_ck (zpc_bs (zQ.wi h rfl) (fun σ2 hσ2 => fl_fX3_drawSprites_196 hk147 hσ2)))) (fun _ => fl_fX3_drawSprites_196 hk147 h)))))
theorem fl_fX3_drawSprites_147 {σ0 : zSt} : ∀ (n : Nat) (y0 : zSt) (y1 : Int32), (zQ [3, 23, 25, 27, 28, 29, 34, 42] [] [] [(38, 2, 2)]) σ0 y0 → zpc (fX3_drawSprites_147 n y0 y1) (fun r => (zQ [3, 23, 25, 27, 28, 29, 34, 42] [] [] [(38, 2, 2)]) σ0 (r)) := by
  intro n
  induction n with
  | zero => intro y0 y1 h; exact zpc_none
  | succ n ih => intro y0 y1 h; exact fl_fX3_drawSprites_147_body ih h
theorem fl_fX3_drawSprites_144 {σ0 : zSt} {σ : zSt} (h : (zQ [3, 23, 25, 27, 28, 29, 34, 42] [] [] [(38, 2, 2)]) σ0 σ) : zpc (fX3_drawSprites_144 σ) (fun r => (zQ [3, 23, 25, 27, 28, 29, 34, 42] [] [] [(38, 2, 2)]) σ0 (r)) := by
  unfold fX3_drawSprites_144
  exact fl_fX3_drawSprites_147 _ _ _ h
theorem fl_fX3_drawSprites_138 {σ0 : zSt} {k51 : zSt → Int32 → Int32 → Int32 → Int32 → Int32 → Option (zSt)} (hk51 : ∀ (y0 : zSt) (y1 : Int32) (y2 : Int32) (y3 : Int32) (y4 : Int32) (y5 : Int32), (zQ [3, 23, 25, 27, 28, 29, 34, 42] [] [] [(38, 2, 2)]) σ0 y0 → zpc (k51 y0 y1 y2 y3 y4 y5) (fun r => (zQ [3, 23, 25, 27, 28, 29, 34, 42] [] [] [(38, 2, 2)]) σ0 (r))) {σ : zSt} {x1 : Int32} {x2 : Int32} {x3 : Int32} {x4 : Int32} {x5 : Int32} (h : (zQ [3, 23, 25, 27, 28, 29, 34, 42] [] [] [(38, 2, 2)]) σ0 σ) : zpc (fX3_drawSprites_138 k51 σ x1 x2 x3 x4 x5) (fun r => (zQ [3, 23, 25, 27, 28, 29, 34, 42] [] [] [(38, 2, 2)]) σ0 (r)) := by
  unfold fX3_drawSprites_138
  exact zpc_bv (fun v3 _ => hk51 _ _ _ _ _ _ h)
theorem fl_fX3_drawSprites_86 {σ0 : zSt} {k51 : zSt → Int32 → Int32 → Int32 → Int32 → Int32 → Option (zSt)} (hk51 : ∀ (y0 : zSt) (y1 : Int32) (y2 : Int32) (y3 : Int32) (y4 : Int32) (y5 : Int32), (zQ [3, 23, 25, 27, 28, 29, 34, 42] [] [] [(38, 2, 2)]) σ0 y0 → zpc (k51 y0 y1 y2 y3 y4 y5) (fun r => (zQ [3, 23, 25, 27, 28, 29, 34, 42] [] [] [(38, 2, 2)]) σ0 (r))) {σ : zSt} {x1 : Int32} {x2 : Int32} {x3 : Int32} {x4 : Int32} {x5 : Int32} {x6 : Int32} (h : (zQ [3, 23, 25, 27, 28, 29, 34, 42] [] [] [(38, 2, 2)]) σ0 σ) : zpc (fX3_drawSprites_86 k51 σ x1 x2 x3 x4 x5 x6) (fun r => (zQ [3, 23, 25, 27, 28, 29, 34, 42] [] [] [(38, 2, 2)]) σ0 (r)) := by
  unfold fX3_drawSprites_86
  exact zpc_bi (fl_fX3_rowOfSprite h) (fun σ4 v5 hσ4 => zpc_if (fun _ => fl_fX3_drawSprites_138 hk51 hσ4) (fun _ => zpc_bv (fun v6 _ => zpc_if (fun _ => zpc_bu (fl_fX3_drawSprite hσ4) (fun σ7 hσ7 => fl_fX3_drawSprites_138 hk51 hσ7)) (fun _ => zpc_bu (fl_fX9_mark hσ4) (fun σ8 hσ8 => fl_fX3_drawSprites_144 hσ8)))))
theorem fl_fX3_drawSprites_51_body {σ0 : zSt} {k51 : zSt → Int32 → Int32 → Int32 → Int32 → Int32 → Option (zSt)} (hk51 : ∀ (y0 : zSt) (y1 : Int32) (y2 : Int32) (y3 : Int32) (y4 : Int32) (y5 : Int32), (zQ [3, 23, 25, 27, 28, 29, 34, 42] [] [] [(38, 2, 2)]) σ0 y0 → zpc (k51 y0 y1 y2 y3 y4 y5) (fun r => (zQ [3, 23, 25, 27, 28, 29, 34, 42] [] [] [(38, 2, 2)]) σ0 (r))) {σ : zSt} {x1 : Int32} {x2 : Int32} {x3 : Int32} {x4 : Int32} {x5 : Int32} (h : (zQ [3, 23, 25, 27, 28, 29, 34, 42] [] [] [(38, 2, 2)]) σ0 σ) : zpc (fX3_drawSprites_51_body k51 σ x1 x2 x3 x4 x5) (fun r => (zQ [3, 23, 25, 27, 28, 29, 34, 42] [] [] [(38, 2, 2)]) σ0 (r)) := by
  unfold fX3_drawSprites_51_body
  exact zpc_if (fun _ => fl_fX3_drawSprites_144 h) (fun _ => zpc_bi (fl_fX9_vramByte h) (fun σ9 v10 hσ9 => zpc_if (fun _ => fl_fX3_drawSprites_86 hk51 hσ9) (fun _ => zpc_if (fun _ => fl_fX3_drawSprites_144 hσ9) (fun _ => fl_fX3_drawSprites_86 hk51 hσ9))))
theorem fl_fX3_drawSprites_51 {σ0 : zSt} : ∀ (n : Nat) (y0 : zSt) (y1 : Int32) (y2 : Int32) (y3 : Int32) (y4 : Int32) (y5 : Int32), (zQ [3, 23, 25, 27, 28, 29, 34, 42] [] [] [(38, 2, 2)]) σ0 y0 → zpc (fX3_drawSprites_51 n y0 y1 y2 y3 y4 y5) (fun r => (zQ [3, 23, 25, 27, 28, 29, 34, 42] [] [] [(38, 2, 2)]) σ0 (r)) := by
  intro n
  induction n with
  | zero => intro y0 y1 y2 y3 y4 y5 h; exact zpc_none
  | succ n ih => intro y0 y1 y2 y3 y4 y5 h; exact fl_fX3_drawSprites_51_body ih h
theorem fl_fX3_drawSprites_44 {σ0 : zSt} {σ : zSt} {x1 : Int32} {x2 : Int32} {s0 : Int32} (h : (zQ [3, 23, 25, 27, 28, 29, 34, 42] [] [] [(38, 2, 2)]) σ0 σ) : zpc (fX3_drawSprites_44 σ x1 x2 s0) (fun r => (zQ [3, 23, 25, 27, 28, 29, 34, 42] [] [] [(38, 2, 2)]) σ0 (r)) := by
  unfold fX3_drawSprites_44
  exact fl_fX3_drawSprites_51 _ _ _ _ _ _ _ h
theorem fl_fX3_drawSprites {σ0 : zSt} {σ : zSt} {x1 : Int32} (h : (zQ [3, 23, 25, 27, 28, 29, 34, 42] [] [] [(38, 2, 2)]) σ0 σ) : zpc (fX3_drawSprites σ x1) (fun r => (zQ [3, 23, 25, 27, 28, 29, 34, 42] [] [] [(38, 2, 2)]) σ0 (r)) := by
  unfold fX3_drawSprites
  exact zpc_bu (fl_fJ7_fill_53178_k28 h) (fun σ11 hσ11 => zpc_bi (fl_fX9_held hσ11) (fun σ12 v13 hσ12 => zpc_bv (fun v14 _ => zpc_bi (fl_fX9_height hσ12) (fun σ15 v16 hσ15 => zpc_if (fun _ => fl_fX3_drawSprites_44 hσ15) (fun _ => fl_fX3_drawSprites_44 hσ15)))))
theorem fl_fJ7_rangeCheck_23922 {σ0 : zSt} {σ : zSt} {x0 : Int32} {x1 : Int32} {x2 : Int32} (h : (zQ [3, 23, 25, 27, 28, 29, 34, 42] [] [] [(38, 2, 2)]) σ0 σ) : zpc (fJ7_rangeCheck_23922 σ x0 x1 x2) (fun r => (zQ [3, 23, 25, 27, 28, 29, 34, 42] [] [] [(38, 2, 2)]) σ0 (r)) := by
  unfold fJ7_rangeCheck_23922
  exact zpc_if (fun _ => zpc_if (fun _ => zpc_if (fun _ => zpc_some h) (fun _ => zpc_none)) (fun _ => zpc_none)) (fun _ => zpc_none)
theorem fl_fJ7_fill_fda19_k27_10_body {σ0 : zSt} {k10 : zSt → Int32 → Int32 → Int32 → Option (zSt)} (hk10 : ∀ (y0 : zSt) (y1 : Int32) (y2 : Int32) (y3 : Int32), (zQ [3, 23, 25, 27, 28, 29, 34, 42] [] [] [(38, 2, 2)]) σ0 y0 → zpc (k10 y0 y1 y2 y3) (fun r => (zQ [3, 23, 25, 27, 28, 29, 34, 42] [] [] [(38, 2, 2)]) σ0 (r))) {σ : zSt} {x2 : Int32} {x3 : Int32} {x4 : Int32} (h : (zQ [3, 23, 25, 27, 28, 29, 34, 42] [] [] [(38, 2, 2)]) σ0 σ) : zpc (fJ7_fill_fda19_k27_10_body k10 σ x2 x3 x4) (fun r => (zQ [3, 23, 25, 27, 28, 29, 34, 42] [] [] [(38, 2, 2)]) σ0 (r)) := by
  unfold fJ7_fill_fda19_k27_10_body
  exact zpc_if (fun _ => zpc_some h) (fun _ => zpc_ck (zpc_bs (zQ.wi h rfl) (fun σ1 hσ1 => zpc_bv (fun v2 _ => hk10 _ _ _ _ hσ1))))
theorem fl_fJ7_fill_fda19_k27_10 {σ0 : zSt} : ∀ (n : Nat) (y0 : zSt) (y1 : Int32) (y2 : Int32) (y3 : Int32), (zQ [3, 23, 25, 27, 28, 29, 34, 42] [] [] [(38, 2, 2)]) σ0 y0 → zpc (fJ7_fill_fda19_k27_10 n y0 y1 y2 y3) (fun r => (zQ [3, 23, 25, 27, 28, 29, 34, 42] [] [] [(38, 2, 2)]) σ0 (r)) := by
  intro n
  induction n with
  | zero => intro y0 y1 y2 y3 h; exact zpc_none
  | succ n ih => intro y0 y1 y2 y3 h; exact fl_fJ7_fill_fda19_k27_10_body ih h
theorem fl_fJ7_fill_fda19_k27 {σ0 : zSt} {σ : zSt} {x1 : Int32} {x2 : Int32} {x3 : Int32} (h : (zQ [3, 23, 25, 27, 28, 29, 34, 42] [] [] [(38, 2, 2)]) σ0 σ) : zpc (fJ7_fill_fda19_k27 σ x1 x2 x3) (fun r => (zQ [3, 23, 25, 27, 28, 29, 34, 42] [] [] [(38, 2, 2)]) σ0 (r)) := by
  unfold fJ7_fill_fda19_k27
  exact zpc_bu (fl_fJ7_rangeCheck_23922 h) (fun σ3 hσ3 => fl_fJ7_fill_fda19_k27_10 _ _ _ _ _ hσ3)
theorem fl_fX3_patternAt {σ0 : zSt} {σ : zSt} {x1 : Int32} {x2 : Int32} (h : (zQ [3, 23, 25, 27, 28, 29, 34, 42] [] [] [(38, 2, 2)]) σ0 σ) : zpc (fX3_patternAt σ x1 x2) (fun r => (zQ [3, 23, 25, 27, 28, 29, 34, 42] [] [] [(38, 2, 2)]) σ0 (r.1)) := by
  unfold fX3_patternAt
  exact zpc_bi (fl_fX9_held h) (fun σ1 v2 hσ1 => zpc_bi (fl_fX9_vramByte hσ1) (fun σ3 v4 hσ3 => zpc_some hσ3))
theorem fl_fX3_drawText_101 {σ0 : zSt} {k21 : zSt → Int32 → Int32 → Int32 → Int32 → Option (zSt)} (hk21 : ∀ (y0 : zSt) (y1 : Int32) (y2 : Int32) (y3 : Int32) (y4 : Int32), (zQ [3, 23, 25, 27, 28, 29, 34, 42] [] [] [(38, 2, 2)]) σ0 y0 → zpc (k21 y0 y1 y2 y3 y4) (fun r => (zQ [3, 23, 25, 27, 28, 29, 34, 42] [] [] [(38, 2, 2)]) σ0 (r))) {k56 : zSt → Int32 → Int32 → Int32 → Int32 → Int32 → Int32 → Option (zSt)} (hk56 : ∀ (y0 : zSt) (y1 : Int32) (y2 : Int32) (y3 : Int32) (y4 : Int32) (y5 : Int32) (y6 : Int32), (zQ [3, 23, 25, 27, 28, 29, 34, 42] [] [] [(38, 2, 2)]) σ0 y0 → zpc (k56 y0 y1 y2 y3 y4 y5 y6) (fun r => (zQ [3, 23, 25, 27, 28, 29, 34, 42] [] [] [(38, 2, 2)]) σ0 (r))) {σ : zSt} {x1 : Int32} {x2 : Int32} {x3 : Int32} {x4 : Int32} {x5 : Int32} {x6 : Int32} {s0 : Int32} {s1 : Int32} (h : (zQ [3, 23, 25, 27, 28, 29, 34, 42] [] [] [(38, 2, 2)]) σ0 σ) : zpc (fX3_drawText_101 k21 k56 σ x1 x2 x3 x4 x5 x6 s0 s1) (fun r => (zQ [3, 23, 25, 27, 28, 29, 34, 42] [] [] [(38, 2, 2)]) σ0 (r)) := by
  unfold fX3_drawText_101
  exact zpc_ck (zpc_bs (zQ.wi h rfl) (fun σ1 hσ1 => zpc_bv (fun v2 _ => hk56 _ _ _ _ _ _ _ hσ1)))
theorem fl_fX3_drawText_56_body {σ0 : zSt} {k21 : zSt → Int32 → Int32 → Int32 → Int32 → Option (zSt)} (hk21 : ∀ (y0 : zSt) (y1 : Int32) (y2 : Int32) (y3 : Int32) (y4 : Int32), (zQ [3, 23, 25, 27, 28, 29, 34, 42] [] [] [(38, 2, 2)]) σ0 y0 → zpc (k21 y0 y1 y2 y3 y4) (fun r => (zQ [3, 23, 25, 27, 28, 29, 34, 42] [] [] [(38, 2, 2)]) σ0 (r))) {k56 : zSt → Int32 → Int32 → Int32 → Int32 → Int32 → Int32 → Option (zSt)} (hk56 : ∀ (y0 : zSt) (y1 : Int32) (y2 : Int32) (y3 : Int32) (y4 : Int32) (y5 : Int32) (y6 : Int32), (zQ [3, 23, 25, 27, 28, 29, 34, 42] [] [] [(38, 2, 2)]) σ0 y0 → zpc (k56 y0 y1 y2 y3 y4 y5 y6) (fun r => (zQ [3, 23, 25, 27, 28, 29, 34, 42] [] [] [(38, 2, 2)]) σ0 (r))) {σ : zSt} {x1 : Int32} {x2 : Int32} {x3 : Int32} {x4 : Int32} {x5 : Int32} {x6 : Int32} (h : (zQ [3, 23, 25, 27, 28, 29, 34, 42] [] [] [(38, 2, 2)]) σ0 σ) : zpc (fX3_drawText_56_body k21 k56 σ x1 x2 x3 x4 x5 x6) (fun r => (zQ [3, 23, 25, 27, 28, 29, 34, 42] [] [] [(38, 2, 2)]) σ0 (r)) := by
  unfold fX3_drawText_56_body
  exact zpc_if (fun _ => zpc_bv (fun v3 _ => hk21 _ _ _ _ _ h)) (fun _ => zpc_if (fun _ => fl_fX3_drawText_101 hk21 hk56 h) (fun _ => fl_fX3_drawText_101 hk21 hk56 h))
theorem fl_fX3_drawText_56 {σ0 : zSt} {k21 : zSt → Int32 → Int32 → Int32 → Int32 → Option (zSt)} (hk21 : ∀ (y0 : zSt) (y1 : Int32) (y2 : Int32) (y3 : Int32) (y4 : Int32), (zQ [3, 23, 25, 27, 28, 29, 34, 42] [] [] [(38, 2, 2)]) σ0 y0 → zpc (k21 y0 y1 y2 y3 y4) (fun r => (zQ [3, 23, 25, 27, 28, 29, 34, 42] [] [] [(38, 2, 2)]) σ0 (r))) : ∀ (n : Nat) (y0 : zSt) (y1 : Int32) (y2 : Int32) (y3 : Int32) (y4 : Int32) (y5 : Int32) (y6 : Int32), (zQ [3, 23, 25, 27, 28, 29, 34, 42] [] [] [(38, 2, 2)]) σ0 y0 → zpc (fX3_drawText_56 k21 n y0 y1 y2 y3 y4 y5 y6) (fun r => (zQ [3, 23, 25, 27, 28, 29, 34, 42] [] [] [(38, 2, 2)]) σ0 (r)) := by
  intro n
  induction n with
  | zero => intro y0 y1 y2 y3 y4 y5 y6 h; exact zpc_none
  | succ n ih => intro y0 y1 y2 y3 y4 y5 y6 h; exact fl_fX3_drawText_56_body hk21 ih h
theorem fl_fX3_drawText_21_body {σ0 : zSt} {k21 : zSt → Int32 → Int32 → Int32 → Int32 → Option (zSt)} (hk21 : ∀ (y0 : zSt) (y1 : Int32) (y2 : Int32) (y3 : Int32) (y4 : Int32), (zQ [3, 23, 25, 27, 28, 29, 34, 42] [] [] [(38, 2, 2)]) σ0 y0 → zpc (k21 y0 y1 y2 y3 y4) (fun r => (zQ [3, 23, 25, 27, 28, 29, 34, 42] [] [] [(38, 2, 2)]) σ0 (r))) {σ : zSt} {x1 : Int32} {x2 : Int32} {x3 : Int32} {x4 : Int32} (h : (zQ [3, 23, 25, 27, 28, 29, 34, 42] [] [] [(38, 2, 2)]) σ0 σ) : zpc (fX3_drawText_21_body k21 σ x1 x2 x3 x4) (fun r => (zQ [3, 23, 25, 27, 28, 29, 34, 42] [] [] [(38, 2, 2)]) σ0 (r)) := by
  unfold fX3_drawText_21_body
  exact zpc_if (fun _ => zpc_some h) (fun _ => zpc_bi (fl_fX9_vramByte h) (fun σ4 v5 hσ4 => zpc_bi (fl_fX3_patternAt hσ4) (fun σ6 v7 hσ6 => fl_fX3_drawText_56 hk21 _ _ _ _ _ _ _ _ hσ6)))
theorem fl_fX3_drawText_21 {σ0 : zSt} : ∀ (n : Nat) (y0 : zSt) (y1 : Int32) (y2 : Int32) (y3 : Int32) (y4 : Int32), (zQ [3, 23, 25, 27, 28, 29, 34, 42] [] [] [(38, 2, 2)]) σ0 y0 → zpc (fX3_drawText_21 n y0 y1 y2 y3 y4) (fun r => (zQ [3, 23, 25, 27, 28, 29, 34, 42] [] [] [(38, 2, 2)]) σ0 (r)) := by
  intro n
  induction n with
  | zero => intro y0 y1 y2 y3 y4 h; exact zpc_none
  | succ n ih => intro y0 y1 y2 y3 y4 h; exact fl_fX3_drawText_21_body ih h
theorem fl_fX3_drawText {σ0 : zSt} {σ : zSt} {x1 : Int32} {x2 : Int32} (h : (zQ [3, 23, 25, 27, 28, 29, 34, 42] [] [] [(38, 2, 2)]) σ0 σ) : zpc (fX3_drawText σ x1 x2) (fun r => (zQ [3, 23, 25, 27, 28, 29, 34, 42] [] [] [(38, 2, 2)]) σ0 (r)) := by
  unfold fX3_drawText
  exact zpc_bi (fl_fX9_held h) (fun σ8 v9 hσ8 => zpc_bu (fl_fJ7_fill_53178_k27 hσ8) (fun σ10 hσ10 => fl_fX3_drawText_21 _ _ _ _ _ _ hσ10))
theorem fl_fX3_drawPattern_57 {σ0 : zSt} {σ : zSt} (h : (zQ [3, 23, 25, 27, 28, 29, 34, 42] [] [] [(38, 2, 2)]) σ0 σ) : zpc (fX3_drawPattern_57 σ) (fun r => (zQ [3, 23, 25, 27, 28, 29, 34, 42] [] [] [(38, 2, 2)]) σ0 (r)) := by
  unfold fX3_drawPattern_57
  exact zpc_some h
theorem fl_fX3_drawPattern_50 {σ0 : zSt} {k3 : zSt → Int32 → Int32 → Int32 → Int32 → Option (zSt)} (hk3 : ∀ (y0 : zSt) (y1 : Int32) (y2 : Int32) (y3 : Int32) (y4 : Int32), (zQ [3, 23, 25, 27, 28, 29, 34, 42] [] [] [(38, 2, 2)]) σ0 y0 → zpc (k3 y0 y1 y2 y3 y4) (fun r => (zQ [3, 23, 25, 27, 28, 29, 34, 42] [] [] [(38, 2, 2)]) σ0 (r))) {σ : zSt} {x1 : Int32} {x2 : Int32} {x3 : Int32} {x4 : Int32} {s0 : Int32} {s1 : Int32} (h : (zQ [3, 23, 25, 27, 28, 29, 34, 42] [] [] [(38, 2, 2)]) σ0 σ) : zpc (fX3_drawPattern_50 k3 σ x1 x2 x3 x4 s0 s1) (fun r => (zQ [3, 23, 25, 27, 28, 29, 34, 42] [] [] [(38, 2, 2)]) σ0 (r)) := by
  unfold fX3_drawPattern_50
  exact zpc_ck (zpc_bs (zQ.wi h rfl) (fun σ1 hσ1 => zpc_bv (fun v2 _ => hk3 _ _ _ _ _ hσ1)))
theorem fl_fX3_drawPattern_3_body {σ0 : zSt} {k3 : zSt → Int32 → Int32 → Int32 → Int32 → Option (zSt)} (hk3 : ∀ (y0 : zSt) (y1 : Int32) (y2 : Int32) (y3 : Int32) (y4 : Int32), (zQ [3, 23, 25, 27, 28, 29, 34, 42] [] [] [(38, 2, 2)]) σ0 y0 → zpc (k3 y0 y1 y2 y3 y4) (fun r => (zQ [3, 23, 25, 27, 28, 29, 34, 42] [] [] [(38, 2, 2)]) σ0 (r))) {σ : zSt} {x1 : Int32} {x2 : Int32} {x3 : Int32} {x4 : Int32} (h : (zQ [3, 23, 25, 27, 28, 29, 34, 42] [] [] [(38, 2, 2)]) σ0 σ) : zpc (fX3_drawPattern_3_body k3 σ x1 x2 x3 x4) (fun r => (zQ [3, 23, 25, 27, 28, 29, 34, 42] [] [] [(38, 2, 2)]) σ0 (r)) := by
  unfold fX3_drawPattern_3_body
  exact zpc_if (fun _ => fl_fX3_drawPattern_57 h) (fun _ => zpc_if (fun _ => fl_fX3_drawPattern_57 h) (fun _ => zpc_if (fun _ => fl_fX3_drawPattern_50 hk3 h) (fun _ => fl_fX3_drawPattern_50 hk3 h)))
theorem fl_fX3_drawPattern_3 {σ0 : zSt} : ∀ (n : Nat) (y0 : zSt) (y1 : Int32) (y2 : Int32) (y3 : Int32) (y4 : Int32), (zQ [3, 23, 25, 27, 28, 29, 34, 42] [] [] [(38, 2, 2)]) σ0 y0 → zpc (fX3_drawPattern_3 n y0 y1 y2 y3 y4) (fun r => (zQ [3, 23, 25, 27, 28, 29, 34, 42] [] [] [(38, 2, 2)]) σ0 (r)) := by
  intro n
  induction n with
  | zero => intro y0 y1 y2 y3 y4 h; exact zpc_none
  | succ n ih => intro y0 y1 y2 y3 y4 h; exact fl_fX3_drawPattern_3_body ih h
theorem fl_fX3_drawPattern {σ0 : zSt} {σ : zSt} {x1 : Int32} {x2 : Int32} {x3 : Int32} (h : (zQ [3, 23, 25, 27, 28, 29, 34, 42] [] [] [(38, 2, 2)]) σ0 σ) : zpc (fX3_drawPattern σ x1 x2 x3) (fun r => (zQ [3, 23, 25, 27, 28, 29, 34, 42] [] [] [(38, 2, 2)]) σ0 (r)) := by
  unfold fX3_drawPattern
  exact fl_fX3_drawPattern_3 _ _ _ _ _ _ h
theorem fl_fX3_drawBlocks {σ0 : zSt} {σ : zSt} {x1 : Int32} {x2 : Int32} {x3 : Int32} (h : (zQ [3, 23, 25, 27, 28, 29, 34, 42] [] [] [(38, 2, 2)]) σ0 σ) : zpc (fX3_drawBlocks σ x1 x2 x3) (fun r => (zQ [3, 23, 25, 27, 28, 29, 34, 42] [] [] [(38, 2, 2)]) σ0 (r)) := by
  unfold fX3_drawBlocks
  exact zpc_bi (fl_fX9_held h) (fun σ1 v2 hσ1 => zpc_bv (fun v3 _ => zpc_bi (fl_fX9_vramByte hσ1) (fun σ4 v5 hσ4 => zpc_bu (fl_fX3_drawPattern hσ4) (fun σ6 hσ6 => zpc_some hσ6))))
theorem fl_fX3_drawThird {σ0 : zSt} {σ : zSt} {x1 : Int32} {x2 : Int32} {x3 : Int32} (h : (zQ [3, 23, 25, 27, 28, 29, 34, 42] [] [] [(38, 2, 2)]) σ0 σ) : zpc (fX3_drawThird σ x1 x2 x3) (fun r => (zQ [3, 23, 25, 27, 28, 29, 34, 42] [] [] [(38, 2, 2)]) σ0 (r)) := by
  unfold fX3_drawThird
  exact zpc_bi (fl_fX9_held h) (fun σ1 v2 hσ1 => zpc_bi (fl_fX9_held hσ1) (fun σ3 v4 hσ3 => zpc_bv (fun v5 _ => zpc_bv (fun v6 _ => zpc_bi (fl_fX9_vramByte hσ3) (fun σ7 v8 hσ7 => zpc_bi (fl_fX9_vramByte hσ7) (fun σ9 v10 hσ9 => zpc_bu (fl_fX3_drawPattern hσ9) (fun σ11 hσ11 => zpc_some hσ11)))))))
theorem fl_fX3_drawOld_165 {σ0 : zSt} {k31 : zSt → Int32 → Int32 → Int32 → Int32 → Option (zSt)} (hk31 : ∀ (y0 : zSt) (y1 : Int32) (y2 : Int32) (y3 : Int32) (y4 : Int32), (zQ [3, 23, 25, 27, 28, 29, 34, 42] [] [] [(38, 2, 2)]) σ0 y0 → zpc (k31 y0 y1 y2 y3 y4) (fun r => (zQ [3, 23, 25, 27, 28, 29, 34, 42] [] [] [(38, 2, 2)]) σ0 (r))) {σ : zSt} {x1 : Int32} {x2 : Int32} {x3 : Int32} {x4 : Int32} (h : (zQ [3, 23, 25, 27, 28, 29, 34, 42] [] [] [(38, 2, 2)]) σ0 σ) : zpc (fX3_drawOld_165 k31 σ x1 x2 x3 x4) (fun r => (zQ [3, 23, 25, 27, 28, 29, 34, 42] [] [] [(38, 2, 2)]) σ0 (r)) := by
  unfold fX3_drawOld_165
  exact zpc_bv (fun v1 _ => hk31 _ _ _ _ _ h)
theorem fl_fX3_drawOld_31_body {σ0 : zSt} {k31 : zSt → Int32 → Int32 → Int32 → Int32 → Option (zSt)} (hk31 : ∀ (y0 : zSt) (y1 : Int32) (y2 : Int32) (y3 : Int32) (y4 : Int32), (zQ [3, 23, 25, 27, 28, 29, 34, 42] [] [] [(38, 2, 2)]) σ0 y0 → zpc (k31 y0 y1 y2 y3 y4) (fun r => (zQ [3, 23, 25, 27, 28, 29, 34, 42] [] [] [(38, 2, 2)]) σ0 (r))) {σ : zSt} {x1 : Int32} {x2 : Int32} {x3 : Int32} {x4 : Int32} (h : (zQ [3, 23, 25, 27, 28, 29, 34, 42] [] [] [(38, 2, 2)]) σ0 σ) : zpc (fX3_drawOld_31_body k31 σ x1 x2 x3 x4) (fun r => (zQ [3, 23, 25, 27, 28, 29, 34, 42] [] [] [(38, 2, 2)]) σ0 (r)) := by
  unfold fX3_drawOld_31_body
  exact zpc_if (fun _ => zpc_some h) (fun _ => zpc_bi (fl_fX9_vramByte h) (fun σ2 v3 hσ2 => zpc_if (fun _ => zpc_bi (fl_fX3_patternAt hσ2) (fun σ4 v5 hσ4 => zpc_bi (fl_fX9_held hσ4) (fun σ6 v7 hσ6 => zpc_bi (fl_fX9_vramByte hσ6) (fun σ8 v9 hσ8 => zpc_bu (fl_fX3_drawPattern hσ8) (fun σ10 hσ10 => fl_fX3_drawOld_165 hk31 hσ10))))) (fun _ => zpc_if (fun _ => zpc_bu (fl_fX3_drawThird hσ2) (fun σ11 hσ11 => fl_fX3_drawOld_165 hk31 hσ11)) (fun _ => zpc_bu (fl_fX3_drawBlocks hσ2) (fun σ12 hσ12 => fl_fX3_drawOld_165 hk31 hσ12)))))
theorem fl_fX3_drawOld_31 {σ0 : zSt} : ∀ (n : Nat) (y0 : zSt) (y1 : Int32) (y2 : Int32) (y3 : Int32) (y4 : Int32), (zQ [3, 23, 25, 27, 28, 29, 34, 42] [] [] [(38, 2, 2)]) σ0 y0 → zpc (fX3_drawOld_31 n y0 y1 y2 y3 y4) (fun r => (zQ [3, 23, 25, 27, 28, 29, 34, 42] [] [] [(38, 2, 2)]) σ0 (r)) := by
  intro n
  induction n with
  | zero => intro y0 y1 y2 y3 y4 h; exact zpc_none
  | succ n ih => intro y0 y1 y2 y3 y4 h; exact fl_fX3_drawOld_31_body ih h
theorem fl_fX3_drawOld {σ0 : zSt} {σ : zSt} {x1 : Int32} {x2 : Int32} (h : (zQ [3, 23, 25, 27, 28, 29, 34, 42] [] [] [(38, 2, 2)]) σ0 σ) : zpc (fX3_drawOld σ x1 x2) (fun r => (zQ [3, 23, 25, 27, 28, 29, 34, 42] [] [] [(38, 2, 2)]) σ0 (r)) := by
  unfold fX3_drawOld
  exact zpc_bi (fl_fX9_held h) (fun σ13 v14 hσ13 => zpc_bv (fun v15 _ => zpc_if (fun _ => zpc_bu (fl_fX3_drawText hσ13) (fun σ16 hσ16 => zpc_some hσ16)) (fun _ => fl_fX3_drawOld_31 _ _ _ _ _ _ hσ13)))
theorem fl_fX9_markFifth_39 {σ0 : zSt} {σ : zSt} (h : (zQ [3, 23, 25, 27, 28, 29, 34, 42] [] [] [(38, 2, 2)]) σ0 σ) : zpc (fX9_markFifth_39 σ) (fun r => (zQ [3, 23, 25, 27, 28, 29, 34, 42] [] [] [(38, 2, 2)]) σ0 (r)) := by
  unfold fX9_markFifth_39
  exact zpc_some h
theorem fl_fX9_markFifth {σ0 : zSt} {σ : zSt} {x1 : Int32} (h : (zQ [3, 23, 25, 27, 28, 29, 34, 42] [] [] [(38, 2, 2)]) σ0 σ) : zpc (fX9_markFifth σ x1) (fun r => (zQ [3, 23, 25, 27, 28, 29, 34, 42] [] [] [(38, 2, 2)]) σ0 (r)) := by
  unfold fX9_markFifth
  exact zpc_ck (zpc_if (fun _ => zpc_ck (zpc_ck (zpc_bs (zQ.wi h rfl) (fun σ1 hσ1 => fl_fX9_markFifth_39 hσ1)))) (fun _ => fl_fX9_markFifth_39 h))
theorem fl_fX3_takeDot_41 {σ0 : zSt} {σ : zSt} (h : (zQ [3, 23, 25, 27, 28, 29, 34, 42] [] [] [(38, 2, 2)]) σ0 σ) : zpc (fX3_takeDot_41 σ) (fun r => (zQ [3, 23, 25, 27, 28, 29, 34, 42] [] [] [(38, 2, 2)]) σ0 (r)) := by
  unfold fX3_takeDot_41
  exact zpc_some h
theorem fl_fX3_takeDot_18 {σ0 : zSt} {σ : zSt} {x1 : Int32} {x2 : Int32} (h : (zQ [3, 23, 25, 27, 28, 29, 34, 42] [] [] [(38, 2, 2)]) σ0 σ) : zpc (fX3_takeDot_18 σ x1 x2) (fun r => (zQ [3, 23, 25, 27, 28, 29, 34, 42] [] [] [(38, 2, 2)]) σ0 (r)) := by
  unfold fX3_takeDot_18
  exact zpc_ck (zpc_if (fun _ => zpc_ck (zpc_bs (zQ.wi h rfl) (fun σ1 hσ1 => fl_fX3_takeDot_41 hσ1))) (fun _ => fl_fX3_takeDot_41 h))
theorem fl_fX3_takeDot {σ0 : zSt} {σ : zSt} {x1 : Int32} {x2 : Int32} (h : (zQ [3, 23, 25, 27, 28, 29, 34, 42] [] [] [(38, 2, 2)]) σ0 σ) : zpc (fX3_takeDot σ x1 x2) (fun r => (zQ [3, 23, 25, 27, 28, 29, 34, 42] [] [] [(38, 2, 2)]) σ0 (r)) := by
  unfold fX3_takeDot
  exact zpc_ck (zpc_if (fun _ => fl_fX3_takeDot_18 h) (fun _ => zpc_bu (fl_fX9_mark h) (fun σ2 hσ2 => fl_fX3_takeDot_18 hσ2)))
theorem fl_fX3_drawOldSprite_224 {σ0 : zSt} {k158 : zSt → Int32 → Int32 → Int32 → Int32 → Int32 → Int32 → Option (zSt)} (hk158 : ∀ (y0 : zSt) (y1 : Int32) (y2 : Int32) (y3 : Int32) (y4 : Int32) (y5 : Int32) (y6 : Int32), (zQ [3, 23, 25, 27, 28, 29, 34, 42] [] [] [(38, 2, 2)]) σ0 y0 → zpc (k158 y0 y1 y2 y3 y4 y5 y6) (fun r => (zQ [3, 23, 25, 27, 28, 29, 34, 42] [] [] [(38, 2, 2)]) σ0 (r))) {σ : zSt} {x3 : Int32} {x4 : Int32} {x7 : Int32} {x8 : Int32} {x10 : Int32} {x11 : Int32} (h : (zQ [3, 23, 25, 27, 28, 29, 34, 42] [] [] [(38, 2, 2)]) σ0 σ) : zpc (fX3_drawOldSprite_224 k158 σ x3 x4 x7 x8 x10 x11) (fun r => (zQ [3, 23, 25, 27, 28, 29, 34, 42] [] [] [(38, 2, 2)]) σ0 (r)) := by
  unfold fX3_drawOldSprite_224
  exact zpc_bv (fun v1 _ => hk158 _ _ _ _ _ _ _ h)
theorem fl_fX3_drawOldSprite_172 {σ0 : zSt} {k158 : zSt → Int32 → Int32 → Int32 → Int32 → Int32 → Int32 → Option (zSt)} (hk158 : ∀ (y0 : zSt) (y1 : Int32) (y2 : Int32) (y3 : Int32) (y4 : Int32) (y5 : Int32) (y6 : Int32), (zQ [3, 23, 25, 27, 28, 29, 34, 42] [] [] [(38, 2, 2)]) σ0 y0 → zpc (k158 y0 y1 y2 y3 y4 y5 y6) (fun r => (zQ [3, 23, 25, 27, 28, 29, 34, 42] [] [] [(38, 2, 2)]) σ0 (r))) {σ : zSt} {x3 : Int32} {x4 : Int32} {x7 : Int32} {x8 : Int32} {x10 : Int32} {x11 : Int32} {s0 : Int32} {s1 : Int32} (h : (zQ [3, 23, 25, 27, 28, 29, 34, 42] [] [] [(38, 2, 2)]) σ0 σ) : zpc (fX3_drawOldSprite_172 k158 σ x3 x4 x7 x8 x10 x11 s0 s1) (fun r => (zQ [3, 23, 25, 27, 28, 29, 34, 42] [] [] [(38, 2, 2)]) σ0 (r)) := by
  unfold fX3_drawOldSprite_172
  exact zpc_if (fun _ => zpc_some h) (fun _ => zpc_bv (fun v2 _ => zpc_if (fun _ => fl_fX3_drawOldSprite_224 hk158 h) (fun _ => zpc_if (fun _ => fl_fX3_drawOldSprite_224 hk158 h) (fun _ => zpc_if (fun _ => fl_fX3_drawOldSprite_224 hk158 h) (fun _ => zpc_bu (fl_fX3_takeDot h) (fun σ3 hσ3 => fl_fX3_drawOldSprite_224 hk158 hσ3))))))
theorem fl_fX3_drawOldSprite_158_body {σ0 : zSt} {k158 : zSt → Int32 → Int32 → Int32 → Int32 → Int32 → Int32 → Option (zSt)} (hk158 : ∀ (y0 : zSt) (y1 : Int32) (y2 : Int32) (y3 : Int32) (y4 : Int32) (y5 : Int32) (y6 : Int32), (zQ [3, 23, 25, 27, 28, 29, 34, 42] [] [] [(38, 2, 2)]) σ0 y0 → zpc (k158 y0 y1 y2 y3 y4 y5 y6) (fun r => (zQ [3, 23, 25, 27, 28, 29, 34, 42] [] [] [(38, 2, 2)]) σ0 (r))) {σ : zSt} {x3 : Int32} {x4 : Int32} {x7 : Int32} {x8 : Int32} {x10 : Int32} {x11 : Int32} (h : (zQ [3, 23, 25, 27, 28, 29, 34, 42] [] [] [(38, 2, 2)]) σ0 σ) : zpc (fX3_drawOldSprite_158_body k158 σ x3 x4 x7 x8 x10 x11) (fun r => (zQ [3, 23, 25, 27, 28, 29, 34, 42] [] [] [(38, 2, 2)]) σ0 (r)) := by
  unfold fX3_drawOldSprite_158_body
  exact zpc_if (fun _ => fl_fX3_drawOldSprite_172 hk158 h) (fun _ => fl_fX3_drawOldSprite_172 hk158 h)
theorem fl_fX3_drawOldSprite_158 {σ0 : zSt} : ∀ (n : Nat) (y0 : zSt) (y1 : Int32) (y2 : Int32) (y3 : Int32) (y4 : Int32) (y5 : Int32) (y6 : Int32), (zQ [3, 23, 25, 27, 28, 29, 34, 42] [] [] [(38, 2, 2)]) σ0 y0 → zpc (fX3_drawOldSprite_158 n y0 y1 y2 y3 y4 y5 y6) (fun r => (zQ [3, 23, 25, 27, 28, 29, 34, 42] [] [] [(38, 2, 2)]) σ0 (r)) := by
  intro n
  induction n with
  | zero => intro y0 y1 y2 y3 y4 y5 y6 h; exact zpc_none
  | succ n ih => intro y0 y1 y2 y3 y4 y5 y6 h; exact fl_fX3_drawOldSprite_158_body ih h
theorem fl_fX3_drawOldSprite_152 {σ0 : zSt} {σ : zSt} {x3 : Int32} {x4 : Int32} {x7 : Int32} {x8 : Int32} {s0 : Int32} {s1 : Int32} (h : (zQ [3, 23, 25, 27, 28, 29, 34, 42] [] [] [(38, 2, 2)]) σ0 σ) : zpc (fX3_drawOldSprite_152 σ x3 x4 x7 x8 s0 s1) (fun r => (zQ [3, 23, 25, 27, 28, 29, 34, 42] [] [] [(38, 2, 2)]) σ0 (r)) := by
  unfold fX3_drawOldSprite_152
  exact zpc_bv (fun v4 _ => fl_fX3_drawOldSprite_158 _ _ _ _ _ _ _ _ h)
theorem fl_fX3_drawOldSprite_113 {σ0 : zSt} {σ : zSt} {x2 : Int32} {x3 : Int32} {x4 : Int32} {x7 : Int32} {x8 : Int32} {s0 : Int32} {s1 : Int32} {s2 : Int32} (h : (zQ [3, 23, 25, 27, 28, 29, 34, 42] [] [] [(38, 2, 2)]) σ0 σ) : zpc (fX3_drawOldSprite_113 σ x2 x3 x4 x7 x8 s0 s1 s2) (fun r => (zQ [3, 23, 25, 27, 28, 29, 34, 42] [] [] [(38, 2, 2)]) σ0 (r)) := by
  unfold fX3_drawOldSprite_113
  exact zpc_bv (fun v5 _ => zpc_bi (fl_fX9_vramByte h) (fun σ6 v7 hσ6 => zpc_if (fun _ => fl_fX3_drawOldSprite_152 hσ6) (fun _ => zpc_bi (fl_fX9_vramByte hσ6) (fun σ8 v9 hσ8 => fl_fX3_drawOldSprite_152 hσ8))))
theorem fl_fX3_drawOldSprite_78 {σ0 : zSt} {σ : zSt} {x2 : Int32} {x3 : Int32} {x4 : Int32} {x5 : Int32} {x7 : Int32} {s0 : Int32} (h : (zQ [3, 23, 25, 27, 28, 29, 34, 42] [] [] [(38, 2, 2)]) σ0 σ) : zpc (fX3_drawOldSprite_78 σ x2 x3 x4 x5 x7 s0) (fun r => (zQ [3, 23, 25, 27, 28, 29, 34, 42] [] [] [(38, 2, 2)]) σ0 (r)) := by
  unfold fX3_drawOldSprite_78
  exact zpc_bi (fl_fX9_held h) (fun σ10 v11 hσ10 => zpc_if (fun _ => fl_fX3_drawOldSprite_113 hσ10) (fun _ => fl_fX3_drawOldSprite_113 hσ10))
theorem fl_fX3_drawOldSprite_35 {σ0 : zSt} {σ : zSt} {x1 : Int32} {x2 : Int32} {x3 : Int32} {s0 : Int32} {s1 : Int32} (h : (zQ [3, 23, 25, 27, 28, 29, 34, 42] [] [] [(38, 2, 2)]) σ0 σ) : zpc (fX3_drawOldSprite_35 σ x1 x2 x3 s0 s1) (fun r => (zQ [3, 23, 25, 27, 28, 29, 34, 42] [] [] [(38, 2, 2)]) σ0 (r)) := by
  unfold fX3_drawOldSprite_35
  exact zpc_bv (fun v12 _ => zpc_bi (fl_fX9_vramByte h) (fun σ13 v14 hσ13 => zpc_bi (fl_fX9_held hσ13) (fun σ15 v16 hσ15 => zpc_bv (fun v17 _ => zpc_if (fun _ => fl_fX3_drawOldSprite_78 hσ15) (fun _ => fl_fX3_drawOldSprite_78 hσ15)))))
theorem fl_fX3_drawOldSprite {σ0 : zSt} {σ : zSt} {x1 : Int32} {x2 : Int32} (h : (zQ [3, 23, 25, 27, 28, 29, 34, 42] [] [] [(38, 2, 2)]) σ0 σ) : zpc (fX3_drawOldSprite σ x1 x2) (fun r => (zQ [3, 23, 25, 27, 28, 29, 34, 42] [] [] [(38, 2, 2)]) σ0 (r)) := by
  unfold fX3_drawOldSprite
  exact zpc_bi (fl_fX9_vramByte h) (fun σ18 v19 hσ18 => zpc_bi (fl_fX9_vramByte hσ18) (fun σ20 v21 hσ20 => zpc_if (fun _ => fl_fX3_drawOldSprite_35 hσ20) (fun _ => fl_fX3_drawOldSprite_35 hσ20)))
theorem fl_fX3_drawOldSprites_155 {σ0 : zSt} {k117 : zSt → Int32 → Option (zSt)} (hk117 : ∀ (y0 : zSt) (y1 : Int32), (zQ [3, 23, 25, 27, 28, 29, 34, 42] [] [] [(38, 2, 2)]) σ0 y0 → zpc (k117 y0 y1) (fun r => (zQ [3, 23, 25, 27, 28, 29, 34, 42] [] [] [(38, 2, 2)]) σ0 (r))) {σ : zSt} {x4 : Int32} (h : (zQ [3, 23, 25, 27, 28, 29, 34, 42] [] [] [(38, 2, 2)]) σ0 σ) : zpc (fX3_drawOldSprites_155 k117 σ x4) (fun r => (zQ [3, 23, 25, 27, 28, 29, 34, 42] [] [] [(38, 2, 2)]) σ0 (r)) := by
  unfold fX3_drawOldSprites_155
  exact zpc_bv (fun v1 _ => hk117 _ _ h)
theorem fl_fX3_drawOldSprites_117_body {σ0 : zSt} {k117 : zSt → Int32 → Option (zSt)} (hk117 : ∀ (y0 : zSt) (y1 : Int32), (zQ [3, 23, 25, 27, 28, 29, 34, 42] [] [] [(38, 2, 2)]) σ0 y0 → zpc (k117 y0 y1) (fun r => (zQ [3, 23, 25, 27, 28, 29, 34, 42] [] [] [(38, 2, 2)]) σ0 (r))) {σ : zSt} {x4 : Int32} (h : (zQ [3, 23, 25, 27, 28, 29, 34, 42] [] [] [(38, 2, 2)]) σ0 σ) : zpc (fX3_drawOldSprites_117_body k117 σ x4) (fun r => (zQ [3, 23, 25, 27, 28, 29, 34, 42] [] [] [(38, 2, 2)]) σ0 (r)) := by
  unfold fX3_drawOldSprites_117_body
  exact zpc_if (fun _ => zpc_some h) (fun _ => zpc_ck (zpc_if (fun _ => fl_fX3_drawOldSprites_155 hk117 h) (fun _ => zpc_ck (zpc_ck (zpc_bs (zQ.wi h rfl) (fun σ2 hσ2 => fl_fX3_drawOldSprites_155 hk117 hσ2))))))
theorem fl_fX3_drawOldSprites_117 {σ0 : zSt} : ∀ (n : Nat) (y0 : zSt) (y1 : Int32), (zQ [3, 23, 25, 27, 28, 29, 34, 42] [] [] [(38, 2, 2)]) σ0 y0 → zpc (fX3_drawOldSprites_117 n y0 y1) (fun r => (zQ [3, 23, 25, 27, 28, 29, 34, 42] [] [] [(38, 2, 2)]) σ0 (r)) := by
  intro n
  induction n with
  | zero => intro y0 y1 h; exact zpc_none
  | succ n ih => intro y0 y1 h; exact fl_fX3_drawOldSprites_117_body ih h
theorem fl_fX3_drawOldSprites_114 {σ0 : zSt} {σ : zSt} (h : (zQ [3, 23, 25, 27, 28, 29, 34, 42] [] [] [(38, 2, 2)]) σ0 σ) : zpc (fX3_drawOldSprites_114 σ) (fun r => (zQ [3, 23, 25, 27, 28, 29, 34, 42] [] [] [(38, 2, 2)]) σ0 (r)) := by
  unfold fX3_drawOldSprites_114
  exact fl_fX3_drawOldSprites_117 _ _ _ h
theorem fl_fX3_drawOldSprites_108 {σ0 : zSt} {k29 : zSt → Int32 → Int32 → Int32 → Int32 → Option (zSt)} (hk29 : ∀ (y0 : zSt) (y1 : Int32) (y2 : Int32) (y3 : Int32) (y4 : Int32), (zQ [3, 23, 25, 27, 28, 29, 34, 42] [] [] [(38, 2, 2)]) σ0 y0 → zpc (k29 y0 y1 y2 y3 y4) (fun r => (zQ [3, 23, 25, 27, 28, 29, 34, 42] [] [] [(38, 2, 2)]) σ0 (r))) {σ : zSt} {x1 : Int32} {x2 : Int32} {x3 : Int32} {x4 : Int32} (h : (zQ [3, 23, 25, 27, 28, 29, 34, 42] [] [] [(38, 2, 2)]) σ0 σ) : zpc (fX3_drawOldSprites_108 k29 σ x1 x2 x3 x4) (fun r => (zQ [3, 23, 25, 27, 28, 29, 34, 42] [] [] [(38, 2, 2)]) σ0 (r)) := by
  unfold fX3_drawOldSprites_108
  exact zpc_bv (fun v3 _ => hk29 _ _ _ _ _ h)
theorem fl_fX3_drawOldSprites_29_body {σ0 : zSt} {k29 : zSt → Int32 → Int32 → Int32 → Int32 → Option (zSt)} (hk29 : ∀ (y0 : zSt) (y1 : Int32) (y2 : Int32) (y3 : Int32) (y4 : Int32), (zQ [3, 23, 25, 27, 28, 29, 34, 42] [] [] [(38, 2, 2)]) σ0 y0 → zpc (k29 y0 y1 y2 y3 y4) (fun r => (zQ [3, 23, 25, 27, 28, 29, 34, 42] [] [] [(38, 2, 2)]) σ0 (r))) {σ : zSt} {x1 : Int32} {x2 : Int32} {x3 : Int32} {x4 : Int32} (h : (zQ [3, 23, 25, 27, 28, 29, 34, 42] [] [] [(38, 2, 2)]) σ0 σ) : zpc (fX3_drawOldSprites_29_body k29 σ x1 x2 x3 x4) (fun r => (zQ [3, 23, 25, 27, 28, 29, 34, 42] [] [] [(38, 2, 2)]) σ0 (r)) := by
  unfold fX3_drawOldSprites_29_body
  exact zpc_if (fun _ => fl_fX3_drawOldSprites_114 h) (fun _ => zpc_bv (fun v4 _ => zpc_bi (fl_fX9_vramByte h) (fun σ5 v6 hσ5 => zpc_if (fun _ => fl_fX3_drawOldSprites_114 hσ5) (fun _ => zpc_bi (fl_fX3_rowOfSprite hσ5) (fun σ7 v8 hσ7 => zpc_if (fun _ => fl_fX3_drawOldSprites_108 hk29 hσ7) (fun _ => zpc_bv (fun v9 _ => zpc_if (fun _ => zpc_bu (fl_fX3_drawOldSprite hσ7) (fun σ10 hσ10 => fl_fX3_drawOldSprites_108 hk29 hσ10)) (fun _ => zpc_bu (fl_fX9_markFifth hσ7) (fun σ11 hσ11 => fl_fX3_drawOldSprites_114 hσ11)))))))))
theorem fl_fX3_drawOldSprites_29 {σ0 : zSt} : ∀ (n : Nat) (y0 : zSt) (y1 : Int32) (y2 : Int32) (y3 : Int32) (y4 : Int32), (zQ [3, 23, 25, 27, 28, 29, 34, 42] [] [] [(38, 2, 2)]) σ0 y0 → zpc (fX3_drawOldSprites_29 n y0 y1 y2 y3 y4) (fun r => (zQ [3, 23, 25, 27, 28, 29, 34, 42] [] [] [(38, 2, 2)]) σ0 (r)) := by
  intro n
  induction n with
  | zero => intro y0 y1 y2 y3 y4 h; exact zpc_none
  | succ n ih => intro y0 y1 y2 y3 y4 h; exact fl_fX3_drawOldSprites_29_body ih h
theorem fl_fX3_drawOldSprites {σ0 : zSt} {σ : zSt} {x1 : Int32} (h : (zQ [3, 23, 25, 27, 28, 29, 34, 42] [] [] [(38, 2, 2)]) σ0 σ) : zpc (fX3_drawOldSprites σ x1) (fun r => (zQ [3, 23, 25, 27, 28, 29, 34, 42] [] [] [(38, 2, 2)]) σ0 (r)) := by
  unfold fX3_drawOldSprites
  exact zpc_bu (fl_fJ7_fill_53178_k28 h) (fun σ12 hσ12 => zpc_bi (fl_fX9_held hσ12) (fun σ13 v14 hσ13 => zpc_bv (fun v15 _ => fl_fX3_drawOldSprites_29 _ _ _ _ _ _ hσ13)))
theorem fl_fX3_fillBack_25 {σ0 : zSt} {k2 : zSt → Int32 → Int32 → Option (zSt)} (hk2 : ∀ (y0 : zSt) (y1 : Int32) (y2 : Int32), (zQ [3, 23, 25, 27, 28, 29, 34, 42] [] [] [(38, 2, 2)]) σ0 y0 → zpc (k2 y0 y1 y2) (fun r => (zQ [3, 23, 25, 27, 28, 29, 34, 42] [] [] [(38, 2, 2)]) σ0 (r))) {σ : zSt} {x1 : Int32} {x2 : Int32} (h : (zQ [3, 23, 25, 27, 28, 29, 34, 42] [] [] [(38, 2, 2)]) σ0 σ) : zpc (fX3_fillBack_25 k2 σ x1 x2) (fun r => (zQ [3, 23, 25, 27, 28, 29, 34, 42] [] [] [(38, 2, 2)]) σ0 (r)) := by
  unfold fX3_fillBack_25
  exact zpc_bv (fun v1 _ => hk2 _ _ _ h)
theorem fl_fX3_fillBack_2_body {σ0 : zSt} {k2 : zSt → Int32 → Int32 → Option (zSt)} (hk2 : ∀ (y0 : zSt) (y1 : Int32) (y2 : Int32), (zQ [3, 23, 25, 27, 28, 29, 34, 42] [] [] [(38, 2, 2)]) σ0 y0 → zpc (k2 y0 y1 y2) (fun r => (zQ [3, 23, 25, 27, 28, 29, 34, 42] [] [] [(38, 2, 2)]) σ0 (r))) {σ : zSt} {x1 : Int32} {x2 : Int32} (h : (zQ [3, 23, 25, 27, 28, 29, 34, 42] [] [] [(38, 2, 2)]) σ0 σ) : zpc (fX3_fillBack_2_body k2 σ x1 x2) (fun r => (zQ [3, 23, 25, 27, 28, 29, 34, 42] [] [] [(38, 2, 2)]) σ0 (r)) := by
  unfold fX3_fillBack_2_body
  exact zpc_if (fun _ => zpc_some h) (fun _ => zpc_ck (zpc_if (fun _ => zpc_ck (zpc_bs (zQ.wi h rfl) (fun σ2 hσ2 => fl_fX3_fillBack_25 hk2 hσ2))) (fun _ => fl_fX3_fillBack_25 hk2 h)))
theorem fl_fX3_fillBack_2 {σ0 : zSt} : ∀ (n : Nat) (y0 : zSt) (y1 : Int32) (y2 : Int32), (zQ [3, 23, 25, 27, 28, 29, 34, 42] [] [] [(38, 2, 2)]) σ0 y0 → zpc (fX3_fillBack_2 n y0 y1 y2) (fun r => (zQ [3, 23, 25, 27, 28, 29, 34, 42] [] [] [(38, 2, 2)]) σ0 (r)) := by
  intro n
  induction n with
  | zero => intro y0 y1 y2 h; exact zpc_none
  | succ n ih => intro y0 y1 y2 h; exact fl_fX3_fillBack_2_body ih h
theorem fl_fX3_fillBack {σ0 : zSt} {σ : zSt} {x1 : Int32} (h : (zQ [3, 23, 25, 27, 28, 29, 34, 42] [] [] [(38, 2, 2)]) σ0 σ) : zpc (fX3_fillBack σ x1) (fun r => (zQ [3, 23, 25, 27, 28, 29, 34, 42] [] [] [(38, 2, 2)]) σ0 (r)) := by
  unfold fX3_fillBack
  exact fl_fX3_fillBack_2 _ _ _ _ h
theorem fl_fX3_draw_21 {σ0 : zSt} {σ : zSt} (h : (zQ [3, 23, 25, 27, 28, 29, 34, 42] [] [] [(38, 2, 2)]) σ0 σ) : zpc (fX3_draw_21 σ) (fun r => (zQ [3, 23, 25, 27, 28, 29, 34, 42] [] [] [(38, 2, 2)]) σ0 (r)) := by
  unfold fX3_draw_21
  exact zpc_some h
theorem fl_fX3_draw_152_body {σ0 : zSt} {k152 : zSt → Int32 → Int32 → Option (zSt)} (hk152 : ∀ (y0 : zSt) (y1 : Int32) (y2 : Int32), (zQ [3, 23, 25, 27, 28, 29, 34, 42] [] [] [(38, 2, 2)]) σ0 y0 → zpc (k152 y0 y1 y2) (fun r => (zQ [3, 23, 25, 27, 28, 29, 34, 42] [] [] [(38, 2, 2)]) σ0 (r))) {σ : zSt} {x1 : Int32} {x4 : Int32} (h : (zQ [3, 23, 25, 27, 28, 29, 34, 42] [] [] [(38, 2, 2)]) σ0 σ) : zpc (fX3_draw_152_body k152 σ x1 x4) (fun r => (zQ [3, 23, 25, 27, 28, 29, 34, 42] [] [] [(38, 2, 2)]) σ0 (r)) := by
  unfold fX3_draw_152_body
  exact zpc_if (fun _ => zpc_some h) (fun _ => zpc_ck (zpc_ck (zpc_ck (zpc_bs (zQ.wi h rfl) (fun σ1 hσ1 => zpc_bv (fun v2 _ => hk152 _ _ _ hσ1))))))
theorem fl_fX3_draw_152 {σ0 : zSt} : ∀ (n : Nat) (y0 : zSt) (y1 : Int32) (y2 : Int32), (zQ [3, 23, 25, 27, 28, 29, 34, 42] [] [] [(38, 2, 2)]) σ0 y0 → zpc (fX3_draw_152 n y0 y1 y2) (fun r => (zQ [3, 23, 25, 27, 28, 29, 34, 42] [] [] [(38, 2, 2)]) σ0 (r)) := by
  intro n
  induction n with
  | zero => intro y0 y1 y2 h; exact zpc_none
  | succ n ih => intro y0 y1 y2 h; exact fl_fX3_draw_152_body ih h
theorem fl_fX3_draw_144 {σ0 : zSt} {σ : zSt} {x1 : Int32} {x2 : Int32} (h : (zQ [3, 23, 25, 27, 28, 29, 34, 42] [] [] [(38, 2, 2)]) σ0 σ) : zpc (fX3_draw_144 σ x1 x2) (fun r => (zQ [3, 23, 25, 27, 28, 29, 34, 42] [] [] [(38, 2, 2)]) σ0 (r)) := by
  unfold fX3_draw_144
  exact zpc_bu (fl_fX3_mixColours h) (fun σ3 hσ3 => fl_fX3_draw_152 _ _ _ _ hσ3)
theorem fl_fX3_draw_139 {σ0 : zSt} {σ : zSt} {x1 : Int32} {x2 : Int32} {x3 : Int32} (h : (zQ [3, 23, 25, 27, 28, 29, 34, 42] [] [] [(38, 2, 2)]) σ0 σ) : zpc (fX3_draw_139 σ x1 x2 x3) (fun r => (zQ [3, 23, 25, 27, 28, 29, 34, 42] [] [] [(38, 2, 2)]) σ0 (r)) := by
  unfold fX3_draw_139
  exact zpc_bu (fl_fX3_fillBack h) (fun σ4 hσ4 => fl_fX3_draw_144 hσ4)
theorem fl_fX3_draw_41 {σ0 : zSt} {σ : zSt} {x1 : Int32} {x2 : Int32} {s0 : Int32} (h : (zQ [3, 23, 25, 27, 28, 29, 34, 42] [] [] [(38, 2, 2)]) σ0 σ) : zpc (fX3_draw_41 σ x1 x2 s0) (fun r => (zQ [3, 23, 25, 27, 28, 29, 34, 42] [] [] [(38, 2, 2)]) σ0 (r)) := by
  unfold fX3_draw_41
  exact zpc_bi (fl_fX9_held h) (fun σ5 v6 hσ5 => zpc_bv (fun v7 _ => zpc_bi (fl_fX9_held hσ5) (fun σ8 v9 hσ8 => zpc_if (fun _ => zpc_bu (fl_fJ7_fill_53178_k27 hσ8) (fun σ17 hσ17 => fl_fX3_draw_144 hσ17)) (fun _ => zpc_if (fun _ => zpc_bu (fl_fX3_drawTiles hσ8) (fun σ12 hσ12 => zpc_bu (fl_fX3_drawSprites hσ12) (fun σ13 hσ13 => zpc_bi (fl_fX9_held hσ13) (fun σ14 v15 hσ14 => zpc_if (fun _ => fl_fX3_draw_144 hσ14) (fun _ => zpc_bu (fl_fJ7_fill_fda19_k27 hσ14) (fun σ16 hσ16 => fl_fX3_draw_144 hσ16)))))) (fun _ => zpc_bu (fl_fX3_drawOld hσ8) (fun σ10 hσ10 => zpc_if (fun _ => fl_fX3_draw_139 hσ10) (fun _ => zpc_bu (fl_fX3_drawOldSprites hσ10) (fun σ11 hσ11 => fl_fX3_draw_139 hσ11))))))))
theorem fl_fX3_draw {σ0 : zSt} {σ : zSt} (h : (zQ [3, 23, 25, 27, 28, 29, 34, 42] [] [] [(38, 2, 2)]) σ0 σ) : zpc (fX3_draw σ) (fun r => (zQ [3, 23, 25, 27, 28, 29, 34, 42] [] [] [(38, 2, 2)]) σ0 (r)) := by
  unfold fX3_draw
  exact zpc_bi (fl_fX9_held h) (fun σ18 v19 hσ18 => zpc_if (fun _ => fl_fX3_draw_21 hσ18) (fun _ => zpc_if (fun _ => zpc_bi (fl_fX9_mode hσ18) (fun σ20 v21 hσ20 => zpc_if (fun _ => fl_fX3_draw_41 hσ20) (fun _ => fl_fX3_draw_41 hσ20))) (fun _ => fl_fX3_draw_21 hσ18)))
theorem fl_fX9_goesToNextLine_159 {σ0 : zSt} {σ : zSt} {x2 : Int32} (h : (zQ [3, 23, 25, 27, 28, 29, 34, 42] [] [] [(38, 2, 2)]) σ0 σ) : zpc (fX9_goesToNextLine_159 σ x2) (fun r => (zQ [3, 23, 25, 27, 28, 29, 34, 42] [] [] [(38, 2, 2)]) σ0 (r.1)) := by
  unfold fX9_goesToNextLine_159
  exact zpc_ck (zpc_some h)
theorem fl_fX9_goesToNextLine_133 {σ0 : zSt} {σ : zSt} {x1 : Int32} {x2 : Int32} (h : (zQ [3, 23, 25, 27, 28, 29, 34, 42] [] [] [(38, 2, 2)]) σ0 σ) : zpc (fX9_goesToNextLine_133 σ x1 x2) (fun r => (zQ [3, 23, 25, 27, 28, 29, 34, 42] [] [] [(38, 2, 2)]) σ0 (r.1)) := by
  unfold fX9_goesToNextLine_133
  exact zpc_ck (zpc_if (fun _ => zpc_ck (zpc_ck (zpc_bs (zQ.wi h rfl) (fun σ1 hσ1 => fl_fX9_goesToNextLine_159 hσ1)))) (fun _ => fl_fX9_goesToNextLine_159 h))
theorem fl_fX9_goesToNextLine_106 {σ0 : zSt} {σ : zSt} {x1 : Int32} {s0 : Int32} (h : (zQ [3, 23, 25, 27, 28, 29, 34, 42] [] [] [(38, 2, 2)]) σ0 σ) : zpc (fX9_goesToNextLine_106 σ x1 s0) (fun r => (zQ [3, 23, 25, 27, 28, 29, 34, 42] [] [] [(38, 2, 2)]) σ0 (r.1)) := by
  unfold fX9_goesToNextLine_106
  exact zpc_if (fun _ => fl_fX9_goesToNextLine_133 h) (fun _ => zpc_ck (zpc_bs (zQ.wi h rfl) (fun σ2 hσ2 => zpc_ck (zpc_ck (zpc_bs (zQ.wi hσ2 rfl) (fun σ3 hσ3 => fl_fX9_goesToNextLine_133 hσ3))))))
theorem fl_fX9_goesToNextLine_76 {σ0 : zSt} {σ : zSt} {x1 : Int32} (h : (zQ [3, 23, 25, 27, 28, 29, 34, 42] [] [] [(38, 2, 2)]) σ0 σ) : zpc (fX9_goesToNextLine_76 σ x1) (fun r => (zQ [3, 23, 25, 27, 28, 29, 34, 42] [] [] [(38, 2, 2)]) σ0 (r.1)) := by
  unfold fX9_goesToNextLine_76
  exact zpc_ck (zpc_ck (zpc_bs (zQ.wi h rfl) (fun σ4 hσ4 => zpc_ck (zpc_if (fun _ => fl_fX9_goesToNextLine_106 hσ4) (fun _ => fl_fX9_goesToNextLine_106 hσ4)))))
theorem fl_fX9_goesToNextLine {σ0 : zSt} {σ : zSt} (h : (zQ [3, 23, 25, 27, 28, 29, 34, 42] [] [] [(38, 2, 2)]) σ0 σ) : zpc (fX9_goesToNextLine σ) (fun r => (zQ [3, 23, 25, 27, 28, 29, 34, 42] [] [] [(38, 2, 2)]) σ0 (r.1)) := by
  unfold fX9_goesToNextLine
  exact zpc_bi (fl_fX9_height h) (fun σ5 v6 hσ5 => zpc_ck (zpc_if (fun _ => zpc_ck (zpc_ck (zpc_bs (zQ.wi hσ5 rfl) (fun σ7 hσ7 => zpc_ck (zpc_if (fun _ => fl_fX9_goesToNextLine_76 hσ7) (fun _ => zpc_ck (zpc_ck (zpc_bs (zQ.wi hσ7 rfl) (fun σ8 hσ8 => zpc_ck (zpc_bs (zQ.wi hσ8 rfl) (fun σ9 hσ9 => fl_fX9_goesToNextLine_76 hσ9))))))))))) (fun _ => zpc_ck (zpc_ck (zpc_bs (zQ.wi hσ5 rfl) (fun σ10 hσ10 => fl_fX9_goesToNextLine_76 hσ10))))))
theorem fl_fX11_endLine_62 {σ0 : zSt} {σ : zSt} (h : (zQ [3, 23, 25, 27, 28, 29, 34, 42] [] [] [(38, 2, 2)]) σ0 σ) : zpc (fX11_endLine_62 σ) (fun r => (zQ [3, 23, 25, 27, 28, 29, 34, 42] [] [] [(38, 2, 2)]) σ0 (r)) := by
  unfold fX11_endLine_62
  exact zpc_some h
theorem fl_fX11_endLine_26 {σ0 : zSt} {σ : zSt} (h : (zQ [3, 23, 25, 27, 28, 29, 34, 42] [] [] [(38, 2, 2)]) σ0 σ) : zpc (fX11_endLine_26 σ) (fun r => (zQ [3, 23, 25, 27, 28, 29, 34, 42] [] [] [(38, 2, 2)]) σ0 (r)) := by
  unfold fX11_endLine_26
  exact zpc_bi (fl_fX9_goesToNextLine h) (fun σ1 v2 hσ1 => zpc_if (fun _ => fl_fX11_endLine_62 hσ1) (fun _ => zpc_bu (fl_fX0_countPicture hσ1) (fun σ3 hσ3 => zpc_bll (fl_fX0_count hσ3) (fun σ4 v5 hσ4 => zpc_bu (fl_fX1_carryOutPlans hσ4) (fun σ6 hσ6 => fl_fX11_endLine_62 hσ6)))))
theorem fl_fX11_endLine {σ0 : zSt} {σ : zSt} (h : (zQ [3, 23, 25, 27, 28, 29, 34, 42] [] [] [(38, 2, 2)]) σ0 σ) : zpc (fX11_endLine σ) (fun r => (zQ [3, 23, 25, 27, 28, 29, 34, 42] [] [] [(38, 2, 2)]) σ0 (r)) := by
  unfold fX11_endLine
  exact zpc_bi (fl_fX9_held h) (fun σ7 v8 hσ7 => zpc_bi (fl_fX9_height hσ7) (fun σ9 v10 hσ9 => zpc_if (fun _ => fl_fX11_endLine_26 hσ9) (fun _ => zpc_bu (fl_fX3_draw hσ9) (fun σ11 hσ11 => fl_fX11_endLine_26 hσ11))))
theorem fb_fX10_takeOwnPatch_7_body {σ0 : zSt} {k7 : zSt → Int32 → Option (zSt)} (hk7 : ∀ (y0 : zSt) (y1 : Int32), (zQ [5] [(32, 65, 67), (32, 128, 271)] [5] []) σ0 y0 → zpc (k7 y0 y1) (fun r => (zQ [5] [(32, 65, 67), (32, 128, 271)] [5] []) σ0 (r))) {σ : zSt} {x1 : Int32} (h : (zQ [5] [(32, 65, 67), (32, 128, 271)] [5] []) σ0 σ) : zpc (fX10_takeOwnPatch_7_body k7 σ x1) (fun r => (zQ [5] [(32, 65, 67), (32, 128, 271)] [5] []) σ0 (r)) := by
  unfold fX10_takeOwnPatch_7_body
  exact zpc_if (fun _ => zpc_some h) (fun _ => zpc_ck (zpc_bs (zQ.wl h rfl) (fun σ1 hσ1 => zpc_bv (fun v2 _ => hk7 _ _ hσ1))))
theorem fb_fX10_takeOwnPatch_7 {σ0 : zSt} : ∀ (n : Nat) (y0 : zSt) (y1 : Int32), (zQ [5] [(32, 65, 67), (32, 128, 271)] [5] []) σ0 y0 → zpc (fX10_takeOwnPatch_7 n y0 y1) (fun r => (zQ [5] [(32, 65, 67), (32, 128, 271)] [5] []) σ0 (r)) := by
  intro n
  induction n with
  | zero => intro y0 y1 h; exact zpc_none
  | succ n ih => intro y0 y1 h; exact fb_fX10_takeOwnPatch_7_body ih h
theorem fb_fX10_takeOwnPatch {σ0 : zSt} {σ : zSt} (h : (zQ [5] [(32, 65, 67), (32, 128, 271)] [5] []) σ0 σ) : zpc (fX10_takeOwnPatch σ) (fun r => (zQ [5] [(32, 65, 67), (32, 128, 271)] [5] []) σ0 (r)) := by
  unfold fX10_takeOwnPatch
  exact zpc_bs (zQ.wl h rfl) (fun σ3 hσ3 => fb_fX10_takeOwnPatch_7 _ _ _ hσ3)
theorem fb_fX10_takeChannel_110 {σ0 : zSt} {σ : zSt} {s0 : Int64} (h : (zQ [5] [(32, 65, 67), (32, 128, 271)] [5] []) σ0 σ) : zpc (fX10_takeChannel_110 σ s0) (fun r => (zQ [5] [(32, 65, 67), (32, 128, 271)] [5] []) σ0 (r)) := by
  unfold fX10_takeChannel_110
  exact zpc_bs (zQ.wl h rfl) (fun σ1 hσ1 => zpc_some hσ1)
theorem fb_fX10_takeChannel_106 {σ0 : zSt} {σ : zSt} (h : (zQ [5] [(32, 65, 67), (32, 128, 271)] [5] []) σ0 σ) : zpc (fX10_takeChannel_106 σ) (fun r => (zQ [5] [(32, 65, 67), (32, 128, 271)] [5] []) σ0 (r)) := by
  unfold fX10_takeChannel_106
  exact fb_fX10_takeChannel_110 h
theorem fb_fX10_takeChannel_82 {σ0 : zSt} {σ : zSt} {s0 : Int32} (h : (zQ [5] [(32, 65, 67), (32, 128, 271)] [5] []) σ0 σ) : zpc (fX10_takeChannel_82 σ s0) (fun r => (zQ [5] [(32, 65, 67), (32, 128, 271)] [5] []) σ0 (r)) := by
  unfold fX10_takeChannel_82
  exact zpc_if (fun _ => fb_fX10_takeChannel_106 h) (fun _ => zpc_if (fun _ => fb_fX10_takeChannel_106 h) (fun _ => zpc_ck (fb_fX10_takeChannel_110 h)))
theorem fb_fX10_takeChannel_71 {σ0 : zSt} {σ : zSt} {x1 : Int32} (h : (zQ [5] [(32, 65, 67), (32, 128, 271)] [5] []) σ0 σ) : zpc (fX10_takeChannel_71 σ x1) (fun r => (zQ [5] [(32, 65, 67), (32, 128, 271)] [5] []) σ0 (r)) := by
  unfold fX10_takeChannel_71
  exact zpc_ck (fb_fX10_takeChannel_82 h)
theorem fb_fX10_takeChannel {σ0 : zSt} {σ : zSt} {x1 : Int32} (h : (zQ [5] [(32, 65, 67), (32, 128, 271)] [5] []) σ0 σ) : zpc (fX10_takeChannel σ x1) (fun r => (zQ [5] [(32, 65, 67), (32, 128, 271)] [5] []) σ0 (r)) := by
  unfold fX10_takeChannel
  exact zpc_bs (zQ.wi h rfl) (fun σ2 hσ2 => zpc_ck (zpc_ck (zpc_bs (zQ.wi hσ2 rfl) (fun σ3 hσ3 => zpc_ck (zpc_bs (zQ.wi hσ3 rfl) (fun σ4 hσ4 => zpc_if (fun _ => fb_fX10_takeChannel_71 hσ4) (fun _ => zpc_if (fun _ => fb_fX10_takeChannel_71 hσ4) (fun _ => fb_fX10_takeChannel_82 hσ4))))))))
theorem fb_fX10_isOn_131 {σ0 : zSt} {σ : zSt} {s0 : Int32} (h : (zQ [5] [(32, 65, 67), (32, 128, 271)] [5] []) σ0 σ) : zpc (fX10_isOn_131 σ s0) (fun r => (zQ [5] [(32, 65, 67), (32, 128, 271)] [5] []) σ0 (r.1)) := by
  unfold fX10_isOn_131
  exact zpc_ck (zpc_some h)
theorem fb_fX10_isOn_122 {σ0 : zSt} {σ : zSt} {s0 : Int32} {s1 : Int32} (h : (zQ [5] [(32, 65, 67), (32, 128, 271)] [5] []) σ0 σ) : zpc (fX10_isOn_122 σ s0 s1) (fun r => (zQ [5] [(32, 65, 67), (32, 128, 271)] [5] []) σ0 (r.1)) := by
  unfold fX10_isOn_122
  exact zpc_if (fun _ => fb_fX10_isOn_131 h) (fun _ => fb_fX10_isOn_131 h)
theorem fb_fX10_isOn_105 {σ0 : zSt} {σ : zSt} {s0 : Int32} (h : (zQ [5] [(32, 65, 67), (32, 128, 271)] [5] []) σ0 σ) : zpc (fX10_isOn_105 σ s0) (fun r => (zQ [5] [(32, 65, 67), (32, 128, 271)] [5] []) σ0 (r.1)) := by
  unfold fX10_isOn_105
  exact zpc_ck (zpc_some h)
theorem fb_fX10_isOn_96 {σ0 : zSt} {σ : zSt} {s0 : Int32} {s1 : Int32} (h : (zQ [5] [(32, 65, 67), (32, 128, 271)] [5] []) σ0 σ) : zpc (fX10_isOn_96 σ s0 s1) (fun r => (zQ [5] [(32, 65, 67), (32, 128, 271)] [5] []) σ0 (r.1)) := by
  unfold fX10_isOn_96
  exact zpc_if (fun _ => fb_fX10_isOn_105 h) (fun _ => fb_fX10_isOn_105 h)
theorem fb_fX10_isOn_78 {σ0 : zSt} {σ : zSt} {s0 : Int32} (h : (zQ [5] [(32, 65, 67), (32, 128, 271)] [5] []) σ0 σ) : zpc (fX10_isOn_78 σ s0) (fun r => (zQ [5] [(32, 65, 67), (32, 128, 271)] [5] []) σ0 (r.1)) := by
  unfold fX10_isOn_78
  exact zpc_ck (zpc_some h)
theorem fb_fX10_isOn {σ0 : zSt} {σ : zSt} {x1 : Int32} (h : (zQ [5] [(32, 65, 67), (32, 128, 271)] [5] []) σ0 σ) : zpc (fX10_isOn σ x1) (fun r => (zQ [5] [(32, 65, 67), (32, 128, 271)] [5] []) σ0 (r.1)) := by
  unfold fX10_isOn
  exact zpc_ck (zpc_if (fun _ => zpc_if (fun _ => zpc_ck (zpc_some h)) (fun _ => zpc_if (fun _ => zpc_ck (zpc_if (fun _ => fb_fX10_isOn_78 h) (fun _ => fb_fX10_isOn_78 h))) (fun _ => zpc_if (fun _ => zpc_ck (zpc_if (fun _ => fb_fX10_isOn_96 h) (fun _ => fb_fX10_isOn_96 h))) (fun _ => zpc_if (fun _ => zpc_ck (zpc_if (fun _ => fb_fX10_isOn_122 h) (fun _ => fb_fX10_isOn_122 h))) (fun _ => zpc_ck (zpc_some h)))))) (fun _ => zpc_ck (zpc_some h)))
theorem fb_fX10_part {σ0 : zSt} {σ : zSt} {x1 : Int32} (h : (zQ [5] [(32, 65, 67), (32, 128, 271)] [5] []) σ0 σ) : zpc (fX10_part σ x1) (fun r => (zQ [5] [(32, 65, 67), (32, 128, 271)] [5] []) σ0 (r.1)) := by
  unfold fX10_part
  exact zpc_some h
theorem fb_fX10_rateIn_126 {σ0 : zSt} {σ : zSt} {s0 : Int32} (h : (zQ [5] [(32, 65, 67), (32, 128, 271)] [5] []) σ0 σ) : zpc (fX10_rateIn_126 σ s0) (fun r => (zQ [5] [(32, 65, 67), (32, 128, 271)] [5] []) σ0 (r.1)) := by
  unfold fX10_rateIn_126
  exact zpc_some h
theorem fb_fX10_rateIn_94 {σ0 : zSt} {σ : zSt} {s0 : Int32} (h : (zQ [5] [(32, 65, 67), (32, 128, 271)] [5] []) σ0 σ) : zpc (fX10_rateIn_94 σ s0) (fun r => (zQ [5] [(32, 65, 67), (32, 128, 271)] [5] []) σ0 (r.1)) := by
  unfold fX10_rateIn_94
  exact zpc_some h
theorem fb_fX10_rateIn_16 {σ0 : zSt} {σ : zSt} {x1 : Int32} {x2 : Int32} {s0 : Int32} (h : (zQ [5] [(32, 65, 67), (32, 128, 271)] [5] []) σ0 σ) : zpc (fX10_rateIn_16 σ x1 x2 s0) (fun r => (zQ [5] [(32, 65, 67), (32, 128, 271)] [5] []) σ0 (r.1)) := by
  unfold fX10_rateIn_16
  exact zpc_bi (fb_fX10_part h) (fun σ1 v2 hσ1 => zpc_bv (fun v3 _ => zpc_if (fun _ => zpc_some hσ1) (fun _ => zpc_if (fun _ => zpc_bi (fb_fX10_part hσ1) (fun σ4 v5 hσ4 => zpc_some hσ4)) (fun _ => zpc_if (fun _ => zpc_bi (fb_fX10_part hσ1) (fun σ6 v7 hσ6 => zpc_some hσ6)) (fun _ => zpc_if (fun _ => zpc_if (fun _ => fb_fX10_rateIn_94 hσ1) (fun _ => fb_fX10_rateIn_94 hσ1)) (fun _ => zpc_ck (zpc_if (fun _ => zpc_if (fun _ => fb_fX10_rateIn_126 hσ1) (fun _ => fb_fX10_rateIn_126 hσ1)) (fun _ => zpc_some hσ1))))))))
theorem fb_fX10_rateIn {σ0 : zSt} {σ : zSt} {x1 : Int32} {x2 : Int32} (h : (zQ [5] [(32, 65, 67), (32, 128, 271)] [5] []) σ0 σ) : zpc (fX10_rateIn σ x1 x2) (fun r => (zQ [5] [(32, 65, 67), (32, 128, 271)] [5] []) σ0 (r.1)) := by
  unfold fX10_rateIn
  exact zpc_bi (fb_fX10_part h) (fun σ8 v9 hσ8 => zpc_if (fun _ => fb_fX10_rateIn_16 hσ8) (fun _ => fb_fX10_rateIn_16 hσ8))
theorem fb_fX10_slowTick {σ0 : zSt} {σ : zSt} (h : (zQ [5] [(32, 65, 67), (32, 128, 271)] [5] []) σ0 σ) : zpc (fX10_slowTick σ) (fun r => (zQ [5] [(32, 65, 67), (32, 128, 271)] [5] []) σ0 (r.1)) := by
  unfold fX10_slowTick
  exact zpc_ck (zpc_some h)
theorem fb_fX10_tickAt_53 {σ0 : zSt} {σ : zSt} {s0 : Int32} (h : (zQ [5] [(32, 65, 67), (32, 128, 271)] [5] []) σ0 σ) : zpc (fX10_tickAt_53 σ s0) (fun r => (zQ [5] [(32, 65, 67), (32, 128, 271)] [5] []) σ0 (r.1)) := by
  unfold fX10_tickAt_53
  exact zpc_some h
theorem fb_fX10_tickAt_26 {σ0 : zSt} {σ : zSt} {x2 : Int32} {x3 : Int32} {s0 : Int32} (h : (zQ [5] [(32, 65, 67), (32, 128, 271)] [5] []) σ0 σ) : zpc (fX10_tickAt_26 σ x2 x3 s0) (fun r => (zQ [5] [(32, 65, 67), (32, 128, 271)] [5] []) σ0 (r.1)) := by
  unfold fX10_tickAt_26
  exact zpc_if (fun _ => fb_fX10_tickAt_53 h) (fun _ => zpc_ck (fb_fX10_tickAt_53 h))
theorem fb_fX10_tickAt {σ0 : zSt} {σ : zSt} {x1 : Int32} {x2 : Int32} (h : (zQ [5] [(32, 65, 67), (32, 128, 271)] [5] []) σ0 σ) : zpc (fX10_tickAt σ x1 x2) (fun r => (zQ [5] [(32, 65, 67), (32, 128, 271)] [5] []) σ0 (r.1)) := by
  unfold fX10_tickAt
  exact zpc_bv (fun v1 _ => zpc_ck (zpc_if (fun _ => fb_fX10_tickAt_26 h) (fun _ => fb_fX10_tickAt_26 h)))
theorem fb_fX10_louder_56 {σ0 : zSt} {σ : zSt} {s0 : Int32} (h : (zQ [5] [(32, 65, 67), (32, 128, 271)] [5] []) σ0 σ) : zpc (fX10_louder_56 σ s0) (fun r => (zQ [5] [(32, 65, 67), (32, 128, 271)] [5] []) σ0 (r.1)) := by
  unfold fX10_louder_56
  exact zpc_some h
theorem fb_fX10_louder {σ0 : zSt} {σ : zSt} {x1 : Int32} {x2 : Int32} {x3 : Int32} (h : (zQ [5] [(32, 65, 67), (32, 128, 271)] [5] []) σ0 σ) : zpc (fX10_louder σ x1 x2 x3) (fun r => (zQ [5] [(32, 65, 67), (32, 128, 271)] [5] []) σ0 (r.1)) := by
  unfold fX10_louder
  exact zpc_if (fun _ => zpc_some h) (fun _ => zpc_if (fun _ => zpc_bi (fb_fX10_tickAt h) (fun σ1 v2 hσ1 => zpc_if (fun _ => zpc_ck (fb_fX10_louder_56 hσ1)) (fun _ => fb_fX10_louder_56 hσ1))) (fun _ => zpc_bi (fb_fX10_slowTick h) (fun σ3 v4 hσ3 => zpc_some hσ3)))
theorem fb_fX10_softer {σ0 : zSt} {σ : zSt} {x1 : Int32} {x2 : Int32} (h : (zQ [5] [(32, 65, 67), (32, 128, 271)] [5] []) σ0 σ) : zpc (fX10_softer σ x1 x2) (fun r => (zQ [5] [(32, 65, 67), (32, 128, 271)] [5] []) σ0 (r.1)) := by
  unfold fX10_softer
  exact zpc_if (fun _ => zpc_bi (fb_fX10_slowTick h) (fun σ1 v2 hσ1 => zpc_ck (zpc_some hσ1))) (fun _ => zpc_if (fun _ => zpc_bi (fb_fX10_slowTick h) (fun σ3 v4 hσ3 => zpc_some hσ3)) (fun _ => zpc_if (fun _ => zpc_some h) (fun _ => zpc_bi (fb_fX10_tickAt h) (fun σ5 v6 hσ5 => zpc_some hσ5))))
theorem fb_fX10_moveLevel_148 {σ0 : zSt} {σ : zSt} (h : (zQ [5] [(32, 65, 67), (32, 128, 271)] [5] []) σ0 σ) : zpc (fX10_moveLevel_148 σ) (fun r => (zQ [5] [(32, 65, 67), (32, 128, 271)] [5] []) σ0 (r)) := by
  unfold fX10_moveLevel_148
  exact zpc_some h
theorem fb_fX10_moveLevel_52 {σ0 : zSt} {σ : zSt} {x1 : Int32} {x3 : Int32} {x4 : Int32} (h : (zQ [5] [(32, 65, 67), (32, 128, 271)] [5] []) σ0 σ) (qx1 : zr 128 264 x1) : zpc (fX10_moveLevel_52 σ x1 x3 x4) (fun r => (zQ [5] [(32, 65, 67), (32, 128, 271)] [5] []) σ0 (r)) := by
  unfold fX10_moveLevel_52
  exact zpc_ck (zpc_bv (fun v1 _ => zpc_ck (zpc_bv (fun v2 _ => zpc_ck (zpc_if (fun _ => zpc_ck (zpc_bi (fb_fX10_louder h) (fun σ6 v7 hσ6 => zpc_ck (zpc_bs (zQ.wr (a := 128) (b := 271) (lo := 128) (hi := 264) hσ6 (zr_add (lo := 128) (hi := 264) qx1 (zr_c (x := 0) (lo := 0) (hi := 0) (by decide)) (by decide)) rfl (by decide)) (fun σ8 hσ8 => fb_fX10_moveLevel_148 hσ8))))) (fun _ => zpc_ck (zpc_bi (fb_fX10_softer h) (fun σ3 v4 hσ3 => zpc_ck (zpc_bs (zQ.wr (a := 128) (b := 271) (lo := 128) (hi := 264) hσ3 (zr_add (lo := 128) (hi := 264) qx1 (zr_c (x := 0) (lo := 0) (hi := 0) (by decide)) (by decide)) rfl (by decide)) (fun σ5 hσ5 => fb_fX10_moveLevel_148 hσ5))))))))))
theorem fb_fX10_moveLevel {σ0 : zSt} {σ : zSt} {x1 : Int32} {x2 : Int32} (h : (zQ [5] [(32, 65, 67), (32, 128, 271)] [5] []) σ0 σ) (qx1 : zr 128 264 x1) : zpc (fX10_moveLevel σ x1 x2) (fun r => (zQ [5] [(32, 65, 67), (32, 128, 271)] [5] []) σ0 (r)) := by
  unfold fX10_moveLevel
  exact zpc_ck (zpc_bi (fb_fX10_rateIn h) (fun σ9 v10 hσ9 => zpc_if (fun _ => zpc_some hσ9) (fun _ => zpc_bv (fun v11 _ => zpc_bi (fb_fX10_part hσ9) (fun σ12 v13 hσ12 => zpc_if (fun _ => zpc_ck (zpc_bv (fun v14 _ => fb_fX10_moveLevel_52 hσ12 qx1))) (fun _ => fb_fX10_moveLevel_52 hσ12 qx1))))))
theorem fb_fX10_moveState_96 {σ0 : zSt} {σ : zSt} (h : (zQ [5] [(32, 65, 67), (32, 128, 271)] [5] []) σ0 σ) : zpc (fX10_moveState_96 σ) (fun r => (zQ [5] [(32, 65, 67), (32, 128, 271)] [5] []) σ0 (r)) := by
  unfold fX10_moveState_96
  exact zpc_some h
theorem fb_fX10_moveState_73 {σ0 : zSt} {σ : zSt} {x1 : Int32} {x2 : Int32} {x3 : Int32} {x4 : Int32} (h : (zQ [5] [(32, 65, 67), (32, 128, 271)] [5] []) σ0 σ) (qx1 : zr 128 264 x1) : zpc (fX10_moveState_73 σ x1 x2 x3 x4) (fun r => (zQ [5] [(32, 65, 67), (32, 128, 271)] [5] []) σ0 (r)) := by
  unfold fX10_moveState_73
  exact zpc_if (fun _ => zpc_ck (zpc_if (fun _ => fb_fX10_moveState_96 h) (fun _ => zpc_ck (zpc_bs (zQ.wr (a := 128) (b := 271) (lo := 129) (hi := 265) h (zr_add (lo := 129) (hi := 265) qx1 (zr_c (x := 1) (lo := 1) (hi := 1) (by decide)) (by decide)) rfl (by decide)) (fun σ1 hσ1 => fb_fX10_moveState_96 hσ1))))) (fun _ => fb_fX10_moveState_96 h)
theorem fb_fX10_moveState_51 {σ0 : zSt} {σ : zSt} {x1 : Int32} {x2 : Int32} {x3 : Int32} {x4 : Int32} (h : (zQ [5] [(32, 65, 67), (32, 128, 271)] [5] []) σ0 σ) (qx1 : zr 128 264 x1) : zpc (fX10_moveState_51 σ x1 x2 x3 x4) (fun r => (zQ [5] [(32, 65, 67), (32, 128, 271)] [5] []) σ0 (r)) := by
  unfold fX10_moveState_51
  exact zpc_if (fun _ => zpc_if (fun _ => zpc_ck (zpc_bs (zQ.wr (a := 128) (b := 271) (lo := 129) (hi := 265) h (zr_add (lo := 129) (hi := 265) qx1 (zr_c (x := 1) (lo := 1) (hi := 1) (by decide)) (by decide)) rfl (by decide)) (fun σ2 hσ2 => fb_fX10_moveState_96 hσ2))) (fun _ => fb_fX10_moveState_73 h qx1)) (fun _ => fb_fX10_moveState_73 h qx1)
theorem fb_fX10_moveState {σ0 : zSt} {σ : zSt} {x1 : Int32} {x2 : Int32} (h : (zQ [5] [(32, 65, 67), (32, 128, 271)] [5] []) σ0 σ) (qx1 : zr 128 264 x1) : zpc (fX10_moveState σ x1 x2) (fun r => (zQ [5] [(32, 65, 67), (32, 128, 271)] [5] []) σ0 (r)) := by
  unfold fX10_moveState
  exact zpc_ck (zpc_bv (fun v3 _ => zpc_ck (zpc_bv (fun v4 _ => zpc_if (fun _ => zpc_if (fun _ => fb_fX10_moveState_51 h qx1) (fun _ => zpc_ck (zpc_bs (zQ.wr (a := 128) (b := 271) (lo := 129) (hi := 265) h (zr_add (lo := 129) (hi := 265) qx1 (zr_c (x := 1) (lo := 1) (hi := 1) (by decide)) (by decide)) rfl (by decide)) (fun σ5 hσ5 => zpc_ck (zpc_bs (zQ.wr (a := 128) (b := 271) (lo := 130) (hi := 266) hσ5 (zr_add (lo := 130) (hi := 266) qx1 (zr_c (x := 2) (lo := 2) (hi := 2) (by decide)) (by decide)) rfl (by decide)) (fun σ6 hσ6 => fb_fX10_moveState_96 hσ6)))))) (fun _ => fb_fX10_moveState_51 h qx1)))))
theorem fb_fX10_sway_56 {σ0 : zSt} {σ : zSt} {x1 : Int32} (h : (zQ [5] [(32, 65, 67), (32, 128, 271)] [5] []) σ0 σ) : zpc (fX10_sway_56 σ x1) (fun r => (zQ [5] [(32, 65, 67), (32, 128, 271)] [5] []) σ0 (r.1)) := by
  unfold fX10_sway_56
  exact zpc_ck (zpc_some h)
theorem fb_fX10_sway_70 {σ0 : zSt} {σ : zSt} (h : (zQ [5] [(32, 65, 67), (32, 128, 271)] [5] []) σ0 σ) : zpc (fX10_sway_70 σ) (fun r => (zQ [5] [(32, 65, 67), (32, 128, 271)] [5] []) σ0 (r.1)) := by
  unfold fX10_sway_70
  exact zpc_some h
theorem fb_fX10_sway_62 {σ0 : zSt} {σ : zSt} {x1 : Int32} (h : (zQ [5] [(32, 65, 67), (32, 128, 271)] [5] []) σ0 σ) : zpc (fX10_sway_62 σ x1) (fun r => (zQ [5] [(32, 65, 67), (32, 128, 271)] [5] []) σ0 (r.1)) := by
  unfold fX10_sway_62
  exact zpc_ck (zpc_some h)
theorem fb_fX10_sway {σ0 : zSt} {σ : zSt} {x1 : Int32} (h : (zQ [5] [(32, 65, 67), (32, 128, 271)] [5] []) σ0 σ) : zpc (fX10_sway σ x1) (fun r => (zQ [5] [(32, 65, 67), (32, 128, 271)] [5] []) σ0 (r.1)) := by
  unfold fX10_sway
  exact zpc_ck (zpc_if (fun _ => fb_fX10_sway_56 h) (fun _ => zpc_if (fun _ => zpc_some h) (fun _ => zpc_if (fun _ => fb_fX10_sway_56 h) (fun _ => zpc_if (fun _ => fb_fX10_sway_70 h) (fun _ => zpc_if (fun _ => fb_fX10_sway_62 h) (fun _ => zpc_if (fun _ => zpc_some h) (fun _ => zpc_if (fun _ => fb_fX10_sway_62 h) (fun _ => fb_fX10_sway_70 h))))))))
theorem fb_fX10_movePhase_22 {σ0 : zSt} {σ : zSt} {x1 : Int32} {x2 : Int32} {s0 : Int32} (h : (zQ [5] [(32, 65, 67), (32, 128, 271)] [5] []) σ0 σ) (qx1 : zr 128 264 x1) : zpc (fX10_movePhase_22 σ x1 x2 s0) (fun r => (zQ [5] [(32, 65, 67), (32, 128, 271)] [5] []) σ0 (r)) := by
  unfold fX10_movePhase_22
  exact zpc_ck (zpc_ck (zpc_bv (fun v1 _ => zpc_ck (zpc_ck (zpc_bs (zQ.wr (a := 128) (b := 271) (lo := 130) (hi := 266) h (zr_add (lo := 130) (hi := 266) qx1 (zr_c (x := 2) (lo := 2) (hi := 2) (by decide)) (by decide)) rfl (by decide)) (fun σ2 hσ2 => zpc_some hσ2))))))
theorem fb_fX10_movePhase {σ0 : zSt} {σ : zSt} {x1 : Int32} {x2 : Int32} (h : (zQ [5] [(32, 65, 67), (32, 128, 271)] [5] []) σ0 σ) (qx1 : zr 128 264 x1) : zpc (fX10_movePhase σ x1 x2) (fun r => (zQ [5] [(32, 65, 67), (32, 128, 271)] [5] []) σ0 (r)) := by
  unfold fX10_movePhase
  exact zpc_if (fun _ => fb_fX10_movePhase_22 h qx1) (fun _ => zpc_ck (zpc_bi (fb_fX10_sway h) (fun σ3 v4 hσ3 => fb_fX10_movePhase_22 hσ3 qx1)))
theorem fb_fX10_drumPhase_115 {σ0 : zSt} {σ : zSt} {s0 : Int32} (h : (zQ [5] [(32, 65, 67), (32, 128, 271)] [5] []) σ0 σ) : zpc (fX10_drumPhase_115 σ s0) (fun r => (zQ [5] [(32, 65, 67), (32, 128, 271)] [5] []) σ0 (r.1)) := by
  unfold fX10_drumPhase_115
  exact zpc_some h
theorem fb_fX10_drumPhase_155 {σ0 : zSt} {σ : zSt} {s0 : Int32} (h : (zQ [5] [(32, 65, 67), (32, 128, 271)] [5] []) σ0 σ) : zpc (fX10_drumPhase_155 σ s0) (fun r => (zQ [5] [(32, 65, 67), (32, 128, 271)] [5] []) σ0 (r.1)) := by
  unfold fX10_drumPhase_155
  exact zpc_some h
theorem fb_fX10_drumPhase_193 {σ0 : zSt} {σ : zSt} {s0 : Int32} (h : (zQ [5] [(32, 65, 67), (32, 128, 271)] [5] []) σ0 σ) : zpc (fX10_drumPhase_193 σ s0) (fun r => (zQ [5] [(32, 65, 67), (32, 128, 271)] [5] []) σ0 (r.1)) := by
  unfold fX10_drumPhase_193
  exact zpc_some h
theorem fb_fX10_drumPhase_82 {σ0 : zSt} {σ : zSt} {x1 : Int32} {x2 : Int32} {x5 : Int32} {s0 : Int32} (h : (zQ [5] [(32, 65, 67), (32, 128, 271)] [5] []) σ0 σ) : zpc (fX10_drumPhase_82 σ x1 x2 x5 s0) (fun r => (zQ [5] [(32, 65, 67), (32, 128, 271)] [5] []) σ0 (r.1)) := by
  unfold fX10_drumPhase_82
  exact zpc_if (fun _ => zpc_if (fun _ => fb_fX10_drumPhase_115 h) (fun _ => zpc_if (fun _ => fb_fX10_drumPhase_115 h) (fun _ => fb_fX10_drumPhase_115 h))) (fun _ => zpc_if (fun _ => zpc_if (fun _ => zpc_if (fun _ => fb_fX10_drumPhase_155 h) (fun _ => fb_fX10_drumPhase_155 h)) (fun _ => zpc_if (fun _ => fb_fX10_drumPhase_155 h) (fun _ => fb_fX10_drumPhase_155 h))) (fun _ => zpc_if (fun _ => zpc_if (fun _ => fb_fX10_drumPhase_193 h) (fun _ => fb_fX10_drumPhase_193 h)) (fun _ => zpc_if (fun _ => fb_fX10_drumPhase_193 h) (fun _ => fb_fX10_drumPhase_193 h))))
theorem fb_fX10_drumPhase_62 {σ0 : zSt} {σ : zSt} {x1 : Int32} {x2 : Int32} {s0 : Int32} (h : (zQ [5] [(32, 65, 67), (32, 128, 271)] [5] []) σ0 σ) : zpc (fX10_drumPhase_62 σ x1 x2 s0) (fun r => (zQ [5] [(32, 65, 67), (32, 128, 271)] [5] []) σ0 (r.1)) := by
  unfold fX10_drumPhase_62
  exact zpc_ck (zpc_if (fun _ => fb_fX10_drumPhase_82 h) (fun _ => fb_fX10_drumPhase_82 h))
theorem fb_fX10_drumPhase {σ0 : zSt} {σ : zSt} {x1 : Int32} {x2 : Int32} (h : (zQ [5] [(32, 65, 67), (32, 128, 271)] [5] []) σ0 σ) : zpc (fX10_drumPhase σ x1 x2) (fun r => (zQ [5] [(32, 65, 67), (32, 128, 271)] [5] []) σ0 (r.1)) := by
  unfold fX10_drumPhase
  exact zpc_ck (zpc_bv (fun v1 _ => zpc_ck (zpc_bv (fun v2 _ => zpc_if (fun _ => fb_fX10_drumPhase_62 h) (fun _ => fb_fX10_drumPhase_62 h)))))
theorem fb_fX10_turnedPhase_98 {σ0 : zSt} {σ : zSt} {s0 : Int32} (h : (zQ [5] [(32, 65, 67), (32, 128, 271)] [5] []) σ0 σ) : zpc (fX10_turnedPhase_98 σ s0) (fun r => (zQ [5] [(32, 65, 67), (32, 128, 271)] [5] []) σ0 (r.1)) := by
  unfold fX10_turnedPhase_98
  exact zpc_some h
theorem fb_fX10_turnedPhase_35 {σ0 : zSt} {σ : zSt} {x1 : Int32} {x2 : Int32} {x3 : Int32} (h : (zQ [5] [(32, 65, 67), (32, 128, 271)] [5] []) σ0 σ) : zpc (fX10_turnedPhase_35 σ x1 x2 x3) (fun r => (zQ [5] [(32, 65, 67), (32, 128, 271)] [5] []) σ0 (r.1)) := by
  unfold fX10_turnedPhase_35
  exact zpc_if (fun _ => zpc_ck (zpc_some h)) (fun _ => zpc_bi (fb_fX10_part h) (fun σ1 v2 hσ1 => zpc_bv (fun v3 _ => zpc_if (fun _ => fb_fX10_turnedPhase_98 hσ1) (fun _ => zpc_ck (zpc_ck (fb_fX10_turnedPhase_98 hσ1))))))
theorem fb_fX10_turnedPhase {σ0 : zSt} {σ : zSt} {x1 : Int32} {x2 : Int32} (h : (zQ [5] [(32, 65, 67), (32, 128, 271)] [5] []) σ0 σ) : zpc (fX10_turnedPhase σ x1 x2) (fun r => (zQ [5] [(32, 65, 67), (32, 128, 271)] [5] []) σ0 (r.1)) := by
  unfold fX10_turnedPhase
  exact zpc_ck (zpc_bv (fun v4 _ => zpc_if (fun _ => fb_fX10_turnedPhase_35 h) (fun _ => zpc_if (fun _ => fb_fX10_turnedPhase_35 h) (fun _ => zpc_bi (fb_fX10_drumPhase h) (fun σ5 v6 hσ5 => zpc_some hσ5)))))
theorem fb_fX10_scaled_44 {σ0 : zSt} {σ : zSt} {s0 : Int32} (h : (zQ [5] [(32, 65, 67), (32, 128, 271)] [5] []) σ0 σ) : zpc (fX10_scaled_44 σ s0) (fun r => (zQ [5] [(32, 65, 67), (32, 128, 271)] [5] []) σ0 (r.1)) := by
  unfold fX10_scaled_44
  exact zpc_some h
theorem fb_fX10_scaled {σ0 : zSt} {σ : zSt} {x1 : Int32} (h : (zQ [5] [(32, 65, 67), (32, 128, 271)] [5] []) σ0 σ) : zpc (fX10_scaled σ x1) (fun r => (zQ [5] [(32, 65, 67), (32, 128, 271)] [5] []) σ0 (r.1)) := by
  unfold fX10_scaled
  exact zpc_if (fun _ => zpc_some h) (fun _ => zpc_ck (zpc_bv (fun v1 _ => zpc_if (fun _ => fb_fX10_scaled_44 h) (fun _ => fb_fX10_scaled_44 h))))
theorem fb_fX10_tremble_30 {σ0 : zSt} {σ : zSt} {s0 : Int32} (h : (zQ [5] [(32, 65, 67), (32, 128, 271)] [5] []) σ0 σ) : zpc (fX10_tremble_30 σ s0) (fun r => (zQ [5] [(32, 65, 67), (32, 128, 271)] [5] []) σ0 (r.1)) := by
  unfold fX10_tremble_30
  exact zpc_ck (zpc_some h)
theorem fb_fX10_tremble {σ0 : zSt} {σ : zSt} (h : (zQ [5] [(32, 65, 67), (32, 128, 271)] [5] []) σ0 σ) : zpc (fX10_tremble σ) (fun r => (zQ [5] [(32, 65, 67), (32, 128, 271)] [5] []) σ0 (r.1)) := by
  unfold fX10_tremble
  exact zpc_ck (zpc_ck (zpc_ck (zpc_bv (fun v1 _ => zpc_if (fun _ => fb_fX10_tremble_30 h) (fun _ => fb_fX10_tremble_30 h)))))
theorem fb_fX10_softness_124 {σ0 : zSt} {σ : zSt} {x4 : Int32} (h : (zQ [5] [(32, 65, 67), (32, 128, 271)] [5] []) σ0 σ) : zpc (fX10_softness_124 σ x4) (fun r => (zQ [5] [(32, 65, 67), (32, 128, 271)] [5] []) σ0 (r.1)) := by
  unfold fX10_softness_124
  exact zpc_some h
theorem fb_fX10_softness_103 {σ0 : zSt} {σ : zSt} {x2 : Int32} {x4 : Int32} (h : (zQ [5] [(32, 65, 67), (32, 128, 271)] [5] []) σ0 σ) : zpc (fX10_softness_103 σ x2 x4) (fun r => (zQ [5] [(32, 65, 67), (32, 128, 271)] [5] []) σ0 (r.1)) := by
  unfold fX10_softness_103
  exact zpc_bi (fb_fX10_part h) (fun σ1 v2 hσ1 => zpc_if (fun _ => fb_fX10_softness_124 hσ1) (fun _ => zpc_bi (fb_fX10_tremble hσ1) (fun σ3 v4 hσ3 => zpc_bv (fun v5 _ => fb_fX10_softness_124 hσ3))))
theorem fb_fX10_softness_88 {σ0 : zSt} {σ : zSt} {x2 : Int32} {x4 : Int32} (h : (zQ [5] [(32, 65, 67), (32, 128, 271)] [5] []) σ0 σ) : zpc (fX10_softness_88 σ x2 x4) (fun r => (zQ [5] [(32, 65, 67), (32, 128, 271)] [5] []) σ0 (r.1)) := by
  unfold fX10_softness_88
  exact zpc_bi (fb_fX10_part h) (fun σ6 v7 hσ6 => zpc_bv (fun v8 _ => fb_fX10_softness_103 hσ6))
theorem fb_fX10_softness {σ0 : zSt} {σ : zSt} {x1 : Int32} {x2 : Int32} (h : (zQ [5] [(32, 65, 67), (32, 128, 271)] [5] []) σ0 σ) : zpc (fX10_softness σ x1 x2) (fun r => (zQ [5] [(32, 65, 67), (32, 128, 271)] [5] []) σ0 (r.1)) := by
  unfold fX10_softness
  exact zpc_ck (zpc_bv (fun v9 _ => zpc_ck (zpc_bi (fb_fX10_part h) (fun σ10 v11 hσ10 => zpc_bi (fb_fX10_scaled hσ10) (fun σ12 v13 hσ12 => zpc_bv (fun v14 _ => zpc_if (fun _ => zpc_bv (fun v16 _ => fb_fX10_softness_103 hσ12)) (fun _ => zpc_if (fun _ => fb_fX10_softness_88 hσ12) (fun _ => zpc_if (fun _ => fb_fX10_softness_88 hσ12) (fun _ => zpc_bv (fun v15 _ => fb_fX10_softness_103 hσ12))))))))))
theorem fb_fX10_waveAt_104 {σ0 : zSt} {σ : zSt} {s0 : Int32} (h : (zQ [5] [(32, 65, 67), (32, 128, 271)] [5] []) σ0 σ) : zpc (fX10_waveAt_104 σ s0) (fun r => (zQ [5] [(32, 65, 67), (32, 128, 271)] [5] []) σ0 (r.1)) := by
  unfold fX10_waveAt_104
  exact zpc_some h
theorem fb_fX10_waveAt_49 {σ0 : zSt} {σ : zSt} {x1 : Int32} {x3 : Int32} {s0 : Int32} (h : (zQ [5] [(32, 65, 67), (32, 128, 271)] [5] []) σ0 σ) : zpc (fX10_waveAt_49 σ x1 x3 s0) (fun r => (zQ [5] [(32, 65, 67), (32, 128, 271)] [5] []) σ0 (r.1)) := by
  unfold fX10_waveAt_49
  exact zpc_ck (zpc_bv (fun v1 _ => zpc_ck (zpc_bv (fun v2 _ => zpc_if (fun _ => fb_fX10_waveAt_104 h) (fun _ => fb_fX10_waveAt_104 h)))))
theorem fb_fX10_waveAt_24 {σ0 : zSt} {σ : zSt} {x0 : Int32} {x1 : Int32} {x3 : Int32} (h : (zQ [5] [(32, 65, 67), (32, 128, 271)] [5] []) σ0 σ) : zpc (fX10_waveAt_24 σ x0 x1 x3) (fun r => (zQ [5] [(32, 65, 67), (32, 128, 271)] [5] []) σ0 (r.1)) := by
  unfold fX10_waveAt_24
  exact zpc_if (fun _ => fb_fX10_waveAt_49 h) (fun _ => fb_fX10_waveAt_49 h)
theorem fb_fX10_waveAt_13 {σ0 : zSt} {σ : zSt} {x0 : Int32} {x1 : Int32} {x2 : Int32} {s0 : Int32} (h : (zQ [5] [(32, 65, 67), (32, 128, 271)] [5] []) σ0 σ) : zpc (fX10_waveAt_13 σ x0 x1 x2 s0) (fun r => (zQ [5] [(32, 65, 67), (32, 128, 271)] [5] []) σ0 (r.1)) := by
  unfold fX10_waveAt_13
  exact zpc_if (fun _ => fb_fX10_waveAt_24 h) (fun _ => zpc_if (fun _ => fb_fX10_waveAt_24 h) (fun _ => zpc_some h))
theorem fb_fX10_waveAt {σ0 : zSt} {σ : zSt} {x0 : Int32} {x1 : Int32} {x2 : Int32} (h : (zQ [5] [(32, 65, 67), (32, 128, 271)] [5] []) σ0 σ) : zpc (fX10_waveAt σ x0 x1 x2) (fun r => (zQ [5] [(32, 65, 67), (32, 128, 271)] [5] []) σ0 (r.1)) := by
  unfold fX10_waveAt
  exact zpc_if (fun _ => fb_fX10_waveAt_13 h) (fun _ => fb_fX10_waveAt_13 h)
theorem fb_fX10_moveOut_55 {σ0 : zSt} {σ : zSt} {x1 : Int32} {x3 : Int32} (h : (zQ [5] [(32, 65, 67), (32, 128, 271)] [5] []) σ0 σ) (qx1 : zr 128 264 x1) : zpc (fX10_moveOut_55 σ x1 x3) (fun r => (zQ [5] [(32, 65, 67), (32, 128, 271)] [5] []) σ0 (r)) := by
  unfold fX10_moveOut_55
  exact zpc_ck (zpc_ck (zpc_bs (zQ.wr (a := 128) (b := 271) (lo := 132) (hi := 268) h (zr_add (lo := 132) (hi := 268) qx1 (zr_c (x := 4) (lo := 4) (hi := 4) (by decide)) (by decide)) rfl (by decide)) (fun σ1 hσ1 => zpc_ck (zpc_bs (zQ.wr (a := 128) (b := 271) (lo := 131) (hi := 267) hσ1 (zr_add (lo := 131) (hi := 267) qx1 (zr_c (x := 3) (lo := 3) (hi := 3) (by decide)) (by decide)) rfl (by decide)) (fun σ2 hσ2 => zpc_some hσ2)))))
theorem fb_fX10_moveOut_51 {σ0 : zSt} {σ : zSt} {x1 : Int32} {s0 : Int32} {s1 : Int32} {s2 : Int32} (h : (zQ [5] [(32, 65, 67), (32, 128, 271)] [5] []) σ0 σ) (qx1 : zr 128 264 x1) : zpc (fX10_moveOut_51 σ x1 s0 s1 s2) (fun r => (zQ [5] [(32, 65, 67), (32, 128, 271)] [5] []) σ0 (r)) := by
  unfold fX10_moveOut_51
  exact zpc_bi (fb_fX10_waveAt h) (fun σ3 v4 hσ3 => fb_fX10_moveOut_55 hσ3 qx1)
theorem fb_fX10_moveOut {σ0 : zSt} {σ : zSt} {x1 : Int32} {x2 : Int32} (h : (zQ [5] [(32, 65, 67), (32, 128, 271)] [5] []) σ0 σ) (qx1 : zr 128 264 x1) : zpc (fX10_moveOut σ x1 x2) (fun r => (zQ [5] [(32, 65, 67), (32, 128, 271)] [5] []) σ0 (r)) := by
  unfold fX10_moveOut
  exact zpc_ck (zpc_if (fun _ => fb_fX10_moveOut_55 h qx1) (fun _ => zpc_bi (fb_fX10_turnedPhase h) (fun σ5 v6 hσ5 => zpc_bi (fb_fX10_softness hσ5) (fun σ7 v8 hσ7 => zpc_bi (fb_fX10_part hσ7) (fun σ9 v10 hσ9 => zpc_if (fun _ => fb_fX10_moveOut_51 hσ9 qx1) (fun _ => fb_fX10_moveOut_51 hσ9 qx1))))))
theorem fb_fX10_moveOperator_99 {σ0 : zSt} {σ : zSt} {x1 : Int32} {x2 : Int32} (h : (zQ [5] [(32, 65, 67), (32, 128, 271)] [5] []) σ0 σ) (qx1 : zr 128 264 x1) : zpc (fX10_moveOperator_99 σ x1 x2) (fun r => (zQ [5] [(32, 65, 67), (32, 128, 271)] [5] []) σ0 (r)) := by
  unfold fX10_moveOperator_99
  exact zpc_bi (fb_fX10_part h) (fun σ1 v2 hσ1 => zpc_bu (fb_fX10_movePhase hσ1 qx1) (fun σ3 hσ3 => zpc_bu (fb_fX10_moveOut hσ3 qx1) (fun σ4 hσ4 => zpc_some hσ4)))
theorem fb_fX10_moveOperator_78 {σ0 : zSt} {σ : zSt} {x1 : Int32} {x2 : Int32} (h : (zQ [5] [(32, 65, 67), (32, 128, 271)] [5] []) σ0 σ) (qx1 : zr 128 264 x1) : zpc (fX10_moveOperator_78 σ x1 x2) (fun r => (zQ [5] [(32, 65, 67), (32, 128, 271)] [5] []) σ0 (r)) := by
  unfold fX10_moveOperator_78
  exact zpc_bu (fb_fX10_moveLevel h qx1) (fun σ5 hσ5 => zpc_bi (fb_fX10_part hσ5) (fun σ6 v7 hσ6 => zpc_bu (fb_fX10_moveState hσ6 qx1) (fun σ8 hσ8 => fb_fX10_moveOperator_99 hσ8 qx1)))
theorem fb_fX10_moveOperator_53 {σ0 : zSt} {σ : zSt} {x1 : Int32} {x2 : Int32} (h : (zQ [5] [(32, 65, 67), (32, 128, 271)] [5] []) σ0 σ) (qx1 : zr 128 264 x1) : zpc (fX10_moveOperator_53 σ x1 x2) (fun r => (zQ [5] [(32, 65, 67), (32, 128, 271)] [5] []) σ0 (r)) := by
  unfold fX10_moveOperator_53
  exact zpc_ck (zpc_if (fun _ => zpc_ck (zpc_if (fun _ => fb_fX10_moveOperator_99 h qx1) (fun _ => fb_fX10_moveOperator_78 h qx1))) (fun _ => fb_fX10_moveOperator_78 h qx1))
theorem fb_fX10_moveOperator_52 {σ0 : zSt} {σ : zSt} {x1 : Int32} {x2 : Int32} {s0 : Int32} {s1 : Int32} (h : (zQ [5] [(32, 65, 67), (32, 128, 271)] [5] []) σ0 σ) (qx1 : zr 128 264 x1) (qs1 : zr 129 265 s1) : zpc (fX10_moveOperator_52 σ x1 x2 s0 s1) (fun r => (zQ [5] [(32, 65, 67), (32, 128, 271)] [5] []) σ0 (r)) := by
  unfold fX10_moveOperator_52
  exact zpc_ck (zpc_bs (zQ.wr (a := 128) (b := 271) (lo := 129) (hi := 265) h qs1 rfl (by decide)) (fun σ9 hσ9 => fb_fX10_moveOperator_53 hσ9 qx1))
theorem fb_fX10_moveOperator_13 {σ0 : zSt} {σ : zSt} {x1 : Int32} {x2 : Int32} {s0 : Int32} (h : (zQ [5] [(32, 65, 67), (32, 128, 271)] [5] []) σ0 σ) (qx1 : zr 128 264 x1) : zpc (fX10_moveOperator_13 σ x1 x2 s0) (fun r => (zQ [5] [(32, 65, 67), (32, 128, 271)] [5] []) σ0 (r)) := by
  unfold fX10_moveOperator_13
  exact zpc_ck (zpc_if (fun _ => fb_fX10_moveOperator_53 h qx1) (fun _ => zpc_ck (zpc_bs (zQ.wr (a := 128) (b := 271) (lo := 133) (hi := 269) h (zr_add (lo := 133) (hi := 269) qx1 (zr_c (x := 5) (lo := 5) (hi := 5) (by decide)) (by decide)) rfl (by decide)) (fun σ10 hσ10 => zpc_if (fun _ => fb_fX10_moveOperator_52 hσ10 qx1 (zr_add (lo := 129) (hi := 265) qx1 (zr_c (x := 1) (lo := 1) (hi := 1) (by decide)) (by decide))) (fun _ => fb_fX10_moveOperator_52 hσ10 qx1 (zr_add (lo := 129) (hi := 265) qx1 (zr_c (x := 1) (lo := 1) (hi := 1) (by decide)) (by decide)))))))
theorem fb_fX10_moveOperator {σ0 : zSt} {σ : zSt} {x1 : Int32} {x2 : Int32} (h : (zQ [5] [(32, 65, 67), (32, 128, 271)] [5] []) σ0 σ) (qx1 : zr 128 264 x1) : zpc (fX10_moveOperator σ x1 x2) (fun r => (zQ [5] [(32, 65, 67), (32, 128, 271)] [5] []) σ0 (r)) := by
  unfold fX10_moveOperator
  exact zpc_bi (fb_fX10_isOn h) (fun σ11 v12 hσ11 => zpc_if (fun _ => fb_fX10_moveOperator_13 hσ11 qx1) (fun _ => fb_fX10_moveOperator_13 hσ11 qx1))
theorem fb_fX10_makeNext_136 {σ0 : zSt} {k41 : zSt → Int32 → Int32 → Option (zSt)} (hk41 : ∀ (y0 : zSt) (y1 : Int32) (y2 : Int32), (zQ [5] [(32, 65, 67), (32, 128, 271)] [5] []) σ0 y0 → zr 0 9 y2 → zpc (k41 y0 y1 y2) (fun r => (zQ [5] [(32, 65, 67), (32, 128, 271)] [5] []) σ0 (r))) {σ : zSt} {x2 : Int32} {s0 : Int32} {s1 : Int32} {s2 : Int32} (h : (zQ [5] [(32, 65, 67), (32, 128, 271)] [5] []) σ0 σ) (qx2 : zr 0 8 x2) : zpc (fX10_makeNext_136 k41 σ x2 s0 s1 s2) (fun r => (zQ [5] [(32, 65, 67), (32, 128, 271)] [5] []) σ0 (r)) := by
  unfold fX10_makeNext_136
  exact zpc_bv (fun v1 _ => zpc_bv (fun v2 ev2 => hk41 _ _ _ h (zr_w (show zr 1 9 v2 by rw [ev2]; exact (zr_add (lo := 1) (hi := 9) qx2 (zr_c (x := 1) (lo := 1) (hi := 1) (by decide)) (by decide))) (by decide))))
theorem fb_fX10_makeNext_135 {σ0 : zSt} {k41 : zSt → Int32 → Int32 → Option (zSt)} (hk41 : ∀ (y0 : zSt) (y1 : Int32) (y2 : Int32), (zQ [5] [(32, 65, 67), (32, 128, 271)] [5] []) σ0 y0 → zr 0 9 y2 → zpc (k41 y0 y1 y2) (fun r => (zQ [5] [(32, 65, 67), (32, 128, 271)] [5] []) σ0 (r))) {σ : zSt} {x2 : Int32} {s0 : Int32} {s1 : Int32} (h : (zQ [5] [(32, 65, 67), (32, 128, 271)] [5] []) σ0 σ) (qx2 : zr 0 8 x2) : zpc (fX10_makeNext_135 k41 σ x2 s0 s1) (fun r => (zQ [5] [(32, 65, 67), (32, 128, 271)] [5] []) σ0 (r)) := by
  unfold fX10_makeNext_135
  exact fb_fX10_makeNext_136 hk41 h qx2
theorem fb_fX10_makeNext_101 {σ0 : zSt} {k41 : zSt → Int32 → Int32 → Option (zSt)} (hk41 : ∀ (y0 : zSt) (y1 : Int32) (y2 : Int32), (zQ [5] [(32, 65, 67), (32, 128, 271)] [5] []) σ0 y0 → zr 0 9 y2 → zpc (k41 y0 y1 y2) (fun r => (zQ [5] [(32, 65, 67), (32, 128, 271)] [5] []) σ0 (r))) {σ : zSt} {x1 : Int32} {x2 : Int32} {x3 : Int32} {s0 : Int32} (h : (zQ [5] [(32, 65, 67), (32, 128, 271)] [5] []) σ0 σ) (qx2 : zr 0 8 x2) : zpc (fX10_makeNext_101 k41 σ x1 x2 x3 s0) (fun r => (zQ [5] [(32, 65, 67), (32, 128, 271)] [5] []) σ0 (r)) := by
  unfold fX10_makeNext_101
  exact zpc_ck (zpc_if (fun _ => fb_fX10_makeNext_135 hk41 h qx2) (fun _ => zpc_if (fun _ => fb_fX10_makeNext_135 hk41 h qx2) (fun _ => fb_fX10_makeNext_136 hk41 h qx2)))
theorem fb_fX10_makeNext_100 {σ0 : zSt} {k41 : zSt → Int32 → Int32 → Option (zSt)} (hk41 : ∀ (y0 : zSt) (y1 : Int32) (y2 : Int32), (zQ [5] [(32, 65, 67), (32, 128, 271)] [5] []) σ0 y0 → zr 0 9 y2 → zpc (k41 y0 y1 y2) (fun r => (zQ [5] [(32, 65, 67), (32, 128, 271)] [5] []) σ0 (r))) {σ : zSt} {x1 : Int32} {x2 : Int32} {x3 : Int32} (h : (zQ [5] [(32, 65, 67), (32, 128, 271)] [5] []) σ0 σ) (qx2 : zr 0 8 x2) : zpc (fX10_makeNext_100 k41 σ x1 x2 x3) (fun r => (zQ [5] [(32, 65, 67), (32, 128, 271)] [5] []) σ0 (r)) := by
  unfold fX10_makeNext_100
  exact fb_fX10_makeNext_101 hk41 h qx2
theorem fb_fX10_makeNext_174 {σ0 : zSt} {σ : zSt} {x1 : Int32} {s0 : Int32} {s1 : Int32} (h : (zQ [5] [(32, 65, 67), (32, 128, 271)] [5] []) σ0 σ) (qs1 : zr 65 65 s1) : zpc (fX10_makeNext_174 σ x1 s0 s1) (fun r => (zQ [5] [(32, 65, 67), (32, 128, 271)] [5] []) σ0 (r)) := by
  unfold fX10_makeNext_174
  exact zpc_ck (zpc_bs (zQ.wr (a := 65) (b := 67) (lo := 65) (hi := 65) h qs1 rfl (by decide)) (fun σ3 hσ3 => zpc_ck (zpc_bs (zQ.wi hσ3 rfl) (fun σ4 hσ4 => zpc_some hσ4))))
theorem fb_fX10_makeNext_41_body {σ0 : zSt} {k41 : zSt → Int32 → Int32 → Option (zSt)} (hk41 : ∀ (y0 : zSt) (y1 : Int32) (y2 : Int32), (zQ [5] [(32, 65, 67), (32, 128, 271)] [5] []) σ0 y0 → zr 0 9 y2 → zpc (k41 y0 y1 y2) (fun r => (zQ [5] [(32, 65, 67), (32, 128, 271)] [5] []) σ0 (r))) {σ : zSt} {x1 : Int32} {x2 : Int32} (h : (zQ [5] [(32, 65, 67), (32, 128, 271)] [5] []) σ0 σ) (qx2 : zr 0 9 x2) : zpc (fX10_makeNext_41_body k41 σ x1 x2) (fun r => (zQ [5] [(32, 65, 67), (32, 128, 271)] [5] []) σ0 (r)) := by
  unfold fX10_makeNext_41_body
  exact zpc_if (fun g1 => zpc_ck (zpc_bv (fun v5 _ => zpc_if (fun _ => fb_fX10_makeNext_174 h (zr_c (x := 65) (lo := 65) (hi := 65) (by decide))) (fun _ => fb_fX10_makeNext_174 h (zr_c (x := 65) (lo := 65) (hi := 65) (by decide)))))) (fun g1 => zpc_bu (fb_fX10_takeChannel h) (fun σ6 hσ6 => zpc_bv (fun v7 ev7 => zpc_bu (fb_fX10_moveOperator hσ6 (zr_w (show zr 128 256 v7 by rw [ev7]; exact (zr_add (lo := 128) (hi := 256) (zr_c (x := 128) (lo := 128) (hi := 128) (by decide)) (zr_mul (lo := 0) (hi := 128) (zr_c (x := 16) (lo := 16) (hi := 16) (by decide)) (zr_nge (k := 9) (m := 8) qx2 rfl g1 (by decide)) (by decide)) (by decide))) (by decide))) (fun σ8 hσ8 => zpc_bu (fb_fX10_moveOperator hσ8 (zr_w (zr_add (lo := 136) (hi := 264) (show zr 128 256 v7 by rw [ev7]; exact (zr_add (lo := 128) (hi := 256) (zr_c (x := 128) (lo := 128) (hi := 128) (by decide)) (zr_mul (lo := 0) (hi := 128) (zr_c (x := 16) (lo := 16) (hi := 16) (by decide)) (zr_nge (k := 9) (m := 8) qx2 rfl g1 (by decide)) (by decide)) (by decide))) (zr_c (x := 8) (lo := 8) (hi := 8) (by decide)) (by decide)) (by decide))) (fun σ9 hσ9 => zpc_if (fun _ => fb_fX10_makeNext_100 hk41 hσ9 (zr_nge (k := 9) (m := 8) qx2 rfl g1 (by decide))) (fun _ => zpc_if (fun _ => fb_fX10_makeNext_100 hk41 hσ9 (zr_nge (k := 9) (m := 8) qx2 rfl g1 (by decide))) (fun _ => zpc_ck (fb_fX10_makeNext_101 hk41 hσ9 (zr_nge (k := 9) (m := 8) qx2 rfl g1 (by decide))))))))))
theorem fb_fX10_makeNext_41 {σ0 : zSt} : ∀ (n : Nat) (y0 : zSt) (y1 : Int32) (y2 : Int32), (zQ [5] [(32, 65, 67), (32, 128, 271)] [5] []) σ0 y0 → zr 0 9 y2 → zpc (fX10_makeNext_41 n y0 y1 y2) (fun r => (zQ [5] [(32, 65, 67), (32, 128, 271)] [5] []) σ0 (r)) := by
  intro n
  induction n with
  | zero => intro y0 y1 y2 h q2; exact zpc_none
  | succ n ih => intro y0 y1 y2 h q2; exact fb_fX10_makeNext_41_body ih h q2
theorem fb_fX10_makeNext_30 {σ0 : zSt} {σ : zSt} {s0 : Int32} (h : (zQ [5] [(32, 65, 67), (32, 128, 271)] [5] []) σ0 σ) : zpc (fX10_makeNext_30 σ s0) (fun r => (zQ [5] [(32, 65, 67), (32, 128, 271)] [5] []) σ0 (r)) := by
  unfold fX10_makeNext_30
  exact zpc_ck (zpc_bs (zQ.wi h rfl) (fun σ10 hσ10 => zpc_bu (fb_fX10_takeOwnPatch hσ10) (fun σ11 hσ11 => fb_fX10_makeNext_41 _ _ _ _ hσ11 (zr_w (zr_c (x := 0) (lo := 0) (hi := 0) (by decide)) (by decide)))))
theorem fb_fX10_makeNext {σ0 : zSt} {σ : zSt} (h : (zQ [5] [(32, 65, 67), (32, 128, 271)] [5] []) σ0 σ) : zpc (fX10_makeNext σ) (fun r => (zQ [5] [(32, 65, 67), (32, 128, 271)] [5] []) σ0 (r)) := by
  unfold fX10_makeNext
  exact zpc_ck (zpc_ck (zpc_bs (zQ.wi h rfl) (fun σ12 hσ12 => zpc_ck (zpc_if (fun _ => fb_fX10_makeNext_30 hσ12) (fun _ => fb_fX10_makeNext_30 hσ12)))))
theorem fB_fX12_wreg {σ0 : zSt} {σ : zSt} {x1 : Int32} (h : (zQ [] [(3, 164, 165), (3, 172, 279)] [] [(4, 4, 4)]) σ0 σ) : zpc (fX12_wreg σ x1) (fun r => (zQ [] [(3, 164, 165), (3, 172, 279)] [] [(4, 4, 4)]) σ0 (r.1)) := by
  unfold fX12_wreg
  exact zpc_ck (zpc_some h)
theorem fB_fX12_isRhythm_22 {σ0 : zSt} {σ : zSt} {s0 : Int32} (h : (zQ [] [(3, 164, 165), (3, 172, 279)] [] [(4, 4, 4)]) σ0 σ) : zpc (fX12_isRhythm_22 σ s0) (fun r => (zQ [] [(3, 164, 165), (3, 172, 279)] [] [(4, 4, 4)]) σ0 (r.1)) := by
  unfold fX12_isRhythm_22
  exact zpc_ck (zpc_some h)
theorem fB_fX12_isRhythm_21 {σ0 : zSt} {σ : zSt} (h : (zQ [] [(3, 164, 165), (3, 172, 279)] [] [(4, 4, 4)]) σ0 σ) : zpc (fX12_isRhythm_21 σ) (fun r => (zQ [] [(3, 164, 165), (3, 172, 279)] [] [(4, 4, 4)]) σ0 (r.1)) := by
  unfold fX12_isRhythm_21
  exact fB_fX12_isRhythm_22 h
theorem fB_fX12_isRhythm {σ0 : zSt} {σ : zSt} {x1 : Int32} (h : (zQ [] [(3, 164, 165), (3, 172, 279)] [] [(4, 4, 4)]) σ0 σ) : zpc (fX12_isRhythm σ x1) (fun r => (zQ [] [(3, 164, 165), (3, 172, 279)] [] [(4, 4, 4)]) σ0 (r.1)) := by
  unfold fX12_isRhythm
  exact zpc_if (fun _ => fB_fX12_isRhythm_21 h) (fun _ => zpc_bi (fB_fX12_wreg h) (fun σ1 v2 hσ1 => zpc_if (fun _ => fB_fX12_isRhythm_21 hσ1) (fun _ => fB_fX12_isRhythm_22 hσ1)))
theorem fB_fX12_isOn_60 {σ0 : zSt} {σ : zSt} {x3 : Int32} {s0 : Int32} (h : (zQ [] [(3, 164, 165), (3, 172, 279)] [] [(4, 4, 4)]) σ0 σ) : zpc (fX12_isOn_60 σ x3 s0) (fun r => (zQ [] [(3, 164, 165), (3, 172, 279)] [] [(4, 4, 4)]) σ0 (r.1)) := by
  unfold fX12_isOn_60
  exact zpc_bi (fB_fX12_wreg h) (fun σ1 v2 hσ1 => zpc_some hσ1)
theorem fB_fX12_isOn {σ0 : zSt} {σ : zSt} {x1 : Int32} {x2 : Int32} (h : (zQ [] [(3, 164, 165), (3, 172, 279)] [] [(4, 4, 4)]) σ0 σ) : zpc (fX12_isOn σ x1 x2) (fun r => (zQ [] [(3, 164, 165), (3, 172, 279)] [] [(4, 4, 4)]) σ0 (r.1)) := by
  unfold fX12_isOn
  exact zpc_bi (fB_fX12_wreg h) (fun σ3 v4 hσ3 => zpc_bv (fun v5 _ => zpc_bi (fB_fX12_isRhythm hσ3) (fun σ6 v7 hσ6 => zpc_if (fun _ => zpc_some hσ6) (fun _ => zpc_if (fun _ => fB_fX12_isOn_60 hσ6) (fun _ => zpc_if (fun _ => zpc_if (fun _ => fB_fX12_isOn_60 hσ6) (fun _ => fB_fX12_isOn_60 hσ6)) (fun _ => zpc_if (fun _ => fB_fX12_isOn_60 hσ6) (fun _ => fB_fX12_isOn_60 hσ6)))))))
theorem fB_fX12_digit_20 {σ0 : zSt} {σ : zSt} {s0 : Int32} (h : (zQ [] [(3, 164, 165), (3, 172, 279)] [] [(4, 4, 4)]) σ0 σ) : zpc (fX12_digit_20 σ s0) (fun r => (zQ [] [(3, 164, 165), (3, 172, 279)] [] [(4, 4, 4)]) σ0 (r.1)) := by
  unfold fX12_digit_20
  exact zpc_some h
theorem fB_fX12_digit {σ0 : zSt} {σ : zSt} {x0 : Int32} (h : (zQ [] [(3, 164, 165), (3, 172, 279)] [] [(4, 4, 4)]) σ0 σ) : zpc (fX12_digit σ x0) (fun r => (zQ [] [(3, 164, 165), (3, 172, 279)] [] [(4, 4, 4)]) σ0 (r.1)) := by
  unfold fX12_digit
  exact zpc_if (fun _ => fB_fX12_digit_20 h) (fun _ => fB_fX12_digit_20 h)
theorem fB_fX12_patchByte_25 {σ0 : zSt} {σ : zSt} {x2 : Int32} {s0 : Int32} (h : (zQ [] [(3, 164, 165), (3, 172, 279)] [] [(4, 4, 4)]) σ0 σ) : zpc (fX12_patchByte_25 σ x2 s0) (fun r => (zQ [] [(3, 164, 165), (3, 172, 279)] [] [(4, 4, 4)]) σ0 (r.1)) := by
  unfold fX12_patchByte_25
  exact zpc_if (fun _ => zpc_bi (fB_fX12_wreg h) (fun σ6 v7 hσ6 => zpc_some hσ6)) (fun _ => zpc_bv (fun v1 _ => zpc_ck (zpc_ck (zpc_bi (fB_fX12_digit h) (fun σ2 v3 hσ2 => zpc_ck (zpc_ck (zpc_bi (fB_fX12_digit hσ2) (fun σ4 v5 hσ4 => zpc_some hσ4))))))))
theorem fB_fX12_patchByte {σ0 : zSt} {σ : zSt} {x1 : Int32} {x2 : Int32} (h : (zQ [] [(3, 164, 165), (3, 172, 279)] [] [(4, 4, 4)]) σ0 σ) : zpc (fX12_patchByte σ x1 x2) (fun r => (zQ [] [(3, 164, 165), (3, 172, 279)] [] [(4, 4, 4)]) σ0 (r.1)) := by
  unfold fX12_patchByte
  exact zpc_bi (fB_fX12_isRhythm h) (fun σ8 v9 hσ8 => zpc_if (fun _ => zpc_bi (fB_fX12_wreg hσ8) (fun σ10 v11 hσ10 => fB_fX12_patchByte_25 hσ10)) (fun _ => fB_fX12_patchByte_25 hσ8))
theorem fB_fX12_rate_140 {σ0 : zSt} {σ : zSt} {s0 : Int32} (h : (zQ [] [(3, 164, 165), (3, 172, 279)] [] [(4, 4, 4)]) σ0 σ) : zpc (fX12_rate_140 σ s0) (fun r => (zQ [] [(3, 164, 165), (3, 172, 279)] [] [(4, 4, 4)]) σ0 (r.1)) := by
  unfold fX12_rate_140
  exact zpc_some h
theorem fB_fX12_rate_99 {σ0 : zSt} {σ : zSt} {s0 : Int32} (h : (zQ [] [(3, 164, 165), (3, 172, 279)] [] [(4, 4, 4)]) σ0 σ) : zpc (fX12_rate_99 σ s0) (fun r => (zQ [] [(3, 164, 165), (3, 172, 279)] [] [(4, 4, 4)]) σ0 (r.1)) := by
  unfold fX12_rate_99
  exact zpc_some h
theorem fB_fX12_rate_17 {σ0 : zSt} {σ : zSt} {x1 : Int32} {x2 : Int32} {x3 : Int32} {s0 : Int32} (h : (zQ [] [(3, 164, 165), (3, 172, 279)] [] [(4, 4, 4)]) σ0 σ) : zpc (fX12_rate_17 σ x1 x2 x3 s0) (fun r => (zQ [] [(3, 164, 165), (3, 172, 279)] [] [(4, 4, 4)]) σ0 (r.1)) := by
  unfold fX12_rate_17
  exact zpc_if (fun _ => zpc_some h) (fun _ => zpc_if (fun _ => zpc_bi (fB_fX12_patchByte h) (fun σ1 v2 hσ1 => zpc_some hσ1)) (fun _ => zpc_if (fun _ => zpc_bi (fB_fX12_patchByte h) (fun σ3 v4 hσ3 => zpc_some hσ3)) (fun _ => zpc_if (fun _ => zpc_if (fun _ => zpc_bi (fB_fX12_patchByte h) (fun σ5 v6 hσ5 => fB_fX12_rate_99 hσ5)) (fun _ => fB_fX12_rate_99 h)) (fun _ => zpc_bi (fB_fX12_wreg h) (fun σ7 v8 hσ7 => zpc_if (fun _ => zpc_if (fun _ => fB_fX12_rate_140 hσ7) (fun _ => zpc_bi (fB_fX12_patchByte hσ7) (fun σ9 v10 hσ9 => fB_fX12_rate_140 hσ9))) (fun _ => fB_fX12_rate_140 hσ7))))))
theorem fB_fX12_rate {σ0 : zSt} {σ : zSt} {x1 : Int32} {x2 : Int32} {x3 : Int32} (h : (zQ [] [(3, 164, 165), (3, 172, 279)] [] [(4, 4, 4)]) σ0 σ) : zpc (fX12_rate σ x1 x2 x3) (fun r => (zQ [] [(3, 164, 165), (3, 172, 279)] [] [(4, 4, 4)]) σ0 (r.1)) := by
  unfold fX12_rate
  exact zpc_bi (fB_fX12_patchByte h) (fun σ11 v12 hσ11 => zpc_if (fun _ => fB_fX12_rate_17 hσ11) (fun _ => fB_fX12_rate_17 hσ11))
theorem fB_fX12_block {σ0 : zSt} {σ : zSt} {x1 : Int32} (h : (zQ [] [(3, 164, 165), (3, 172, 279)] [] [(4, 4, 4)]) σ0 σ) : zpc (fX12_block σ x1) (fun r => (zQ [] [(3, 164, 165), (3, 172, 279)] [] [(4, 4, 4)]) σ0 (r.1)) := by
  unfold fX12_block
  exact zpc_bi (fB_fX12_wreg h) (fun σ1 v2 hσ1 => zpc_some hσ1)
theorem fB_fX12_f {σ0 : zSt} {σ : zSt} {x1 : Int32} (h : (zQ [] [(3, 164, 165), (3, 172, 279)] [] [(4, 4, 4)]) σ0 σ) : zpc (fX12_f σ x1) (fun r => (zQ [] [(3, 164, 165), (3, 172, 279)] [] [(4, 4, 4)]) σ0 (r.1)) := by
  unfold fX12_f
  exact zpc_bi (fB_fX12_wreg h) (fun σ1 v2 hσ1 => zpc_bi (fB_fX12_wreg hσ1) (fun σ3 v4 hσ3 => zpc_some hσ3))
theorem fB_fX12_t_40 {σ0 : zSt} {σ : zSt} {s0 : Int32} (h : (zQ [] [(3, 164, 165), (3, 172, 279)] [] [(4, 4, 4)]) σ0 σ) : zpc (fX12_t_40 σ s0) (fun r => (zQ [] [(3, 164, 165), (3, 172, 279)] [] [(4, 4, 4)]) σ0 (r.1)) := by
  unfold fX12_t_40
  exact zpc_some h
theorem fB_fX12_t_35 {σ0 : zSt} {σ : zSt} (h : (zQ [] [(3, 164, 165), (3, 172, 279)] [] [(4, 4, 4)]) σ0 σ) : zpc (fX12_t_35 σ) (fun r => (zQ [] [(3, 164, 165), (3, 172, 279)] [] [(4, 4, 4)]) σ0 (r.1)) := by
  unfold fX12_t_35
  exact fB_fX12_t_40 h
theorem fB_fX12_t_39 {σ0 : zSt} {σ : zSt} (h : (zQ [] [(3, 164, 165), (3, 172, 279)] [] [(4, 4, 4)]) σ0 σ) : zpc (fX12_t_39 σ) (fun r => (zQ [] [(3, 164, 165), (3, 172, 279)] [] [(4, 4, 4)]) σ0 (r.1)) := by
  unfold fX12_t_39
  exact fB_fX12_t_40 h
theorem fB_fX12_t_19 {σ0 : zSt} {σ : zSt} {x0 : Int32} {x1 : Int32} (h : (zQ [] [(3, 164, 165), (3, 172, 279)] [] [(4, 4, 4)]) σ0 σ) : zpc (fX12_t_19 σ x0 x1) (fun r => (zQ [] [(3, 164, 165), (3, 172, 279)] [] [(4, 4, 4)]) σ0 (r.1)) := by
  unfold fX12_t_19
  exact zpc_if (fun _ => fB_fX12_t_39 h) (fun _ => zpc_if (fun _ => fB_fX12_t_35 h) (fun _ => zpc_if (fun _ => fB_fX12_t_35 h) (fun _ => fB_fX12_t_39 h)))
theorem fB_fX12_t {σ0 : zSt} {σ : zSt} {x0 : Int32} {x1 : Int32} (h : (zQ [] [(3, 164, 165), (3, 172, 279)] [] [(4, 4, 4)]) σ0 σ) : zpc (fX12_t σ x0 x1) (fun r => (zQ [] [(3, 164, 165), (3, 172, 279)] [] [(4, 4, 4)]) σ0 (r.1)) := by
  unfold fX12_t
  exact zpc_ck (zpc_if (fun _ => fB_fX12_t_35 h) (fun _ => zpc_ck (zpc_if (fun _ => zpc_if (fun _ => fB_fX12_t_35 h) (fun _ => fB_fX12_t_19 h)) (fun _ => fB_fX12_t_19 h))))
theorem fB_fX12_envelope_275 {σ0 : zSt} {σ : zSt} {s0 : Int32} {s1 : Int32} (h : (zQ [] [(3, 164, 165), (3, 172, 279)] [] [(4, 4, 4)]) σ0 σ) (qs1 : zr 172 274 s1) : zpc (fX12_envelope_275 σ s0 s1) (fun r => (zQ [] [(3, 164, 165), (3, 172, 279)] [] [(4, 4, 4)]) σ0 (r)) := by
  unfold fX12_envelope_275
  exact zpc_ck (zpc_bs (zQ.wr (a := 172) (b := 279) (lo := 172) (hi := 274) h qs1 rfl (by decide)) (fun σ1 hσ1 => zpc_some hσ1))
theorem fB_fX12_envelope_259 {σ0 : zSt} {σ : zSt} {x1 : Int32} {x15 : Int32} (h : (zQ [] [(3, 164, 165), (3, 172, 279)] [] [(4, 4, 4)]) σ0 σ) (qx1 : zr 172 274 x1) : zpc (fX12_envelope_259 σ x1 x15) (fun r => (zQ [] [(3, 164, 165), (3, 172, 279)] [] [(4, 4, 4)]) σ0 (r)) := by
  unfold fX12_envelope_259
  exact zpc_if (fun _ => fB_fX12_envelope_275 h qx1) (fun _ => fB_fX12_envelope_275 h qx1)
theorem fB_fX12_envelope_220 {σ0 : zSt} {σ : zSt} {x1 : Int32} {s0 : Int32} (h : (zQ [] [(3, 164, 165), (3, 172, 279)] [] [(4, 4, 4)]) σ0 σ) (qx1 : zr 172 274 x1) : zpc (fX12_envelope_220 σ x1 s0) (fun r => (zQ [] [(3, 164, 165), (3, 172, 279)] [] [(4, 4, 4)]) σ0 (r)) := by
  unfold fX12_envelope_220
  exact fB_fX12_envelope_259 h qx1
theorem fB_fX12_envelope_257 {σ0 : zSt} {σ : zSt} {x1 : Int32} {s0 : Int32} (h : (zQ [] [(3, 164, 165), (3, 172, 279)] [] [(4, 4, 4)]) σ0 σ) (qx1 : zr 172 274 x1) : zpc (fX12_envelope_257 σ x1 s0) (fun r => (zQ [] [(3, 164, 165), (3, 172, 279)] [] [(4, 4, 4)]) σ0 (r)) := by
  unfold fX12_envelope_257
  exact fB_fX12_envelope_259 h qx1
theorem fB_fX12_envelope_358 {σ0 : zSt} {σ : zSt} {s0 : Int32} {s1 : Int32} (h : (zQ [] [(3, 164, 165), (3, 172, 279)] [] [(4, 4, 4)]) σ0 σ) (qs1 : zr 172 274 s1) : zpc (fX12_envelope_358 σ s0 s1) (fun r => (zQ [] [(3, 164, 165), (3, 172, 279)] [] [(4, 4, 4)]) σ0 (r)) := by
  unfold fX12_envelope_358
  exact zpc_ck (zpc_bs (zQ.wr (a := 172) (b := 279) (lo := 172) (hi := 274) h qs1 rfl (by decide)) (fun σ2 hσ2 => zpc_some hσ2))
theorem fB_fX12_envelope_336 {σ0 : zSt} {σ : zSt} {x1 : Int32} {s0 : Int32} {s1 : Int32} (h : (zQ [] [(3, 164, 165), (3, 172, 279)] [] [(4, 4, 4)]) σ0 σ) (qx1 : zr 172 274 x1) : zpc (fX12_envelope_336 σ x1 s0 s1) (fun r => (zQ [] [(3, 164, 165), (3, 172, 279)] [] [(4, 4, 4)]) σ0 (r)) := by
  unfold fX12_envelope_336
  exact zpc_bv (fun v3 _ => zpc_if (fun _ => fB_fX12_envelope_358 h qx1) (fun _ => fB_fX12_envelope_358 h qx1))
theorem fB_fX12_envelope_159 {σ0 : zSt} {σ : zSt} {x1 : Int32} {x4 : Int32} {x7 : Int32} {x8 : Int32} {x9 : Int64} {s0 : Int32} (h : (zQ [] [(3, 164, 165), (3, 172, 279)] [] [(4, 4, 4)]) σ0 σ) (qx1 : zr 172 274 x1) : zpc (fX12_envelope_159 σ x1 x4 x7 x8 x9 s0) (fun r => (zQ [] [(3, 164, 165), (3, 172, 279)] [] [(4, 4, 4)]) σ0 (r)) := by
  unfold fX12_envelope_159
  exact zpc_ck (zpc_ck (zpc_bv (fun v4 _ => zpc_ck (zpc_bv (fun v5 _ => zpc_if (fun _ => zpc_if (fun _ => zpc_if (fun _ => fB_fX12_envelope_257 h qx1) (fun _ => zpc_bi (fB_fX12_t h) (fun σ10 v11 hσ10 => fB_fX12_envelope_257 hσ10 qx1))) (fun _ => zpc_if (fun _ => zpc_ck (fB_fX12_envelope_220 h qx1)) (fun _ => fB_fX12_envelope_220 h qx1))) (fun _ => zpc_if (fun _ => zpc_if (fun _ => zpc_ck (zpc_bi (fB_fX12_t h) (fun σ8 v9 hσ8 => fB_fX12_envelope_336 hσ8 qx1))) (fun _ => zpc_if (fun _ => zpc_bi (fB_fX12_t h) (fun σ6 v7 hσ6 => fB_fX12_envelope_336 hσ6 qx1)) (fun _ => fB_fX12_envelope_336 h qx1))) (fun _ => fB_fX12_envelope_336 h qx1)))))))
theorem fB_fX12_envelope_158 {σ0 : zSt} {σ : zSt} {x1 : Int32} {x4 : Int32} {x7 : Int32} {x8 : Int32} {x9 : Int64} (h : (zQ [] [(3, 164, 165), (3, 172, 279)] [] [(4, 4, 4)]) σ0 σ) (qx1 : zr 172 274 x1) : zpc (fX12_envelope_158 σ x1 x4 x7 x8 x9) (fun r => (zQ [] [(3, 164, 165), (3, 172, 279)] [] [(4, 4, 4)]) σ0 (r)) := by
  unfold fX12_envelope_158
  exact fB_fX12_envelope_159 h qx1
theorem fB_fX12_envelope_121 {σ0 : zSt} {σ : zSt} {x1 : Int32} {x4 : Int32} {x7 : Int32} {x8 : Int32} {x9 : Int64} {s0 : Int64} (h : (zQ [] [(3, 164, 165), (3, 172, 279)] [] [(4, 4, 4)]) σ0 σ) (qx1 : zr 172 274 x1) : zpc (fX12_envelope_121 σ x1 x4 x7 x8 x9 s0) (fun r => (zQ [] [(3, 164, 165), (3, 172, 279)] [] [(4, 4, 4)]) σ0 (r)) := by
  unfold fX12_envelope_121
  exact zpc_if (fun _ => fB_fX12_envelope_158 h qx1) (fun _ => zpc_ck (zpc_if (fun _ => zpc_ck (zpc_ck (zpc_bi (fB_fX12_t h) (fun σ12 v13 hσ12 => fB_fX12_envelope_159 hσ12 qx1)))) (fun _ => fB_fX12_envelope_158 h qx1)))
theorem fB_fX12_envelope_87 {σ0 : zSt} {σ : zSt} {x1 : Int32} {x4 : Int32} {x6 : Int32} {s0 : Int32} (h : (zQ [] [(3, 164, 165), (3, 172, 279)] [] [(4, 4, 4)]) σ0 σ) (qx1 : zr 172 274 x1) : zpc (fX12_envelope_87 σ x1 x4 x6 s0) (fun r => (zQ [] [(3, 164, 165), (3, 172, 279)] [] [(4, 4, 4)]) σ0 (r)) := by
  unfold fX12_envelope_87
  exact zpc_ck (zpc_bv (fun v14 _ => zpc_ck (zpc_bv (fun v15 _ => zpc_if (fun _ => fB_fX12_envelope_121 h qx1) (fun _ => fB_fX12_envelope_121 h qx1)))))
theorem fB_fX12_envelope_63 {σ0 : zSt} {σ : zSt} {x1 : Int32} {x4 : Int32} {x5 : Int32} {x6 : Int32} (h : (zQ [] [(3, 164, 165), (3, 172, 279)] [] [(4, 4, 4)]) σ0 σ) (qx1 : zr 172 274 x1) : zpc (fX12_envelope_63 σ x1 x4 x5 x6) (fun r => (zQ [] [(3, 164, 165), (3, 172, 279)] [] [(4, 4, 4)]) σ0 (r)) := by
  unfold fX12_envelope_63
  exact zpc_ck (zpc_if (fun _ => zpc_ck (fB_fX12_envelope_87 h qx1)) (fun _ => fB_fX12_envelope_87 h qx1))
theorem fB_fX12_envelope {σ0 : zSt} {σ : zSt} {x1 : Int32} {x2 : Int32} {x3 : Int32} (h : (zQ [] [(3, 164, 165), (3, 172, 279)] [] [(4, 4, 4)]) σ0 σ) (qx1 : zr 172 274 x1) : zpc (fX12_envelope σ x1 x2 x3) (fun r => (zQ [] [(3, 164, 165), (3, 172, 279)] [] [(4, 4, 4)]) σ0 (r)) := by
  unfold fX12_envelope
  exact zpc_ck (zpc_bv (fun v16 _ => zpc_bi (fB_fX12_rate h) (fun σ17 v18 hσ17 => zpc_if (fun _ => zpc_some hσ17) (fun _ => zpc_bi (fB_fX12_block hσ17) (fun σ19 v20 hσ19 => zpc_bi (fB_fX12_f hσ19) (fun σ21 v22 hσ21 => zpc_ck (zpc_bv (fun v23 _ => zpc_bi (fB_fX12_patchByte hσ21) (fun σ24 v25 hσ24 => zpc_if (fun _ => zpc_ck (zpc_bv (fun v26 _ => fB_fX12_envelope_63 hσ24 qx1))) (fun _ => fB_fX12_envelope_63 hσ24 qx1))))))))))
theorem fB_fX12_phase_150 {σ0 : zSt} {σ : zSt} {x1 : Int32} {x2 : Int32} {x5 : Int32} {x6 : Int32} (h : (zQ [] [(3, 164, 165), (3, 172, 279)] [] [(4, 4, 4)]) σ0 σ) (qx1 : zr 172 274 x1) : zpc (fX12_phase_150 σ x1 x2 x5 x6) (fun r => (zQ [] [(3, 164, 165), (3, 172, 279)] [] [(4, 4, 4)]) σ0 (r)) := by
  unfold fX12_phase_150
  exact zpc_ck (zpc_bi (fB_fX12_f h) (fun σ1 v2 hσ1 => zpc_bi (fB_fX12_block hσ1) (fun σ3 v4 hσ3 => zpc_ck (zpc_ck (zpc_bs (zQ.wr (a := 172) (b := 279) (lo := 174) (hi := 276) hσ3 (zr_add (lo := 174) (hi := 276) qx1 (zr_c (x := 2) (lo := 2) (hi := 2) (by decide)) (by decide)) rfl (by decide)) (fun σ5 hσ5 => zpc_some hσ5))))))
theorem fB_fX12_phase_148 {σ0 : zSt} {σ : zSt} {x1 : Int32} {x2 : Int32} {x5 : Int32} {s0 : Int32} (h : (zQ [] [(3, 164, 165), (3, 172, 279)] [] [(4, 4, 4)]) σ0 σ) (qx1 : zr 172 274 x1) : zpc (fX12_phase_148 σ x1 x2 x5 s0) (fun r => (zQ [] [(3, 164, 165), (3, 172, 279)] [] [(4, 4, 4)]) σ0 (r)) := by
  unfold fX12_phase_148
  exact fB_fX12_phase_150 h qx1
theorem fB_fX12_phase_132 {σ0 : zSt} {σ : zSt} {x1 : Int32} {x2 : Int32} {x5 : Int32} {x7 : Int32} {s0 : Int32} (h : (zQ [] [(3, 164, 165), (3, 172, 279)] [] [(4, 4, 4)]) σ0 σ) (qx1 : zr 172 274 x1) : zpc (fX12_phase_132 σ x1 x2 x5 x7 s0) (fun r => (zQ [] [(3, 164, 165), (3, 172, 279)] [] [(4, 4, 4)]) σ0 (r)) := by
  unfold fX12_phase_132
  exact zpc_if (fun _ => fB_fX12_phase_148 h qx1) (fun _ => fB_fX12_phase_148 h qx1)
theorem fB_fX12_phase_60 {σ0 : zSt} {σ : zSt} {x1 : Int32} {x2 : Int32} {x3 : Int32} {s0 : Int32} (h : (zQ [] [(3, 164, 165), (3, 172, 279)] [] [(4, 4, 4)]) σ0 σ) (qx1 : zr 172 274 x1) : zpc (fX12_phase_60 σ x1 x2 x3 s0) (fun r => (zQ [] [(3, 164, 165), (3, 172, 279)] [] [(4, 4, 4)]) σ0 (r)) := by
  unfold fX12_phase_60
  exact zpc_bi (fB_fX12_patchByte h) (fun σ6 v7 hσ6 => zpc_if (fun _ => fB_fX12_phase_150 hσ6 qx1) (fun _ => zpc_ck (zpc_ck (zpc_ck (zpc_bv (fun v8 _ => zpc_bi (fB_fX12_f hσ6) (fun σ9 v10 hσ9 => zpc_ck (zpc_bv (fun v11 _ => zpc_ck (zpc_if (fun _ => fB_fX12_phase_132 hσ9 qx1) (fun _ => zpc_ck (zpc_if (fun _ => fB_fX12_phase_132 hσ9 qx1) (fun _ => zpc_ck (fB_fX12_phase_132 hσ9 qx1))))))))))))))
theorem fB_fX12_phase {σ0 : zSt} {σ : zSt} {x1 : Int32} {x2 : Int32} {x3 : Int32} (h : (zQ [] [(3, 164, 165), (3, 172, 279)] [] [(4, 4, 4)]) σ0 σ) (qx1 : zr 172 274 x1) : zpc (fX12_phase σ x1 x2 x3) (fun r => (zQ [] [(3, 164, 165), (3, 172, 279)] [] [(4, 4, 4)]) σ0 (r)) := by
  unfold fX12_phase
  exact zpc_bi (fB_fX12_patchByte h) (fun σ12 v13 hσ12 => zpc_bv (fun v14 _ => zpc_if (fun _ => fB_fX12_phase_60 hσ12 qx1) (fun _ => zpc_if (fun _ => zpc_if (fun _ => fB_fX12_phase_60 hσ12 qx1) (fun _ => zpc_if (fun _ => fB_fX12_phase_60 hσ12 qx1) (fun _ => fB_fX12_phase_60 hσ12 qx1))) (fun _ => fB_fX12_phase_60 hσ12 qx1))))
theorem fB_fX12_drum_191 {σ0 : zSt} {σ : zSt} {s0 : Int32} (h : (zQ [] [(3, 164, 165), (3, 172, 279)] [] [(4, 4, 4)]) σ0 σ) : zpc (fX12_drum_191 σ s0) (fun r => (zQ [] [(3, 164, 165), (3, 172, 279)] [] [(4, 4, 4)]) σ0 (r.1)) := by
  unfold fX12_drum_191
  exact zpc_some h
theorem fB_fX12_drum_214 {σ0 : zSt} {σ : zSt} {s0 : Int32} (h : (zQ [] [(3, 164, 165), (3, 172, 279)] [] [(4, 4, 4)]) σ0 σ) : zpc (fX12_drum_214 σ s0) (fun r => (zQ [] [(3, 164, 165), (3, 172, 279)] [] [(4, 4, 4)]) σ0 (r.1)) := by
  unfold fX12_drum_214
  exact zpc_some h
theorem fB_fX12_drum_148 {σ0 : zSt} {σ : zSt} {x1 : Int32} {x2 : Int32} {x3 : Int32} {x6 : Int32} {x7 : Int32} (h : (zQ [] [(3, 164, 165), (3, 172, 279)] [] [(4, 4, 4)]) σ0 σ) : zpc (fX12_drum_148 σ x1 x2 x3 x6 x7) (fun r => (zQ [] [(3, 164, 165), (3, 172, 279)] [] [(4, 4, 4)]) σ0 (r.1)) := by
  unfold fX12_drum_148
  exact zpc_if (fun _ => zpc_if (fun _ => zpc_if (fun _ => fB_fX12_drum_191 h) (fun _ => fB_fX12_drum_191 h)) (fun _ => zpc_if (fun _ => fB_fX12_drum_191 h) (fun _ => fB_fX12_drum_191 h))) (fun _ => zpc_if (fun _ => fB_fX12_drum_214 h) (fun _ => zpc_if (fun _ => fB_fX12_drum_214 h) (fun _ => fB_fX12_drum_214 h)))
theorem fB_fX12_drum_147 {σ0 : zSt} {σ : zSt} {s0 : Int32} (h : (zQ [] [(3, 164, 165), (3, 172, 279)] [] [(4, 4, 4)]) σ0 σ) : zpc (fX12_drum_147 σ s0) (fun r => (zQ [] [(3, 164, 165), (3, 172, 279)] [] [(4, 4, 4)]) σ0 (r.1)) := by
  unfold fX12_drum_147
  exact zpc_some h
theorem fB_fX12_drum_100 {σ0 : zSt} {σ : zSt} {x1 : Int32} {x2 : Int32} {x3 : Int32} {x6 : Int32} {s0 : Int32} (h : (zQ [] [(3, 164, 165), (3, 172, 279)] [] [(4, 4, 4)]) σ0 σ) : zpc (fX12_drum_100 σ x1 x2 x3 x6 s0) (fun r => (zQ [] [(3, 164, 165), (3, 172, 279)] [] [(4, 4, 4)]) σ0 (r.1)) := by
  unfold fX12_drum_100
  exact zpc_if (fun _ => zpc_if (fun _ => zpc_if (fun _ => zpc_if (fun _ => fB_fX12_drum_147 h) (fun _ => fB_fX12_drum_147 h)) (fun _ => zpc_if (fun _ => fB_fX12_drum_147 h) (fun _ => fB_fX12_drum_147 h))) (fun _ => fB_fX12_drum_148 h)) (fun _ => fB_fX12_drum_148 h)
theorem fB_fX12_drum_79 {σ0 : zSt} {σ : zSt} {x1 : Int32} {x2 : Int32} {x3 : Int32} {s0 : Int32} (h : (zQ [] [(3, 164, 165), (3, 172, 279)] [] [(4, 4, 4)]) σ0 σ) : zpc (fX12_drum_79 σ x1 x2 x3 s0) (fun r => (zQ [] [(3, 164, 165), (3, 172, 279)] [] [(4, 4, 4)]) σ0 (r.1)) := by
  unfold fX12_drum_79
  exact zpc_ck (zpc_if (fun _ => fB_fX12_drum_100 h) (fun _ => fB_fX12_drum_100 h))
theorem fB_fX12_drum_74 {σ0 : zSt} {σ : zSt} {x1 : Int32} {x2 : Int32} {x3 : Int32} (h : (zQ [] [(3, 164, 165), (3, 172, 279)] [] [(4, 4, 4)]) σ0 σ) : zpc (fX12_drum_74 σ x1 x2 x3) (fun r => (zQ [] [(3, 164, 165), (3, 172, 279)] [] [(4, 4, 4)]) σ0 (r.1)) := by
  unfold fX12_drum_74
  exact fB_fX12_drum_79 h
theorem fB_fX12_drum {σ0 : zSt} {σ : zSt} {x1 : Int32} {x2 : Int32} {x3 : Int32} (h : (zQ [] [(3, 164, 165), (3, 172, 279)] [] [(4, 4, 4)]) σ0 σ) : zpc (fX12_drum σ x1 x2 x3) (fun r => (zQ [] [(3, 164, 165), (3, 172, 279)] [] [(4, 4, 4)]) σ0 (r.1)) := by
  unfold fX12_drum
  exact zpc_ck (zpc_ck (zpc_bv (fun v1 _ => zpc_ck (zpc_ck (zpc_bv (fun v2 _ => zpc_if (fun _ => zpc_if (fun _ => zpc_if (fun _ => fB_fX12_drum_79 h) (fun _ => fB_fX12_drum_74 h)) (fun _ => fB_fX12_drum_74 h)) (fun _ => fB_fX12_drum_74 h)))))))
theorem fB_fX12_kept_97 {σ0 : zSt} {σ : zSt} {s0 : Int32} (h : (zQ [] [(3, 164, 165), (3, 172, 279)] [] [(4, 4, 4)]) σ0 σ) : zpc (fX12_kept_97 σ s0) (fun r => (zQ [] [(3, 164, 165), (3, 172, 279)] [] [(4, 4, 4)]) σ0 (r.1)) := by
  unfold fX12_kept_97
  exact zpc_some h
theorem fB_fX12_kept {σ0 : zSt} {σ : zSt} {x0 : Int32} (h : (zQ [] [(3, 164, 165), (3, 172, 279)] [] [(4, 4, 4)]) σ0 σ) : zpc (fX12_kept σ x0) (fun r => (zQ [] [(3, 164, 165), (3, 172, 279)] [] [(4, 4, 4)]) σ0 (r.1)) := by
  unfold fX12_kept
  exact zpc_if (fun _ => fB_fX12_kept_97 h) (fun _ => zpc_if (fun _ => fB_fX12_kept_97 h) (fun _ => zpc_if (fun _ => fB_fX12_kept_97 h) (fun _ => zpc_if (fun _ => fB_fX12_kept_97 h) (fun _ => zpc_if (fun _ => fB_fX12_kept_97 h) (fun _ => zpc_if (fun _ => fB_fX12_kept_97 h) (fun _ => zpc_if (fun _ => fB_fX12_kept_97 h) (fun _ => zpc_if (fun _ => fB_fX12_kept_97 h) (fun _ => zpc_if (fun _ => fB_fX12_kept_97 h) (fun _ => fB_fX12_kept_97 h)))))))))
theorem fB_fX12_waveAt_376 {σ0 : zSt} {σ : zSt} {s0 : Int32} (h : (zQ [] [(3, 164, 165), (3, 172, 279)] [] [(4, 4, 4)]) σ0 σ) : zpc (fX12_waveAt_376 σ s0) (fun r => (zQ [] [(3, 164, 165), (3, 172, 279)] [] [(4, 4, 4)]) σ0 (r.1)) := by
  unfold fX12_waveAt_376
  exact zpc_some h
theorem fB_fX12_waveAt_296 {σ0 : zSt} {σ : zSt} {x2 : Int32} {x3 : Int32} {x4 : Int32} {x5 : Int32} {s0 : Int32} (h : (zQ [] [(3, 164, 165), (3, 172, 279)] [] [(4, 4, 4)]) σ0 σ) : zpc (fX12_waveAt_296 σ x2 x3 x4 x5 s0) (fun r => (zQ [] [(3, 164, 165), (3, 172, 279)] [] [(4, 4, 4)]) σ0 (r.1)) := by
  unfold fX12_waveAt_296
  exact zpc_ck (zpc_bv (fun v1 _ => zpc_ck (zpc_ck (zpc_ck (zpc_bv (fun v2 _ => zpc_if (fun _ => zpc_some h) (fun _ => zpc_bi (fB_fX12_patchByte h) (fun σ3 v4 hσ3 => zpc_if (fun _ => fB_fX12_waveAt_376 hσ3) (fun _ => fB_fX12_waveAt_376 hσ3)))))))))
theorem fB_fX12_waveAt_263 {σ0 : zSt} {σ : zSt} {x1 : Int32} {x2 : Int32} {x3 : Int32} {x4 : Int32} {x5 : Int32} {x8 : Int32} {x11 : Int32} {s0 : Int32} (h : (zQ [] [(3, 164, 165), (3, 172, 279)] [] [(4, 4, 4)]) σ0 σ) : zpc (fX12_waveAt_263 σ x1 x2 x3 x4 x5 x8 x11 s0) (fun r => (zQ [] [(3, 164, 165), (3, 172, 279)] [] [(4, 4, 4)]) σ0 (r.1)) := by
  unfold fX12_waveAt_263
  exact zpc_ck (zpc_bv (fun v5 _ => zpc_if (fun _ => fB_fX12_waveAt_296 h) (fun _ => fB_fX12_waveAt_296 h)))
theorem fB_fX12_waveAt_260 {σ0 : zSt} {σ : zSt} {x1 : Int32} {x2 : Int32} {x3 : Int32} {x4 : Int32} {x5 : Int32} {x8 : Int32} {x11 : Int32} {s0 : Int32} (h : (zQ [] [(3, 164, 165), (3, 172, 279)] [] [(4, 4, 4)]) σ0 σ) : zpc (fX12_waveAt_260 σ x1 x2 x3 x4 x5 x8 x11 s0) (fun r => (zQ [] [(3, 164, 165), (3, 172, 279)] [] [(4, 4, 4)]) σ0 (r.1)) := by
  unfold fX12_waveAt_260
  exact zpc_ck (fB_fX12_waveAt_263 h)
theorem fB_fX12_waveAt_206 {σ0 : zSt} {σ : zSt} {x1 : Int32} {x2 : Int32} {x3 : Int32} {x4 : Int32} {x5 : Int32} {x8 : Int32} {s0 : Int32} (h : (zQ [] [(3, 164, 165), (3, 172, 279)] [] [(4, 4, 4)]) σ0 σ) : zpc (fX12_waveAt_206 σ x1 x2 x3 x4 x5 x8 s0) (fun r => (zQ [] [(3, 164, 165), (3, 172, 279)] [] [(4, 4, 4)]) σ0 (r.1)) := by
  unfold fX12_waveAt_206
  exact zpc_ck (zpc_ck (zpc_ck (zpc_bv (fun v6 _ => zpc_bi (fB_fX12_patchByte h) (fun σ7 v8 hσ7 => zpc_if (fun _ => fB_fX12_waveAt_263 hσ7) (fun _ => zpc_if (fun _ => fB_fX12_waveAt_260 hσ7) (fun _ => fB_fX12_waveAt_260 hσ7)))))))
theorem fB_fX12_waveAt_192 {σ0 : zSt} {σ : zSt} {x1 : Int32} {x2 : Int32} {x3 : Int32} {x4 : Int32} {x5 : Int32} {x8 : Int32} {x9 : Int32} (h : (zQ [] [(3, 164, 165), (3, 172, 279)] [] [(4, 4, 4)]) σ0 σ) : zpc (fX12_waveAt_192 σ x1 x2 x3 x4 x5 x8 x9) (fun r => (zQ [] [(3, 164, 165), (3, 172, 279)] [] [(4, 4, 4)]) σ0 (r.1)) := by
  unfold fX12_waveAt_192
  exact zpc_ck (zpc_ck (fB_fX12_waveAt_206 h))
theorem fB_fX12_waveAt_123 {σ0 : zSt} {σ : zSt} {x1 : Int32} {x2 : Int32} {x3 : Int32} {x4 : Int32} {x5 : Int32} {s0 : Int32} (h : (zQ [] [(3, 164, 165), (3, 172, 279)] [] [(4, 4, 4)]) σ0 σ) : zpc (fX12_waveAt_123 σ x1 x2 x3 x4 x5 s0) (fun r => (zQ [] [(3, 164, 165), (3, 172, 279)] [] [(4, 4, 4)]) σ0 (r.1)) := by
  unfold fX12_waveAt_123
  exact zpc_bi (fB_fX12_patchByte h) (fun σ9 v10 hσ9 => zpc_bv (fun v11 _ => zpc_bi (fB_fX12_wreg hσ9) (fun σ12 v13 hσ12 => zpc_bv (fun v14 _ => zpc_if (fun _ => fB_fX12_waveAt_206 hσ12) (fun _ => zpc_bi (fB_fX12_isRhythm hσ12) (fun σ15 v16 hσ15 => zpc_if (fun _ => fB_fX12_waveAt_192 hσ15) (fun _ => zpc_if (fun _ => fB_fX12_waveAt_192 hσ15) (fun _ => zpc_bi (fB_fX12_wreg hσ15) (fun σ17 v18 hσ17 => fB_fX12_waveAt_206 hσ17)))))))))
theorem fB_fX12_waveAt_91 {σ0 : zSt} {σ : zSt} {x1 : Int32} {x2 : Int32} {x3 : Int32} {x4 : Int32} {x5 : Int32} (h : (zQ [] [(3, 164, 165), (3, 172, 279)] [] [(4, 4, 4)]) σ0 σ) : zpc (fX12_waveAt_91 σ x1 x2 x3 x4 x5) (fun r => (zQ [] [(3, 164, 165), (3, 172, 279)] [] [(4, 4, 4)]) σ0 (r.1)) := by
  unfold fX12_waveAt_91
  exact fB_fX12_waveAt_123 h
theorem fB_fX12_waveAt_41 {σ0 : zSt} {σ : zSt} {x1 : Int32} {x2 : Int32} {x3 : Int32} {x4 : Int32} {s0 : Int32} (h : (zQ [] [(3, 164, 165), (3, 172, 279)] [] [(4, 4, 4)]) σ0 σ) : zpc (fX12_waveAt_41 σ x1 x2 x3 x4 s0) (fun r => (zQ [] [(3, 164, 165), (3, 172, 279)] [] [(4, 4, 4)]) σ0 (r.1)) := by
  unfold fX12_waveAt_41
  exact zpc_bi (fB_fX12_patchByte h) (fun σ19 v20 hσ19 => zpc_bv (fun v21 _ => zpc_bi (fB_fX12_f hσ19) (fun σ22 v23 hσ22 => zpc_ck (zpc_bi (fB_fX12_kept hσ22) (fun σ24 v25 hσ24 => zpc_bi (fB_fX12_block hσ24) (fun σ26 v27 hσ26 => zpc_bv (fun v28 _ => zpc_if (fun _ => fB_fX12_waveAt_91 hσ26) (fun _ => zpc_if (fun _ => fB_fX12_waveAt_91 hσ26) (fun _ => zpc_if (fun _ => zpc_ck (fB_fX12_waveAt_123 hσ26)) (fun _ => zpc_if (fun _ => zpc_ck (fB_fX12_waveAt_123 hσ26)) (fun _ => fB_fX12_waveAt_123 hσ26)))))))))))
theorem fB_fX12_waveAt {σ0 : zSt} {σ : zSt} {x1 : Int32} {x2 : Int32} {x3 : Int32} {x4 : Int32} (h : (zQ [] [(3, 164, 165), (3, 172, 279)] [] [(4, 4, 4)]) σ0 σ) : zpc (fX12_waveAt σ x1 x2 x3 x4) (fun r => (zQ [] [(3, 164, 165), (3, 172, 279)] [] [(4, 4, 4)]) σ0 (r.1)) := by
  unfold fX12_waveAt
  exact zpc_ck (zpc_if (fun _ => zpc_if (fun _ => zpc_ck (fB_fX12_waveAt_41 h)) (fun _ => zpc_ck (fB_fX12_waveAt_41 h))) (fun _ => zpc_some h))
theorem fB_fX12_operator_319 {σ0 : zSt} {σ : zSt} {x1 : Int32} {x2 : Int32} {x3 : Int32} {x5 : Int32} {x8 : Int32} (h : (zQ [] [(3, 164, 165), (3, 172, 279)] [] [(4, 4, 4)]) σ0 σ) (qx3 : zr 172 274 x3) : zpc (fX12_operator_319 σ x1 x2 x3 x5 x8) (fun r => (zQ [] [(3, 164, 165), (3, 172, 279)] [] [(4, 4, 4)]) σ0 (r)) := by
  unfold fX12_operator_319
  exact zpc_ck (zpc_bs (zQ.wr (a := 172) (b := 279) (lo := 176) (hi := 278) h (zr_add (lo := 176) (hi := 278) qx3 (zr_c (x := 4) (lo := 4) (hi := 4) (by decide)) (by decide)) rfl (by decide)) (fun σ1 hσ1 => zpc_bi (fB_fX12_waveAt hσ1) (fun σ2 v3 hσ2 => zpc_ck (zpc_bs (zQ.wr (a := 172) (b := 279) (lo := 175) (hi := 277) hσ2 (zr_add (lo := 175) (hi := 277) qx3 (zr_c (x := 3) (lo := 3) (hi := 3) (by decide)) (by decide)) rfl (by decide)) (fun σ4 hσ4 => zpc_some hσ4)))))
theorem fB_fX12_operator_266 {σ0 : zSt} {σ : zSt} {x1 : Int32} {x2 : Int32} {x3 : Int32} {x5 : Int32} {s0 : Int32} (h : (zQ [] [(3, 164, 165), (3, 172, 279)] [] [(4, 4, 4)]) σ0 σ) (qx3 : zr 172 274 x3) : zpc (fX12_operator_266 σ x1 x2 x3 x5 s0) (fun r => (zQ [] [(3, 164, 165), (3, 172, 279)] [] [(4, 4, 4)]) σ0 (r)) := by
  unfold fX12_operator_266
  exact zpc_ck (zpc_ck (zpc_bv (fun v5 _ => zpc_bi (fB_fX12_isRhythm h) (fun σ6 v7 hσ6 => zpc_if (fun _ => fB_fX12_operator_319 hσ6 qx3) (fun _ => zpc_if (fun _ => fB_fX12_operator_319 hσ6 qx3) (fun _ => zpc_ck (zpc_ck (zpc_bi (fB_fX12_drum hσ6) (fun σ8 v9 hσ8 => fB_fX12_operator_319 hσ8 qx3)))))))))
theorem fB_fX12_operator_190 {σ0 : zSt} {σ : zSt} {x1 : Int32} {x2 : Int32} {x3 : Int32} (h : (zQ [] [(3, 164, 165), (3, 172, 279)] [] [(4, 4, 4)]) σ0 σ) (qx3 : zr 172 274 x3) : zpc (fX12_operator_190 σ x1 x2 x3) (fun r => (zQ [] [(3, 164, 165), (3, 172, 279)] [] [(4, 4, 4)]) σ0 (r)) := by
  unfold fX12_operator_190
  exact zpc_bu (fB_fX12_phase h qx3) (fun σ10 hσ10 => zpc_ck (zpc_bv (fun v11 _ => zpc_bi (fB_fX12_patchByte hσ10) (fun σ12 v13 hσ12 => zpc_bv (fun v14 _ => zpc_if (fun _ => zpc_ck (fB_fX12_operator_266 hσ12 qx3)) (fun _ => zpc_if (fun _ => fB_fX12_operator_266 hσ12 qx3) (fun _ => zpc_ck (zpc_ck (fB_fX12_operator_266 hσ12 qx3)))))))))
theorem fB_fX12_operator_146 {σ0 : zSt} {σ : zSt} {x1 : Int32} {x2 : Int32} {x3 : Int32} (h : (zQ [] [(3, 164, 165), (3, 172, 279)] [] [(4, 4, 4)]) σ0 σ) (qx3 : zr 172 274 x3) : zpc (fX12_operator_146 σ x1 x2 x3) (fun r => (zQ [] [(3, 164, 165), (3, 172, 279)] [] [(4, 4, 4)]) σ0 (r)) := by
  unfold fX12_operator_146
  exact zpc_ck (zpc_if (fun _ => zpc_ck (zpc_ck (zpc_bi (fB_fX12_patchByte h) (fun σ15 v16 hσ15 => zpc_if (fun _ => fB_fX12_operator_190 hσ15 qx3) (fun _ => zpc_ck (zpc_bs (zQ.wr (a := 172) (b := 279) (lo := 173) (hi := 275) hσ15 (zr_add (lo := 173) (hi := 275) qx3 (zr_c (x := 1) (lo := 1) (hi := 1) (by decide)) (by decide)) rfl (by decide)) (fun σ17 hσ17 => fB_fX12_operator_190 hσ17 qx3))))))) (fun _ => fB_fX12_operator_190 h qx3))
theorem fB_fX12_operator_113 {σ0 : zSt} {σ : zSt} {x1 : Int32} {x2 : Int32} {x3 : Int32} (h : (zQ [] [(3, 164, 165), (3, 172, 279)] [] [(4, 4, 4)]) σ0 σ) (qx3 : zr 172 274 x3) : zpc (fX12_operator_113 σ x1 x2 x3) (fun r => (zQ [] [(3, 164, 165), (3, 172, 279)] [] [(4, 4, 4)]) σ0 (r)) := by
  unfold fX12_operator_113
  exact zpc_ck (zpc_if (fun _ => zpc_ck (zpc_if (fun _ => zpc_ck (zpc_bs (zQ.wr (a := 172) (b := 279) (lo := 173) (hi := 275) h (zr_add (lo := 173) (hi := 275) qx3 (zr_c (x := 1) (lo := 1) (hi := 1) (by decide)) (by decide)) rfl (by decide)) (fun σ18 hσ18 => fB_fX12_operator_190 hσ18 qx3))) (fun _ => fB_fX12_operator_146 h qx3))) (fun _ => fB_fX12_operator_146 h qx3))
theorem fB_fX12_operator_53 {σ0 : zSt} {σ : zSt} {x1 : Int32} {x2 : Int32} {x3 : Int32} {x4 : Int32} (h : (zQ [] [(3, 164, 165), (3, 172, 279)] [] [(4, 4, 4)]) σ0 σ) (qx3 : zr 172 274 x3) : zpc (fX12_operator_53 σ x1 x2 x3 x4) (fun r => (zQ [] [(3, 164, 165), (3, 172, 279)] [] [(4, 4, 4)]) σ0 (r)) := by
  unfold fX12_operator_53
  exact zpc_ck (zpc_bs (zQ.wr (a := 172) (b := 279) (lo := 177) (hi := 279) h (zr_add (lo := 177) (hi := 279) qx3 (zr_c (x := 5) (lo := 5) (hi := 5) (by decide)) (by decide)) rfl (by decide)) (fun σ19 hσ19 => zpc_bu (fB_fX12_envelope hσ19 qx3) (fun σ20 hσ20 => zpc_ck (zpc_if (fun _ => zpc_ck (zpc_if (fun _ => fB_fX12_operator_113 hσ20 qx3) (fun _ => zpc_ck (zpc_bs (zQ.wr (a := 172) (b := 279) (lo := 173) (hi := 275) hσ20 (zr_add (lo := 173) (hi := 275) qx3 (zr_c (x := 1) (lo := 1) (hi := 1) (by decide)) (by decide)) rfl (by decide)) (fun σ21 hσ21 => zpc_ck (zpc_bs (zQ.wr (a := 172) (b := 279) (lo := 174) (hi := 276) hσ21 (zr_add (lo := 174) (hi := 276) qx3 (zr_c (x := 2) (lo := 2) (hi := 2) (by decide)) (by decide)) rfl (by decide)) (fun σ22 hσ22 => fB_fX12_operator_190 hσ22 qx3))))))) (fun _ => fB_fX12_operator_113 hσ20 qx3)))))
theorem fB_fX12_operator_52 {σ0 : zSt} {σ : zSt} {x1 : Int32} {x2 : Int32} {x3 : Int32} {x4 : Int32} {s0 : Int32} {s1 : Int32} (h : (zQ [] [(3, 164, 165), (3, 172, 279)] [] [(4, 4, 4)]) σ0 σ) (qx3 : zr 172 274 x3) (qs1 : zr 172 279 s1) : zpc (fX12_operator_52 σ x1 x2 x3 x4 s0 s1) (fun r => (zQ [] [(3, 164, 165), (3, 172, 279)] [] [(4, 4, 4)]) σ0 (r)) := by
  unfold fX12_operator_52
  exact zpc_ck (zpc_bs (zQ.wr (a := 172) (b := 279) (lo := 172) (hi := 279) h qs1 rfl (by decide)) (fun σ23 hσ23 => fB_fX12_operator_53 hσ23 qx3))
theorem fB_fX12_operator {σ0 : zSt} {σ : zSt} {x1 : Int32} {x2 : Int32} (h : (zQ [] [(3, 164, 165), (3, 172, 279)] [] [(4, 4, 4)]) σ0 σ) (qx1 : zr 0 8 x1) (qx2 : zr 0 1 x2) : zpc (fX12_operator σ x1 x2) (fun r => (zQ [] [(3, 164, 165), (3, 172, 279)] [] [(4, 4, 4)]) σ0 (r)) := by
  unfold fX12_operator
  exact zpc_bv (fun v24 ev24 => zpc_bi (fB_fX12_isOn h) (fun σ25 v26 hσ25 => zpc_ck (zpc_if (fun _ => fB_fX12_operator_53 hσ25 (show zr 172 274 v24 by rw [ev24]; exact (zr_add (lo := 172) (hi := 274) (zr_c (x := 172) (lo := 172) (hi := 172) (by decide)) (zr_mul (lo := 0) (hi := 102) (zr_c (x := 6) (lo := 6) (hi := 6) (by decide)) (zr_add (lo := 0) (hi := 17) (zr_mul (lo := 0) (hi := 16) (zr_c (x := 2) (lo := 2) (hi := 2) (by decide)) qx1 (by decide)) qx2 (by decide)) (by decide)) (by decide)))) (fun _ => zpc_if (fun _ => fB_fX12_operator_52 hσ25 (show zr 172 274 v24 by rw [ev24]; exact (zr_add (lo := 172) (hi := 274) (zr_c (x := 172) (lo := 172) (hi := 172) (by decide)) (zr_mul (lo := 0) (hi := 102) (zr_c (x := 6) (lo := 6) (hi := 6) (by decide)) (zr_add (lo := 0) (hi := 17) (zr_mul (lo := 0) (hi := 16) (zr_c (x := 2) (lo := 2) (hi := 2) (by decide)) qx1 (by decide)) qx2 (by decide)) (by decide)) (by decide))) (zr_w (zr_add (lo := 173) (hi := 275) (show zr 172 274 v24 by rw [ev24]; exact (zr_add (lo := 172) (hi := 274) (zr_c (x := 172) (lo := 172) (hi := 172) (by decide)) (zr_mul (lo := 0) (hi := 102) (zr_c (x := 6) (lo := 6) (hi := 6) (by decide)) (zr_add (lo := 0) (hi := 17) (zr_mul (lo := 0) (hi := 16) (zr_c (x := 2) (lo := 2) (hi := 2) (by decide)) qx1 (by decide)) qx2 (by decide)) (by decide)) (by decide))) (zr_c (x := 1) (lo := 1) (hi := 1) (by decide)) (by decide)) (by decide))) (fun _ => fB_fX12_operator_52 hσ25 (show zr 172 274 v24 by rw [ev24]; exact (zr_add (lo := 172) (hi := 274) (zr_c (x := 172) (lo := 172) (hi := 172) (by decide)) (zr_mul (lo := 0) (hi := 102) (zr_c (x := 6) (lo := 6) (hi := 6) (by decide)) (zr_add (lo := 0) (hi := 17) (zr_mul (lo := 0) (hi := 16) (zr_c (x := 2) (lo := 2) (hi := 2) (by decide)) qx1 (by decide)) qx2 (by decide)) (by decide)) (by decide))) (zr_w (zr_add (lo := 173) (hi := 275) (show zr 172 274 v24 by rw [ev24]; exact (zr_add (lo := 172) (hi := 274) (zr_c (x := 172) (lo := 172) (hi := 172) (by decide)) (zr_mul (lo := 0) (hi := 102) (zr_c (x := 6) (lo := 6) (hi := 6) (by decide)) (zr_add (lo := 0) (hi := 17) (zr_mul (lo := 0) (hi := 16) (zr_c (x := 2) (lo := 2) (hi := 2) (by decide)) qx1 (by decide)) qx2 (by decide)) (by decide)) (by decide))) (zr_c (x := 1) (lo := 1) (hi := 1) (by decide)) (by decide)) (by decide)))))))
theorem fB_fX12_waves_20_body {σ0 : zSt} {k12 : zSt → Int32 → Option (zSt)} (hk12 : ∀ (y0 : zSt) (y1 : Int32), (zQ [] [(3, 164, 165), (3, 172, 279)] [] [(4, 4, 4)]) σ0 y0 → zr 0 9 y1 → zpc (k12 y0 y1) (fun r => (zQ [] [(3, 164, 165), (3, 172, 279)] [] [(4, 4, 4)]) σ0 (r))) {k20 : zSt → Int32 → Int32 → Option (zSt)} (hk20 : ∀ (y0 : zSt) (y1 : Int32) (y2 : Int32), (zQ [] [(3, 164, 165), (3, 172, 279)] [] [(4, 4, 4)]) σ0 y0 → zr 0 8 y1 → zr 0 2 y2 → zpc (k20 y0 y1 y2) (fun r => (zQ [] [(3, 164, 165), (3, 172, 279)] [] [(4, 4, 4)]) σ0 (r))) {σ : zSt} {x1 : Int32} {x2 : Int32} (h : (zQ [] [(3, 164, 165), (3, 172, 279)] [] [(4, 4, 4)]) σ0 σ) (qx1 : zr 0 8 x1) (qx2 : zr 0 2 x2) : zpc (fX12_waves_20_body k12 k20 σ x1 x2) (fun r => (zQ [] [(3, 164, 165), (3, 172, 279)] [] [(4, 4, 4)]) σ0 (r)) := by
  unfold fX12_waves_20_body
  exact zpc_if (fun g1 => zpc_bv (fun v1 ev1 => hk12 _ _ h (zr_w (show zr 1 9 v1 by rw [ev1]; exact (zr_add (lo := 1) (hi := 9) qx1 (zr_c (x := 1) (lo := 1) (hi := 1) (by decide)) (by decide))) (by decide)))) (fun g1 => zpc_bu (fB_fX12_operator h qx1 (zr_nge (k := 2) (m := 1) qx2 rfl g1 (by decide))) (fun σ2 hσ2 => zpc_bv (fun v3 ev3 => hk20 _ _ _ hσ2 qx1 (zr_w (show zr 1 2 v3 by rw [ev3]; exact (zr_add (lo := 1) (hi := 2) (zr_nge (k := 2) (m := 1) qx2 rfl g1 (by decide)) (zr_c (x := 1) (lo := 1) (hi := 1) (by decide)) (by decide))) (by decide)))))
theorem fB_fX12_waves_20 {σ0 : zSt} {k12 : zSt → Int32 → Option (zSt)} (hk12 : ∀ (y0 : zSt) (y1 : Int32), (zQ [] [(3, 164, 165), (3, 172, 279)] [] [(4, 4, 4)]) σ0 y0 → zr 0 9 y1 → zpc (k12 y0 y1) (fun r => (zQ [] [(3, 164, 165), (3, 172, 279)] [] [(4, 4, 4)]) σ0 (r))) : ∀ (n : Nat) (y0 : zSt) (y1 : Int32) (y2 : Int32), (zQ [] [(3, 164, 165), (3, 172, 279)] [] [(4, 4, 4)]) σ0 y0 → zr 0 8 y1 → zr 0 2 y2 → zpc (fX12_waves_20 k12 n y0 y1 y2) (fun r => (zQ [] [(3, 164, 165), (3, 172, 279)] [] [(4, 4, 4)]) σ0 (r)) := by
  intro n
  induction n with
  | zero => intro y0 y1 y2 h q1 q2; exact zpc_none
  | succ n ih => intro y0 y1 y2 h q1 q2; exact fB_fX12_waves_20_body hk12 ih h q1 q2
theorem fB_fX12_waves_157 {σ0 : zSt} {k82 : zSt → Int32 → Int32 → Option (zSt)} (hk82 : ∀ (y0 : zSt) (y1 : Int32) (y2 : Int32), (zQ [] [(3, 164, 165), (3, 172, 279)] [] [(4, 4, 4)]) σ0 y0 → zpc (k82 y0 y1 y2) (fun r => (zQ [] [(3, 164, 165), (3, 172, 279)] [] [(4, 4, 4)]) σ0 (r))) {σ : zSt} {x2 : Int32} {x3 : Int32} (h : (zQ [] [(3, 164, 165), (3, 172, 279)] [] [(4, 4, 4)]) σ0 σ) : zpc (fX12_waves_157 k82 σ x2 x3) (fun r => (zQ [] [(3, 164, 165), (3, 172, 279)] [] [(4, 4, 4)]) σ0 (r)) := by
  unfold fX12_waves_157
  exact zpc_bv (fun v4 _ => hk82 _ _ _ h)
theorem fB_fX12_waves_153 {σ0 : zSt} {k82 : zSt → Int32 → Int32 → Option (zSt)} (hk82 : ∀ (y0 : zSt) (y1 : Int32) (y2 : Int32), (zQ [] [(3, 164, 165), (3, 172, 279)] [] [(4, 4, 4)]) σ0 y0 → zpc (k82 y0 y1 y2) (fun r => (zQ [] [(3, 164, 165), (3, 172, 279)] [] [(4, 4, 4)]) σ0 (r))) {σ : zSt} {x3 : Int32} {s0 : Int32} {s1 : Int32} {s2 : Int32} {s3 : Int32} (h : (zQ [] [(3, 164, 165), (3, 172, 279)] [] [(4, 4, 4)]) σ0 σ) : zpc (fX12_waves_153 k82 σ x3 s0 s1 s2 s3) (fun r => (zQ [] [(3, 164, 165), (3, 172, 279)] [] [(4, 4, 4)]) σ0 (r)) := by
  unfold fX12_waves_153
  exact zpc_bv (fun v5 _ => fB_fX12_waves_157 hk82 h)
theorem fB_fX12_waves_82_body {σ0 : zSt} {k82 : zSt → Int32 → Int32 → Option (zSt)} (hk82 : ∀ (y0 : zSt) (y1 : Int32) (y2 : Int32), (zQ [] [(3, 164, 165), (3, 172, 279)] [] [(4, 4, 4)]) σ0 y0 → zpc (k82 y0 y1 y2) (fun r => (zQ [] [(3, 164, 165), (3, 172, 279)] [] [(4, 4, 4)]) σ0 (r))) {σ : zSt} {x2 : Int32} {x3 : Int32} (h : (zQ [] [(3, 164, 165), (3, 172, 279)] [] [(4, 4, 4)]) σ0 σ) : zpc (fX12_waves_82_body k82 σ x2 x3) (fun r => (zQ [] [(3, 164, 165), (3, 172, 279)] [] [(4, 4, 4)]) σ0 (r)) := by
  unfold fX12_waves_82_body
  exact zpc_if (fun _ => zpc_ck (zpc_bs (zQ.wi h rfl) (fun σ6 hσ6 => zpc_some hσ6))) (fun _ => zpc_bv (fun v7 _ => zpc_bi (fB_fX12_isRhythm h) (fun σ8 v9 hσ8 => zpc_if (fun _ => zpc_ck (zpc_bv (fun v10 _ => fB_fX12_waves_157 hk82 hσ8))) (fun _ => zpc_ck (zpc_if (fun _ => fB_fX12_waves_153 hk82 hσ8) (fun _ => zpc_ck (fB_fX12_waves_153 hk82 hσ8)))))))
theorem fB_fX12_waves_82 {σ0 : zSt} : ∀ (n : Nat) (y0 : zSt) (y1 : Int32) (y2 : Int32), (zQ [] [(3, 164, 165), (3, 172, 279)] [] [(4, 4, 4)]) σ0 y0 → zpc (fX12_waves_82 n y0 y1 y2) (fun r => (zQ [] [(3, 164, 165), (3, 172, 279)] [] [(4, 4, 4)]) σ0 (r)) := by
  intro n
  induction n with
  | zero => intro y0 y1 y2 h; exact zpc_none
  | succ n ih => intro y0 y1 y2 h; exact fB_fX12_waves_82_body ih h
theorem fB_fX12_waves_75 {σ0 : zSt} {σ : zSt} {s0 : Int32} {s1 : Int32} (h : (zQ [] [(3, 164, 165), (3, 172, 279)] [] [(4, 4, 4)]) σ0 σ) (qs1 : zr 164 164 s1) : zpc (fX12_waves_75 σ s0 s1) (fun r => (zQ [] [(3, 164, 165), (3, 172, 279)] [] [(4, 4, 4)]) σ0 (r)) := by
  unfold fX12_waves_75
  exact zpc_ck (zpc_bs (zQ.wr (a := 164) (b := 165) (lo := 164) (hi := 164) h qs1 rfl (by decide)) (fun σ11 hσ11 => fB_fX12_waves_82 _ _ _ _ hσ11))
theorem fB_fX12_waves_12_body {σ0 : zSt} {k12 : zSt → Int32 → Option (zSt)} (hk12 : ∀ (y0 : zSt) (y1 : Int32), (zQ [] [(3, 164, 165), (3, 172, 279)] [] [(4, 4, 4)]) σ0 y0 → zr 0 9 y1 → zpc (k12 y0 y1) (fun r => (zQ [] [(3, 164, 165), (3, 172, 279)] [] [(4, 4, 4)]) σ0 (r))) {σ : zSt} {x1 : Int32} (h : (zQ [] [(3, 164, 165), (3, 172, 279)] [] [(4, 4, 4)]) σ0 σ) (qx1 : zr 0 9 x1) : zpc (fX12_waves_12_body k12 σ x1) (fun r => (zQ [] [(3, 164, 165), (3, 172, 279)] [] [(4, 4, 4)]) σ0 (r)) := by
  unfold fX12_waves_12_body
  exact zpc_if (fun g2 => zpc_ck (zpc_bv (fun v12 _ => zpc_if (fun _ => fB_fX12_waves_75 h (zr_c (x := 164) (lo := 164) (hi := 164) (by decide))) (fun _ => fB_fX12_waves_75 h (zr_c (x := 164) (lo := 164) (hi := 164) (by decide)))))) (fun g2 => fB_fX12_waves_20 hk12 _ _ _ _ h (zr_nge (k := 9) (m := 8) qx1 rfl g2 (by decide)) (zr_w (zr_c (x := 0) (lo := 0) (hi := 0) (by decide)) (by decide)))
theorem fB_fX12_waves_12 {σ0 : zSt} : ∀ (n : Nat) (y0 : zSt) (y1 : Int32), (zQ [] [(3, 164, 165), (3, 172, 279)] [] [(4, 4, 4)]) σ0 y0 → zr 0 9 y1 → zpc (fX12_waves_12 n y0 y1) (fun r => (zQ [] [(3, 164, 165), (3, 172, 279)] [] [(4, 4, 4)]) σ0 (r)) := by
  intro n
  induction n with
  | zero => intro y0 y1 h q1; exact zpc_none
  | succ n ih => intro y0 y1 h q1; exact fB_fX12_waves_12_body ih h q1
theorem fB_fX12_waves {σ0 : zSt} {σ : zSt} (h : (zQ [] [(3, 164, 165), (3, 172, 279)] [] [(4, 4, 4)]) σ0 σ) : zpc (fX12_waves σ) (fun r => (zQ [] [(3, 164, 165), (3, 172, 279)] [] [(4, 4, 4)]) σ0 (r)) := by
  unfold fX12_waves
  exact zpc_ck (zpc_ck (zpc_bs (zQ.wl h rfl) (fun σ13 hσ13 => fB_fX12_waves_12 _ _ _ hσ13 (zr_w (zr_c (x := 0) (lo := 0) (hi := 0) (by decide)) (by decide)))))
theorem fa_fX10_heard_24 {σ0 : zSt} {σ : zSt} {s0 : Int32} (h : (zQ [12] [] [48] [(38, 4, 6)]) σ0 σ) : zpc (fX10_heard_24 σ s0) (fun r => (zQ [12] [] [48] [(38, 4, 6)]) σ0 (r.1)) := by
  unfold fX10_heard_24
  exact zpc_some h
theorem fa_fX10_heard {σ0 : zSt} {σ : zSt} (h : (zQ [12] [] [48] [(38, 4, 6)]) σ0 σ) : zpc (fX10_heard σ) (fun r => (zQ [12] [] [48] [(38, 4, 6)]) σ0 (r.1)) := by
  unfold fX10_heard
  exact zpc_ck (zpc_if (fun _ => zpc_ck (fa_fX10_heard_24 h)) (fun _ => fa_fX10_heard_24 h))
theorem fa_fX6_add_k12_56 {σ0 : zSt} {σ : zSt} (h : (zQ [12] [] [48] [(38, 4, 6)]) σ0 σ) : zpc (fX6_add_k12_56 σ) (fun r => (zQ [12] [] [48] [(38, 4, 6)]) σ0 (r)) := by
  unfold fX6_add_k12_56
  exact zpc_some h
theorem fa_fX6_add_k12 {σ0 : zSt} {σ : zSt} {x1 : Int64} (h : (zQ [12] [] [48] [(38, 4, 6)]) σ0 σ) : zpc (fX6_add_k12 σ x1) (fun r => (zQ [12] [] [48] [(38, 4, 6)]) σ0 (r)) := by
  unfold fX6_add_k12
  exact zpc_ck (zpc_bs (zQ.wl h rfl) (fun σ1 hσ1 => zpc_if (fun _ => zpc_bs (zQ.wi hσ1 rfl) (fun σ2 hσ2 => fa_fX6_add_k12_56 hσ2)) (fun _ => zpc_bs (zQ.wi hσ1 rfl) (fun σ3 hσ3 => fa_fX6_add_k12_56 hσ3))))
theorem fa_fX0_addMix {σ0 : zSt} {σ : zSt} (h : (zQ [12] [] [48] [(38, 4, 6)]) σ0 σ) : zpc (fX0_addMix σ) (fun r => (zQ [12] [] [48] [(38, 4, 6)]) σ0 (r)) := by
  unfold fX0_addMix
  exact zpc_ck (zpc_bv (fun v1 _ => zpc_ck (zpc_ck (zpc_bi (fa_fX10_heard h) (fun σ2 v3 hσ2 => zpc_bv (fun v4 _ => zpc_ck (zpc_ck (zpc_bi (fa_fX10_heard hσ2) (fun σ5 v6 hσ5 => zpc_bv (fun v7 _ => zpc_bu (fa_fX6_add_k12 hσ5) (fun σ8 hσ8 => zpc_ck (zpc_bs (zQ.wl hσ8 rfl) (fun σ9 hσ9 => zpc_ck (zpc_bs (zQ.wl hσ9 rfl) (fun σ10 hσ10 => zpc_ck (zpc_bs (zQ.wl hσ10 rfl) (fun σ11 hσ11 => zpc_some hσ11)))))))))))))))))
theorem fA_fX12_mixed_151 {σ0 : zSt} {σ : zSt} {x2 : Int64} (h : (zQ [] [(3, 166, 170)] [11] []) σ0 σ) : zpc (fX12_mixed_151 σ x2) (fun r => (zQ [] [(3, 166, 170)] [11] []) σ0 (r)) := by
  unfold fX12_mixed_151
  exact zpc_ck (zpc_ck (zpc_ck (zpc_ck (zpc_bs (zQ.wl h rfl) (fun σ1 hσ1 => zpc_some hσ1)))))
theorem fA_fX12_mixed_76_body {σ0 : zSt} {k76 : zSt → Int64 → Int32 → Option (zSt)} (hk76 : ∀ (y0 : zSt) (y1 : Int64) (y2 : Int32), (zQ [] [(3, 166, 170)] [11] []) σ0 y0 → zr 0 3 y2 → zpc (k76 y0 y1 y2) (fun r => (zQ [] [(3, 166, 170)] [11] []) σ0 (r))) {σ : zSt} {x2 : Int64} {x4 : Int32} (h : (zQ [] [(3, 166, 170)] [11] []) σ0 σ) (qx4 : zr 0 3 x4) : zpc (fX12_mixed_76_body k76 σ x2 x4) (fun r => (zQ [] [(3, 166, 170)] [11] []) σ0 (r)) := by
  unfold fX12_mixed_76_body
  exact zpc_if (fun g1 => zpc_ck (zpc_if (fun _ => zpc_ck (zpc_ck (zpc_ck (zpc_bs (zQ.wi h rfl) (fun σ3 hσ3 => fA_fX12_mixed_151 hσ3))))) (fun _ => zpc_ck (zpc_ck (zpc_bs (zQ.wi h rfl) (fun σ2 hσ2 => fA_fX12_mixed_151 hσ2)))))) (fun g1 => zpc_ck (zpc_bs (zQ.wr (a := 166) (b := 170) (lo := 166) (hi := 168) h (zr_add (lo := 166) (hi := 168) (zr_c (x := 166) (lo := 166) (hi := 166) (by decide)) (zr_nge (k := 3) (m := 2) qx4 rfl g1 (by decide)) (by decide)) rfl (by decide)) (fun σ4 hσ4 => zpc_bv (fun v5 ev5 => hk76 _ _ _ hσ4 (zr_w (show zr 1 3 v5 by rw [ev5]; exact (zr_add (lo := 1) (hi := 3) (zr_nge (k := 3) (m := 2) qx4 rfl g1 (by decide)) (zr_c (x := 1) (lo := 1) (hi := 1) (by decide)) (by decide))) (by decide))))))
theorem fA_fX12_mixed_76 {σ0 : zSt} : ∀ (n : Nat) (y0 : zSt) (y1 : Int64) (y2 : Int32), (zQ [] [(3, 166, 170)] [11] []) σ0 y0 → zr 0 3 y2 → zpc (fX12_mixed_76 n y0 y1 y2) (fun r => (zQ [] [(3, 166, 170)] [11] []) σ0 (r)) := by
  intro n
  induction n with
  | zero => intro y0 y1 y2 h q2; exact zpc_none
  | succ n ih => intro y0 y1 y2 h q2; exact fA_fX12_mixed_76_body ih h q2
theorem fA_fX12_mixed_26 {σ0 : zSt} {σ : zSt} {s0 : Int32} (h : (zQ [] [(3, 166, 170)] [11] []) σ0 σ) : zpc (fX12_mixed_26 σ s0) (fun r => (zQ [] [(3, 166, 170)] [11] []) σ0 (r)) := by
  unfold fX12_mixed_26
  exact zpc_ck (zpc_ck (zpc_ck (zpc_ck (zpc_ck (zpc_ck (zpc_bv (fun v6 _ => fA_fX12_mixed_76 _ _ _ _ h (zr_w (zr_c (x := 0) (lo := 0) (hi := 0) (by decide)) (by decide)))))))))
theorem fA_fX12_mixed {σ0 : zSt} {σ : zSt} (h : (zQ [] [(3, 166, 170)] [11] []) σ0 σ) : zpc (fX12_mixed σ) (fun r => (zQ [] [(3, 166, 170)] [11] []) σ0 (r)) := by
  unfold fX12_mixed
  exact zpc_ck (zpc_if (fun _ => zpc_ck (fA_fX12_mixed_26 h)) (fun _ => fA_fX12_mixed_26 h))
theorem fe_fX0_count_20 {σ0 : zSt} {σ : zSt} {s0 : Int64} (h : (zQ [3, 5, 7, 9, 10, 15, 17, 19, 21, 23, 25, 27, 28, 29, 30, 32, 34, 36, 40, 42, 44, 45] [(11, 2, 3), (12, 2, 3)] [5, 38, 46, 48] []) σ0 σ) : zpc (fX0_count_20 σ s0) (fun r => (zQ [3, 5, 7, 9, 10, 15, 17, 19, 21, 23, 25, 27, 28, 29, 30, 32, 34, 36, 40, 42, 44, 45] [(11, 2, 3), (12, 2, 3)] [5, 38, 46, 48] []) σ0 (r.1)) := by
  unfold fX0_count_20
  exact zpc_some h
theorem fe_fX0_count_19 {σ0 : zSt} {σ : zSt} (h : (zQ [3, 5, 7, 9, 10, 15, 17, 19, 21, 23, 25, 27, 28, 29, 30, 32, 34, 36, 40, 42, 44, 45] [(11, 2, 3), (12, 2, 3)] [5, 38, 46, 48] []) σ0 σ) : zpc (fX0_count_19 σ) (fun r => (zQ [3, 5, 7, 9, 10, 15, 17, 19, 21, 23, 25, 27, 28, 29, 30, 32, 34, 36, 40, 42, 44, 45] [(11, 2, 3), (12, 2, 3)] [5, 38, 46, 48] []) σ0 (r.1)) := by
  unfold fX0_count_19
  exact fe_fX0_count_20 h
theorem fe_fX0_count {σ0 : zSt} {σ : zSt} {x1 : Int32} (h : (zQ [3, 5, 7, 9, 10, 15, 17, 19, 21, 23, 25, 27, 28, 29, 30, 32, 34, 36, 40, 42, 44, 45] [(11, 2, 3), (12, 2, 3)] [5, 38, 46, 48] []) σ0 σ) : zpc (fX0_count σ x1) (fun r => (zQ [3, 5, 7, 9, 10, 15, 17, 19, 21, 23, 25, 27, 28, 29, 30, 32, 34, 36, 40, 42, 44, 45] [(11, 2, 3), (12, 2, 3)] [5, 38, 46, 48] []) σ0 (r.1)) := by
  unfold fX0_count
  exact zpc_if (fun _ => fe_fX0_count_19 h) (fun _ => zpc_if (fun _ => fe_fX0_count_19 h) (fun _ => zpc_ck (fe_fX0_count_20 h)))
theorem fe_fX0_countPicture {σ0 : zSt} {σ : zSt} (h : (zQ [3, 5, 7, 9, 10, 15, 17, 19, 21, 23, 25, 27, 28, 29, 30, 32, 34, 36, 40, 42, 44, 45] [(11, 2, 3), (12, 2, 3)] [5, 38, 46, 48] []) σ0 σ) : zpc (fX0_countPicture σ) (fun r => (zQ [3, 5, 7, 9, 10, 15, 17, 19, 21, 23, 25, 27, 28, 29, 30, 32, 34, 36, 40, 42, 44, 45] [(11, 2, 3), (12, 2, 3)] [5, 38, 46, 48] []) σ0 (r)) := by
  unfold fX0_countPicture
  exact zpc_ck (zpc_ck (zpc_bs (zQ.wl h rfl) (fun σ1 hσ1 => zpc_some hσ1)))
theorem fe_fX7_moveTone_57 {σ0 : zSt} {σ : zSt} {x1 : Int32} {x2 : Int32} (h : (zQ [3, 5, 7, 9, 10, 15, 17, 19, 21, 23, 25, 27, 28, 29, 30, 32, 34, 36, 40, 42, 44, 45] [(11, 2, 3), (12, 2, 3)] [5, 38, 46, 48] []) σ0 σ) : zpc (fX7_moveTone_57 σ x1 x2) (fun r => (zQ [3, 5, 7, 9, 10, 15, 17, 19, 21, 23, 25, 27, 28, 29, 30, 32, 34, 36, 40, 42, 44, 45] [(11, 2, 3), (12, 2, 3)] [5, 38, 46, 48] []) σ0 (r)) := by
  unfold fX7_moveTone_57
  exact zpc_ck (zpc_bs (zQ.wi h rfl) (fun σ1 hσ1 => zpc_some hσ1))
theorem fe_fX7_moveTone_56 {σ0 : zSt} {σ : zSt} {x1 : Int32} {x2 : Int32} {s0 : Int32} {s1 : Int32} (h : (zQ [3, 5, 7, 9, 10, 15, 17, 19, 21, 23, 25, 27, 28, 29, 30, 32, 34, 36, 40, 42, 44, 45] [(11, 2, 3), (12, 2, 3)] [5, 38, 46, 48] []) σ0 σ) : zpc (fX7_moveTone_56 σ x1 x2 s0 s1) (fun r => (zQ [3, 5, 7, 9, 10, 15, 17, 19, 21, 23, 25, 27, 28, 29, 30, 32, 34, 36, 40, 42, 44, 45] [(11, 2, 3), (12, 2, 3)] [5, 38, 46, 48] []) σ0 (r)) := by
  unfold fX7_moveTone_56
  exact zpc_ck (zpc_bs (zQ.wi h rfl) (fun σ2 hσ2 => fe_fX7_moveTone_57 hσ2))
theorem fe_fX7_moveTone {σ0 : zSt} {σ : zSt} {x1 : Int32} (h : (zQ [3, 5, 7, 9, 10, 15, 17, 19, 21, 23, 25, 27, 28, 29, 30, 32, 34, 36, 40, 42, 44, 45] [(11, 2, 3), (12, 2, 3)] [5, 38, 46, 48] []) σ0 σ) : zpc (fX7_moveTone σ x1) (fun r => (zQ [3, 5, 7, 9, 10, 15, 17, 19, 21, 23, 25, 27, 28, 29, 30, 32, 34, 36, 40, 42, 44, 45] [(11, 2, 3), (12, 2, 3)] [5, 38, 46, 48] []) σ0 (r)) := by
  unfold fX7_moveTone
  exact zpc_ck (zpc_bv (fun v3 _ => zpc_if (fun _ => zpc_ck (zpc_bv (fun v4 _ => zpc_if (fun _ => zpc_ck (fe_fX7_moveTone_56 h)) (fun _ => fe_fX7_moveTone_56 h)))) (fun _ => fe_fX7_moveTone_57 h)))
theorem fe_fX7_moveNoise_136 {σ0 : zSt} {σ : zSt} (h : (zQ [3, 5, 7, 9, 10, 15, 17, 19, 21, 23, 25, 27, 28, 29, 30, 32, 34, 36, 40, 42, 44, 45] [(11, 2, 3), (12, 2, 3)] [5, 38, 46, 48] []) σ0 σ) : zpc (fX7_moveNoise_136 σ) (fun r => (zQ [3, 5, 7, 9, 10, 15, 17, 19, 21, 23, 25, 27, 28, 29, 30, 32, 34, 36, 40, 42, 44, 45] [(11, 2, 3), (12, 2, 3)] [5, 38, 46, 48] []) σ0 (r)) := by
  unfold fX7_moveNoise_136
  exact zpc_some h
theorem fe_fX7_moveNoise_120 {σ0 : zSt} {σ : zSt} {x2 : Int32} {s0 : Int32} (h : (zQ [3, 5, 7, 9, 10, 15, 17, 19, 21, 23, 25, 27, 28, 29, 30, 32, 34, 36, 40, 42, 44, 45] [(11, 2, 3), (12, 2, 3)] [5, 38, 46, 48] []) σ0 σ) : zpc (fX7_moveNoise_120 σ x2 s0) (fun r => (zQ [3, 5, 7, 9, 10, 15, 17, 19, 21, 23, 25, 27, 28, 29, 30, 32, 34, 36, 40, 42, 44, 45] [(11, 2, 3), (12, 2, 3)] [5, 38, 46, 48] []) σ0 (r)) := by
  unfold fX7_moveNoise_120
  exact zpc_ck (zpc_bs (zQ.wi h rfl) (fun σ1 hσ1 => fe_fX7_moveNoise_136 hσ1))
theorem fe_fX7_moveNoise_65 {σ0 : zSt} {σ : zSt} {s0 : Int32} {s1 : Int32} (h : (zQ [3, 5, 7, 9, 10, 15, 17, 19, 21, 23, 25, 27, 28, 29, 30, 32, 34, 36, 40, 42, 44, 45] [(11, 2, 3), (12, 2, 3)] [5, 38, 46, 48] []) σ0 σ) : zpc (fX7_moveNoise_65 σ s0 s1) (fun r => (zQ [3, 5, 7, 9, 10, 15, 17, 19, 21, 23, 25, 27, 28, 29, 30, 32, 34, 36, 40, 42, 44, 45] [(11, 2, 3), (12, 2, 3)] [5, 38, 46, 48] []) σ0 (r)) := by
  unfold fX7_moveNoise_65
  exact zpc_ck (zpc_bs (zQ.wi h rfl) (fun σ2 hσ2 => zpc_ck (zpc_ck (zpc_bs (zQ.wi hσ2 rfl) (fun σ3 hσ3 => zpc_ck (zpc_if (fun _ => zpc_ck (zpc_bv (fun v4 _ => zpc_ck (zpc_if (fun _ => fe_fX7_moveNoise_120 hσ3) (fun _ => fe_fX7_moveNoise_120 hσ3))))) (fun _ => fe_fX7_moveNoise_136 hσ3)))))))
theorem fe_fX7_moveNoise {σ0 : zSt} {σ : zSt} (h : (zQ [3, 5, 7, 9, 10, 15, 17, 19, 21, 23, 25, 27, 28, 29, 30, 32, 34, 36, 40, 42, 44, 45] [(11, 2, 3), (12, 2, 3)] [5, 38, 46, 48] []) σ0 σ) : zpc (fX7_moveNoise σ) (fun r => (zQ [3, 5, 7, 9, 10, 15, 17, 19, 21, 23, 25, 27, 28, 29, 30, 32, 34, 36, 40, 42, 44, 45] [(11, 2, 3), (12, 2, 3)] [5, 38, 46, 48] []) σ0 (r)) := by
  unfold fX7_moveNoise
  exact zpc_ck (zpc_ck (zpc_bs (zQ.wi h rfl) (fun σ5 hσ5 => zpc_ck (zpc_if (fun _ => zpc_ck (zpc_bv (fun v6 _ => zpc_if (fun _ => zpc_ck (fe_fX7_moveNoise_65 hσ5)) (fun _ => fe_fX7_moveNoise_65 hσ5)))) (fun _ => zpc_some hσ5)))))
theorem fe_fX7_nextSample_87 {σ0 : zSt} {k28 : zSt → Int32 → Int32 → Int32 → Option (zSt × Int32)} (hk28 : ∀ (y0 : zSt) (y1 : Int32) (y2 : Int32) (y3 : Int32), (zQ [3, 5, 7, 9, 10, 15, 17, 19, 21, 23, 25, 27, 28, 29, 30, 32, 34, 36, 40, 42, 44, 45] [(11, 2, 3), (12, 2, 3)] [5, 38, 46, 48] []) σ0 y0 → zpc (k28 y0 y1 y2 y3) (fun r => (zQ [3, 5, 7, 9, 10, 15, 17, 19, 21, 23, 25, 27, 28, 29, 30, 32, 34, 36, 40, 42, 44, 45] [(11, 2, 3), (12, 2, 3)] [5, 38, 46, 48] []) σ0 (r.1))) {σ : zSt} {x1 : Int32} {x2 : Int32} {x3 : Int32} {s0 : Int32} (h : (zQ [3, 5, 7, 9, 10, 15, 17, 19, 21, 23, 25, 27, 28, 29, 30, 32, 34, 36, 40, 42, 44, 45] [(11, 2, 3), (12, 2, 3)] [5, 38, 46, 48] []) σ0 σ) : zpc (fX7_nextSample_87 k28 σ x1 x2 x3 s0) (fun r => (zQ [3, 5, 7, 9, 10, 15, 17, 19, 21, 23, 25, 27, 28, 29, 30, 32, 34, 36, 40, 42, 44, 45] [(11, 2, 3), (12, 2, 3)] [5, 38, 46, 48] []) σ0 (r.1)) := by
  unfold fX7_nextSample_87
  exact zpc_ck (zpc_bv (fun v1 _ => zpc_ck (zpc_bv (fun v2 _ => zpc_bv (fun v3 _ => hk28 _ _ _ _ h)))))
theorem fe_fX7_nextSample_59 {σ0 : zSt} {k28 : zSt → Int32 → Int32 → Int32 → Option (zSt × Int32)} (hk28 : ∀ (y0 : zSt) (y1 : Int32) (y2 : Int32) (y3 : Int32), (zQ [3, 5, 7, 9, 10, 15, 17, 19, 21, 23, 25, 27, 28, 29, 30, 32, 34, 36, 40, 42, 44, 45] [(11, 2, 3), (12, 2, 3)] [5, 38, 46, 48] []) σ0 y0 → zpc (k28 y0 y1 y2 y3) (fun r => (zQ [3, 5, 7, 9, 10, 15, 17, 19, 21, 23, 25, 27, 28, 29, 30, 32, 34, 36, 40, 42, 44, 45] [(11, 2, 3), (12, 2, 3)] [5, 38, 46, 48] []) σ0 (r.1))) {σ : zSt} {x1 : Int32} {x2 : Int32} {x3 : Int32} {s0 : Int32} (h : (zQ [3, 5, 7, 9, 10, 15, 17, 19, 21, 23, 25, 27, 28, 29, 30, 32, 34, 36, 40, 42, 44, 45] [(11, 2, 3), (12, 2, 3)] [5, 38, 46, 48] []) σ0 σ) : zpc (fX7_nextSample_59 k28 σ x1 x2 x3 s0) (fun r => (zQ [3, 5, 7, 9, 10, 15, 17, 19, 21, 23, 25, 27, 28, 29, 30, 32, 34, 36, 40, 42, 44, 45] [(11, 2, 3), (12, 2, 3)] [5, 38, 46, 48] []) σ0 (r.1)) := by
  unfold fX7_nextSample_59
  exact zpc_if (fun _ => zpc_ck (zpc_ck (fe_fX7_nextSample_87 hk28 h))) (fun _ => fe_fX7_nextSample_87 hk28 h)
theorem fe_fX7_nextSample_28_body {σ0 : zSt} {k28 : zSt → Int32 → Int32 → Int32 → Option (zSt × Int32)} (hk28 : ∀ (y0 : zSt) (y1 : Int32) (y2 : Int32) (y3 : Int32), (zQ [3, 5, 7, 9, 10, 15, 17, 19, 21, 23, 25, 27, 28, 29, 30, 32, 34, 36, 40, 42, 44, 45] [(11, 2, 3), (12, 2, 3)] [5, 38, 46, 48] []) σ0 y0 → zpc (k28 y0 y1 y2 y3) (fun r => (zQ [3, 5, 7, 9, 10, 15, 17, 19, 21, 23, 25, 27, 28, 29, 30, 32, 34, 36, 40, 42, 44, 45] [(11, 2, 3), (12, 2, 3)] [5, 38, 46, 48] []) σ0 (r.1))) {σ : zSt} {x1 : Int32} {x2 : Int32} {x3 : Int32} (h : (zQ [3, 5, 7, 9, 10, 15, 17, 19, 21, 23, 25, 27, 28, 29, 30, 32, 34, 36, 40, 42, 44, 45] [(11, 2, 3), (12, 2, 3)] [5, 38, 46, 48] []) σ0 σ) : zpc (fX7_nextSample_28_body k28 σ x1 x2 x3) (fun r => (zQ [3, 5, 7, 9, 10, 15, 17, 19, 21, 23, 25, 27, 28, 29, 30, 32, 34, 36, 40, 42, 44, 45] [(11, 2, 3), (12, 2, 3)] [5, 38, 46, 48] []) σ0 (r.1)) := by
  unfold fX7_nextSample_28_body
  exact zpc_if (fun _ => zpc_some h) (fun _ => zpc_if (fun _ => zpc_ck (fe_fX7_nextSample_59 hk28 h)) (fun _ => zpc_ck (fe_fX7_nextSample_59 hk28 h)))
theorem fe_fX7_nextSample_28 {σ0 : zSt} : ∀ (n : Nat) (y0 : zSt) (y1 : Int32) (y2 : Int32) (y3 : Int32), (zQ [3, 5, 7, 9, 10, 15, 17, 19, 21, 23, 25, 27, 28, 29, 30, 32, 34, 36, 40, 42, 44, 45] [(11, 2, 3), (12, 2, 3)] [5, 38, 46, 48] []) σ0 y0 → zpc (fX7_nextSample_28 n y0 y1 y2 y3) (fun r => (zQ [3, 5, 7, 9, 10, 15, 17, 19, 21, 23, 25, 27, 28, 29, 30, 32, 34, 36, 40, 42, 44, 45] [(11, 2, 3), (12, 2, 3)] [5, 38, 46, 48] []) σ0 (r.1)) := by
  intro n
  induction n with
  | zero => intro y0 y1 y2 y3 h; exact zpc_none
  | succ n ih => intro y0 y1 y2 y3 h; exact fe_fX7_nextSample_28_body ih h
theorem fe_fX7_nextSample_2_body {σ0 : zSt} {k2 : zSt → Int32 → Option (zSt × Int32)} (hk2 : ∀ (y0 : zSt) (y1 : Int32), (zQ [3, 5, 7, 9, 10, 15, 17, 19, 21, 23, 25, 27, 28, 29, 30, 32, 34, 36, 40, 42, 44, 45] [(11, 2, 3), (12, 2, 3)] [5, 38, 46, 48] []) σ0 y0 → zpc (k2 y0 y1) (fun r => (zQ [3, 5, 7, 9, 10, 15, 17, 19, 21, 23, 25, 27, 28, 29, 30, 32, 34, 36, 40, 42, 44, 45] [(11, 2, 3), (12, 2, 3)] [5, 38, 46, 48] []) σ0 (r.1))) {σ : zSt} {x1 : Int32} (h : (zQ [3, 5, 7, 9, 10, 15, 17, 19, 21, 23, 25, 27, 28, 29, 30, 32, 34, 36, 40, 42, 44, 45] [(11, 2, 3), (12, 2, 3)] [5, 38, 46, 48] []) σ0 σ) : zpc (fX7_nextSample_2_body k2 σ x1) (fun r => (zQ [3, 5, 7, 9, 10, 15, 17, 19, 21, 23, 25, 27, 28, 29, 30, 32, 34, 36, 40, 42, 44, 45] [(11, 2, 3), (12, 2, 3)] [5, 38, 46, 48] []) σ0 (r.1)) := by
  unfold fX7_nextSample_2_body
  exact zpc_if (fun _ => zpc_bu (fe_fX7_moveNoise h) (fun σ4 hσ4 => fe_fX7_nextSample_28 _ _ _ _ _ hσ4)) (fun _ => zpc_bu (fe_fX7_moveTone h) (fun σ5 hσ5 => zpc_bv (fun v6 _ => hk2 _ _ hσ5)))
theorem fe_fX7_nextSample_2 {σ0 : zSt} : ∀ (n : Nat) (y0 : zSt) (y1 : Int32), (zQ [3, 5, 7, 9, 10, 15, 17, 19, 21, 23, 25, 27, 28, 29, 30, 32, 34, 36, 40, 42, 44, 45] [(11, 2, 3), (12, 2, 3)] [5, 38, 46, 48] []) σ0 y0 → zpc (fX7_nextSample_2 n y0 y1) (fun r => (zQ [3, 5, 7, 9, 10, 15, 17, 19, 21, 23, 25, 27, 28, 29, 30, 32, 34, 36, 40, 42, 44, 45] [(11, 2, 3), (12, 2, 3)] [5, 38, 46, 48] []) σ0 (r.1)) := by
  intro n
  induction n with
  | zero => intro y0 y1 h; exact zpc_none
  | succ n ih => intro y0 y1 h; exact fe_fX7_nextSample_2_body ih h
theorem fe_fX7_nextSample {σ0 : zSt} {σ : zSt} (h : (zQ [3, 5, 7, 9, 10, 15, 17, 19, 21, 23, 25, 27, 28, 29, 30, 32, 34, 36, 40, 42, 44, 45] [(11, 2, 3), (12, 2, 3)] [5, 38, 46, 48] []) σ0 σ) : zpc (fX7_nextSample σ) (fun r => (zQ [3, 5, 7, 9, 10, 15, 17, 19, 21, 23, 25, 27, 28, 29, 30, 32, 34, 36, 40, 42, 44, 45] [(11, 2, 3), (12, 2, 3)] [5, 38, 46, 48] []) σ0 (r.1)) := by
  unfold fX7_nextSample
  exact fe_fX7_nextSample_2 _ _ _ h
theorem fe_fX6_add_k11_56 {σ0 : zSt} {σ : zSt} (h : (zQ [3, 5, 7, 9, 10, 15, 17, 19, 21, 23, 25, 27, 28, 29, 30, 32, 34, 36, 40, 42, 44, 45] [(11, 2, 3), (12, 2, 3)] [5, 38, 46, 48] []) σ0 σ) : zpc (fX6_add_k11_56 σ) (fun r => (zQ [3, 5, 7, 9, 10, 15, 17, 19, 21, 23, 25, 27, 28, 29, 30, 32, 34, 36, 40, 42, 44, 45] [(11, 2, 3), (12, 2, 3)] [5, 38, 46, 48] []) σ0 (r)) := by
  unfold fX6_add_k11_56
  exact zpc_some h
theorem fe_fX6_add_k11 {σ0 : zSt} {σ : zSt} {x1 : Int64} (h : (zQ [3, 5, 7, 9, 10, 15, 17, 19, 21, 23, 25, 27, 28, 29, 30, 32, 34, 36, 40, 42, 44, 45] [(11, 2, 3), (12, 2, 3)] [5, 38, 46, 48] []) σ0 σ) : zpc (fX6_add_k11 σ x1) (fun r => (zQ [3, 5, 7, 9, 10, 15, 17, 19, 21, 23, 25, 27, 28, 29, 30, 32, 34, 36, 40, 42, 44, 45] [(11, 2, 3), (12, 2, 3)] [5, 38, 46, 48] []) σ0 (r)) := by
  unfold fX6_add_k11
  exact zpc_ck (zpc_bs (zQ.wl h rfl) (fun σ1 hσ1 => zpc_if (fun _ => zpc_bs (zQ.wi hσ1 rfl) (fun σ2 hσ2 => fe_fX6_add_k11_56 hσ2)) (fun _ => zpc_bs (zQ.wi hσ1 rfl) (fun σ3 hσ3 => fe_fX6_add_k11_56 hσ3))))
theorem fe_fX0_addSample {σ0 : zSt} {σ : zSt} (h : (zQ [3, 5, 7, 9, 10, 15, 17, 19, 21, 23, 25, 27, 28, 29, 30, 32, 34, 36, 40, 42, 44, 45] [(11, 2, 3), (12, 2, 3)] [5, 38, 46, 48] []) σ0 σ) : zpc (fX0_addSample σ) (fun r => (zQ [3, 5, 7, 9, 10, 15, 17, 19, 21, 23, 25, 27, 28, 29, 30, 32, 34, 36, 40, 42, 44, 45] [(11, 2, 3), (12, 2, 3)] [5, 38, 46, 48] []) σ0 (r)) := by
  unfold fX0_addSample
  exact zpc_bi (fe_fX7_nextSample h) (fun σ1 v2 hσ1 => zpc_bu (fe_fX6_add_k11 hσ1) (fun σ3 hσ3 => zpc_ck (zpc_ck (zpc_bs (zQ.wl hσ3 rfl) (fun σ4 hσ4 => zpc_ck (zpc_ck (zpc_bs (zQ.wl hσ4 rfl) (fun σ5 hσ5 => zpc_ck (zpc_ck (zpc_bs (zQ.wl hσ5 rfl) (fun σ6 hσ6 => zpc_ck (zpc_ck (zpc_bs (zQ.wl hσ6 rfl) (fun σ7 hσ7 => zpc_some hσ7))))))))))))))
theorem fe_fX10_takeOwnPatch_7_body {σ0 : zSt} {k7 : zSt → Int32 → Option (zSt)} (hk7 : ∀ (y0 : zSt) (y1 : Int32), (zQ [3, 5, 7, 9, 10, 15, 17, 19, 21, 23, 25, 27, 28, 29, 30, 32, 34, 36, 40, 42, 44, 45] [(11, 2, 3), (12, 2, 3)] [5, 38, 46, 48] []) σ0 y0 → zpc (k7 y0 y1) (fun r => (zQ [3, 5, 7, 9, 10, 15, 17, 19, 21, 23, 25, 27, 28, 29, 30, 32, 34, 36, 40, 42, 44, 45] [(11, 2, 3), (12, 2, 3)] [5, 38, 46, 48] []) σ0 (r))) {σ : zSt} {x1 : Int32} (h : (zQ [3, 5, 7, 9, 10, 15, 17, 19, 21, 23, 25, 27, 28, 29, 30, 32, 34, 36, 40, 42, 44, 45] [(11, 2, 3), (12, 2, 3)] [5, 38, 46, 48] []) σ0 σ) : zpc (fX10_takeOwnPatch_7_body k7 σ x1) (fun r => (zQ [3, 5, 7, 9, 10, 15, 17, 19, 21, 23, 25, 27, 28, 29, 30, 32, 34, 36, 40, 42, 44, 45] [(11, 2, 3), (12, 2, 3)] [5, 38, 46, 48] []) σ0 (r)) := by
  unfold fX10_takeOwnPatch_7_body
  exact zpc_if (fun _ => zpc_some h) (fun _ => zpc_ck (zpc_bs (zQ.wl h rfl) (fun σ1 hσ1 => zpc_bv (fun v2 _ => hk7 _ _ hσ1))))
theorem fe_fX10_takeOwnPatch_7 {σ0 : zSt} : ∀ (n : Nat) (y0 : zSt) (y1 : Int32), (zQ [3, 5, 7, 9, 10, 15, 17, 19, 21, 23, 25, 27, 28, 29, 30, 32, 34, 36, 40, 42, 44, 45] [(11, 2, 3), (12, 2, 3)] [5, 38, 46, 48] []) σ0 y0 → zpc (fX10_takeOwnPatch_7 n y0 y1) (fun r => (zQ [3, 5, 7, 9, 10, 15, 17, 19, 21, 23, 25, 27, 28, 29, 30, 32, 34, 36, 40, 42, 44, 45] [(11, 2, 3), (12, 2, 3)] [5, 38, 46, 48] []) σ0 (r)) := by
  intro n
  induction n with
  | zero => intro y0 y1 h; exact zpc_none
  | succ n ih => intro y0 y1 h; exact fe_fX10_takeOwnPatch_7_body ih h
theorem fe_fX10_takeOwnPatch {σ0 : zSt} {σ : zSt} (h : (zQ [3, 5, 7, 9, 10, 15, 17, 19, 21, 23, 25, 27, 28, 29, 30, 32, 34, 36, 40, 42, 44, 45] [(11, 2, 3), (12, 2, 3)] [5, 38, 46, 48] []) σ0 σ) : zpc (fX10_takeOwnPatch σ) (fun r => (zQ [3, 5, 7, 9, 10, 15, 17, 19, 21, 23, 25, 27, 28, 29, 30, 32, 34, 36, 40, 42, 44, 45] [(11, 2, 3), (12, 2, 3)] [5, 38, 46, 48] []) σ0 (r)) := by
  unfold fX10_takeOwnPatch
  exact zpc_bs (zQ.wl h rfl) (fun σ3 hσ3 => fe_fX10_takeOwnPatch_7 _ _ _ hσ3)
theorem fe_fX10_takeChannel_110 {σ0 : zSt} {σ : zSt} {s0 : Int64} (h : (zQ [3, 5, 7, 9, 10, 15, 17, 19, 21, 23, 25, 27, 28, 29, 30, 32, 34, 36, 40, 42, 44, 45] [(11, 2, 3), (12, 2, 3)] [5, 38, 46, 48] []) σ0 σ) : zpc (fX10_takeChannel_110 σ s0) (fun r => (zQ [3, 5, 7, 9, 10, 15, 17, 19, 21, 23, 25, 27, 28, 29, 30, 32, 34, 36, 40, 42, 44, 45] [(11, 2, 3), (12, 2, 3)] [5, 38, 46, 48] []) σ0 (r)) := by
  unfold fX10_takeChannel_110
  exact zpc_bs (zQ.wl h rfl) (fun σ1 hσ1 => zpc_some hσ1)
theorem fe_fX10_takeChannel_106 {σ0 : zSt} {σ : zSt} (h : (zQ [3, 5, 7, 9, 10, 15, 17, 19, 21, 23, 25, 27, 28, 29, 30, 32, 34, 36, 40, 42, 44, 45] [(11, 2, 3), (12, 2, 3)] [5, 38, 46, 48] []) σ0 σ) : zpc (fX10_takeChannel_106 σ) (fun r => (zQ [3, 5, 7, 9, 10, 15, 17, 19, 21, 23, 25, 27, 28, 29, 30, 32, 34, 36, 40, 42, 44, 45] [(11, 2, 3), (12, 2, 3)] [5, 38, 46, 48] []) σ0 (r)) := by
  unfold fX10_takeChannel_106
  exact fe_fX10_takeChannel_110 h
theorem fe_fX10_takeChannel_82 {σ0 : zSt} {σ : zSt} {s0 : Int32} (h : (zQ [3, 5, 7, 9, 10, 15, 17, 19, 21, 23, 25, 27, 28, 29, 30, 32, 34, 36, 40, 42, 44, 45] [(11, 2, 3), (12, 2, 3)] [5, 38, 46, 48] []) σ0 σ) : zpc (fX10_takeChannel_82 σ s0) (fun r => (zQ [3, 5, 7, 9, 10, 15, 17, 19, 21, 23, 25, 27, 28, 29, 30, 32, 34, 36, 40, 42, 44, 45] [(11, 2, 3), (12, 2, 3)] [5, 38, 46, 48] []) σ0 (r)) := by
  unfold fX10_takeChannel_82
  exact zpc_if (fun _ => fe_fX10_takeChannel_106 h) (fun _ => zpc_if (fun _ => fe_fX10_takeChannel_106 h) (fun _ => zpc_ck (fe_fX10_takeChannel_110 h)))
theorem fe_fX10_takeChannel_71 {σ0 : zSt} {σ : zSt} {x1 : Int32} (h : (zQ [3, 5, 7, 9, 10, 15, 17, 19, 21, 23, 25, 27, 28, 29, 30, 32, 34, 36, 40, 42, 44, 45] [(11, 2, 3), (12, 2, 3)] [5, 38, 46, 48] []) σ0 σ) : zpc (fX10_takeChannel_71 σ x1) (fun r => (zQ [3, 5, 7, 9, 10, 15, 17, 19, 21, 23, 25, 27, 28, 29, 30, 32, 34, 36, 40, 42, 44, 45] [(11, 2, 3), (12, 2, 3)] [5, 38, 46, 48] []) σ0 (r)) := by
  unfold fX10_takeChannel_71
  exact zpc_ck (fe_fX10_takeChannel_82 h)
theorem fe_fX10_takeChannel {σ0 : zSt} {σ : zSt} {x1 : Int32} (h : (zQ [3, 5, 7, 9, 10, 15, 17, 19, 21, 23, 25, 27, 28, 29, 30, 32, 34, 36, 40, 42, 44, 45] [(11, 2, 3), (12, 2, 3)] [5, 38, 46, 48] []) σ0 σ) : zpc (fX10_takeChannel σ x1) (fun r => (zQ [3, 5, 7, 9, 10, 15, 17, 19, 21, 23, 25, 27, 28, 29, 30, 32, 34, 36, 40, 42, 44, 45] [(11, 2, 3), (12, 2, 3)] [5, 38, 46, 48] []) σ0 (r)) := by
  unfold fX10_takeChannel
  exact zpc_bs (zQ.wi h rfl) (fun σ2 hσ2 => zpc_ck (zpc_ck (zpc_bs (zQ.wi hσ2 rfl) (fun σ3 hσ3 => zpc_ck (zpc_bs (zQ.wi hσ3 rfl) (fun σ4 hσ4 => zpc_if (fun _ => fe_fX10_takeChannel_71 hσ4) (fun _ => zpc_if (fun _ => fe_fX10_takeChannel_71 hσ4) (fun _ => fe_fX10_takeChannel_82 hσ4))))))))
theorem fe_fX10_isOn_131 {σ0 : zSt} {σ : zSt} {s0 : Int32} (h : (zQ [3, 5, 7, 9, 10, 15, 17, 19, 21, 23, 25, 27, 28, 29, 30, 32, 34, 36, 40, 42, 44, 45] [(11, 2, 3), (12, 2, 3)] [5, 38, 46, 48] []) σ0 σ) : zpc (fX10_isOn_131 σ s0) (fun r => (zQ [3, 5, 7, 9, 10, 15, 17, 19, 21, 23, 25, 27, 28, 29, 30, 32, 34, 36, 40, 42, 44, 45] [(11, 2, 3), (12, 2, 3)] [5, 38, 46, 48] []) σ0 (r.1)) := by
  unfold fX10_isOn_131
  exact zpc_ck (zpc_some h)
theorem fe_fX10_isOn_122 {σ0 : zSt} {σ : zSt} {s0 : Int32} {s1 : Int32} (h : (zQ [3, 5, 7, 9, 10, 15, 17, 19, 21, 23, 25, 27, 28, 29, 30, 32, 34, 36, 40, 42, 44, 45] [(11, 2, 3), (12, 2, 3)] [5, 38, 46, 48] []) σ0 σ) : zpc (fX10_isOn_122 σ s0 s1) (fun r => (zQ [3, 5, 7, 9, 10, 15, 17, 19, 21, 23, 25, 27, 28, 29, 30, 32, 34, 36, 40, 42, 44, 45] [(11, 2, 3), (12, 2, 3)] [5, 38, 46, 48] []) σ0 (r.1)) := by
  unfold fX10_isOn_122
  exact zpc_if (fun _ => fe_fX10_isOn_131 h) (fun _ => fe_fX10_isOn_131 h)
theorem fe_fX10_isOn_105 {σ0 : zSt} {σ : zSt} {s0 : Int32} (h : (zQ [3, 5, 7, 9, 10, 15, 17, 19, 21, 23, 25, 27, 28, 29, 30, 32, 34, 36, 40, 42, 44, 45] [(11, 2, 3), (12, 2, 3)] [5, 38, 46, 48] []) σ0 σ) : zpc (fX10_isOn_105 σ s0) (fun r => (zQ [3, 5, 7, 9, 10, 15, 17, 19, 21, 23, 25, 27, 28, 29, 30, 32, 34, 36, 40, 42, 44, 45] [(11, 2, 3), (12, 2, 3)] [5, 38, 46, 48] []) σ0 (r.1)) := by
  unfold fX10_isOn_105
  exact zpc_ck (zpc_some h)
theorem fe_fX10_isOn_96 {σ0 : zSt} {σ : zSt} {s0 : Int32} {s1 : Int32} (h : (zQ [3, 5, 7, 9, 10, 15, 17, 19, 21, 23, 25, 27, 28, 29, 30, 32, 34, 36, 40, 42, 44, 45] [(11, 2, 3), (12, 2, 3)] [5, 38, 46, 48] []) σ0 σ) : zpc (fX10_isOn_96 σ s0 s1) (fun r => (zQ [3, 5, 7, 9, 10, 15, 17, 19, 21, 23, 25, 27, 28, 29, 30, 32, 34, 36, 40, 42, 44, 45] [(11, 2, 3), (12, 2, 3)] [5, 38, 46, 48] []) σ0 (r.1)) := by
  unfold fX10_isOn_96
  exact zpc_if (fun _ => fe_fX10_isOn_105 h) (fun _ => fe_fX10_isOn_105 h)
theorem fe_fX10_isOn_78 {σ0 : zSt} {σ : zSt} {s0 : Int32} (h : (zQ [3, 5, 7, 9, 10, 15, 17, 19, 21, 23, 25, 27, 28, 29, 30, 32, 34, 36, 40, 42, 44, 45] [(11, 2, 3), (12, 2, 3)] [5, 38, 46, 48] []) σ0 σ) : zpc (fX10_isOn_78 σ s0) (fun r => (zQ [3, 5, 7, 9, 10, 15, 17, 19, 21, 23, 25, 27, 28, 29, 30, 32, 34, 36, 40, 42, 44, 45] [(11, 2, 3), (12, 2, 3)] [5, 38, 46, 48] []) σ0 (r.1)) := by
  unfold fX10_isOn_78
  exact zpc_ck (zpc_some h)
theorem fe_fX10_isOn {σ0 : zSt} {σ : zSt} {x1 : Int32} (h : (zQ [3, 5, 7, 9, 10, 15, 17, 19, 21, 23, 25, 27, 28, 29, 30, 32, 34, 36, 40, 42, 44, 45] [(11, 2, 3), (12, 2, 3)] [5, 38, 46, 48] []) σ0 σ) : zpc (fX10_isOn σ x1) (fun r => (zQ [3, 5, 7, 9, 10, 15, 17, 19, 21, 23, 25, 27, 28, 29, 30, 32, 34, 36, 40, 42, 44, 45] [(11, 2, 3), (12, 2, 3)] [5, 38, 46, 48] []) σ0 (r.1)) := by
  unfold fX10_isOn
  exact zpc_ck (zpc_if (fun _ => zpc_if (fun _ => zpc_ck (zpc_some h)) (fun _ => zpc_if (fun _ => zpc_ck (zpc_if (fun _ => fe_fX10_isOn_78 h) (fun _ => fe_fX10_isOn_78 h))) (fun _ => zpc_if (fun _ => zpc_ck (zpc_if (fun _ => fe_fX10_isOn_96 h) (fun _ => fe_fX10_isOn_96 h))) (fun _ => zpc_if (fun _ => zpc_ck (zpc_if (fun _ => fe_fX10_isOn_122 h) (fun _ => fe_fX10_isOn_122 h))) (fun _ => zpc_ck (zpc_some h)))))) (fun _ => zpc_ck (zpc_some h)))
theorem fe_fX10_part {σ0 : zSt} {σ : zSt} {x1 : Int32} (h : (zQ [3, 5, 7, 9, 10, 15, 17, 19, 21, 23, 25, 27, 28, 29, 30, 32, 34, 36, 40, 42, 44, 45] [(11, 2, 3), (12, 2, 3)] [5, 38, 46, 48] []) σ0 σ) : zpc (fX10_part σ x1) (fun r => (zQ [3, 5, 7, 9, 10, 15, 17, 19, 21, 23, 25, 27, 28, 29, 30, 32, 34, 36, 40, 42, 44, 45] [(11, 2, 3), (12, 2, 3)] [5, 38, 46, 48] []) σ0 (r.1)) := by
  unfold fX10_part
  exact zpc_some h
theorem fe_fX10_rateIn_126 {σ0 : zSt} {σ : zSt} {s0 : Int32} (h : (zQ [3, 5, 7, 9, 10, 15, 17, 19, 21, 23, 25, 27, 28, 29, 30, 32, 34, 36, 40, 42, 44, 45] [(11, 2, 3), (12, 2, 3)] [5, 38, 46, 48] []) σ0 σ) : zpc (fX10_rateIn_126 σ s0) (fun r => (zQ [3, 5, 7, 9, 10, 15, 17, 19, 21, 23, 25, 27, 28, 29, 30, 32, 34, 36, 40, 42, 44, 45] [(11, 2, 3), (12, 2, 3)] [5, 38, 46, 48] []) σ0 (r.1)) := by
  unfold fX10_rateIn_126
  exact zpc_some h
theorem fe_fX10_rateIn_94 {σ0 : zSt} {σ : zSt} {s0 : Int32} (h : (zQ [3, 5, 7, 9, 10, 15, 17, 19, 21, 23, 25, 27, 28, 29, 30, 32, 34, 36, 40, 42, 44, 45] [(11, 2, 3), (12, 2, 3)] [5, 38, 46, 48] []) σ0 σ) : zpc (fX10_rateIn_94 σ s0) (fun r => (zQ [3, 5, 7, 9, 10, 15, 17, 19, 21, 23, 25, 27, 28, 29, 30, 32, 34, 36, 40, 42, 44, 45] [(11, 2, 3), (12, 2, 3)] [5, 38, 46, 48] []) σ0 (r.1)) := by
  unfold fX10_rateIn_94
  exact zpc_some h
theorem fe_fX10_rateIn_16 {σ0 : zSt} {σ : zSt} {x1 : Int32} {x2 : Int32} {s0 : Int32} (h : (zQ [3, 5, 7, 9, 10, 15, 17, 19, 21, 23, 25, 27, 28, 29, 30, 32, 34, 36, 40, 42, 44, 45] [(11, 2, 3), (12, 2, 3)] [5, 38, 46, 48] []) σ0 σ) : zpc (fX10_rateIn_16 σ x1 x2 s0) (fun r => (zQ [3, 5, 7, 9, 10, 15, 17, 19, 21, 23, 25, 27, 28, 29, 30, 32, 34, 36, 40, 42, 44, 45] [(11, 2, 3), (12, 2, 3)] [5, 38, 46, 48] []) σ0 (r.1)) := by
  unfold fX10_rateIn_16
  exact zpc_bi (fe_fX10_part h) (fun σ1 v2 hσ1 => zpc_bv (fun v3 _ => zpc_if (fun _ => zpc_some hσ1) (fun _ => zpc_if (fun _ => zpc_bi (fe_fX10_part hσ1) (fun σ4 v5 hσ4 => zpc_some hσ4)) (fun _ => zpc_if (fun _ => zpc_bi (fe_fX10_part hσ1) (fun σ6 v7 hσ6 => zpc_some hσ6)) (fun _ => zpc_if (fun _ => zpc_if (fun _ => fe_fX10_rateIn_94 hσ1) (fun _ => fe_fX10_rateIn_94 hσ1)) (fun _ => zpc_ck (zpc_if (fun _ => zpc_if (fun _ => fe_fX10_rateIn_126 hσ1) (fun _ => fe_fX10_rateIn_126 hσ1)) (fun _ => zpc_some hσ1))))))))
theorem fe_fX10_rateIn {σ0 : zSt} {σ : zSt} {x1 : Int32} {x2 : Int32} (h : (zQ [3, 5, 7, 9, 10, 15, 17, 19, 21, 23, 25, 27, 28, 29, 30, 32, 34, 36, 40, 42, 44, 45] [(11, 2, 3), (12, 2, 3)] [5, 38, 46, 48] []) σ0 σ) : zpc (fX10_rateIn σ x1 x2) (fun r => (zQ [3, 5, 7, 9, 10, 15, 17, 19, 21, 23, 25, 27, 28, 29, 30, 32, 34, 36, 40, 42, 44, 45] [(11, 2, 3), (12, 2, 3)] [5, 38, 46, 48] []) σ0 (r.1)) := by
  unfold fX10_rateIn
  exact zpc_bi (fe_fX10_part h) (fun σ8 v9 hσ8 => zpc_if (fun _ => fe_fX10_rateIn_16 hσ8) (fun _ => fe_fX10_rateIn_16 hσ8))
theorem fe_fX10_slowTick {σ0 : zSt} {σ : zSt} (h : (zQ [3, 5, 7, 9, 10, 15, 17, 19, 21, 23, 25, 27, 28, 29, 30, 32, 34, 36, 40, 42, 44, 45] [(11, 2, 3), (12, 2, 3)] [5, 38, 46, 48] []) σ0 σ) : zpc (fX10_slowTick σ) (fun r => (zQ [3, 5, 7, 9, 10, 15, 17, 19, 21, 23, 25, 27, 28, 29, 30, 32, 34, 36, 40, 42, 44, 45] [(11, 2, 3), (12, 2, 3)] [5, 38, 46, 48] []) σ0 (r.1)) := by
  unfold fX10_slowTick
  exact zpc_ck (zpc_some h)
theorem fe_fX10_tickAt_53 {σ0 : zSt} {σ : zSt} {s0 : Int32} (h : (zQ [3, 5, 7, 9, 10, 15, 17, 19, 21, 23, 25, 27, 28, 29, 30, 32, 34, 36, 40, 42, 44, 45] [(11, 2, 3), (12, 2, 3)] [5, 38, 46, 48] []) σ0 σ) : zpc (fX10_tickAt_53 σ s0) (fun r => (zQ [3, 5, 7, 9, 10, 15, 17, 19, 21, 23, 25, 27, 28, 29, 30, 32, 34, 36, 40, 42, 44, 45] [(11, 2, 3), (12, 2, 3)] [5, 38, 46, 48] []) σ0 (r.1)) := by
  unfold fX10_tickAt_53
  exact zpc_some h
theorem fe_fX10_tickAt_26 {σ0 : zSt} {σ : zSt} {x2 : Int32} {x3 : Int32} {s0 : Int32} (h : (zQ [3, 5, 7, 9, 10, 15, 17, 19, 21, 23, 25, 27, 28, 29, 30, 32, 34, 36, 40, 42, 44, 45] [(11, 2, 3), (12, 2, 3)] [5, 38, 46, 48] []) σ0 σ) : zpc (fX10_tickAt_26 σ x2 x3 s0) (fun r => (zQ [3, 5, 7, 9, 10, 15, 17, 19, 21, 23, 25, 27, 28, 29, 30, 32, 34, 36, 40, 42, 44, 45] [(11, 2, 3), (12, 2, 3)] [5, 38, 46, 48] []) σ0 (r.1)) := by
  unfold fX10_tickAt_26
  exact zpc_if (fun _ => fe_fX10_tickAt_53 h) (fun _ => zpc_ck (fe_fX10_tickAt_53 h))
theorem fe_fX10_tickAt {σ0 : zSt} {σ : zSt} {x1 : Int32} {x2 : Int32} (h : (zQ [3, 5, 7, 9, 10, 15, 17, 19, 21, 23, 25, 27, 28, 29, 30, 32, 34, 36, 40, 42, 44, 45] [(11, 2, 3), (12, 2, 3)] [5, 38, 46, 48] []) σ0 σ) : zpc (fX10_tickAt σ x1 x2) (fun r => (zQ [3, 5, 7, 9, 10, 15, 17, 19, 21, 23, 25, 27, 28, 29, 30, 32, 34, 36, 40, 42, 44, 45] [(11, 2, 3), (12, 2, 3)] [5, 38, 46, 48] []) σ0 (r.1)) := by
  unfold fX10_tickAt
  exact zpc_bv (fun v1 _ => zpc_ck (zpc_if (fun _ => fe_fX10_tickAt_26 h) (fun _ => fe_fX10_tickAt_26 h)))
theorem fe_fX10_louder_56 {σ0 : zSt} {σ : zSt} {s0 : Int32} (h : (zQ [3, 5, 7, 9, 10, 15, 17, 19, 21, 23, 25, 27, 28, 29, 30, 32, 34, 36, 40, 42, 44, 45] [(11, 2, 3), (12, 2, 3)] [5, 38, 46, 48] []) σ0 σ) : zpc (fX10_louder_56 σ s0) (fun r => (zQ [3, 5, 7, 9, 10, 15, 17, 19, 21, 23, 25, 27, 28, 29, 30, 32, 34, 36, 40, 42, 44, 45] [(11, 2, 3), (12, 2, 3)] [5, 38, 46, 48] []) σ0 (r.1)) := by
  unfold fX10_louder_56
  exact zpc_some h
theorem fe_fX10_louder {σ0 : zSt} {σ : zSt} {x1 : Int32} {x2 : Int32} {x3 : Int32} (h : (zQ [3, 5, 7, 9, 10, 15, 17, 19, 21, 23, 25, 27, 28, 29, 30, 32, 34, 36, 40, 42, 44, 45] [(11, 2, 3), (12, 2, 3)] [5, 38, 46, 48] []) σ0 σ) : zpc (fX10_louder σ x1 x2 x3) (fun r => (zQ [3, 5, 7, 9, 10, 15, 17, 19, 21, 23, 25, 27, 28, 29, 30, 32, 34, 36, 40, 42, 44, 45] [(11, 2, 3), (12, 2, 3)] [5, 38, 46, 48] []) σ0 (r.1)) := by
  unfold fX10_louder
  exact zpc_if (fun _ => zpc_some h) (fun _ => zpc_if (fun _ => zpc_bi (fe_fX10_tickAt h) (fun σ1 v2 hσ1 => zpc_if (fun _ => zpc_ck (fe_fX10_louder_56 hσ1)) (fun _ => fe_fX10_louder_56 hσ1))) (fun _ => zpc_bi (fe_fX10_slowTick h) (fun σ3 v4 hσ3 => zpc_some hσ3)))
theorem fe_fX10_softer {σ0 : zSt} {σ : zSt} {x1 : Int32} {x2 : Int32} (h : (zQ [3, 5, 7, 9, 10, 15, 17, 19, 21, 23, 25, 27, 28, 29, 30, 32, 34, 36, 40, 42, 44, 45] [(11, 2, 3), (12, 2, 3)] [5, 38, 46, 48] []) σ0 σ) : zpc (fX10_softer σ x1 x2) (fun r => (zQ [3, 5, 7, 9, 10, 15, 17, 19, 21, 23, 25, 27, 28, 29, 30, 32, 34, 36, 40, 42, 44, 45] [(11, 2, 3), (12, 2, 3)] [5, 38, 46, 48] []) σ0 (r.1)) := by
  unfold fX10_softer
  exact zpc_if (fun _ => zpc_bi (fe_fX10_slowTick h) (fun σ1 v2 hσ1 => zpc_ck (zpc_some hσ1))) (fun _ => zpc_if (fun _ => zpc_bi (fe_fX10_slowTick h) (fun σ3 v4 hσ3 => zpc_some hσ3)) (fun _ => zpc_if (fun _ => zpc_some h) (fun _ => zpc_bi (fe_fX10_tickAt h) (fun σ5 v6 hσ5 => zpc_some hσ5))))
theorem fe_fX10_moveLevel_148 {σ0 : zSt} {σ : zSt} (h : (zQ [3, 5, 7, 9, 10, 15, 17, 19, 21, 23, 25, 27, 28, 29, 30, 32, 34, 36, 40, 42, 44, 45] [(11, 2, 3), (12, 2, 3)] [5, 38, 46, 48] []) σ0 σ) : zpc (fX10_moveLevel_148 σ) (fun r => (zQ [3, 5, 7, 9, 10, 15, 17, 19, 21, 23, 25, 27, 28, 29, 30, 32, 34, 36, 40, 42, 44, 45] [(11, 2, 3), (12, 2, 3)] [5, 38, 46, 48] []) σ0 (r)) := by
  unfold fX10_moveLevel_148
  exact zpc_some h
theorem fe_fX10_moveLevel_52 {σ0 : zSt} {σ : zSt} {x1 : Int32} {x3 : Int32} {x4 : Int32} (h : (zQ [3, 5, 7, 9, 10, 15, 17, 19, 21, 23, 25, 27, 28, 29, 30, 32, 34, 36, 40, 42, 44, 45] [(11, 2, 3), (12, 2, 3)] [5, 38, 46, 48] []) σ0 σ) : zpc (fX10_moveLevel_52 σ x1 x3 x4) (fun r => (zQ [3, 5, 7, 9, 10, 15, 17, 19, 21, 23, 25, 27, 28, 29, 30, 32, 34, 36, 40, 42, 44, 45] [(11, 2, 3), (12, 2, 3)] [5, 38, 46, 48] []) σ0 (r)) := by
  unfold fX10_moveLevel_52
  exact zpc_ck (zpc_bv (fun v1 _ => zpc_ck (zpc_bv (fun v2 _ => zpc_ck (zpc_if (fun _ => zpc_ck (zpc_bi (fe_fX10_louder h) (fun σ6 v7 hσ6 => zpc_ck (zpc_bs (zQ.wi hσ6 rfl) (fun σ8 hσ8 => fe_fX10_moveLevel_148 hσ8))))) (fun _ => zpc_ck (zpc_bi (fe_fX10_softer h) (fun σ3 v4 hσ3 => zpc_ck (zpc_bs (zQ.wi hσ3 rfl) (fun σ5 hσ5 => fe_fX10_moveLevel_148 hσ5))))))))))
theorem fe_fX10_moveLevel {σ0 : zSt} {σ : zSt} {x1 : Int32} {x2 : Int32} (h : (zQ [3, 5, 7, 9, 10, 15, 17, 19, 21, 23, 25, 27, 28, 29, 30, 32, 34, 36, 40, 42, 44, 45] [(11, 2, 3), (12, 2, 3)] [5, 38, 46, 48] []) σ0 σ) : zpc (fX10_moveLevel σ x1 x2) (fun r => (zQ [3, 5, 7, 9, 10, 15, 17, 19, 21, 23, 25, 27, 28, 29, 30, 32, 34, 36, 40, 42, 44, 45] [(11, 2, 3), (12, 2, 3)] [5, 38, 46, 48] []) σ0 (r)) := by
  unfold fX10_moveLevel
  exact zpc_ck (zpc_bi (fe_fX10_rateIn h) (fun σ9 v10 hσ9 => zpc_if (fun _ => zpc_some hσ9) (fun _ => zpc_bv (fun v11 _ => zpc_bi (fe_fX10_part hσ9) (fun σ12 v13 hσ12 => zpc_if (fun _ => zpc_ck (zpc_bv (fun v14 _ => fe_fX10_moveLevel_52 hσ12))) (fun _ => fe_fX10_moveLevel_52 hσ12))))))
theorem fe_fX10_moveState_96 {σ0 : zSt} {σ : zSt} (h : (zQ [3, 5, 7, 9, 10, 15, 17, 19, 21, 23, 25, 27, 28, 29, 30, 32, 34, 36, 40, 42, 44, 45] [(11, 2, 3), (12, 2, 3)] [5, 38, 46, 48] []) σ0 σ) : zpc (fX10_moveState_96 σ) (fun r => (zQ [3, 5, 7, 9, 10, 15, 17, 19, 21, 23, 25, 27, 28, 29, 30, 32, 34, 36, 40, 42, 44, 45] [(11, 2, 3), (12, 2, 3)] [5, 38, 46, 48] []) σ0 (r)) := by
  unfold fX10_moveState_96
  exact zpc_some h
theorem fe_fX10_moveState_73 {σ0 : zSt} {σ : zSt} {x1 : Int32} {x2 : Int32} {x3 : Int32} {x4 : Int32} (h : (zQ [3, 5, 7, 9, 10, 15, 17, 19, 21, 23, 25, 27, 28, 29, 30, 32, 34, 36, 40, 42, 44, 45] [(11, 2, 3), (12, 2, 3)] [5, 38, 46, 48] []) σ0 σ) : zpc (fX10_moveState_73 σ x1 x2 x3 x4) (fun r => (zQ [3, 5, 7, 9, 10, 15, 17, 19, 21, 23, 25, 27, 28, 29, 30, 32, 34, 36, 40, 42, 44, 45] [(11, 2, 3), (12, 2, 3)] [5, 38, 46, 48] []) σ0 (r)) := by
  unfold fX10_moveState_73
  exact zpc_if (fun _ => zpc_ck (zpc_if (fun _ => fe_fX10_moveState_96 h) (fun _ => zpc_ck (zpc_bs (zQ.wi h rfl) (fun σ1 hσ1 => fe_fX10_moveState_96 hσ1))))) (fun _ => fe_fX10_moveState_96 h)
theorem fe_fX10_moveState_51 {σ0 : zSt} {σ : zSt} {x1 : Int32} {x2 : Int32} {x3 : Int32} {x4 : Int32} (h : (zQ [3, 5, 7, 9, 10, 15, 17, 19, 21, 23, 25, 27, 28, 29, 30, 32, 34, 36, 40, 42, 44, 45] [(11, 2, 3), (12, 2, 3)] [5, 38, 46, 48] []) σ0 σ) : zpc (fX10_moveState_51 σ x1 x2 x3 x4) (fun r => (zQ [3, 5, 7, 9, 10, 15, 17, 19, 21, 23, 25, 27, 28, 29, 30, 32, 34, 36, 40, 42, 44, 45] [(11, 2, 3), (12, 2, 3)] [5, 38, 46, 48] []) σ0 (r)) := by
  unfold fX10_moveState_51
  exact zpc_if (fun _ => zpc_if (fun _ => zpc_ck (zpc_bs (zQ.wi h rfl) (fun σ2 hσ2 => fe_fX10_moveState_96 hσ2))) (fun _ => fe_fX10_moveState_73 h)) (fun _ => fe_fX10_moveState_73 h)
theorem fe_fX10_moveState {σ0 : zSt} {σ : zSt} {x1 : Int32} {x2 : Int32} (h : (zQ [3, 5, 7, 9, 10, 15, 17, 19, 21, 23, 25, 27, 28, 29, 30, 32, 34, 36, 40, 42, 44, 45] [(11, 2, 3), (12, 2, 3)] [5, 38, 46, 48] []) σ0 σ) : zpc (fX10_moveState σ x1 x2) (fun r => (zQ [3, 5, 7, 9, 10, 15, 17, 19, 21, 23, 25, 27, 28, 29, 30, 32, 34, 36, 40, 42, 44, 45] [(11, 2, 3), (12, 2, 3)] [5, 38, 46, 48] []) σ0 (r)) := by
  unfold fX10_moveState
  exact zpc_ck (zpc_bv (fun v3 _ => zpc_ck (zpc_bv (fun v4 _ => zpc_if (fun _ => zpc_if (fun _ => fe_fX10_moveState_51 h) (fun _ => zpc_ck (zpc_bs (zQ.wi h rfl) (fun σ5 hσ5 => zpc_ck (zpc_bs (zQ.wi hσ5 rfl) (fun σ6 hσ6 => fe_fX10_moveState_96 hσ6)))))) (fun _ => fe_fX10_moveState_51 h)))))
theorem fe_fX10_sway_56 {σ0 : zSt} {σ : zSt} {x1 : Int32} (h : (zQ [3, 5, 7, 9, 10, 15, 17, 19, 21, 23, 25, 27, 28, 29, 30, 32, 34, 36, 40, 42, 44, 45] [(11, 2, 3), (12, 2, 3)] [5, 38, 46, 48] []) σ0 σ) : zpc (fX10_sway_56 σ x1) (fun r => (zQ [3, 5, 7, 9, 10, 15, 17, 19, 21, 23, 25, 27, 28, 29, 30, 32, 34, 36, 40, 42, 44, 45] [(11, 2, 3), (12, 2, 3)] [5, 38, 46, 48] []) σ0 (r.1)) := by
  unfold fX10_sway_56
  exact zpc_ck (zpc_some h)
theorem fe_fX10_sway_70 {σ0 : zSt} {σ : zSt} (h : (zQ [3, 5, 7, 9, 10, 15, 17, 19, 21, 23, 25, 27, 28, 29, 30, 32, 34, 36, 40, 42, 44, 45] [(11, 2, 3), (12, 2, 3)] [5, 38, 46, 48] []) σ0 σ) : zpc (fX10_sway_70 σ) (fun r => (zQ [3, 5, 7, 9, 10, 15, 17, 19, 21, 23, 25, 27, 28, 29, 30, 32, 34, 36, 40, 42, 44, 45] [(11, 2, 3), (12, 2, 3)] [5, 38, 46, 48] []) σ0 (r.1)) := by
  unfold fX10_sway_70
  exact zpc_some h
theorem fe_fX10_sway_62 {σ0 : zSt} {σ : zSt} {x1 : Int32} (h : (zQ [3, 5, 7, 9, 10, 15, 17, 19, 21, 23, 25, 27, 28, 29, 30, 32, 34, 36, 40, 42, 44, 45] [(11, 2, 3), (12, 2, 3)] [5, 38, 46, 48] []) σ0 σ) : zpc (fX10_sway_62 σ x1) (fun r => (zQ [3, 5, 7, 9, 10, 15, 17, 19, 21, 23, 25, 27, 28, 29, 30, 32, 34, 36, 40, 42, 44, 45] [(11, 2, 3), (12, 2, 3)] [5, 38, 46, 48] []) σ0 (r.1)) := by
  unfold fX10_sway_62
  exact zpc_ck (zpc_some h)
theorem fe_fX10_sway {σ0 : zSt} {σ : zSt} {x1 : Int32} (h : (zQ [3, 5, 7, 9, 10, 15, 17, 19, 21, 23, 25, 27, 28, 29, 30, 32, 34, 36, 40, 42, 44, 45] [(11, 2, 3), (12, 2, 3)] [5, 38, 46, 48] []) σ0 σ) : zpc (fX10_sway σ x1) (fun r => (zQ [3, 5, 7, 9, 10, 15, 17, 19, 21, 23, 25, 27, 28, 29, 30, 32, 34, 36, 40, 42, 44, 45] [(11, 2, 3), (12, 2, 3)] [5, 38, 46, 48] []) σ0 (r.1)) := by
  unfold fX10_sway
  exact zpc_ck (zpc_if (fun _ => fe_fX10_sway_56 h) (fun _ => zpc_if (fun _ => zpc_some h) (fun _ => zpc_if (fun _ => fe_fX10_sway_56 h) (fun _ => zpc_if (fun _ => fe_fX10_sway_70 h) (fun _ => zpc_if (fun _ => fe_fX10_sway_62 h) (fun _ => zpc_if (fun _ => zpc_some h) (fun _ => zpc_if (fun _ => fe_fX10_sway_62 h) (fun _ => fe_fX10_sway_70 h))))))))
theorem fe_fX10_movePhase_22 {σ0 : zSt} {σ : zSt} {x1 : Int32} {x2 : Int32} {s0 : Int32} (h : (zQ [3, 5, 7, 9, 10, 15, 17, 19, 21, 23, 25, 27, 28, 29, 30, 32, 34, 36, 40, 42, 44, 45] [(11, 2, 3), (12, 2, 3)] [5, 38, 46, 48] []) σ0 σ) : zpc (fX10_movePhase_22 σ x1 x2 s0) (fun r => (zQ [3, 5, 7, 9, 10, 15, 17, 19, 21, 23, 25, 27, 28, 29, 30, 32, 34, 36, 40, 42, 44, 45] [(11, 2, 3), (12, 2, 3)] [5, 38, 46, 48] []) σ0 (r)) := by
  unfold fX10_movePhase_22
  exact zpc_ck (zpc_ck (zpc_bv (fun v1 _ => zpc_ck (zpc_ck (zpc_bs (zQ.wi h rfl) (fun σ2 hσ2 => zpc_some hσ2))))))
theorem fe_fX10_movePhase {σ0 : zSt} {σ : zSt} {x1 : Int32} {x2 : Int32} (h : (zQ [3, 5, 7, 9, 10, 15, 17, 19, 21, 23, 25, 27, 28, 29, 30, 32, 34, 36, 40, 42, 44, 45] [(11, 2, 3), (12, 2, 3)] [5, 38, 46, 48] []) σ0 σ) : zpc (fX10_movePhase σ x1 x2) (fun r => (zQ [3, 5, 7, 9, 10, 15, 17, 19, 21, 23, 25, 27, 28, 29, 30, 32, 34, 36, 40, 42, 44, 45] [(11, 2, 3), (12, 2, 3)] [5, 38, 46, 48] []) σ0 (r)) := by
  unfold fX10_movePhase
  exact zpc_if (fun _ => fe_fX10_movePhase_22 h) (fun _ => zpc_ck (zpc_bi (fe_fX10_sway h) (fun σ3 v4 hσ3 => fe_fX10_movePhase_22 hσ3)))
theorem fe_fX10_drumPhase_115 {σ0 : zSt} {σ : zSt} {s0 : Int32} (h : (zQ [3, 5, 7, 9, 10, 15, 17, 19, 21, 23, 25, 27, 28, 29, 30, 32, 34, 36, 40, 42, 44, 45] [(11, 2, 3), (12, 2, 3)] [5, 38, 46, 48] []) σ0 σ) : zpc (fX10_drumPhase_115 σ s0) (fun r => (zQ [3, 5, 7, 9, 10, 15, 17, 19, 21, 23, 25, 27, 28, 29, 30, 32, 34, 36, 40, 42, 44, 45] [(11, 2, 3), (12, 2, 3)] [5, 38, 46, 48] []) σ0 (r.1)) := by
  unfold fX10_drumPhase_115
  exact zpc_some h
theorem fe_fX10_drumPhase_155 {σ0 : zSt} {σ : zSt} {s0 : Int32} (h : (zQ [3, 5, 7, 9, 10, 15, 17, 19, 21, 23, 25, 27, 28, 29, 30, 32, 34, 36, 40, 42, 44, 45] [(11, 2, 3), (12, 2, 3)] [5, 38, 46, 48] []) σ0 σ) : zpc (fX10_drumPhase_155 σ s0) (fun r => (zQ [3, 5, 7, 9, 10, 15, 17, 19, 21, 23, 25, 27, 28, 29, 30, 32, 34, 36, 40, 42, 44, 45] [(11, 2, 3), (12, 2, 3)] [5, 38, 46, 48] []) σ0 (r.1)) := by
  unfold fX10_drumPhase_155
  exact zpc_some h
theorem fe_fX10_drumPhase_193 {σ0 : zSt} {σ : zSt} {s0 : Int32} (h : (zQ [3, 5, 7, 9, 10, 15, 17, 19, 21, 23, 25, 27, 28, 29, 30, 32, 34, 36, 40, 42, 44, 45] [(11, 2, 3), (12, 2, 3)] [5, 38, 46, 48] []) σ0 σ) : zpc (fX10_drumPhase_193 σ s0) (fun r => (zQ [3, 5, 7, 9, 10, 15, 17, 19, 21, 23, 25, 27, 28, 29, 30, 32, 34, 36, 40, 42, 44, 45] [(11, 2, 3), (12, 2, 3)] [5, 38, 46, 48] []) σ0 (r.1)) := by
  unfold fX10_drumPhase_193
  exact zpc_some h
theorem fe_fX10_drumPhase_82 {σ0 : zSt} {σ : zSt} {x1 : Int32} {x2 : Int32} {x5 : Int32} {s0 : Int32} (h : (zQ [3, 5, 7, 9, 10, 15, 17, 19, 21, 23, 25, 27, 28, 29, 30, 32, 34, 36, 40, 42, 44, 45] [(11, 2, 3), (12, 2, 3)] [5, 38, 46, 48] []) σ0 σ) : zpc (fX10_drumPhase_82 σ x1 x2 x5 s0) (fun r => (zQ [3, 5, 7, 9, 10, 15, 17, 19, 21, 23, 25, 27, 28, 29, 30, 32, 34, 36, 40, 42, 44, 45] [(11, 2, 3), (12, 2, 3)] [5, 38, 46, 48] []) σ0 (r.1)) := by
  unfold fX10_drumPhase_82
  exact zpc_if (fun _ => zpc_if (fun _ => fe_fX10_drumPhase_115 h) (fun _ => zpc_if (fun _ => fe_fX10_drumPhase_115 h) (fun _ => fe_fX10_drumPhase_115 h))) (fun _ => zpc_if (fun _ => zpc_if (fun _ => zpc_if (fun _ => fe_fX10_drumPhase_155 h) (fun _ => fe_fX10_drumPhase_155 h)) (fun _ => zpc_if (fun _ => fe_fX10_drumPhase_155 h) (fun _ => fe_fX10_drumPhase_155 h))) (fun _ => zpc_if (fun _ => zpc_if (fun _ => fe_fX10_drumPhase_193 h) (fun _ => fe_fX10_drumPhase_193 h)) (fun _ => zpc_if (fun _ => fe_fX10_drumPhase_193 h) (fun _ => fe_fX10_drumPhase_193 h))))
theorem fe_fX10_drumPhase_62 {σ0 : zSt} {σ : zSt} {x1 : Int32} {x2 : Int32} {s0 : Int32} (h : (zQ [3, 5, 7, 9, 10, 15, 17, 19, 21, 23, 25, 27, 28, 29, 30, 32, 34, 36, 40, 42, 44, 45] [(11, 2, 3), (12, 2, 3)] [5, 38, 46, 48] []) σ0 σ) : zpc (fX10_drumPhase_62 σ x1 x2 s0) (fun r => (zQ [3, 5, 7, 9, 10, 15, 17, 19, 21, 23, 25, 27, 28, 29, 30, 32, 34, 36, 40, 42, 44, 45] [(11, 2, 3), (12, 2, 3)] [5, 38, 46, 48] []) σ0 (r.1)) := by
  unfold fX10_drumPhase_62
  exact zpc_ck (zpc_if (fun _ => fe_fX10_drumPhase_82 h) (fun _ => fe_fX10_drumPhase_82 h))
theorem fe_fX10_drumPhase {σ0 : zSt} {σ : zSt} {x1 : Int32} {x2 : Int32} (h : (zQ [3, 5, 7, 9, 10, 15, 17, 19, 21, 23, 25, 27, 28, 29, 30, 32, 34, 36, 40, 42, 44, 45] [(11, 2, 3), (12, 2, 3)] [5, 38, 46, 48] []) σ0 σ) : zpc (fX10_drumPhase σ x1 x2) (fun r => (zQ [3, 5, 7, 9, 10, 15, 17, 19, 21, 23, 25, 27, 28, 29, 30, 32, 34, 36, 40, 42, 44, 45] [(11, 2, 3), (12, 2, 3)] [5, 38, 46, 48] []) σ0 (r.1)) := by
  unfold fX10_drumPhase
  exact zpc_ck (zpc_bv (fun v1 _ => zpc_ck (zpc_bv (fun v2 _ => zpc_if (fun _ => fe_fX10_drumPhase_62 h) (fun _ => fe_fX10_drumPhase_62 h)))))
theorem fe_fX10_turnedPhase_98 {σ0 : zSt} {σ : zSt} {s0 : Int32} (h : (zQ [3, 5, 7, 9, 10, 15, 17, 19, 21, 23, 25, 27, 28, 29, 30, 32, 34, 36, 40, 42, 44, 45] [(11, 2, 3), (12, 2, 3)] [5, 38, 46, 48] []) σ0 σ) : zpc (fX10_turnedPhase_98 σ s0) (fun r => (zQ [3, 5, 7, 9, 10, 15, 17, 19, 21, 23, 25, 27, 28, 29, 30, 32, 34, 36, 40, 42, 44, 45] [(11, 2, 3), (12, 2, 3)] [5, 38, 46, 48] []) σ0 (r.1)) := by
  unfold fX10_turnedPhase_98
  exact zpc_some h
theorem fe_fX10_turnedPhase_35 {σ0 : zSt} {σ : zSt} {x1 : Int32} {x2 : Int32} {x3 : Int32} (h : (zQ [3, 5, 7, 9, 10, 15, 17, 19, 21, 23, 25, 27, 28, 29, 30, 32, 34, 36, 40, 42, 44, 45] [(11, 2, 3), (12, 2, 3)] [5, 38, 46, 48] []) σ0 σ) : zpc (fX10_turnedPhase_35 σ x1 x2 x3) (fun r => (zQ [3, 5, 7, 9, 10, 15, 17, 19, 21, 23, 25, 27, 28, 29, 30, 32, 34, 36, 40, 42, 44, 45] [(11, 2, 3), (12, 2, 3)] [5, 38, 46, 48] []) σ0 (r.1)) := by
  unfold fX10_turnedPhase_35
  exact zpc_if (fun _ => zpc_ck (zpc_some h)) (fun _ => zpc_bi (fe_fX10_part h) (fun σ1 v2 hσ1 => zpc_bv (fun v3 _ => zpc_if (fun _ => fe_fX10_turnedPhase_98 hσ1) (fun _ => zpc_ck (zpc_ck (fe_fX10_turnedPhase_98 hσ1))))))
theorem fe_fX10_turnedPhase {σ0 : zSt} {σ : zSt} {x1 : Int32} {x2 : Int32} (h : (zQ [3, 5, 7, 9, 10, 15, 17, 19, 21, 23, 25, 27, 28, 29, 30, 32, 34, 36, 40, 42, 44, 45] [(11, 2, 3), (12, 2, 3)] [5, 38, 46, 48] []) σ0 σ) : zpc (fX10_turnedPhase σ x1 x2) (fun r => (zQ [3, 5, 7, 9, 10, 15, 17, 19, 21, 23, 25, 27, 28, 29, 30, 32, 34, 36, 40, 42, 44, 45] [(11, 2, 3), (12, 2, 3)] [5, 38, 46, 48] []) σ0 (r.1)) := by
  unfold fX10_turnedPhase
  exact zpc_ck (zpc_bv (fun v4 _ => zpc_if (fun _ => fe_fX10_turnedPhase_35 h) (fun _ => zpc_if (fun _ => fe_fX10_turnedPhase_35 h) (fun _ => zpc_bi (fe_fX10_drumPhase h) (fun σ5 v6 hσ5 => zpc_some hσ5)))))
theorem fe_fX10_scaled_44 {σ0 : zSt} {σ : zSt} {s0 : Int32} (h : (zQ [3, 5, 7, 9, 10, 15, 17, 19, 21, 23, 25, 27, 28, 29, 30, 32, 34, 36, 40, 42, 44, 45] [(11, 2, 3), (12, 2, 3)] [5, 38, 46, 48] []) σ0 σ) : zpc (fX10_scaled_44 σ s0) (fun r => (zQ [3, 5, 7, 9, 10, 15, 17, 19, 21, 23, 25, 27, 28, 29, 30, 32, 34, 36, 40, 42, 44, 45] [(11, 2, 3), (12, 2, 3)] [5, 38, 46, 48] []) σ0 (r.1)) := by
  unfold fX10_scaled_44
  exact zpc_some h
theorem fe_fX10_scaled {σ0 : zSt} {σ : zSt} {x1 : Int32} (h : (zQ [3, 5, 7, 9, 10, 15, 17, 19, 21, 23, 25, 27, 28, 29, 30, 32, 34, 36, 40, 42, 44, 45] [(11, 2, 3), (12, 2, 3)] [5, 38, 46, 48] []) σ0 σ) : zpc (fX10_scaled σ x1) (fun r => (zQ [3, 5, 7, 9, 10, 15, 17, 19, 21, 23, 25, 27, 28, 29, 30, 32, 34, 36, 40, 42, 44, 45] [(11, 2, 3), (12, 2, 3)] [5, 38, 46, 48] []) σ0 (r.1)) := by
  unfold fX10_scaled
  exact zpc_if (fun _ => zpc_some h) (fun _ => zpc_ck (zpc_bv (fun v1 _ => zpc_if (fun _ => fe_fX10_scaled_44 h) (fun _ => fe_fX10_scaled_44 h))))
theorem fe_fX10_tremble_30 {σ0 : zSt} {σ : zSt} {s0 : Int32} (h : (zQ [3, 5, 7, 9, 10, 15, 17, 19, 21, 23, 25, 27, 28, 29, 30, 32, 34, 36, 40, 42, 44, 45] [(11, 2, 3), (12, 2, 3)] [5, 38, 46, 48] []) σ0 σ) : zpc (fX10_tremble_30 σ s0) (fun r => (zQ [3, 5, 7, 9, 10, 15, 17, 19, 21, 23, 25, 27, 28, 29, 30, 32, 34, 36, 40, 42, 44, 45] [(11, 2, 3), (12, 2, 3)] [5, 38, 46, 48] []) σ0 (r.1)) := by
  unfold fX10_tremble_30
  exact zpc_ck (zpc_some h)
theorem fe_fX10_tremble {σ0 : zSt} {σ : zSt} (h : (zQ [3, 5, 7, 9, 10, 15, 17, 19, 21, 23, 25, 27, 28, 29, 30, 32, 34, 36, 40, 42, 44, 45] [(11, 2, 3), (12, 2, 3)] [5, 38, 46, 48] []) σ0 σ) : zpc (fX10_tremble σ) (fun r => (zQ [3, 5, 7, 9, 10, 15, 17, 19, 21, 23, 25, 27, 28, 29, 30, 32, 34, 36, 40, 42, 44, 45] [(11, 2, 3), (12, 2, 3)] [5, 38, 46, 48] []) σ0 (r.1)) := by
  unfold fX10_tremble
  exact zpc_ck (zpc_ck (zpc_ck (zpc_bv (fun v1 _ => zpc_if (fun _ => fe_fX10_tremble_30 h) (fun _ => fe_fX10_tremble_30 h)))))
theorem fe_fX10_softness_124 {σ0 : zSt} {σ : zSt} {x4 : Int32} (h : (zQ [3, 5, 7, 9, 10, 15, 17, 19, 21, 23, 25, 27, 28, 29, 30, 32, 34, 36, 40, 42, 44, 45] [(11, 2, 3), (12, 2, 3)] [5, 38, 46, 48] []) σ0 σ) : zpc (fX10_softness_124 σ x4) (fun r => (zQ [3, 5, 7, 9, 10, 15, 17, 19, 21, 23, 25, 27, 28, 29, 30, 32, 34, 36, 40, 42, 44, 45] [(11, 2, 3), (12, 2, 3)] [5, 38, 46, 48] []) σ0 (r.1)) := by
  unfold fX10_softness_124
  exact zpc_some h
theorem fe_fX10_softness_103 {σ0 : zSt} {σ : zSt} {x2 : Int32} {x4 : Int32} (h : (zQ [3, 5, 7, 9, 10, 15, 17, 19, 21, 23, 25, 27, 28, 29, 30, 32, 34, 36, 40, 42, 44, 45] [(11, 2, 3), (12, 2, 3)] [5, 38, 46, 48] []) σ0 σ) : zpc (fX10_softness_103 σ x2 x4) (fun r => (zQ [3, 5, 7, 9, 10, 15, 17, 19, 21, 23, 25, 27, 28, 29, 30, 32, 34, 36, 40, 42, 44, 45] [(11, 2, 3), (12, 2, 3)] [5, 38, 46, 48] []) σ0 (r.1)) := by
  unfold fX10_softness_103
  exact zpc_bi (fe_fX10_part h) (fun σ1 v2 hσ1 => zpc_if (fun _ => fe_fX10_softness_124 hσ1) (fun _ => zpc_bi (fe_fX10_tremble hσ1) (fun σ3 v4 hσ3 => zpc_bv (fun v5 _ => fe_fX10_softness_124 hσ3))))
theorem fe_fX10_softness_88 {σ0 : zSt} {σ : zSt} {x2 : Int32} {x4 : Int32} (h : (zQ [3, 5, 7, 9, 10, 15, 17, 19, 21, 23, 25, 27, 28, 29, 30, 32, 34, 36, 40, 42, 44, 45] [(11, 2, 3), (12, 2, 3)] [5, 38, 46, 48] []) σ0 σ) : zpc (fX10_softness_88 σ x2 x4) (fun r => (zQ [3, 5, 7, 9, 10, 15, 17, 19, 21, 23, 25, 27, 28, 29, 30, 32, 34, 36, 40, 42, 44, 45] [(11, 2, 3), (12, 2, 3)] [5, 38, 46, 48] []) σ0 (r.1)) := by
  unfold fX10_softness_88
  exact zpc_bi (fe_fX10_part h) (fun σ6 v7 hσ6 => zpc_bv (fun v8 _ => fe_fX10_softness_103 hσ6))
theorem fe_fX10_softness {σ0 : zSt} {σ : zSt} {x1 : Int32} {x2 : Int32} (h : (zQ [3, 5, 7, 9, 10, 15, 17, 19, 21, 23, 25, 27, 28, 29, 30, 32, 34, 36, 40, 42, 44, 45] [(11, 2, 3), (12, 2, 3)] [5, 38, 46, 48] []) σ0 σ) : zpc (fX10_softness σ x1 x2) (fun r => (zQ [3, 5, 7, 9, 10, 15, 17, 19, 21, 23, 25, 27, 28, 29, 30, 32, 34, 36, 40, 42, 44, 45] [(11, 2, 3), (12, 2, 3)] [5, 38, 46, 48] []) σ0 (r.1)) := by
  unfold fX10_softness
  exact zpc_ck (zpc_bv (fun v9 _ => zpc_ck (zpc_bi (fe_fX10_part h) (fun σ10 v11 hσ10 => zpc_bi (fe_fX10_scaled hσ10) (fun σ12 v13 hσ12 => zpc_bv (fun v14 _ => zpc_if (fun _ => zpc_bv (fun v16 _ => fe_fX10_softness_103 hσ12)) (fun _ => zpc_if (fun _ => fe_fX10_softness_88 hσ12) (fun _ => zpc_if (fun _ => fe_fX10_softness_88 hσ12) (fun _ => zpc_bv (fun v15 _ => fe_fX10_softness_103 hσ12))))))))))
theorem fe_fX10_waveAt_104 {σ0 : zSt} {σ : zSt} {s0 : Int32} (h : (zQ [3, 5, 7, 9, 10, 15, 17, 19, 21, 23, 25, 27, 28, 29, 30, 32, 34, 36, 40, 42, 44, 45] [(11, 2, 3), (12, 2, 3)] [5, 38, 46, 48] []) σ0 σ) : zpc (fX10_waveAt_104 σ s0) (fun r => (zQ [3, 5, 7, 9, 10, 15, 17, 19, 21, 23, 25, 27, 28, 29, 30, 32, 34, 36, 40, 42, 44, 45] [(11, 2, 3), (12, 2, 3)] [5, 38, 46, 48] []) σ0 (r.1)) := by
  unfold fX10_waveAt_104
  exact zpc_some h
theorem fe_fX10_waveAt_49 {σ0 : zSt} {σ : zSt} {x1 : Int32} {x3 : Int32} {s0 : Int32} (h : (zQ [3, 5, 7, 9, 10, 15, 17, 19, 21, 23, 25, 27, 28, 29, 30, 32, 34, 36, 40, 42, 44, 45] [(11, 2, 3), (12, 2, 3)] [5, 38, 46, 48] []) σ0 σ) : zpc (fX10_waveAt_49 σ x1 x3 s0) (fun r => (zQ [3, 5, 7, 9, 10, 15, 17, 19, 21, 23, 25, 27, 28, 29, 30, 32, 34, 36, 40, 42, 44, 45] [(11, 2, 3), (12, 2, 3)] [5, 38, 46, 48] []) σ0 (r.1)) := by
  unfold fX10_waveAt_49
  exact zpc_ck (zpc_bv (fun v1 _ => zpc_ck (zpc_bv (fun v2 _ => zpc_if (fun _ => fe_fX10_waveAt_104 h) (fun _ => fe_fX10_waveAt_104 h)))))
theorem fe_fX10_waveAt_24 {σ0 : zSt} {σ : zSt} {x0 : Int32} {x1 : Int32} {x3 : Int32} (h : (zQ [3, 5, 7, 9, 10, 15, 17, 19, 21, 23, 25, 27, 28, 29, 30, 32, 34, 36, 40, 42, 44, 45] [(11, 2, 3), (12, 2, 3)] [5, 38, 46, 48] []) σ0 σ) : zpc (fX10_waveAt_24 σ x0 x1 x3) (fun r => (zQ [3, 5, 7, 9, 10, 15, 17, 19, 21, 23, 25, 27, 28, 29, 30, 32, 34, 36, 40, 42, 44, 45] [(11, 2, 3), (12, 2, 3)] [5, 38, 46, 48] []) σ0 (r.1)) := by
  unfold fX10_waveAt_24
  exact zpc_if (fun _ => fe_fX10_waveAt_49 h) (fun _ => fe_fX10_waveAt_49 h)
theorem fe_fX10_waveAt_13 {σ0 : zSt} {σ : zSt} {x0 : Int32} {x1 : Int32} {x2 : Int32} {s0 : Int32} (h : (zQ [3, 5, 7, 9, 10, 15, 17, 19, 21, 23, 25, 27, 28, 29, 30, 32, 34, 36, 40, 42, 44, 45] [(11, 2, 3), (12, 2, 3)] [5, 38, 46, 48] []) σ0 σ) : zpc (fX10_waveAt_13 σ x0 x1 x2 s0) (fun r => (zQ [3, 5, 7, 9, 10, 15, 17, 19, 21, 23, 25, 27, 28, 29, 30, 32, 34, 36, 40, 42, 44, 45] [(11, 2, 3), (12, 2, 3)] [5, 38, 46, 48] []) σ0 (r.1)) := by
  unfold fX10_waveAt_13
  exact zpc_if (fun _ => fe_fX10_waveAt_24 h) (fun _ => zpc_if (fun _ => fe_fX10_waveAt_24 h) (fun _ => zpc_some h))
theorem fe_fX10_waveAt {σ0 : zSt} {σ : zSt} {x0 : Int32} {x1 : Int32} {x2 : Int32} (h : (zQ [3, 5, 7, 9, 10, 15, 17, 19, 21, 23, 25, 27, 28, 29, 30, 32, 34, 36, 40, 42, 44, 45] [(11, 2, 3), (12, 2, 3)] [5, 38, 46, 48] []) σ0 σ) : zpc (fX10_waveAt σ x0 x1 x2) (fun r => (zQ [3, 5, 7, 9, 10, 15, 17, 19, 21, 23, 25, 27, 28, 29, 30, 32, 34, 36, 40, 42, 44, 45] [(11, 2, 3), (12, 2, 3)] [5, 38, 46, 48] []) σ0 (r.1)) := by
  unfold fX10_waveAt
  exact zpc_if (fun _ => fe_fX10_waveAt_13 h) (fun _ => fe_fX10_waveAt_13 h)
theorem fe_fX10_moveOut_55 {σ0 : zSt} {σ : zSt} {x1 : Int32} {x3 : Int32} (h : (zQ [3, 5, 7, 9, 10, 15, 17, 19, 21, 23, 25, 27, 28, 29, 30, 32, 34, 36, 40, 42, 44, 45] [(11, 2, 3), (12, 2, 3)] [5, 38, 46, 48] []) σ0 σ) : zpc (fX10_moveOut_55 σ x1 x3) (fun r => (zQ [3, 5, 7, 9, 10, 15, 17, 19, 21, 23, 25, 27, 28, 29, 30, 32, 34, 36, 40, 42, 44, 45] [(11, 2, 3), (12, 2, 3)] [5, 38, 46, 48] []) σ0 (r)) := by
  unfold fX10_moveOut_55
  exact zpc_ck (zpc_ck (zpc_bs (zQ.wi h rfl) (fun σ1 hσ1 => zpc_ck (zpc_bs (zQ.wi hσ1 rfl) (fun σ2 hσ2 => zpc_some hσ2)))))
theorem fe_fX10_moveOut_51 {σ0 : zSt} {σ : zSt} {x1 : Int32} {s0 : Int32} {s1 : Int32} {s2 : Int32} (h : (zQ [3, 5, 7, 9, 10, 15, 17, 19, 21, 23, 25, 27, 28, 29, 30, 32, 34, 36, 40, 42, 44, 45] [(11, 2, 3), (12, 2, 3)] [5, 38, 46, 48] []) σ0 σ) : zpc (fX10_moveOut_51 σ x1 s0 s1 s2) (fun r => (zQ [3, 5, 7, 9, 10, 15, 17, 19, 21, 23, 25, 27, 28, 29, 30, 32, 34, 36, 40, 42, 44, 45] [(11, 2, 3), (12, 2, 3)] [5, 38, 46, 48] []) σ0 (r)) := by
  unfold fX10_moveOut_51
  exact zpc_bi (fe_fX10_waveAt h) (fun σ3 v4 hσ3 => fe_fX10_moveOut_55 hσ3)
theorem fe_fX10_moveOut {σ0 : zSt} {σ : zSt} {x1 : Int32} {x2 : Int32} (h : (zQ [3, 5, 7, 9, 10, 15, 17, 19, 21, 23, 25, 27, 28, 29, 30, 32, 34, 36, 40, 42, 44, 45] [(11, 2, 3), (12, 2, 3)] [5, 38, 46, 48] []) σ0 σ) : zpc (fX10_moveOut σ x1 x2) (fun r => (zQ [3, 5, 7, 9, 10, 15, 17, 19, 21, 23, 25, 27, 28, 29, 30, 32, 34, 36, 40, 42, 44, 45] [(11, 2, 3), (12, 2, 3)] [5, 38, 46, 48] []) σ0 (r)) := by
  unfold fX10_moveOut
  exact zpc_ck (zpc_if (fun _ => fe_fX10_moveOut_55 h) (fun _ => zpc_bi (fe_fX10_turnedPhase h) (fun σ5 v6 hσ5 => zpc_bi (fe_fX10_softness hσ5) (fun σ7 v8 hσ7 => zpc_bi (fe_fX10_part hσ7) (fun σ9 v10 hσ9 => zpc_if (fun _ => fe_fX10_moveOut_51 hσ9) (fun _ => fe_fX10_moveOut_51 hσ9))))))
theorem fe_fX10_moveOperator_99 {σ0 : zSt} {σ : zSt} {x1 : Int32} {x2 : Int32} (h : (zQ [3, 5, 7, 9, 10, 15, 17, 19, 21, 23, 25, 27, 28, 29, 30, 32, 34, 36, 40, 42, 44, 45] [(11, 2, 3), (12, 2, 3)] [5, 38, 46, 48] []) σ0 σ) : zpc (fX10_moveOperator_99 σ x1 x2) (fun r => (zQ [3, 5, 7, 9, 10, 15, 17, 19, 21, 23, 25, 27, 28, 29, 30, 32, 34, 36, 40, 42, 44, 45] [(11, 2, 3), (12, 2, 3)] [5, 38, 46, 48] []) σ0 (r)) := by
  unfold fX10_moveOperator_99
  exact zpc_bi (fe_fX10_part h) (fun σ1 v2 hσ1 => zpc_bu (fe_fX10_movePhase hσ1) (fun σ3 hσ3 => zpc_bu (fe_fX10_moveOut hσ3) (fun σ4 hσ4 => zpc_some hσ4)))
theorem fe_fX10_moveOperator_78 {σ0 : zSt} {σ : zSt} {x1 : Int32} {x2 : Int32} (h : (zQ [3, 5, 7, 9, 10, 15, 17, 19, 21, 23, 25, 27, 28, 29, 30, 32, 34, 36, 40, 42, 44, 45] [(11, 2, 3), (12, 2, 3)] [5, 38, 46, 48] []) σ0 σ) : zpc (fX10_moveOperator_78 σ x1 x2) (fun r => (zQ [3, 5, 7, 9, 10, 15, 17, 19, 21, 23, 25, 27, 28, 29, 30, 32, 34, 36, 40, 42, 44, 45] [(11, 2, 3), (12, 2, 3)] [5, 38, 46, 48] []) σ0 (r)) := by
  unfold fX10_moveOperator_78
  exact zpc_bu (fe_fX10_moveLevel h) (fun σ5 hσ5 => zpc_bi (fe_fX10_part hσ5) (fun σ6 v7 hσ6 => zpc_bu (fe_fX10_moveState hσ6) (fun σ8 hσ8 => fe_fX10_moveOperator_99 hσ8)))
theorem fe_fX10_moveOperator_53 {σ0 : zSt} {σ : zSt} {x1 : Int32} {x2 : Int32} (h : (zQ [3, 5, 7, 9, 10, 15, 17, 19, 21, 23, 25, 27, 28, 29, 30, 32, 34, 36, 40, 42, 44, 45] [(11, 2, 3), (12, 2, 3)] [5, 38, 46, 48] []) σ0 σ) : zpc (fX10_moveOperator_53 σ x1 x2) (fun r => (zQ [3, 5, 7, 9, 10, 15, 17, 19, 21, 23, 25, 27, 28, 29, 30, 32, 34, 36, 40, 42, 44, 45] [(11, 2, 3), (12, 2, 3)] [5, 38, 46, 48] []) σ0 (r)) := by
  unfold fX10_moveOperator_53
  exact zpc_ck (zpc_if (fun _ => zpc_ck (zpc_if (fun _ => fe_fX10_moveOperator_99 h) (fun _ => fe_fX10_moveOperator_78 h))) (fun _ => fe_fX10_moveOperator_78 h))
theorem fe_fX10_moveOperator_52 {σ0 : zSt} {σ : zSt} {x1 : Int32} {x2 : Int32} {s0 : Int32} {s1 : Int32} (h : (zQ [3, 5, 7, 9, 10, 15, 17, 19, 21, 23, 25, 27, 28, 29, 30, 32, 34, 36, 40, 42, 44, 45] [(11, 2, 3), (12, 2, 3)] [5, 38, 46, 48] []) σ0 σ) : zpc (fX10_moveOperator_52 σ x1 x2 s0 s1) (fun r => (zQ [3, 5, 7, 9, 10, 15, 17, 19, 21, 23, 25, 27, 28, 29, 30, 32, 34, 36, 40, 42, 44, 45] [(11, 2, 3), (12, 2, 3)] [5, 38, 46, 48] []) σ0 (r)) := by
  unfold fX10_moveOperator_52
  exact zpc_ck (zpc_bs (zQ.wi h rfl) (fun σ9 hσ9 => fe_fX10_moveOperator_53 hσ9))
theorem fe_fX10_moveOperator_13 {σ0 : zSt} {σ : zSt} {x1 : Int32} {x2 : Int32} {s0 : Int32} (h : (zQ [3, 5, 7, 9, 10, 15, 17, 19, 21, 23, 25, 27, 28, 29, 30, 32, 34, 36, 40, 42, 44, 45] [(11, 2, 3), (12, 2, 3)] [5, 38, 46, 48] []) σ0 σ) : zpc (fX10_moveOperator_13 σ x1 x2 s0) (fun r => (zQ [3, 5, 7, 9, 10, 15, 17, 19, 21, 23, 25, 27, 28, 29, 30, 32, 34, 36, 40, 42, 44, 45] [(11, 2, 3), (12, 2, 3)] [5, 38, 46, 48] []) σ0 (r)) := by
  unfold fX10_moveOperator_13
  exact zpc_ck (zpc_if (fun _ => fe_fX10_moveOperator_53 h) (fun _ => zpc_ck (zpc_bs (zQ.wi h rfl) (fun σ10 hσ10 => zpc_if (fun _ => fe_fX10_moveOperator_52 hσ10) (fun _ => fe_fX10_moveOperator_52 hσ10)))))
theorem fe_fX10_moveOperator {σ0 : zSt} {σ : zSt} {x1 : Int32} {x2 : Int32} (h : (zQ [3, 5, 7, 9, 10, 15, 17, 19, 21, 23, 25, 27, 28, 29, 30, 32, 34, 36, 40, 42, 44, 45] [(11, 2, 3), (12, 2, 3)] [5, 38, 46, 48] []) σ0 σ) : zpc (fX10_moveOperator σ x1 x2) (fun r => (zQ [3, 5, 7, 9, 10, 15, 17, 19, 21, 23, 25, 27, 28, 29, 30, 32, 34, 36, 40, 42, 44, 45] [(11, 2, 3), (12, 2, 3)] [5, 38, 46, 48] []) σ0 (r)) := by
  unfold fX10_moveOperator
  exact zpc_bi (fe_fX10_isOn h) (fun σ11 v12 hσ11 => zpc_if (fun _ => fe_fX10_moveOperator_13 hσ11) (fun _ => fe_fX10_moveOperator_13 hσ11))
theorem fe_fX10_makeNext_136 {σ0 : zSt} {k41 : zSt → Int32 → Int32 → Option (zSt)} (hk41 : ∀ (y0 : zSt) (y1 : Int32) (y2 : Int32), (zQ [3, 5, 7, 9, 10, 15, 17, 19, 21, 23, 25, 27, 28, 29, 30, 32, 34, 36, 40, 42, 44, 45] [(11, 2, 3), (12, 2, 3)] [5, 38, 46, 48] []) σ0 y0 → zpc (k41 y0 y1 y2) (fun r => (zQ [3, 5, 7, 9, 10, 15, 17, 19, 21, 23, 25, 27, 28, 29, 30, 32, 34, 36, 40, 42, 44, 45] [(11, 2, 3), (12, 2, 3)] [5, 38, 46, 48] []) σ0 (r))) {σ : zSt} {x2 : Int32} {s0 : Int32} {s1 : Int32} {s2 : Int32} (h : (zQ [3, 5, 7, 9, 10, 15, 17, 19, 21, 23, 25, 27, 28, 29, 30, 32, 34, 36, 40, 42, 44, 45] [(11, 2, 3), (12, 2, 3)] [5, 38, 46, 48] []) σ0 σ) : zpc (fX10_makeNext_136 k41 σ x2 s0 s1 s2) (fun r => (zQ [3, 5, 7, 9, 10, 15, 17, 19, 21, 23, 25, 27, 28, 29, 30, 32, 34, 36, 40, 42, 44, 45] [(11, 2, 3), (12, 2, 3)] [5, 38, 46, 48] []) σ0 (r)) := by
  unfold fX10_makeNext_136
  exact zpc_bv (fun v1 _ => zpc_bv (fun v2 _ => hk41 _ _ _ h))
theorem fe_fX10_makeNext_135 {σ0 : zSt} {k41 : zSt → Int32 → Int32 → Option (zSt)} (hk41 : ∀ (y0 : zSt) (y1 : Int32) (y2 : Int32), (zQ [3, 5, 7, 9, 10, 15, 17, 19, 21, 23, 25, 27, 28, 29, 30, 32, 34, 36, 40, 42, 44, 45] [(11, 2, 3), (12, 2, 3)] [5, 38, 46, 48] []) σ0 y0 → zpc (k41 y0 y1 y2) (fun r => (zQ [3, 5, 7, 9, 10, 15, 17, 19, 21, 23, 25, 27, 28, 29, 30, 32, 34, 36, 40, 42, 44, 45] [(11, 2, 3), (12, 2, 3)] [5, 38, 46, 48] []) σ0 (r))) {σ : zSt} {x2 : Int32} {s0 : Int32} {s1 : Int32} (h : (zQ [3, 5, 7, 9, 10, 15, 17, 19, 21, 23, 25, 27, 28, 29, 30, 32, 34, 36, 40, 42, 44, 45] [(11, 2, 3), (12, 2, 3)] [5, 38, 46, 48] []) σ0 σ) : zpc (fX10_makeNext_135 k41 σ x2 s0 s1) (fun r => (zQ [3, 5, 7, 9, 10, 15, 17, 19, 21, 23, 25, 27, 28, 29, 30, 32, 34, 36, 40, 42, 44, 45] [(11, 2, 3), (12, 2, 3)] [5, 38, 46, 48] []) σ0 (r)) := by
  unfold fX10_makeNext_135
  exact fe_fX10_makeNext_136 hk41 h
theorem fe_fX10_makeNext_101 {σ0 : zSt} {k41 : zSt → Int32 → Int32 → Option (zSt)} (hk41 : ∀ (y0 : zSt) (y1 : Int32) (y2 : Int32), (zQ [3, 5, 7, 9, 10, 15, 17, 19, 21, 23, 25, 27, 28, 29, 30, 32, 34, 36, 40, 42, 44, 45] [(11, 2, 3), (12, 2, 3)] [5, 38, 46, 48] []) σ0 y0 → zpc (k41 y0 y1 y2) (fun r => (zQ [3, 5, 7, 9, 10, 15, 17, 19, 21, 23, 25, 27, 28, 29, 30, 32, 34, 36, 40, 42, 44, 45] [(11, 2, 3), (12, 2, 3)] [5, 38, 46, 48] []) σ0 (r))) {σ : zSt} {x1 : Int32} {x2 : Int32} {x3 : Int32} {s0 : Int32} (h : (zQ [3, 5, 7, 9, 10, 15, 17, 19, 21, 23, 25, 27, 28, 29, 30, 32, 34, 36, 40, 42, 44, 45] [(11, 2, 3), (12, 2, 3)] [5, 38, 46, 48] []) σ0 σ) : zpc (fX10_makeNext_101 k41 σ x1 x2 x3 s0) (fun r => (zQ [3, 5, 7, 9, 10, 15, 17, 19, 21, 23, 25, 27, 28, 29, 30, 32, 34, 36, 40, 42, 44, 45] [(11, 2, 3), (12, 2, 3)] [5, 38, 46, 48] []) σ0 (r)) := by
  unfold fX10_makeNext_101
  exact zpc_ck (zpc_if (fun _ => fe_fX10_makeNext_135 hk41 h) (fun _ => zpc_if (fun _ => fe_fX10_makeNext_135 hk41 h) (fun _ => fe_fX10_makeNext_136 hk41 h)))
theorem fe_fX10_makeNext_100 {σ0 : zSt} {k41 : zSt → Int32 → Int32 → Option (zSt)} (hk41 : ∀ (y0 : zSt) (y1 : Int32) (y2 : Int32), (zQ [3, 5, 7, 9, 10, 15, 17, 19, 21, 23, 25, 27, 28, 29, 30, 32, 34, 36, 40, 42, 44, 45] [(11, 2, 3), (12, 2, 3)] [5, 38, 46, 48] []) σ0 y0 → zpc (k41 y0 y1 y2) (fun r => (zQ [3, 5, 7, 9, 10, 15, 17, 19, 21, 23, 25, 27, 28, 29, 30, 32, 34, 36, 40, 42, 44, 45] [(11, 2, 3), (12, 2, 3)] [5, 38, 46, 48] []) σ0 (r))) {σ : zSt} {x1 : Int32} {x2 : Int32} {x3 : Int32} (h : (zQ [3, 5, 7, 9, 10, 15, 17, 19, 21, 23, 25, 27, 28, 29, 30, 32, 34, 36, 40, 42, 44, 45] [(11, 2, 3), (12, 2, 3)] [5, 38, 46, 48] []) σ0 σ) : zpc (fX10_makeNext_100 k41 σ x1 x2 x3) (fun r => (zQ [3, 5, 7, 9, 10, 15, 17, 19, 21, 23, 25, 27, 28, 29, 30, 32, 34, 36, 40, 42, 44, 45] [(11, 2, 3), (12, 2, 3)] [5, 38, 46, 48] []) σ0 (r)) := by
  unfold fX10_makeNext_100
  exact fe_fX10_makeNext_101 hk41 h
theorem fe_fX10_makeNext_174 {σ0 : zSt} {σ : zSt} {x1 : Int32} {s0 : Int32} {s1 : Int32} (h : (zQ [3, 5, 7, 9, 10, 15, 17, 19, 21, 23, 25, 27, 28, 29, 30, 32, 34, 36, 40, 42, 44, 45] [(11, 2, 3), (12, 2, 3)] [5, 38, 46, 48] []) σ0 σ) : zpc (fX10_makeNext_174 σ x1 s0 s1) (fun r => (zQ [3, 5, 7, 9, 10, 15, 17, 19, 21, 23, 25, 27, 28, 29, 30, 32, 34, 36, 40, 42, 44, 45] [(11, 2, 3), (12, 2, 3)] [5, 38, 46, 48] []) σ0 (r)) := by
  unfold fX10_makeNext_174
  exact zpc_ck (zpc_bs (zQ.wi h rfl) (fun σ3 hσ3 => zpc_ck (zpc_bs (zQ.wi hσ3 rfl) (fun σ4 hσ4 => zpc_some hσ4))))
theorem fe_fX10_makeNext_41_body {σ0 : zSt} {k41 : zSt → Int32 → Int32 → Option (zSt)} (hk41 : ∀ (y0 : zSt) (y1 : Int32) (y2 : Int32), (zQ [3, 5, 7, 9, 10, 15, 17, 19, 21, 23, 25, 27, 28, 29, 30, 32, 34, 36, 40, 42, 44, 45] [(11, 2, 3), (12, 2, 3)] [5, 38, 46, 48] []) σ0 y0 → zpc (k41 y0 y1 y2) (fun r => (zQ [3, 5, 7, 9, 10, 15, 17, 19, 21, 23, 25, 27, 28, 29, 30, 32, 34, 36, 40, 42, 44, 45] [(11, 2, 3), (12, 2, 3)] [5, 38, 46, 48] []) σ0 (r))) {σ : zSt} {x1 : Int32} {x2 : Int32} (h : (zQ [3, 5, 7, 9, 10, 15, 17, 19, 21, 23, 25, 27, 28, 29, 30, 32, 34, 36, 40, 42, 44, 45] [(11, 2, 3), (12, 2, 3)] [5, 38, 46, 48] []) σ0 σ) : zpc (fX10_makeNext_41_body k41 σ x1 x2) (fun r => (zQ [3, 5, 7, 9, 10, 15, 17, 19, 21, 23, 25, 27, 28, 29, 30, 32, 34, 36, 40, 42, 44, 45] [(11, 2, 3), (12, 2, 3)] [5, 38, 46, 48] []) σ0 (r)) := by
  unfold fX10_makeNext_41_body
  exact zpc_if (fun _ => zpc_ck (zpc_bv (fun v5 _ => zpc_if (fun _ => fe_fX10_makeNext_174 h) (fun _ => fe_fX10_makeNext_174 h)))) (fun _ => zpc_bu (fe_fX10_takeChannel h) (fun σ6 hσ6 => zpc_bv (fun v7 _ => zpc_bu (fe_fX10_moveOperator hσ6) (fun σ8 hσ8 => zpc_bu (fe_fX10_moveOperator hσ8) (fun σ9 hσ9 => zpc_if (fun _ => fe_fX10_makeNext_100 hk41 hσ9) (fun _ => zpc_if (fun _ => fe_fX10_makeNext_100 hk41 hσ9) (fun _ => zpc_ck (fe_fX10_makeNext_101 hk41 hσ9))))))))
theorem fe_fX10_makeNext_41 {σ0 : zSt} : ∀ (n : Nat) (y0 : zSt) (y1 : Int32) (y2 : Int32), (zQ [3, 5, 7, 9, 10, 15, 17, 19, 21, 23, 25, 27, 28, 29, 30, 32, 34, 36, 40, 42, 44, 45] [(11, 2, 3), (12, 2, 3)] [5, 38, 46, 48] []) σ0 y0 → zpc (fX10_makeNext_41 n y0 y1 y2) (fun r => (zQ [3, 5, 7, 9, 10, 15, 17, 19, 21, 23, 25, 27, 28, 29, 30, 32, 34, 36, 40, 42, 44, 45] [(11, 2, 3), (12, 2, 3)] [5, 38, 46, 48] []) σ0 (r)) := by
  intro n
  induction n with
  | zero => intro y0 y1 y2 h; exact zpc_none
  | succ n ih => intro y0 y1 y2 h; exact fe_fX10_makeNext_41_body ih h
theorem fe_fX10_makeNext_30 {σ0 : zSt} {σ : zSt} {s0 : Int32} (h : (zQ [3, 5, 7, 9, 10, 15, 17, 19, 21, 23, 25, 27, 28, 29, 30, 32, 34, 36, 40, 42, 44, 45] [(11, 2, 3), (12, 2, 3)] [5, 38, 46, 48] []) σ0 σ) : zpc (fX10_makeNext_30 σ s0) (fun r => (zQ [3, 5, 7, 9, 10, 15, 17, 19, 21, 23, 25, 27, 28, 29, 30, 32, 34, 36, 40, 42, 44, 45] [(11, 2, 3), (12, 2, 3)] [5, 38, 46, 48] []) σ0 (r)) := by
  unfold fX10_makeNext_30
  exact zpc_ck (zpc_bs (zQ.wi h rfl) (fun σ10 hσ10 => zpc_bu (fe_fX10_takeOwnPatch hσ10) (fun σ11 hσ11 => fe_fX10_makeNext_41 _ _ _ _ hσ11)))
theorem fe_fX10_makeNext {σ0 : zSt} {σ : zSt} (h : (zQ [3, 5, 7, 9, 10, 15, 17, 19, 21, 23, 25, 27, 28, 29, 30, 32, 34, 36, 40, 42, 44, 45] [(11, 2, 3), (12, 2, 3)] [5, 38, 46, 48] []) σ0 σ) : zpc (fX10_makeNext σ) (fun r => (zQ [3, 5, 7, 9, 10, 15, 17, 19, 21, 23, 25, 27, 28, 29, 30, 32, 34, 36, 40, 42, 44, 45] [(11, 2, 3), (12, 2, 3)] [5, 38, 46, 48] []) σ0 (r)) := by
  unfold fX10_makeNext
  exact zpc_ck (zpc_ck (zpc_bs (zQ.wi h rfl) (fun σ12 hσ12 => zpc_ck (zpc_if (fun _ => fe_fX10_makeNext_30 hσ12) (fun _ => fe_fX10_makeNext_30 hσ12)))))
theorem fe_fX10_heard_24 {σ0 : zSt} {σ : zSt} {s0 : Int32} (h : (zQ [3, 5, 7, 9, 10, 15, 17, 19, 21, 23, 25, 27, 28, 29, 30, 32, 34, 36, 40, 42, 44, 45] [(11, 2, 3), (12, 2, 3)] [5, 38, 46, 48] []) σ0 σ) : zpc (fX10_heard_24 σ s0) (fun r => (zQ [3, 5, 7, 9, 10, 15, 17, 19, 21, 23, 25, 27, 28, 29, 30, 32, 34, 36, 40, 42, 44, 45] [(11, 2, 3), (12, 2, 3)] [5, 38, 46, 48] []) σ0 (r.1)) := by
  unfold fX10_heard_24
  exact zpc_some h
theorem fe_fX10_heard {σ0 : zSt} {σ : zSt} (h : (zQ [3, 5, 7, 9, 10, 15, 17, 19, 21, 23, 25, 27, 28, 29, 30, 32, 34, 36, 40, 42, 44, 45] [(11, 2, 3), (12, 2, 3)] [5, 38, 46, 48] []) σ0 σ) : zpc (fX10_heard σ) (fun r => (zQ [3, 5, 7, 9, 10, 15, 17, 19, 21, 23, 25, 27, 28, 29, 30, 32, 34, 36, 40, 42, 44, 45] [(11, 2, 3), (12, 2, 3)] [5, 38, 46, 48] []) σ0 (r.1)) := by
  unfold fX10_heard
  exact zpc_ck (zpc_if (fun _ => zpc_ck (fe_fX10_heard_24 h)) (fun _ => fe_fX10_heard_24 h))
theorem fe_fX6_add_k12_56 {σ0 : zSt} {σ : zSt} (h : (zQ [3, 5, 7, 9, 10, 15, 17, 19, 21, 23, 25, 27, 28, 29, 30, 32, 34, 36, 40, 42, 44, 45] [(11, 2, 3), (12, 2, 3)] [5, 38, 46, 48] []) σ0 σ) : zpc (fX6_add_k12_56 σ) (fun r => (zQ [3, 5, 7, 9, 10, 15, 17, 19, 21, 23, 25, 27, 28, 29, 30, 32, 34, 36, 40, 42, 44, 45] [(11, 2, 3), (12, 2, 3)] [5, 38, 46, 48] []) σ0 (r)) := by
  unfold fX6_add_k12_56
  exact zpc_some h
theorem fe_fX6_add_k12 {σ0 : zSt} {σ : zSt} {x1 : Int64} (h : (zQ [3, 5, 7, 9, 10, 15, 17, 19, 21, 23, 25, 27, 28, 29, 30, 32, 34, 36, 40, 42, 44, 45] [(11, 2, 3), (12, 2, 3)] [5, 38, 46, 48] []) σ0 σ) : zpc (fX6_add_k12 σ x1) (fun r => (zQ [3, 5, 7, 9, 10, 15, 17, 19, 21, 23, 25, 27, 28, 29, 30, 32, 34, 36, 40, 42, 44, 45] [(11, 2, 3), (12, 2, 3)] [5, 38, 46, 48] []) σ0 (r)) := by
  unfold fX6_add_k12
  exact zpc_ck (zpc_bs (zQ.wl h rfl) (fun σ1 hσ1 => zpc_if (fun _ => zpc_bs (zQ.wi hσ1 rfl) (fun σ2 hσ2 => fe_fX6_add_k12_56 hσ2)) (fun _ => zpc_bs (zQ.wi hσ1 rfl) (fun σ3 hσ3 => fe_fX6_add_k12_56 hσ3))))
theorem fe_fX0_addMix {σ0 : zSt} {σ : zSt} (h : (zQ [3, 5, 7, 9, 10, 15, 17, 19, 21, 23, 25, 27, 28, 29, 30, 32, 34, 36, 40, 42, 44, 45] [(11, 2, 3), (12, 2, 3)] [5, 38, 46, 48] []) σ0 σ) : zpc (fX0_addMix σ) (fun r => (zQ [3, 5, 7, 9, 10, 15, 17, 19, 21, 23, 25, 27, 28, 29, 30, 32, 34, 36, 40, 42, 44, 45] [(11, 2, 3), (12, 2, 3)] [5, 38, 46, 48] []) σ0 (r)) := by
  unfold fX0_addMix
  exact zpc_ck (zpc_bv (fun v1 _ => zpc_ck (zpc_ck (zpc_bi (fe_fX10_heard h) (fun σ2 v3 hσ2 => zpc_bv (fun v4 _ => zpc_ck (zpc_ck (zpc_bi (fe_fX10_heard hσ2) (fun σ5 v6 hσ5 => zpc_bv (fun v7 _ => zpc_bu (fe_fX6_add_k12 hσ5) (fun σ8 hσ8 => zpc_ck (zpc_bs (zQ.wl hσ8 rfl) (fun σ9 hσ9 => zpc_ck (zpc_bs (zQ.wl hσ9 rfl) (fun σ10 hσ10 => zpc_ck (zpc_bs (zQ.wl hσ10 rfl) (fun σ11 hσ11 => zpc_some hσ11)))))))))))))))))
theorem fe_fX0_pass_105_body {σ0 : zSt} {k105 : zSt → Int64 → Int64 → Option (zSt)} (hk105 : ∀ (y0 : zSt) (y1 : Int64) (y2 : Int64), (zQ [3, 5, 7, 9, 10, 15, 17, 19, 21, 23, 25, 27, 28, 29, 30, 32, 34, 36, 40, 42, 44, 45] [(11, 2, 3), (12, 2, 3)] [5, 38, 46, 48] []) σ0 y0 → zpc (k105 y0 y1 y2) (fun r => (zQ [3, 5, 7, 9, 10, 15, 17, 19, 21, 23, 25, 27, 28, 29, 30, 32, 34, 36, 40, 42, 44, 45] [(11, 2, 3), (12, 2, 3)] [5, 38, 46, 48] []) σ0 (r))) {σ : zSt} {x4 : Int64} {x6 : Int64} (h : (zQ [3, 5, 7, 9, 10, 15, 17, 19, 21, 23, 25, 27, 28, 29, 30, 32, 34, 36, 40, 42, 44, 45] [(11, 2, 3), (12, 2, 3)] [5, 38, 46, 48] []) σ0 σ) : zpc (fX0_pass_105_body k105 σ x4 x6) (fun r => (zQ [3, 5, 7, 9, 10, 15, 17, 19, 21, 23, 25, 27, 28, 29, 30, 32, 34, 36, 40, 42, 44, 45] [(11, 2, 3), (12, 2, 3)] [5, 38, 46, 48] []) σ0 (r)) := by
  unfold fX0_pass_105_body
  exact zpc_ck (zpc_if (fun _ => zpc_some h) (fun _ => zpc_bu (fe_fX0_addMix h) (fun σ1 hσ1 => zpc_bv (fun v2 _ => hk105 _ _ _ hσ1))))
theorem fe_fX0_pass_105 {σ0 : zSt} : ∀ (n : Nat) (y0 : zSt) (y1 : Int64) (y2 : Int64), (zQ [3, 5, 7, 9, 10, 15, 17, 19, 21, 23, 25, 27, 28, 29, 30, 32, 34, 36, 40, 42, 44, 45] [(11, 2, 3), (12, 2, 3)] [5, 38, 46, 48] []) σ0 y0 → zpc (fX0_pass_105 n y0 y1 y2) (fun r => (zQ [3, 5, 7, 9, 10, 15, 17, 19, 21, 23, 25, 27, 28, 29, 30, 32, 34, 36, 40, 42, 44, 45] [(11, 2, 3), (12, 2, 3)] [5, 38, 46, 48] []) σ0 (r)) := by
  intro n
  induction n with
  | zero => intro y0 y1 y2 h; exact zpc_none
  | succ n ih => intro y0 y1 y2 h; exact fe_fX0_pass_105_body ih h
theorem fe_fX0_pass_70_body {σ0 : zSt} {k70 : zSt → Int64 → Int64 → Int64 → Option (zSt)} (hk70 : ∀ (y0 : zSt) (y1 : Int64) (y2 : Int64) (y3 : Int64), (zQ [3, 5, 7, 9, 10, 15, 17, 19, 21, 23, 25, 27, 28, 29, 30, 32, 34, 36, 40, 42, 44, 45] [(11, 2, 3), (12, 2, 3)] [5, 38, 46, 48] []) σ0 y0 → zpc (k70 y0 y1 y2 y3) (fun r => (zQ [3, 5, 7, 9, 10, 15, 17, 19, 21, 23, 25, 27, 28, 29, 30, 32, 34, 36, 40, 42, 44, 45] [(11, 2, 3), (12, 2, 3)] [5, 38, 46, 48] []) σ0 (r))) {σ : zSt} {x2 : Int64} {x4 : Int64} {x6 : Int64} (h : (zQ [3, 5, 7, 9, 10, 15, 17, 19, 21, 23, 25, 27, 28, 29, 30, 32, 34, 36, 40, 42, 44, 45] [(11, 2, 3), (12, 2, 3)] [5, 38, 46, 48] []) σ0 σ) : zpc (fX0_pass_70_body k70 σ x2 x4 x6) (fun r => (zQ [3, 5, 7, 9, 10, 15, 17, 19, 21, 23, 25, 27, 28, 29, 30, 32, 34, 36, 40, 42, 44, 45] [(11, 2, 3), (12, 2, 3)] [5, 38, 46, 48] []) σ0 (r)) := by
  unfold fX0_pass_70_body
  exact zpc_ck (zpc_if (fun _ => zpc_ck (zpc_bv (fun v3 _ => fe_fX0_pass_105 _ _ _ _ h))) (fun _ => zpc_bu (fe_fX10_makeNext h) (fun σ4 hσ4 => zpc_bv (fun v5 _ => hk70 _ _ _ _ hσ4))))
theorem fe_fX0_pass_70 {σ0 : zSt} : ∀ (n : Nat) (y0 : zSt) (y1 : Int64) (y2 : Int64) (y3 : Int64), (zQ [3, 5, 7, 9, 10, 15, 17, 19, 21, 23, 25, 27, 28, 29, 30, 32, 34, 36, 40, 42, 44, 45] [(11, 2, 3), (12, 2, 3)] [5, 38, 46, 48] []) σ0 y0 → zpc (fX0_pass_70 n y0 y1 y2 y3) (fun r => (zQ [3, 5, 7, 9, 10, 15, 17, 19, 21, 23, 25, 27, 28, 29, 30, 32, 34, 36, 40, 42, 44, 45] [(11, 2, 3), (12, 2, 3)] [5, 38, 46, 48] []) σ0 (r)) := by
  intro n
  induction n with
  | zero => intro y0 y1 y2 y3 h; exact zpc_none
  | succ n ih => intro y0 y1 y2 y3 h; exact fe_fX0_pass_70_body ih h
theorem fe_fX0_pass_38_body {σ0 : zSt} {k38 : zSt → Int64 → Int64 → Int64 → Option (zSt)} (hk38 : ∀ (y0 : zSt) (y1 : Int64) (y2 : Int64) (y3 : Int64), (zQ [3, 5, 7, 9, 10, 15, 17, 19, 21, 23, 25, 27, 28, 29, 30, 32, 34, 36, 40, 42, 44, 45] [(11, 2, 3), (12, 2, 3)] [5, 38, 46, 48] []) σ0 y0 → zpc (k38 y0 y1 y2 y3) (fun r => (zQ [3, 5, 7, 9, 10, 15, 17, 19, 21, 23, 25, 27, 28, 29, 30, 32, 34, 36, 40, 42, 44, 45] [(11, 2, 3), (12, 2, 3)] [5, 38, 46, 48] []) σ0 (r))) {σ : zSt} {x2 : Int64} {x4 : Int64} {x6 : Int64} (h : (zQ [3, 5, 7, 9, 10, 15, 17, 19, 21, 23, 25, 27, 28, 29, 30, 32, 34, 36, 40, 42, 44, 45] [(11, 2, 3), (12, 2, 3)] [5, 38, 46, 48] []) σ0 σ) : zpc (fX0_pass_38_body k38 σ x2 x4 x6) (fun r => (zQ [3, 5, 7, 9, 10, 15, 17, 19, 21, 23, 25, 27, 28, 29, 30, 32, 34, 36, 40, 42, 44, 45] [(11, 2, 3), (12, 2, 3)] [5, 38, 46, 48] []) σ0 (r)) := by
  unfold fX0_pass_38_body
  exact zpc_ck (zpc_if (fun _ => zpc_ck (zpc_bv (fun v6 _ => fe_fX0_pass_70 _ _ _ _ _ h))) (fun _ => zpc_bu (fe_fX0_addSample h) (fun σ7 hσ7 => zpc_bv (fun v8 _ => hk38 _ _ _ _ hσ7))))
theorem fe_fX0_pass_38 {σ0 : zSt} : ∀ (n : Nat) (y0 : zSt) (y1 : Int64) (y2 : Int64) (y3 : Int64), (zQ [3, 5, 7, 9, 10, 15, 17, 19, 21, 23, 25, 27, 28, 29, 30, 32, 34, 36, 40, 42, 44, 45] [(11, 2, 3), (12, 2, 3)] [5, 38, 46, 48] []) σ0 y0 → zpc (fX0_pass_38 n y0 y1 y2 y3) (fun r => (zQ [3, 5, 7, 9, 10, 15, 17, 19, 21, 23, 25, 27, 28, 29, 30, 32, 34, 36, 40, 42, 44, 45] [(11, 2, 3), (12, 2, 3)] [5, 38, 46, 48] []) σ0 (r)) := by
  intro n
  induction n with
  | zero => intro y0 y1 y2 y3 h; exact zpc_none
  | succ n ih => intro y0 y1 y2 y3 h; exact fe_fX0_pass_38_body ih h
theorem fe_fX0_pass {σ0 : zSt} {σ : zSt} {x1 : Int32} (h : (zQ [3, 5, 7, 9, 10, 15, 17, 19, 21, 23, 25, 27, 28, 29, 30, 32, 34, 36, 40, 42, 44, 45] [(11, 2, 3), (12, 2, 3)] [5, 38, 46, 48] []) σ0 σ) : zpc (fX0_pass σ x1) (fun r => (zQ [3, 5, 7, 9, 10, 15, 17, 19, 21, 23, 25, 27, 28, 29, 30, 32, 34, 36, 40, 42, 44, 45] [(11, 2, 3), (12, 2, 3)] [5, 38, 46, 48] []) σ0 (r)) := by
  unfold fX0_pass
  exact zpc_ck (zpc_bv (fun v9 _ => zpc_bv (fun v10 _ => zpc_ck (zpc_bs (zQ.wl h rfl) (fun σ11 hσ11 => zpc_ck (zpc_ck (zpc_bs (zQ.wl hσ11 rfl) (fun σ12 hσ12 => zpc_ck (zpc_bv (fun v13 _ => fe_fX0_pass_38 _ _ _ _ _ hσ12))))))))))
theorem fe_fX1_noteStep {σ0 : zSt} {σ : zSt} {x1 : Int32} (h : (zQ [3, 5, 7, 9, 10, 15, 17, 19, 21, 23, 25, 27, 28, 29, 30, 32, 34, 36, 40, 42, 44, 45] [(11, 2, 3), (12, 2, 3)] [5, 38, 46, 48] []) σ0 σ) : zpc (fX1_noteStep σ x1) (fun r => (zQ [3, 5, 7, 9, 10, 15, 17, 19, 21, 23, 25, 27, 28, 29, 30, 32, 34, 36, 40, 42, 44, 45] [(11, 2, 3), (12, 2, 3)] [5, 38, 46, 48] []) σ0 (r)) := by
  unfold fX1_noteStep
  exact zpc_ck (zpc_bs (zQ.wi h rfl) (fun σ1 hσ1 => zpc_bs (zQ.wi hσ1 rfl) (fun σ2 hσ2 => zpc_some hσ2)))
theorem fe_fX1_placeOfStop_37 {σ0 : zSt} {σ : zSt} (h : (zQ [3, 5, 7, 9, 10, 15, 17, 19, 21, 23, 25, 27, 28, 29, 30, 32, 34, 36, 40, 42, 44, 45] [(11, 2, 3), (12, 2, 3)] [5, 38, 46, 48] []) σ0 σ) : zpc (fX1_placeOfStop_37 σ) (fun r => (zQ [3, 5, 7, 9, 10, 15, 17, 19, 21, 23, 25, 27, 28, 29, 30, 32, 34, 36, 40, 42, 44, 45] [(11, 2, 3), (12, 2, 3)] [5, 38, 46, 48] []) σ0 (r.1)) := by
  unfold fX1_placeOfStop_37
  exact zpc_some h
theorem fe_fX1_placeOfStop_2_body {σ0 : zSt} {k2 : zSt → Int32 → Int32 → Option (zSt × Int32)} (hk2 : ∀ (y0 : zSt) (y1 : Int32) (y2 : Int32), (zQ [3, 5, 7, 9, 10, 15, 17, 19, 21, 23, 25, 27, 28, 29, 30, 32, 34, 36, 40, 42, 44, 45] [(11, 2, 3), (12, 2, 3)] [5, 38, 46, 48] []) σ0 y0 → zpc (k2 y0 y1 y2) (fun r => (zQ [3, 5, 7, 9, 10, 15, 17, 19, 21, 23, 25, 27, 28, 29, 30, 32, 34, 36, 40, 42, 44, 45] [(11, 2, 3), (12, 2, 3)] [5, 38, 46, 48] []) σ0 (r.1))) {σ : zSt} {x1 : Int32} {x2 : Int32} (h : (zQ [3, 5, 7, 9, 10, 15, 17, 19, 21, 23, 25, 27, 28, 29, 30, 32, 34, 36, 40, 42, 44, 45] [(11, 2, 3), (12, 2, 3)] [5, 38, 46, 48] []) σ0 σ) : zpc (fX1_placeOfStop_2_body k2 σ x1 x2) (fun r => (zQ [3, 5, 7, 9, 10, 15, 17, 19, 21, 23, 25, 27, 28, 29, 30, 32, 34, 36, 40, 42, 44, 45] [(11, 2, 3), (12, 2, 3)] [5, 38, 46, 48] []) σ0 (r.1)) := by
  unfold fX1_placeOfStop_2_body
  exact zpc_if (fun _ => fe_fX1_placeOfStop_37 h) (fun _ => zpc_ck (zpc_if (fun _ => fe_fX1_placeOfStop_37 h) (fun _ => zpc_ck (zpc_if (fun _ => zpc_some h) (fun _ => zpc_bv (fun v1 _ => hk2 _ _ _ h))))))
theorem fe_fX1_placeOfStop_2 {σ0 : zSt} : ∀ (n : Nat) (y0 : zSt) (y1 : Int32) (y2 : Int32), (zQ [3, 5, 7, 9, 10, 15, 17, 19, 21, 23, 25, 27, 28, 29, 30, 32, 34, 36, 40, 42, 44, 45] [(11, 2, 3), (12, 2, 3)] [5, 38, 46, 48] []) σ0 y0 → zpc (fX1_placeOfStop_2 n y0 y1 y2) (fun r => (zQ [3, 5, 7, 9, 10, 15, 17, 19, 21, 23, 25, 27, 28, 29, 30, 32, 34, 36, 40, 42, 44, 45] [(11, 2, 3), (12, 2, 3)] [5, 38, 46, 48] []) σ0 (r.1)) := by
  intro n
  induction n with
  | zero => intro y0 y1 y2 h; exact zpc_none
  | succ n ih => intro y0 y1 y2 h; exact fe_fX1_placeOfStop_2_body ih h
theorem fe_fX1_placeOfStop {σ0 : zSt} {σ : zSt} {x1 : Int32} (h : (zQ [3, 5, 7, 9, 10, 15, 17, 19, 21, 23, 25, 27, 28, 29, 30, 32, 34, 36, 40, 42, 44, 45] [(11, 2, 3), (12, 2, 3)] [5, 38, 46, 48] []) σ0 σ) : zpc (fX1_placeOfStop σ x1) (fun r => (zQ [3, 5, 7, 9, 10, 15, 17, 19, 21, 23, 25, 27, 28, 29, 30, 32, 34, 36, 40, 42, 44, 45] [(11, 2, 3), (12, 2, 3)] [5, 38, 46, 48] []) σ0 (r.1)) := by
  unfold fX1_placeOfStop
  exact fe_fX1_placeOfStop_2 _ _ _ _ h
theorem fe_fX1_isStop_13 {σ0 : zSt} {σ : zSt} {s0 : Int32} (h : (zQ [3, 5, 7, 9, 10, 15, 17, 19, 21, 23, 25, 27, 28, 29, 30, 32, 34, 36, 40, 42, 44, 45] [(11, 2, 3), (12, 2, 3)] [5, 38, 46, 48] []) σ0 σ) : zpc (fX1_isStop_13 σ s0) (fun r => (zQ [3, 5, 7, 9, 10, 15, 17, 19, 21, 23, 25, 27, 28, 29, 30, 32, 34, 36, 40, 42, 44, 45] [(11, 2, 3), (12, 2, 3)] [5, 38, 46, 48] []) σ0 (r.1)) := by
  unfold fX1_isStop_13
  exact zpc_ck (zpc_some h)
theorem fe_fX1_isStop {σ0 : zSt} {σ : zSt} {x1 : Int32} (h : (zQ [3, 5, 7, 9, 10, 15, 17, 19, 21, 23, 25, 27, 28, 29, 30, 32, 34, 36, 40, 42, 44, 45] [(11, 2, 3), (12, 2, 3)] [5, 38, 46, 48] []) σ0 σ) : zpc (fX1_isStop σ x1) (fun r => (zQ [3, 5, 7, 9, 10, 15, 17, 19, 21, 23, 25, 27, 28, 29, 30, 32, 34, 36, 40, 42, 44, 45] [(11, 2, 3), (12, 2, 3)] [5, 38, 46, 48] []) σ0 (r.1)) := by
  unfold fX1_isStop
  exact zpc_bi (fe_fX1_placeOfStop h) (fun σ1 v2 hσ1 => zpc_if (fun _ => fe_fX1_isStop_13 hσ1) (fun _ => fe_fX1_isStop_13 hσ1))
theorem fe_fX1_stopsBeside_20 {σ0 : zSt} {σ : zSt} {s0 : Int32} {s1 : Int32} (h : (zQ [3, 5, 7, 9, 10, 15, 17, 19, 21, 23, 25, 27, 28, 29, 30, 32, 34, 36, 40, 42, 44, 45] [(11, 2, 3), (12, 2, 3)] [5, 38, 46, 48] []) σ0 σ) : zpc (fX1_stopsBeside_20 σ s0 s1) (fun r => (zQ [3, 5, 7, 9, 10, 15, 17, 19, 21, 23, 25, 27, 28, 29, 30, 32, 34, 36, 40, 42, 44, 45] [(11, 2, 3), (12, 2, 3)] [5, 38, 46, 48] []) σ0 (r.1)) := by
  unfold fX1_stopsBeside_20
  exact zpc_some h
theorem fe_fX1_stopsBeside {σ0 : zSt} {σ : zSt} {x1 : Int32} (h : (zQ [3, 5, 7, 9, 10, 15, 17, 19, 21, 23, 25, 27, 28, 29, 30, 32, 34, 36, 40, 42, 44, 45] [(11, 2, 3), (12, 2, 3)] [5, 38, 46, 48] []) σ0 σ) : zpc (fX1_stopsBeside σ x1) (fun r => (zQ [3, 5, 7, 9, 10, 15, 17, 19, 21, 23, 25, 27, 28, 29, 30, 32, 34, 36, 40, 42, 44, 45] [(11, 2, 3), (12, 2, 3)] [5, 38, 46, 48] []) σ0 (r.1)) := by
  unfold fX1_stopsBeside
  exact zpc_ck (zpc_bi (fe_fX1_isStop h) (fun σ1 v2 hσ1 => zpc_if (fun _ => fe_fX1_stopsBeside_20 hσ1) (fun _ => fe_fX1_stopsBeside_20 hσ1)))
theorem fe_fX1_changeStop_87 {σ0 : zSt} {σ : zSt} (h : (zQ [3, 5, 7, 9, 10, 15, 17, 19, 21, 23, 25, 27, 28, 29, 30, 32, 34, 36, 40, 42, 44, 45] [(11, 2, 3), (12, 2, 3)] [5, 38, 46, 48] []) σ0 σ) : zpc (fX1_changeStop_87 σ) (fun r => (zQ [3, 5, 7, 9, 10, 15, 17, 19, 21, 23, 25, 27, 28, 29, 30, 32, 34, 36, 40, 42, 44, 45] [(11, 2, 3), (12, 2, 3)] [5, 38, 46, 48] []) σ0 (r.1)) := by
  unfold fX1_changeStop_87
  exact zpc_ck (zpc_some h)
theorem fe_fX1_changeStop_50 {σ0 : zSt} {σ : zSt} {x2 : Int32} {x3 : Int32} {x4 : Int32} (h : (zQ [3, 5, 7, 9, 10, 15, 17, 19, 21, 23, 25, 27, 28, 29, 30, 32, 34, 36, 40, 42, 44, 45] [(11, 2, 3), (12, 2, 3)] [5, 38, 46, 48] []) σ0 σ) : zpc (fX1_changeStop_50 σ x2 x3 x4) (fun r => (zQ [3, 5, 7, 9, 10, 15, 17, 19, 21, 23, 25, 27, 28, 29, 30, 32, 34, 36, 40, 42, 44, 45] [(11, 2, 3), (12, 2, 3)] [5, 38, 46, 48] []) σ0 (r.1)) := by
  unfold fX1_changeStop_50
  exact zpc_if (fun _ => zpc_if (fun _ => fe_fX1_changeStop_87 h) (fun _ => zpc_ck (zpc_ck (zpc_bs (zQ.wi h rfl) (fun σ1 hσ1 => zpc_ck (zpc_bs (zQ.wi hσ1 rfl) (fun σ2 hσ2 => fe_fX1_changeStop_87 hσ2))))))) (fun _ => fe_fX1_changeStop_87 h)
theorem fe_fX1_changeStop {σ0 : zSt} {σ : zSt} {x1 : Int32} {x2 : Int32} (h : (zQ [3, 5, 7, 9, 10, 15, 17, 19, 21, 23, 25, 27, 28, 29, 30, 32, 34, 36, 40, 42, 44, 45] [(11, 2, 3), (12, 2, 3)] [5, 38, 46, 48] []) σ0 σ) : zpc (fX1_changeStop σ x1 x2) (fun r => (zQ [3, 5, 7, 9, 10, 15, 17, 19, 21, 23, 25, 27, 28, 29, 30, 32, 34, 36, 40, 42, 44, 45] [(11, 2, 3), (12, 2, 3)] [5, 38, 46, 48] []) σ0 (r.1)) := by
  unfold fX1_changeStop
  exact zpc_ck (zpc_bv (fun v3 _ => zpc_bi (fe_fX1_placeOfStop h) (fun σ4 v5 hσ4 => zpc_if (fun _ => fe_fX1_changeStop_50 hσ4) (fun _ => zpc_if (fun _ => fe_fX1_changeStop_50 hσ4) (fun _ => zpc_if (fun _ => fe_fX1_changeStop_50 hσ4) (fun _ => zpc_ck (zpc_bs (zQ.wi hσ4 rfl) (fun σ6 hσ6 => zpc_ck (zpc_bs (zQ.wi hσ6 rfl) (fun σ7 hσ7 => fe_fX1_changeStop_87 hσ7))))))))))
theorem fe_fX1_plansWaiting {σ0 : zSt} {σ : zSt} (h : (zQ [3, 5, 7, 9, 10, 15, 17, 19, 21, 23, 25, 27, 28, 29, 30, 32, 34, 36, 40, 42, 44, 45] [(11, 2, 3), (12, 2, 3)] [5, 38, 46, 48] []) σ0 σ) : zpc (fX1_plansWaiting σ) (fun r => (zQ [3, 5, 7, 9, 10, 15, 17, 19, 21, 23, 25, 27, 28, 29, 30, 32, 34, 36, 40, 42, 44, 45] [(11, 2, 3), (12, 2, 3)] [5, 38, 46, 48] []) σ0 (r.1)) := by
  unfold fX1_plansWaiting
  exact zpc_ck (zpc_some h)
theorem fe_fX1_placeOfPlan {σ0 : zSt} {σ : zSt} {x1 : Int32} (h : (zQ [3, 5, 7, 9, 10, 15, 17, 19, 21, 23, 25, 27, 28, 29, 30, 32, 34, 36, 40, 42, 44, 45] [(11, 2, 3), (12, 2, 3)] [5, 38, 46, 48] []) σ0 σ) : zpc (fX1_placeOfPlan σ x1) (fun r => (zQ [3, 5, 7, 9, 10, 15, 17, 19, 21, 23, 25, 27, 28, 29, 30, 32, 34, 36, 40, 42, 44, 45] [(11, 2, 3), (12, 2, 3)] [5, 38, 46, 48] []) σ0 (r.1)) := by
  unfold fX1_placeOfPlan
  exact zpc_ck (zpc_some h)
theorem fe_fX1_leastPlan_34 {σ0 : zSt} {σ : zSt} {s0 : Int32} (h : (zQ [3, 5, 7, 9, 10, 15, 17, 19, 21, 23, 25, 27, 28, 29, 30, 32, 34, 36, 40, 42, 44, 45] [(11, 2, 3), (12, 2, 3)] [5, 38, 46, 48] []) σ0 σ) : zpc (fX1_leastPlan_34 σ s0) (fun r => (zQ [3, 5, 7, 9, 10, 15, 17, 19, 21, 23, 25, 27, 28, 29, 30, 32, 34, 36, 40, 42, 44, 45] [(11, 2, 3), (12, 2, 3)] [5, 38, 46, 48] []) σ0 (r.1)) := by
  unfold fX1_leastPlan_34
  exact zpc_some h
theorem fe_fX1_leastPlan {σ0 : zSt} {σ : zSt} (h : (zQ [3, 5, 7, 9, 10, 15, 17, 19, 21, 23, 25, 27, 28, 29, 30, 32, 34, 36, 40, 42, 44, 45] [(11, 2, 3), (12, 2, 3)] [5, 38, 46, 48] []) σ0 σ) : zpc (fX1_leastPlan σ) (fun r => (zQ [3, 5, 7, 9, 10, 15, 17, 19, 21, 23, 25, 27, 28, 29, 30, 32, 34, 36, 40, 42, 44, 45] [(11, 2, 3), (12, 2, 3)] [5, 38, 46, 48] []) σ0 (r.1)) := by
  unfold fX1_leastPlan
  exact zpc_ck (zpc_if (fun _ => fe_fX1_leastPlan_34 h) (fun _ => zpc_ck (zpc_bi (fe_fX1_placeOfPlan h) (fun σ1 v2 hσ1 => zpc_ck (fe_fX1_leastPlan_34 hσ1)))))
theorem fe_fX1_addPlan {σ0 : zSt} {σ : zSt} {x1 : Int32} {x2 : Int32} {x3 : Int32} (h : (zQ [3, 5, 7, 9, 10, 15, 17, 19, 21, 23, 25, 27, 28, 29, 30, 32, 34, 36, 40, 42, 44, 45] [(11, 2, 3), (12, 2, 3)] [5, 38, 46, 48] []) σ0 σ) : zpc (fX1_addPlan σ x1 x2 x3) (fun r => (zQ [3, 5, 7, 9, 10, 15, 17, 19, 21, 23, 25, 27, 28, 29, 30, 32, 34, 36, 40, 42, 44, 45] [(11, 2, 3), (12, 2, 3)] [5, 38, 46, 48] []) σ0 (r.1)) := by
  unfold fX1_addPlan
  exact zpc_ck (zpc_bi (fe_fX1_placeOfPlan h) (fun σ1 v2 hσ1 => zpc_ck (zpc_bs (zQ.wi hσ1 rfl) (fun σ3 hσ3 => zpc_ck (zpc_bs (zQ.wi hσ3 rfl) (fun σ4 hσ4 => zpc_ck (zpc_bs (zQ.wi hσ4 rfl) (fun σ5 hσ5 => zpc_ck (zpc_ck (zpc_bs (zQ.wi hσ5 rfl) (fun σ6 hσ6 => zpc_ck (zpc_some hσ6))))))))))))
theorem fe_fX4_holdButtons {σ0 : zSt} {σ : zSt} {x1 : Int32} {x2 : Int32} (h : (zQ [3, 5, 7, 9, 10, 15, 17, 19, 21, 23, 25, 27, 28, 29, 30, 32, 34, 36, 40, 42, 44, 45] [(11, 2, 3), (12, 2, 3)] [5, 38, 46, 48] []) σ0 σ) : zpc (fX4_holdButtons σ x1 x2) (fun r => (zQ [3, 5, 7, 9, 10, 15, 17, 19, 21, 23, 25, 27, 28, 29, 30, 32, 34, 36, 40, 42, 44, 45] [(11, 2, 3), (12, 2, 3)] [5, 38, 46, 48] []) σ0 (r)) := by
  unfold fX4_holdButtons
  exact zpc_ck (zpc_bs (zQ.wi h rfl) (fun σ1 hσ1 => zpc_some hσ1))
theorem fe_fX1_carryOutPlans_107 {σ0 : zSt} {σ : zSt} (h : (zQ [3, 5, 7, 9, 10, 15, 17, 19, 21, 23, 25, 27, 28, 29, 30, 32, 34, 36, 40, 42, 44, 45] [(11, 2, 3), (12, 2, 3)] [5, 38, 46, 48] []) σ0 σ) : zpc (fX1_carryOutPlans_107 σ) (fun r => (zQ [3, 5, 7, 9, 10, 15, 17, 19, 21, 23, 25, 27, 28, 29, 30, 32, 34, 36, 40, 42, 44, 45] [(11, 2, 3), (12, 2, 3)] [5, 38, 46, 48] []) σ0 (r)) := by
  unfold fX1_carryOutPlans_107
  exact zpc_some h
theorem fe_fX1_carryOutPlans_3_body {σ0 : zSt} {k3 : zSt → Int64 → Int32 → Option (zSt)} (hk3 : ∀ (y0 : zSt) (y1 : Int64) (y2 : Int32), (zQ [3, 5, 7, 9, 10, 15, 17, 19, 21, 23, 25, 27, 28, 29, 30, 32, 34, 36, 40, 42, 44, 45] [(11, 2, 3), (12, 2, 3)] [5, 38, 46, 48] []) σ0 y0 → zpc (k3 y0 y1 y2) (fun r => (zQ [3, 5, 7, 9, 10, 15, 17, 19, 21, 23, 25, 27, 28, 29, 30, 32, 34, 36, 40, 42, 44, 45] [(11, 2, 3), (12, 2, 3)] [5, 38, 46, 48] []) σ0 (r))) {σ : zSt} {x1 : Int64} {x4 : Int32} (h : (zQ [3, 5, 7, 9, 10, 15, 17, 19, 21, 23, 25, 27, 28, 29, 30, 32, 34, 36, 40, 42, 44, 45] [(11, 2, 3), (12, 2, 3)] [5, 38, 46, 48] []) σ0 σ) : zpc (fX1_carryOutPlans_3_body k3 σ x1 x4) (fun r => (zQ [3, 5, 7, 9, 10, 15, 17, 19, 21, 23, 25, 27, 28, 29, 30, 32, 34, 36, 40, 42, 44, 45] [(11, 2, 3), (12, 2, 3)] [5, 38, 46, 48] []) σ0 (r)) := by
  unfold fX1_carryOutPlans_3_body
  exact zpc_if (fun _ => fe_fX1_carryOutPlans_107 h) (fun _ => zpc_ck (zpc_if (fun _ => fe_fX1_carryOutPlans_107 h) (fun _ => zpc_bi (fe_fX1_placeOfPlan h) (fun σ1 v2 hσ1 => zpc_ck (zpc_if (fun _ => zpc_ck (zpc_ck (zpc_bu (fe_fX4_holdButtons hσ1) (fun σ3 hσ3 => zpc_ck (zpc_ck (zpc_bs (zQ.wi hσ3 rfl) (fun σ4 hσ4 => zpc_ck (zpc_ck (zpc_bs (zQ.wi hσ4 rfl) (fun σ5 hσ5 => zpc_bv (fun v6 _ => hk3 _ _ _ hσ5))))))))))) (fun _ => fe_fX1_carryOutPlans_107 hσ1))))))
theorem fe_fX1_carryOutPlans_3 {σ0 : zSt} : ∀ (n : Nat) (y0 : zSt) (y1 : Int64) (y2 : Int32), (zQ [3, 5, 7, 9, 10, 15, 17, 19, 21, 23, 25, 27, 28, 29, 30, 32, 34, 36, 40, 42, 44, 45] [(11, 2, 3), (12, 2, 3)] [5, 38, 46, 48] []) σ0 y0 → zpc (fX1_carryOutPlans_3 n y0 y1 y2) (fun r => (zQ [3, 5, 7, 9, 10, 15, 17, 19, 21, 23, 25, 27, 28, 29, 30, 32, 34, 36, 40, 42, 44, 45] [(11, 2, 3), (12, 2, 3)] [5, 38, 46, 48] []) σ0 (r)) := by
  intro n
  induction n with
  | zero => intro y0 y1 y2 h; exact zpc_none
  | succ n ih => intro y0 y1 y2 h; exact fe_fX1_carryOutPlans_3_body ih h
theorem fe_fX1_carryOutPlans {σ0 : zSt} {σ : zSt} {x1 : Int64} (h : (zQ [3, 5, 7, 9, 10, 15, 17, 19, 21, 23, 25, 27, 28, 29, 30, 32, 34, 36, 40, 42, 44, 45] [(11, 2, 3), (12, 2, 3)] [5, 38, 46, 48] []) σ0 σ) : zpc (fX1_carryOutPlans σ x1) (fun r => (zQ [3, 5, 7, 9, 10, 15, 17, 19, 21, 23, 25, 27, 28, 29, 30, 32, 34, 36, 40, 42, 44, 45] [(11, 2, 3), (12, 2, 3)] [5, 38, 46, 48] []) σ0 (r)) := by
  unfold fX1_carryOutPlans
  exact fe_fX1_carryOutPlans_3 _ _ _ _ h
theorem fe_fX2_batteryIsIn_25 {σ0 : zSt} {σ : zSt} {s0 : Int32} (h : (zQ [3, 5, 7, 9, 10, 15, 17, 19, 21, 23, 25, 27, 28, 29, 30, 32, 34, 36, 40, 42, 44, 45] [(11, 2, 3), (12, 2, 3)] [5, 38, 46, 48] []) σ0 σ) : zpc (fX2_batteryIsIn_25 σ s0) (fun r => (zQ [3, 5, 7, 9, 10, 15, 17, 19, 21, 23, 25, 27, 28, 29, 30, 32, 34, 36, 40, 42, 44, 45] [(11, 2, 3), (12, 2, 3)] [5, 38, 46, 48] []) σ0 (r.1)) := by
  unfold fX2_batteryIsIn_25
  exact zpc_ck (zpc_some h)
theorem fe_fX2_batteryIsIn_24 {σ0 : zSt} {σ : zSt} (h : (zQ [3, 5, 7, 9, 10, 15, 17, 19, 21, 23, 25, 27, 28, 29, 30, 32, 34, 36, 40, 42, 44, 45] [(11, 2, 3), (12, 2, 3)] [5, 38, 46, 48] []) σ0 σ) : zpc (fX2_batteryIsIn_24 σ) (fun r => (zQ [3, 5, 7, 9, 10, 15, 17, 19, 21, 23, 25, 27, 28, 29, 30, 32, 34, 36, 40, 42, 44, 45] [(11, 2, 3), (12, 2, 3)] [5, 38, 46, 48] []) σ0 (r.1)) := by
  unfold fX2_batteryIsIn_24
  exact fe_fX2_batteryIsIn_25 h
theorem fe_fX2_batteryIsIn {σ0 : zSt} {σ : zSt} (h : (zQ [3, 5, 7, 9, 10, 15, 17, 19, 21, 23, 25, 27, 28, 29, 30, 32, 34, 36, 40, 42, 44, 45] [(11, 2, 3), (12, 2, 3)] [5, 38, 46, 48] []) σ0 σ) : zpc (fX2_batteryIsIn σ) (fun r => (zQ [3, 5, 7, 9, 10, 15, 17, 19, 21, 23, 25, 27, 28, 29, 30, 32, 34, 36, 40, 42, 44, 45] [(11, 2, 3), (12, 2, 3)] [5, 38, 46, 48] []) σ0 (r.1)) := by
  unfold fX2_batteryIsIn
  exact zpc_if (fun _ => zpc_ck (zpc_if (fun _ => fe_fX2_batteryIsIn_24 h) (fun _ => fe_fX2_batteryIsIn_25 h))) (fun _ => fe_fX2_batteryIsIn_24 h)
theorem fe_fX2_batteryPlace {σ0 : zSt} {σ : zSt} {x1 : Int32} (h : (zQ [3, 5, 7, 9, 10, 15, 17, 19, 21, 23, 25, 27, 28, 29, 30, 32, 34, 36, 40, 42, 44, 45] [(11, 2, 3), (12, 2, 3)] [5, 38, 46, 48] []) σ0 σ) : zpc (fX2_batteryPlace σ x1) (fun r => (zQ [3, 5, 7, 9, 10, 15, 17, 19, 21, 23, 25, 27, 28, 29, 30, 32, 34, 36, 40, 42, 44, 45] [(11, 2, 3), (12, 2, 3)] [5, 38, 46, 48] []) σ0 (r.1)) := by
  unfold fX2_batteryPlace
  exact zpc_ck (zpc_some h)
theorem fe_fX2_read_169 {σ0 : zSt} {σ : zSt} {s0 : Int32} (h : (zQ [3, 5, 7, 9, 10, 15, 17, 19, 21, 23, 25, 27, 28, 29, 30, 32, 34, 36, 40, 42, 44, 45] [(11, 2, 3), (12, 2, 3)] [5, 38, 46, 48] []) σ0 σ) : zpc (fX2_read_169 σ s0) (fun r => (zQ [3, 5, 7, 9, 10, 15, 17, 19, 21, 23, 25, 27, 28, 29, 30, 32, 34, 36, 40, 42, 44, 45] [(11, 2, 3), (12, 2, 3)] [5, 38, 46, 48] []) σ0 (r.1)) := by
  unfold fX2_read_169
  exact zpc_some h
theorem fe_fX2_read_144 {σ0 : zSt} {σ : zSt} {x3 : Int32} (h : (zQ [3, 5, 7, 9, 10, 15, 17, 19, 21, 23, 25, 27, 28, 29, 30, 32, 34, 36, 40, 42, 44, 45] [(11, 2, 3), (12, 2, 3)] [5, 38, 46, 48] []) σ0 σ) : zpc (fX2_read_144 σ x3) (fun r => (zQ [3, 5, 7, 9, 10, 15, 17, 19, 21, 23, 25, 27, 28, 29, 30, 32, 34, 36, 40, 42, 44, 45] [(11, 2, 3), (12, 2, 3)] [5, 38, 46, 48] []) σ0 (r.1)) := by
  unfold fX2_read_144
  exact zpc_if (fun _ => fe_fX2_read_169 h) (fun _ => zpc_ck (fe_fX2_read_169 h))
theorem fe_fX2_read_126 {σ0 : zSt} {σ : zSt} {x2 : Int32} {x6 : Int32} (h : (zQ [3, 5, 7, 9, 10, 15, 17, 19, 21, 23, 25, 27, 28, 29, 30, 32, 34, 36, 40, 42, 44, 45] [(11, 2, 3), (12, 2, 3)] [5, 38, 46, 48] []) σ0 σ) : zpc (fX2_read_126 σ x2 x6) (fun r => (zQ [3, 5, 7, 9, 10, 15, 17, 19, 21, 23, 25, 27, 28, 29, 30, 32, 34, 36, 40, 42, 44, 45] [(11, 2, 3), (12, 2, 3)] [5, 38, 46, 48] []) σ0 (r.1)) := by
  unfold fX2_read_126
  exact zpc_ck (zpc_bv (fun v1 _ => fe_fX2_read_144 h))
theorem fe_fX2_read_106 {σ0 : zSt} {σ : zSt} {x2 : Int32} {s0 : Int32} (h : (zQ [3, 5, 7, 9, 10, 15, 17, 19, 21, 23, 25, 27, 28, 29, 30, 32, 34, 36, 40, 42, 44, 45] [(11, 2, 3), (12, 2, 3)] [5, 38, 46, 48] []) σ0 σ) : zpc (fX2_read_106 σ x2 s0) (fun r => (zQ [3, 5, 7, 9, 10, 15, 17, 19, 21, 23, 25, 27, 28, 29, 30, 32, 34, 36, 40, 42, 44, 45] [(11, 2, 3), (12, 2, 3)] [5, 38, 46, 48] []) σ0 (r.1)) := by
  unfold fX2_read_106
  exact zpc_if (fun _ => zpc_if (fun _ => fe_fX2_read_126 h) (fun _ => fe_fX2_read_126 h)) (fun _ => fe_fX2_read_126 h)
theorem fe_fX2_read_87 {σ0 : zSt} {σ : zSt} {x2 : Int32} {x4 : Int32} {s0 : Int32} (h : (zQ [3, 5, 7, 9, 10, 15, 17, 19, 21, 23, 25, 27, 28, 29, 30, 32, 34, 36, 40, 42, 44, 45] [(11, 2, 3), (12, 2, 3)] [5, 38, 46, 48] []) σ0 σ) : zpc (fX2_read_87 σ x2 x4 s0) (fun r => (zQ [3, 5, 7, 9, 10, 15, 17, 19, 21, 23, 25, 27, 28, 29, 30, 32, 34, 36, 40, 42, 44, 45] [(11, 2, 3), (12, 2, 3)] [5, 38, 46, 48] []) σ0 (r.1)) := by
  unfold fX2_read_87
  exact zpc_if (fun _ => zpc_ck (fe_fX2_read_106 h)) (fun _ => fe_fX2_read_106 h)
theorem fe_fX2_read_86 {σ0 : zSt} {σ : zSt} {x2 : Int32} {x4 : Int32} (h : (zQ [3, 5, 7, 9, 10, 15, 17, 19, 21, 23, 25, 27, 28, 29, 30, 32, 34, 36, 40, 42, 44, 45] [(11, 2, 3), (12, 2, 3)] [5, 38, 46, 48] []) σ0 σ) : zpc (fX2_read_86 σ x2 x4) (fun r => (zQ [3, 5, 7, 9, 10, 15, 17, 19, 21, 23, 25, 27, 28, 29, 30, 32, 34, 36, 40, 42, 44, 45] [(11, 2, 3), (12, 2, 3)] [5, 38, 46, 48] []) σ0 (r.1)) := by
  unfold fX2_read_86
  exact fe_fX2_read_87 h
theorem fe_fX2_read_62 {σ0 : zSt} {σ : zSt} {x2 : Int32} (h : (zQ [3, 5, 7, 9, 10, 15, 17, 19, 21, 23, 25, 27, 28, 29, 30, 32, 34, 36, 40, 42, 44, 45] [(11, 2, 3), (12, 2, 3)] [5, 38, 46, 48] []) σ0 σ) : zpc (fX2_read_62 σ x2) (fun r => (zQ [3, 5, 7, 9, 10, 15, 17, 19, 21, 23, 25, 27, 28, 29, 30, 32, 34, 36, 40, 42, 44, 45] [(11, 2, 3), (12, 2, 3)] [5, 38, 46, 48] []) σ0 (r.1)) := by
  unfold fX2_read_62
  exact zpc_bv (fun v2 _ => zpc_if (fun _ => zpc_if (fun _ => fe_fX2_read_86 h) (fun _ => fe_fX2_read_87 h)) (fun _ => fe_fX2_read_86 h))
theorem fe_fX2_read {σ0 : zSt} {σ : zSt} {x1 : Int32} (h : (zQ [3, 5, 7, 9, 10, 15, 17, 19, 21, 23, 25, 27, 28, 29, 30, 32, 34, 36, 40, 42, 44, 45] [(11, 2, 3), (12, 2, 3)] [5, 38, 46, 48] []) σ0 σ) : zpc (fX2_read σ x1) (fun r => (zQ [3, 5, 7, 9, 10, 15, 17, 19, 21, 23, 25, 27, 28, 29, 30, 32, 34, 36, 40, 42, 44, 45] [(11, 2, 3), (12, 2, 3)] [5, 38, 46, 48] []) σ0 (r.1)) := by
  unfold fX2_read
  exact zpc_bv (fun v3 _ => zpc_if (fun _ => zpc_if (fun _ => fe_fX2_read_144 h) (fun _ => zpc_if (fun _ => fe_fX2_read_144 h) (fun _ => zpc_if (fun _ => fe_fX2_read_62 h) (fun _ => zpc_bi (fe_fX2_batteryIsIn h) (fun σ4 v5 hσ4 => zpc_if (fun _ => fe_fX2_read_62 hσ4) (fun _ => zpc_bi (fe_fX2_batteryPlace hσ4) (fun σ6 v7 hσ6 => zpc_ck (zpc_some hσ6)))))))) (fun _ => zpc_ck (zpc_some h)))
theorem fe_fX2_write_151 {σ0 : zSt} {σ : zSt} (h : (zQ [3, 5, 7, 9, 10, 15, 17, 19, 21, 23, 25, 27, 28, 29, 30, 32, 34, 36, 40, 42, 44, 45] [(11, 2, 3), (12, 2, 3)] [5, 38, 46, 48] []) σ0 σ) : zpc (fX2_write_151 σ) (fun r => (zQ [3, 5, 7, 9, 10, 15, 17, 19, 21, 23, 25, 27, 28, 29, 30, 32, 34, 36, 40, 42, 44, 45] [(11, 2, 3), (12, 2, 3)] [5, 38, 46, 48] []) σ0 (r)) := by
  unfold fX2_write_151
  exact zpc_some h
theorem fe_fX2_write_54 {σ0 : zSt} {σ : zSt} {x2 : Int32} {s0 : Int32} (h : (zQ [3, 5, 7, 9, 10, 15, 17, 19, 21, 23, 25, 27, 28, 29, 30, 32, 34, 36, 40, 42, 44, 45] [(11, 2, 3), (12, 2, 3)] [5, 38, 46, 48] []) σ0 σ) : zpc (fX2_write_54 σ x2 s0) (fun r => (zQ [3, 5, 7, 9, 10, 15, 17, 19, 21, 23, 25, 27, 28, 29, 30, 32, 34, 36, 40, 42, 44, 45] [(11, 2, 3), (12, 2, 3)] [5, 38, 46, 48] []) σ0 (r)) := by
  unfold fX2_write_54
  exact zpc_ck (zpc_bs (zQ.wi h rfl) (fun σ1 hσ1 => fe_fX2_write_151 hσ1))
theorem fe_fX2_write_130 {σ0 : zSt} {σ : zSt} {x2 : Int32} {x3 : Int32} (h : (zQ [3, 5, 7, 9, 10, 15, 17, 19, 21, 23, 25, 27, 28, 29, 30, 32, 34, 36, 40, 42, 44, 45] [(11, 2, 3), (12, 2, 3)] [5, 38, 46, 48] []) σ0 σ) : zpc (fX2_write_130 σ x2 x3) (fun r => (zQ [3, 5, 7, 9, 10, 15, 17, 19, 21, 23, 25, 27, 28, 29, 30, 32, 34, 36, 40, 42, 44, 45] [(11, 2, 3), (12, 2, 3)] [5, 38, 46, 48] []) σ0 (r)) := by
  unfold fX2_write_130
  exact zpc_if (fun _ => zpc_if (fun _ => zpc_ck (zpc_bs (zQ.wi h rfl) (fun σ2 hσ2 => fe_fX2_write_151 hσ2))) (fun _ => fe_fX2_write_151 h)) (fun _ => fe_fX2_write_151 h)
theorem fe_fX2_write_117 {σ0 : zSt} {σ : zSt} {x2 : Int32} {x3 : Int32} (h : (zQ [3, 5, 7, 9, 10, 15, 17, 19, 21, 23, 25, 27, 28, 29, 30, 32, 34, 36, 40, 42, 44, 45] [(11, 2, 3), (12, 2, 3)] [5, 38, 46, 48] []) σ0 σ) : zpc (fX2_write_117 σ x2 x3) (fun r => (zQ [3, 5, 7, 9, 10, 15, 17, 19, 21, 23, 25, 27, 28, 29, 30, 32, 34, 36, 40, 42, 44, 45] [(11, 2, 3), (12, 2, 3)] [5, 38, 46, 48] []) σ0 (r)) := by
  unfold fX2_write_117
  exact zpc_ck (zpc_bs (zQ.wi h rfl) (fun σ3 hσ3 => fe_fX2_write_151 hσ3))
theorem fe_fX2_write_22 {σ0 : zSt} {σ : zSt} {x2 : Int32} {x3 : Int32} (h : (zQ [3, 5, 7, 9, 10, 15, 17, 19, 21, 23, 25, 27, 28, 29, 30, 32, 34, 36, 40, 42, 44, 45] [(11, 2, 3), (12, 2, 3)] [5, 38, 46, 48] []) σ0 σ) : zpc (fX2_write_22 σ x2 x3) (fun r => (zQ [3, 5, 7, 9, 10, 15, 17, 19, 21, 23, 25, 27, 28, 29, 30, 32, 34, 36, 40, 42, 44, 45] [(11, 2, 3), (12, 2, 3)] [5, 38, 46, 48] []) σ0 (r)) := by
  unfold fX2_write_22
  exact zpc_if (fun _ => zpc_if (fun _ => zpc_if (fun _ => fe_fX2_write_151 h) (fun _ => zpc_if (fun _ => fe_fX2_write_151 h) (fun _ => zpc_bi (fe_fX2_batteryIsIn h) (fun σ4 v5 hσ4 => zpc_if (fun _ => fe_fX2_write_151 hσ4) (fun _ => zpc_bi (fe_fX2_batteryPlace hσ4) (fun σ6 v7 hσ6 => zpc_ck (zpc_bs (zQ.wi hσ6 rfl) (fun σ8 hσ8 => fe_fX2_write_151 hσ8)))))))) (fun _ => zpc_if (fun _ => fe_fX2_write_54 h) (fun _ => fe_fX2_write_54 h))) (fun _ => zpc_if (fun _ => zpc_if (fun _ => fe_fX2_write_117 h) (fun _ => zpc_if (fun _ => fe_fX2_write_117 h) (fun _ => zpc_if (fun _ => fe_fX2_write_117 h) (fun _ => fe_fX2_write_130 h)))) (fun _ => fe_fX2_write_130 h))
theorem fe_fX2_write {σ0 : zSt} {σ : zSt} {x1 : Int32} {x2 : Int32} (h : (zQ [3, 5, 7, 9, 10, 15, 17, 19, 21, 23, 25, 27, 28, 29, 30, 32, 34, 36, 40, 42, 44, 45] [(11, 2, 3), (12, 2, 3)] [5, 38, 46, 48] []) σ0 σ) : zpc (fX2_write σ x1 x2) (fun r => (zQ [3, 5, 7, 9, 10, 15, 17, 19, 21, 23, 25, 27, 28, 29, 30, 32, 34, 36, 40, 42, 44, 45] [(11, 2, 3), (12, 2, 3)] [5, 38, 46, 48] []) σ0 (r)) := by
  unfold fX2_write
  exact zpc_bv (fun v9 _ => zpc_if (fun _ => fe_fX2_write_22 h) (fun _ => zpc_ck (zpc_bs (zQ.wi h rfl) (fun σ10 hσ10 => fe_fX2_write_22 hσ10))))
theorem fe_fJ7_fill_53178_k17_5_body {σ0 : zSt} {k5 : zSt → Int32 → Int32 → Int32 → Option (zSt)} (hk5 : ∀ (y0 : zSt) (y1 : Int32) (y2 : Int32) (y3 : Int32), (zQ [3, 5, 7, 9, 10, 15, 17, 19, 21, 23, 25, 27, 28, 29, 30, 32, 34, 36, 40, 42, 44, 45] [(11, 2, 3), (12, 2, 3)] [5, 38, 46, 48] []) σ0 y0 → zpc (k5 y0 y1 y2 y3) (fun r => (zQ [3, 5, 7, 9, 10, 15, 17, 19, 21, 23, 25, 27, 28, 29, 30, 32, 34, 36, 40, 42, 44, 45] [(11, 2, 3), (12, 2, 3)] [5, 38, 46, 48] []) σ0 (r))) {σ : zSt} {x1 : Int32} {x2 : Int32} {x3 : Int32} (h : (zQ [3, 5, 7, 9, 10, 15, 17, 19, 21, 23, 25, 27, 28, 29, 30, 32, 34, 36, 40, 42, 44, 45] [(11, 2, 3), (12, 2, 3)] [5, 38, 46, 48] []) σ0 σ) : zpc (fJ7_fill_53178_k17_5_body k5 σ x1 x2 x3) (fun r => (zQ [3, 5, 7, 9, 10, 15, 17, 19, 21, 23, 25, 27, 28, 29, 30, 32, 34, 36, 40, 42, 44, 45] [(11, 2, 3), (12, 2, 3)] [5, 38, 46, 48] []) σ0 (r)) := by
  unfold fJ7_fill_53178_k17_5_body
  exact zpc_if (fun _ => zpc_some h) (fun _ => zpc_ck (zpc_bs (zQ.wi h rfl) (fun σ1 hσ1 => zpc_bv (fun v2 _ => hk5 _ _ _ _ hσ1))))
theorem fe_fJ7_fill_53178_k17_5 {σ0 : zSt} : ∀ (n : Nat) (y0 : zSt) (y1 : Int32) (y2 : Int32) (y3 : Int32), (zQ [3, 5, 7, 9, 10, 15, 17, 19, 21, 23, 25, 27, 28, 29, 30, 32, 34, 36, 40, 42, 44, 45] [(11, 2, 3), (12, 2, 3)] [5, 38, 46, 48] []) σ0 y0 → zpc (fJ7_fill_53178_k17_5 n y0 y1 y2 y3) (fun r => (zQ [3, 5, 7, 9, 10, 15, 17, 19, 21, 23, 25, 27, 28, 29, 30, 32, 34, 36, 40, 42, 44, 45] [(11, 2, 3), (12, 2, 3)] [5, 38, 46, 48] []) σ0 (r)) := by
  intro n
  induction n with
  | zero => intro y0 y1 y2 y3 h; exact zpc_none
  | succ n ih => intro y0 y1 y2 y3 h; exact fe_fJ7_fill_53178_k17_5_body ih h
theorem fe_fJ7_fill_53178_k17 {σ0 : zSt} {σ : zSt} {x1 : Int32} (h : (zQ [3, 5, 7, 9, 10, 15, 17, 19, 21, 23, 25, 27, 28, 29, 30, 32, 34, 36, 40, 42, 44, 45] [(11, 2, 3), (12, 2, 3)] [5, 38, 46, 48] []) σ0 σ) : zpc (fJ7_fill_53178_k17 σ x1) (fun r => (zQ [3, 5, 7, 9, 10, 15, 17, 19, 21, 23, 25, 27, 28, 29, 30, 32, 34, 36, 40, 42, 44, 45] [(11, 2, 3), (12, 2, 3)] [5, 38, 46, 48] []) σ0 (r)) := by
  unfold fJ7_fill_53178_k17
  exact fe_fJ7_fill_53178_k17_5 _ _ _ _ _ h
theorem fe_fX2_clearBattery {σ0 : zSt} {σ : zSt} (h : (zQ [3, 5, 7, 9, 10, 15, 17, 19, 21, 23, 25, 27, 28, 29, 30, 32, 34, 36, 40, 42, 44, 45] [(11, 2, 3), (12, 2, 3)] [5, 38, 46, 48] []) σ0 σ) : zpc (fX2_clearBattery σ) (fun r => (zQ [3, 5, 7, 9, 10, 15, 17, 19, 21, 23, 25, 27, 28, 29, 30, 32, 34, 36, 40, 42, 44, 45] [(11, 2, 3), (12, 2, 3)] [5, 38, 46, 48] []) σ0 (r)) := by
  unfold fX2_clearBattery
  exact zpc_bu (fe_fJ7_fill_53178_k17 h) (fun σ1 hσ1 => zpc_some hσ1)
theorem fe_fX2_clearPages_32 {σ0 : zSt} {σ : zSt} {s0 : Int32} {s1 : Int32} (h : (zQ [3, 5, 7, 9, 10, 15, 17, 19, 21, 23, 25, 27, 28, 29, 30, 32, 34, 36, 40, 42, 44, 45] [(11, 2, 3), (12, 2, 3)] [5, 38, 46, 48] []) σ0 σ) : zpc (fX2_clearPages_32 σ s0 s1) (fun r => (zQ [3, 5, 7, 9, 10, 15, 17, 19, 21, 23, 25, 27, 28, 29, 30, 32, 34, 36, 40, 42, 44, 45] [(11, 2, 3), (12, 2, 3)] [5, 38, 46, 48] []) σ0 (r)) := by
  unfold fX2_clearPages_32
  exact zpc_ck (zpc_bs (zQ.wi h rfl) (fun σ1 hσ1 => zpc_ck (zpc_bs (zQ.wi hσ1 rfl) (fun σ2 hσ2 => zpc_some hσ2))))
theorem fe_fX2_clearPages {σ0 : zSt} {σ : zSt} (h : (zQ [3, 5, 7, 9, 10, 15, 17, 19, 21, 23, 25, 27, 28, 29, 30, 32, 34, 36, 40, 42, 44, 45] [(11, 2, 3), (12, 2, 3)] [5, 38, 46, 48] []) σ0 σ) : zpc (fX2_clearPages σ) (fun r => (zQ [3, 5, 7, 9, 10, 15, 17, 19, 21, 23, 25, 27, 28, 29, 30, 32, 34, 36, 40, 42, 44, 45] [(11, 2, 3), (12, 2, 3)] [5, 38, 46, 48] []) σ0 (r)) := by
  unfold fX2_clearPages
  exact zpc_ck (zpc_bs (zQ.wi h rfl) (fun σ3 hσ3 => zpc_ck (zpc_bs (zQ.wi hσ3 rfl) (fun σ4 hσ4 => zpc_if (fun _ => fe_fX2_clearPages_32 hσ4) (fun _ => fe_fX2_clearPages_32 hσ4)))))
theorem fe_fX9_height {σ0 : zSt} {σ : zSt} (h : (zQ [3, 5, 7, 9, 10, 15, 17, 19, 21, 23, 25, 27, 28, 29, 30, 32, 34, 36, 40, 42, 44, 45] [(11, 2, 3), (12, 2, 3)] [5, 38, 46, 48] []) σ0 σ) : zpc (fX9_height σ) (fun r => (zQ [3, 5, 7, 9, 10, 15, 17, 19, 21, 23, 25, 27, 28, 29, 30, 32, 34, 36, 40, 42, 44, 45] [(11, 2, 3), (12, 2, 3)] [5, 38, 46, 48] []) σ0 (r.1)) := by
  unfold fX9_height
  exact zpc_ck (zpc_if (fun _ => zpc_ck (zpc_if (fun _ => zpc_some h) (fun _ => zpc_if (fun _ => zpc_some h) (fun _ => zpc_some h)))) (fun _ => zpc_some h))
theorem fe_fX9_held_20 {σ0 : zSt} {σ : zSt} {s0 : Int32} (h : (zQ [3, 5, 7, 9, 10, 15, 17, 19, 21, 23, 25, 27, 28, 29, 30, 32, 34, 36, 40, 42, 44, 45] [(11, 2, 3), (12, 2, 3)] [5, 38, 46, 48] []) σ0 σ) : zpc (fX9_held_20 σ s0) (fun r => (zQ [3, 5, 7, 9, 10, 15, 17, 19, 21, 23, 25, 27, 28, 29, 30, 32, 34, 36, 40, 42, 44, 45] [(11, 2, 3), (12, 2, 3)] [5, 38, 46, 48] []) σ0 (r.1)) := by
  unfold fX9_held_20
  exact zpc_some h
theorem fe_fX9_held_19 {σ0 : zSt} {σ : zSt} (h : (zQ [3, 5, 7, 9, 10, 15, 17, 19, 21, 23, 25, 27, 28, 29, 30, 32, 34, 36, 40, 42, 44, 45] [(11, 2, 3), (12, 2, 3)] [5, 38, 46, 48] []) σ0 σ) : zpc (fX9_held_19 σ) (fun r => (zQ [3, 5, 7, 9, 10, 15, 17, 19, 21, 23, 25, 27, 28, 29, 30, 32, 34, 36, 40, 42, 44, 45] [(11, 2, 3), (12, 2, 3)] [5, 38, 46, 48] []) σ0 (r.1)) := by
  unfold fX9_held_19
  exact fe_fX9_held_20 h
theorem fe_fX9_held {σ0 : zSt} {σ : zSt} {x1 : Int32} (h : (zQ [3, 5, 7, 9, 10, 15, 17, 19, 21, 23, 25, 27, 28, 29, 30, 32, 34, 36, 40, 42, 44, 45] [(11, 2, 3), (12, 2, 3)] [5, 38, 46, 48] []) σ0 σ) : zpc (fX9_held σ x1) (fun r => (zQ [3, 5, 7, 9, 10, 15, 17, 19, 21, 23, 25, 27, 28, 29, 30, 32, 34, 36, 40, 42, 44, 45] [(11, 2, 3), (12, 2, 3)] [5, 38, 46, 48] []) σ0 (r.1)) := by
  unfold fX9_held
  exact zpc_if (fun _ => fe_fX9_held_19 h) (fun _ => zpc_if (fun _ => fe_fX9_held_19 h) (fun _ => zpc_ck (fe_fX9_held_20 h)))
theorem fe_fX9_mode_57 {σ0 : zSt} {σ : zSt} {s0 : Int32} (h : (zQ [3, 5, 7, 9, 10, 15, 17, 19, 21, 23, 25, 27, 28, 29, 30, 32, 34, 36, 40, 42, 44, 45] [(11, 2, 3), (12, 2, 3)] [5, 38, 46, 48] []) σ0 σ) : zpc (fX9_mode_57 σ s0) (fun r => (zQ [3, 5, 7, 9, 10, 15, 17, 19, 21, 23, 25, 27, 28, 29, 30, 32, 34, 36, 40, 42, 44, 45] [(11, 2, 3), (12, 2, 3)] [5, 38, 46, 48] []) σ0 (r.1)) := by
  unfold fX9_mode_57
  exact zpc_some h
theorem fe_fX9_mode {σ0 : zSt} {σ : zSt} (h : (zQ [3, 5, 7, 9, 10, 15, 17, 19, 21, 23, 25, 27, 28, 29, 30, 32, 34, 36, 40, 42, 44, 45] [(11, 2, 3), (12, 2, 3)] [5, 38, 46, 48] []) σ0 σ) : zpc (fX9_mode σ) (fun r => (zQ [3, 5, 7, 9, 10, 15, 17, 19, 21, 23, 25, 27, 28, 29, 30, 32, 34, 36, 40, 42, 44, 45] [(11, 2, 3), (12, 2, 3)] [5, 38, 46, 48] []) σ0 (r.1)) := by
  unfold fX9_mode
  exact zpc_ck (zpc_if (fun _ => zpc_ck (zpc_if (fun _ => zpc_ck (zpc_if (fun _ => zpc_ck (zpc_if (fun _ => fe_fX9_mode_57 h) (fun _ => fe_fX9_mode_57 h))) (fun _ => zpc_some h))) (fun _ => zpc_some h))) (fun _ => zpc_some h))
theorem fe_fJ7_fill_53178_k27_5_body {σ0 : zSt} {k5 : zSt → Int32 → Int32 → Int32 → Option (zSt)} (hk5 : ∀ (y0 : zSt) (y1 : Int32) (y2 : Int32) (y3 : Int32), (zQ [3, 5, 7, 9, 10, 15, 17, 19, 21, 23, 25, 27, 28, 29, 30, 32, 34, 36, 40, 42, 44, 45] [(11, 2, 3), (12, 2, 3)] [5, 38, 46, 48] []) σ0 y0 → zpc (k5 y0 y1 y2 y3) (fun r => (zQ [3, 5, 7, 9, 10, 15, 17, 19, 21, 23, 25, 27, 28, 29, 30, 32, 34, 36, 40, 42, 44, 45] [(11, 2, 3), (12, 2, 3)] [5, 38, 46, 48] []) σ0 (r))) {σ : zSt} {x1 : Int32} {x2 : Int32} {x3 : Int32} (h : (zQ [3, 5, 7, 9, 10, 15, 17, 19, 21, 23, 25, 27, 28, 29, 30, 32, 34, 36, 40, 42, 44, 45] [(11, 2, 3), (12, 2, 3)] [5, 38, 46, 48] []) σ0 σ) : zpc (fJ7_fill_53178_k27_5_body k5 σ x1 x2 x3) (fun r => (zQ [3, 5, 7, 9, 10, 15, 17, 19, 21, 23, 25, 27, 28, 29, 30, 32, 34, 36, 40, 42, 44, 45] [(11, 2, 3), (12, 2, 3)] [5, 38, 46, 48] []) σ0 (r)) := by
  unfold fJ7_fill_53178_k27_5_body
  exact zpc_if (fun _ => zpc_some h) (fun _ => zpc_ck (zpc_bs (zQ.wi h rfl) (fun σ1 hσ1 => zpc_bv (fun v2 _ => hk5 _ _ _ _ hσ1))))
theorem fe_fJ7_fill_53178_k27_5 {σ0 : zSt} : ∀ (n : Nat) (y0 : zSt) (y1 : Int32) (y2 : Int32) (y3 : Int32), (zQ [3, 5, 7, 9, 10, 15, 17, 19, 21, 23, 25, 27, 28, 29, 30, 32, 34, 36, 40, 42, 44, 45] [(11, 2, 3), (12, 2, 3)] [5, 38, 46, 48] []) σ0 y0 → zpc (fJ7_fill_53178_k27_5 n y0 y1 y2 y3) (fun r => (zQ [3, 5, 7, 9, 10, 15, 17, 19, 21, 23, 25, 27, 28, 29, 30, 32, 34, 36, 40, 42, 44, 45] [(11, 2, 3), (12, 2, 3)] [5, 38, 46, 48] []) σ0 (r)) := by
  intro n
  induction n with
  | zero => intro y0 y1 y2 y3 h; exact zpc_none
  | succ n ih => intro y0 y1 y2 y3 h; exact fe_fJ7_fill_53178_k27_5_body ih h
theorem fe_fJ7_fill_53178_k27 {σ0 : zSt} {σ : zSt} {x1 : Int32} (h : (zQ [3, 5, 7, 9, 10, 15, 17, 19, 21, 23, 25, 27, 28, 29, 30, 32, 34, 36, 40, 42, 44, 45] [(11, 2, 3), (12, 2, 3)] [5, 38, 46, 48] []) σ0 σ) : zpc (fJ7_fill_53178_k27 σ x1) (fun r => (zQ [3, 5, 7, 9, 10, 15, 17, 19, 21, 23, 25, 27, 28, 29, 30, 32, 34, 36, 40, 42, 44, 45] [(11, 2, 3), (12, 2, 3)] [5, 38, 46, 48] []) σ0 (r)) := by
  unfold fJ7_fill_53178_k27
  exact fe_fJ7_fill_53178_k27_5 _ _ _ _ _ h
theorem fe_fX3_mixColours_130 {σ0 : zSt} {k2 : zSt → Int32 → Int32 → Option (zSt)} (hk2 : ∀ (y0 : zSt) (y1 : Int32) (y2 : Int32), (zQ [3, 5, 7, 9, 10, 15, 17, 19, 21, 23, 25, 27, 28, 29, 30, 32, 34, 36, 40, 42, 44, 45] [(11, 2, 3), (12, 2, 3)] [5, 38, 46, 48] []) σ0 y0 → zpc (k2 y0 y1 y2) (fun r => (zQ [3, 5, 7, 9, 10, 15, 17, 19, 21, 23, 25, 27, 28, 29, 30, 32, 34, 36, 40, 42, 44, 45] [(11, 2, 3), (12, 2, 3)] [5, 38, 46, 48] []) σ0 (r))) {σ : zSt} {x1 : Int32} {x2 : Int32} (h : (zQ [3, 5, 7, 9, 10, 15, 17, 19, 21, 23, 25, 27, 28, 29, 30, 32, 34, 36, 40, 42, 44, 45] [(11, 2, 3), (12, 2, 3)] [5, 38, 46, 48] []) σ0 σ) : zpc (fX3_mixColours_130 k2 σ x1 x2) (fun r => (zQ [3, 5, 7, 9, 10, 15, 17, 19, 21, 23, 25, 27, 28, 29, 30, 32, 34, 36, 40, 42, 44, 45] [(11, 2, 3), (12, 2, 3)] [5, 38, 46, 48] []) σ0 (r)) := by
  unfold fX3_mixColours_130
  exact zpc_bv (fun v1 _ => hk2 _ _ _ h)
theorem fe_fX3_mixColours_78 {σ0 : zSt} {k2 : zSt → Int32 → Int32 → Option (zSt)} (hk2 : ∀ (y0 : zSt) (y1 : Int32) (y2 : Int32), (zQ [3, 5, 7, 9, 10, 15, 17, 19, 21, 23, 25, 27, 28, 29, 30, 32, 34, 36, 40, 42, 44, 45] [(11, 2, 3), (12, 2, 3)] [5, 38, 46, 48] []) σ0 y0 → zpc (k2 y0 y1 y2) (fun r => (zQ [3, 5, 7, 9, 10, 15, 17, 19, 21, 23, 25, 27, 28, 29, 30, 32, 34, 36, 40, 42, 44, 45] [(11, 2, 3), (12, 2, 3)] [5, 38, 46, 48] []) σ0 (r))) {σ : zSt} {x1 : Int32} {x2 : Int32} {s0 : Int32} {s1 : Int32} (h : (zQ [3, 5, 7, 9, 10, 15, 17, 19, 21, 23, 25, 27, 28, 29, 30, 32, 34, 36, 40, 42, 44, 45] [(11, 2, 3), (12, 2, 3)] [5, 38, 46, 48] []) σ0 σ) : zpc (fX3_mixColours_78 k2 σ x1 x2 s0 s1) (fun r => (zQ [3, 5, 7, 9, 10, 15, 17, 19, 21, 23, 25, 27, 28, 29, 30, 32, 34, 36, 40, 42, 44, 45] [(11, 2, 3), (12, 2, 3)] [5, 38, 46, 48] []) σ0 (r)) := by
  unfold fX3_mixColours_78
  exact zpc_ck (zpc_bs (zQ.wi h rfl) (fun σ2 hσ2 => fe_fX3_mixColours_130 hk2 hσ2))
theorem fe_fX3_mixColours_129 {σ0 : zSt} {k2 : zSt → Int32 → Int32 → Option (zSt)} (hk2 : ∀ (y0 : zSt) (y1 : Int32) (y2 : Int32), (zQ [3, 5, 7, 9, 10, 15, 17, 19, 21, 23, 25, 27, 28, 29, 30, 32, 34, 36, 40, 42, 44, 45] [(11, 2, 3), (12, 2, 3)] [5, 38, 46, 48] []) σ0 y0 → zpc (k2 y0 y1 y2) (fun r => (zQ [3, 5, 7, 9, 10, 15, 17, 19, 21, 23, 25, 27, 28, 29, 30, 32, 34, 36, 40, 42, 44, 45] [(11, 2, 3), (12, 2, 3)] [5, 38, 46, 48] []) σ0 (r))) {σ : zSt} {x1 : Int32} {x2 : Int32} {s0 : Int32} {s1 : Int32} (h : (zQ [3, 5, 7, 9, 10, 15, 17, 19, 21, 23, 25, 27, 28, 29, 30, 32, 34, 36, 40, 42, 44, 45] [(11, 2, 3), (12, 2, 3)] [5, 38, 46, 48] []) σ0 σ) : zpc (fX3_mixColours_129 k2 σ x1 x2 s0 s1) (fun r => (zQ [3, 5, 7, 9, 10, 15, 17, 19, 21, 23, 25, 27, 28, 29, 30, 32, 34, 36, 40, 42, 44, 45] [(11, 2, 3), (12, 2, 3)] [5, 38, 46, 48] []) σ0 (r)) := by
  unfold fX3_mixColours_129
  exact zpc_ck (zpc_bs (zQ.wi h rfl) (fun σ3 hσ3 => fe_fX3_mixColours_130 hk2 hσ3))
theorem fe_fX3_mixColours_2_body {σ0 : zSt} {k2 : zSt → Int32 → Int32 → Option (zSt)} (hk2 : ∀ (y0 : zSt) (y1 : Int32) (y2 : Int32), (zQ [3, 5, 7, 9, 10, 15, 17, 19, 21, 23, 25, 27, 28, 29, 30, 32, 34, 36, 40, 42, 44, 45] [(11, 2, 3), (12, 2, 3)] [5, 38, 46, 48] []) σ0 y0 → zpc (k2 y0 y1 y2) (fun r => (zQ [3, 5, 7, 9, 10, 15, 17, 19, 21, 23, 25, 27, 28, 29, 30, 32, 34, 36, 40, 42, 44, 45] [(11, 2, 3), (12, 2, 3)] [5, 38, 46, 48] []) σ0 (r))) {σ : zSt} {x1 : Int32} {x2 : Int32} (h : (zQ [3, 5, 7, 9, 10, 15, 17, 19, 21, 23, 25, 27, 28, 29, 30, 32, 34, 36, 40, 42, 44, 45] [(11, 2, 3), (12, 2, 3)] [5, 38, 46, 48] []) σ0 σ) : zpc (fX3_mixColours_2_body k2 σ x1 x2) (fun r => (zQ [3, 5, 7, 9, 10, 15, 17, 19, 21, 23, 25, 27, 28, 29, 30, 32, 34, 36, 40, 42, 44, 45] [(11, 2, 3), (12, 2, 3)] [5, 38, 46, 48] []) σ0 (r)) := by
  unfold fX3_mixColours_2_body
  exact zpc_if (fun _ => zpc_some h) (fun _ => zpc_if (fun _ => zpc_if (fun _ => zpc_bi (fe_fX9_held h) (fun σ5 v6 hσ5 => fe_fX3_mixColours_78 hk2 hσ5)) (fun _ => zpc_bi (fe_fX9_held h) (fun σ7 v8 hσ7 => zpc_bi (fe_fX9_held hσ7) (fun σ9 v10 hσ9 => fe_fX3_mixColours_78 hk2 hσ9)))) (fun _ => zpc_ck (zpc_bv (fun v4 _ => zpc_if (fun _ => fe_fX3_mixColours_129 hk2 h) (fun _ => fe_fX3_mixColours_129 hk2 h)))))
theorem fe_fX3_mixColours_2 {σ0 : zSt} : ∀ (n : Nat) (y0 : zSt) (y1 : Int32) (y2 : Int32), (zQ [3, 5, 7, 9, 10, 15, 17, 19, 21, 23, 25, 27, 28, 29, 30, 32, 34, 36, 40, 42, 44, 45] [(11, 2, 3), (12, 2, 3)] [5, 38, 46, 48] []) σ0 y0 → zpc (fX3_mixColours_2 n y0 y1 y2) (fun r => (zQ [3, 5, 7, 9, 10, 15, 17, 19, 21, 23, 25, 27, 28, 29, 30, 32, 34, 36, 40, 42, 44, 45] [(11, 2, 3), (12, 2, 3)] [5, 38, 46, 48] []) σ0 (r)) := by
  intro n
  induction n with
  | zero => intro y0 y1 y2 h; exact zpc_none
  | succ n ih => intro y0 y1 y2 h; exact fe_fX3_mixColours_2_body ih h
theorem fe_fX3_mixColours {σ0 : zSt} {σ : zSt} {x1 : Int32} (h : (zQ [3, 5, 7, 9, 10, 15, 17, 19, 21, 23, 25, 27, 28, 29, 30, 32, 34, 36, 40, 42, 44, 45] [(11, 2, 3), (12, 2, 3)] [5, 38, 46, 48] []) σ0 σ) : zpc (fX3_mixColours σ x1) (fun r => (zQ [3, 5, 7, 9, 10, 15, 17, 19, 21, 23, 25, 27, 28, 29, 30, 32, 34, 36, 40, 42, 44, 45] [(11, 2, 3), (12, 2, 3)] [5, 38, 46, 48] []) σ0 (r)) := by
  unfold fX3_mixColours
  exact fe_fX3_mixColours_2 _ _ _ _ h
theorem fe_fX9_vramByte {σ0 : zSt} {σ : zSt} {x1 : Int32} (h : (zQ [3, 5, 7, 9, 10, 15, 17, 19, 21, 23, 25, 27, 28, 29, 30, 32, 34, 36, 40, 42, 44, 45] [(11, 2, 3), (12, 2, 3)] [5, 38, 46, 48] []) σ0 σ) : zpc (fX9_vramByte σ x1) (fun r => (zQ [3, 5, 7, 9, 10, 15, 17, 19, 21, 23, 25, 27, 28, 29, 30, 32, 34, 36, 40, 42, 44, 45] [(11, 2, 3), (12, 2, 3)] [5, 38, 46, 48] []) σ0 (r.1)) := by
  unfold fX9_vramByte
  exact zpc_ck (zpc_some h)
theorem fe_fX3_takePlanes {σ0 : zSt} {σ : zSt} {x1 : Int32} (h : (zQ [3, 5, 7, 9, 10, 15, 17, 19, 21, 23, 25, 27, 28, 29, 30, 32, 34, 36, 40, 42, 44, 45] [(11, 2, 3), (12, 2, 3)] [5, 38, 46, 48] []) σ0 σ) : zpc (fX3_takePlanes σ x1) (fun r => (zQ [3, 5, 7, 9, 10, 15, 17, 19, 21, 23, 25, 27, 28, 29, 30, 32, 34, 36, 40, 42, 44, 45] [(11, 2, 3), (12, 2, 3)] [5, 38, 46, 48] []) σ0 (r)) := by
  unfold fX3_takePlanes
  exact zpc_bi (fe_fX9_vramByte h) (fun σ1 v2 hσ1 => zpc_bi (fe_fX9_vramByte hσ1) (fun σ3 v4 hσ3 => zpc_bi (fe_fX9_vramByte hσ3) (fun σ5 v6 hσ5 => zpc_bi (fe_fX9_vramByte hσ5) (fun σ7 v8 hσ7 => zpc_bs (zQ.wi hσ7 rfl) (fun σ9 hσ9 => zpc_some hσ9)))))
theorem fe_fX3_takeTile_60 {σ0 : zSt} {σ : zSt} {s0 : Int32} (h : (zQ [3, 5, 7, 9, 10, 15, 17, 19, 21, 23, 25, 27, 28, 29, 30, 32, 34, 36, 40, 42, 44, 45] [(11, 2, 3), (12, 2, 3)] [5, 38, 46, 48] []) σ0 σ) : zpc (fX3_takeTile_60 σ s0) (fun r => (zQ [3, 5, 7, 9, 10, 15, 17, 19, 21, 23, 25, 27, 28, 29, 30, 32, 34, 36, 40, 42, 44, 45] [(11, 2, 3), (12, 2, 3)] [5, 38, 46, 48] []) σ0 (r)) := by
  unfold fX3_takeTile_60
  exact zpc_bu (fe_fX3_takePlanes h) (fun σ1 hσ1 => zpc_some hσ1)
theorem fe_fX3_takeTile {σ0 : zSt} {σ : zSt} {x1 : Int32} {x2 : Int32} (h : (zQ [3, 5, 7, 9, 10, 15, 17, 19, 21, 23, 25, 27, 28, 29, 30, 32, 34, 36, 40, 42, 44, 45] [(11, 2, 3), (12, 2, 3)] [5, 38, 46, 48] []) σ0 σ) : zpc (fX3_takeTile σ x1 x2) (fun r => (zQ [3, 5, 7, 9, 10, 15, 17, 19, 21, 23, 25, 27, 28, 29, 30, 32, 34, 36, 40, 42, 44, 45] [(11, 2, 3), (12, 2, 3)] [5, 38, 46, 48] []) σ0 (r)) := by
  unfold fX3_takeTile
  exact zpc_bv (fun v2 _ => zpc_bi (fe_fX9_vramByte h) (fun σ3 v4 hσ3 => zpc_bi (fe_fX9_vramByte hσ3) (fun σ5 v6 hσ5 => zpc_bs (zQ.wi hσ5 rfl) (fun σ7 hσ7 => zpc_if (fun _ => fe_fX3_takeTile_60 hσ7) (fun _ => fe_fX3_takeTile_60 hσ7)))))
theorem fe_fX3_numberIn {σ0 : zSt} {σ : zSt} {x0 : Int32} {x1 : Int32} (h : (zQ [3, 5, 7, 9, 10, 15, 17, 19, 21, 23, 25, 27, 28, 29, 30, 32, 34, 36, 40, 42, 44, 45] [(11, 2, 3), (12, 2, 3)] [5, 38, 46, 48] []) σ0 σ) : zpc (fX3_numberIn σ x0 x1) (fun r => (zQ [3, 5, 7, 9, 10, 15, 17, 19, 21, 23, 25, 27, 28, 29, 30, 32, 34, 36, 40, 42, 44, 45] [(11, 2, 3), (12, 2, 3)] [5, 38, 46, 48] []) σ0 (r.1)) := by
  unfold fX3_numberIn
  exact zpc_bv (fun v1 _ => zpc_some h)
theorem fe_fX3_drawTiles_316 {σ0 : zSt} {k143 : zSt → Int32 → Int32 → Int32 → Int32 → Int32 → Int32 → Option (zSt)} (hk143 : ∀ (y0 : zSt) (y1 : Int32) (y2 : Int32) (y3 : Int32) (y4 : Int32) (y5 : Int32) (y6 : Int32), (zQ [3, 5, 7, 9, 10, 15, 17, 19, 21, 23, 25, 27, 28, 29, 30, 32, 34, 36, 40, 42, 44, 45] [(11, 2, 3), (12, 2, 3)] [5, 38, 46, 48] []) σ0 y0 → zpc (k143 y0 y1 y2 y3 y4 y5 y6) (fun r => (zQ [3, 5, 7, 9, 10, 15, 17, 19, 21, 23, 25, 27, 28, 29, 30, 32, 34, 36, 40, 42, 44, 45] [(11, 2, 3), (12, 2, 3)] [5, 38, 46, 48] []) σ0 (r))) {σ : zSt} {x1 : Int32} {x5 : Int32} {x6 : Int32} {x7 : Int32} {x8 : Int32} {x9 : Int32} {s0 : Int32} {s1 : Int32} {s2 : Int32} (h : (zQ [3, 5, 7, 9, 10, 15, 17, 19, 21, 23, 25, 27, 28, 29, 30, 32, 34, 36, 40, 42, 44, 45] [(11, 2, 3), (12, 2, 3)] [5, 38, 46, 48] []) σ0 σ) : zpc (fX3_drawTiles_316 k143 σ x1 x5 x6 x7 x8 x9 s0 s1 s2) (fun r => (zQ [3, 5, 7, 9, 10, 15, 17, 19, 21, 23, 25, 27, 28, 29, 30, 32, 34, 36, 40, 42, 44, 45] [(11, 2, 3), (12, 2, 3)] [5, 38, 46, 48] []) σ0 (r)) := by
  unfold fX3_drawTiles_316
  exact zpc_ck (zpc_bs (zQ.wi h rfl) (fun σ1 hσ1 => zpc_bv (fun v2 _ => hk143 _ _ _ _ _ _ _ hσ1)))
theorem fe_fX3_drawTiles_303 {σ0 : zSt} {k143 : zSt → Int32 → Int32 → Int32 → Int32 → Int32 → Int32 → Option (zSt)} (hk143 : ∀ (y0 : zSt) (y1 : Int32) (y2 : Int32) (y3 : Int32) (y4 : Int32) (y5 : Int32) (y6 : Int32), (zQ [3, 5, 7, 9, 10, 15, 17, 19, 21, 23, 25, 27, 28, 29, 30, 32, 34, 36, 40, 42, 44, 45] [(11, 2, 3), (12, 2, 3)] [5, 38, 46, 48] []) σ0 y0 → zpc (k143 y0 y1 y2 y3 y4 y5 y6) (fun r => (zQ [3, 5, 7, 9, 10, 15, 17, 19, 21, 23, 25, 27, 28, 29, 30, 32, 34, 36, 40, 42, 44, 45] [(11, 2, 3), (12, 2, 3)] [5, 38, 46, 48] []) σ0 (r))) {σ : zSt} {x1 : Int32} {x5 : Int32} {x6 : Int32} {x7 : Int32} {x8 : Int32} {x9 : Int32} {x13 : Int32} {s0 : Int32} {s1 : Int32} {s2 : Int32} (h : (zQ [3, 5, 7, 9, 10, 15, 17, 19, 21, 23, 25, 27, 28, 29, 30, 32, 34, 36, 40, 42, 44, 45] [(11, 2, 3), (12, 2, 3)] [5, 38, 46, 48] []) σ0 σ) : zpc (fX3_drawTiles_303 k143 σ x1 x5 x6 x7 x8 x9 x13 s0 s1 s2) (fun r => (zQ [3, 5, 7, 9, 10, 15, 17, 19, 21, 23, 25, 27, 28, 29, 30, 32, 34, 36, 40, 42, 44, 45] [(11, 2, 3), (12, 2, 3)] [5, 38, 46, 48] []) σ0 (r)) := by
  unfold fX3_drawTiles_303
  exact zpc_if (fun _ => fe_fX3_drawTiles_316 hk143 h) (fun _ => fe_fX3_drawTiles_316 hk143 h)
theorem fe_fX3_drawTiles_276 {σ0 : zSt} {k143 : zSt → Int32 → Int32 → Int32 → Int32 → Int32 → Int32 → Option (zSt)} (hk143 : ∀ (y0 : zSt) (y1 : Int32) (y2 : Int32) (y3 : Int32) (y4 : Int32) (y5 : Int32) (y6 : Int32), (zQ [3, 5, 7, 9, 10, 15, 17, 19, 21, 23, 25, 27, 28, 29, 30, 32, 34, 36, 40, 42, 44, 45] [(11, 2, 3), (12, 2, 3)] [5, 38, 46, 48] []) σ0 y0 → zpc (k143 y0 y1 y2 y3 y4 y5 y6) (fun r => (zQ [3, 5, 7, 9, 10, 15, 17, 19, 21, 23, 25, 27, 28, 29, 30, 32, 34, 36, 40, 42, 44, 45] [(11, 2, 3), (12, 2, 3)] [5, 38, 46, 48] []) σ0 (r))) {σ : zSt} {x1 : Int32} {x5 : Int32} {x6 : Int32} {x7 : Int32} {x8 : Int32} {x9 : Int32} {x12 : Int32} {s0 : Int32} (h : (zQ [3, 5, 7, 9, 10, 15, 17, 19, 21, 23, 25, 27, 28, 29, 30, 32, 34, 36, 40, 42, 44, 45] [(11, 2, 3), (12, 2, 3)] [5, 38, 46, 48] []) σ0 σ) : zpc (fX3_drawTiles_276 k143 σ x1 x5 x6 x7 x8 x9 x12 s0) (fun r => (zQ [3, 5, 7, 9, 10, 15, 17, 19, 21, 23, 25, 27, 28, 29, 30, 32, 34, 36, 40, 42, 44, 45] [(11, 2, 3), (12, 2, 3)] [5, 38, 46, 48] []) σ0 (r)) := by
  unfold fX3_drawTiles_276
  exact zpc_if (fun _ => fe_fX3_drawTiles_303 hk143 h) (fun _ => fe_fX3_drawTiles_303 hk143 h)
theorem fe_fX3_drawTiles_275 {σ0 : zSt} {k143 : zSt → Int32 → Int32 → Int32 → Int32 → Int32 → Int32 → Option (zSt)} (hk143 : ∀ (y0 : zSt) (y1 : Int32) (y2 : Int32) (y3 : Int32) (y4 : Int32) (y5 : Int32) (y6 : Int32), (zQ [3, 5, 7, 9, 10, 15, 17, 19, 21, 23, 25, 27, 28, 29, 30, 32, 34, 36, 40, 42, 44, 45] [(11, 2, 3), (12, 2, 3)] [5, 38, 46, 48] []) σ0 y0 → zpc (k143 y0 y1 y2 y3 y4 y5 y6) (fun r => (zQ [3, 5, 7, 9, 10, 15, 17, 19, 21, 23, 25, 27, 28, 29, 30, 32, 34, 36, 40, 42, 44, 45] [(11, 2, 3), (12, 2, 3)] [5, 38, 46, 48] []) σ0 (r))) {σ : zSt} {x1 : Int32} {x5 : Int32} {x6 : Int32} {x7 : Int32} {x8 : Int32} {x9 : Int32} {x12 : Int32} (h : (zQ [3, 5, 7, 9, 10, 15, 17, 19, 21, 23, 25, 27, 28, 29, 30, 32, 34, 36, 40, 42, 44, 45] [(11, 2, 3), (12, 2, 3)] [5, 38, 46, 48] []) σ0 σ) : zpc (fX3_drawTiles_275 k143 σ x1 x5 x6 x7 x8 x9 x12) (fun r => (zQ [3, 5, 7, 9, 10, 15, 17, 19, 21, 23, 25, 27, 28, 29, 30, 32, 34, 36, 40, 42, 44, 45] [(11, 2, 3), (12, 2, 3)] [5, 38, 46, 48] []) σ0 (r)) := by
  unfold fX3_drawTiles_275
  exact fe_fX3_drawTiles_276 hk143 h
theorem fe_fX3_drawTiles_242 {σ0 : zSt} {k143 : zSt → Int32 → Int32 → Int32 → Int32 → Int32 → Int32 → Option (zSt)} (hk143 : ∀ (y0 : zSt) (y1 : Int32) (y2 : Int32) (y3 : Int32) (y4 : Int32) (y5 : Int32) (y6 : Int32), (zQ [3, 5, 7, 9, 10, 15, 17, 19, 21, 23, 25, 27, 28, 29, 30, 32, 34, 36, 40, 42, 44, 45] [(11, 2, 3), (12, 2, 3)] [5, 38, 46, 48] []) σ0 y0 → zpc (k143 y0 y1 y2 y3 y4 y5 y6) (fun r => (zQ [3, 5, 7, 9, 10, 15, 17, 19, 21, 23, 25, 27, 28, 29, 30, 32, 34, 36, 40, 42, 44, 45] [(11, 2, 3), (12, 2, 3)] [5, 38, 46, 48] []) σ0 (r))) {σ : zSt} {x1 : Int32} {x5 : Int32} {x6 : Int32} {x7 : Int32} {x8 : Int32} {x9 : Int32} {s0 : Int32} (h : (zQ [3, 5, 7, 9, 10, 15, 17, 19, 21, 23, 25, 27, 28, 29, 30, 32, 34, 36, 40, 42, 44, 45] [(11, 2, 3), (12, 2, 3)] [5, 38, 46, 48] []) σ0 σ) : zpc (fX3_drawTiles_242 k143 σ x1 x5 x6 x7 x8 x9 s0) (fun r => (zQ [3, 5, 7, 9, 10, 15, 17, 19, 21, 23, 25, 27, 28, 29, 30, 32, 34, 36, 40, 42, 44, 45] [(11, 2, 3), (12, 2, 3)] [5, 38, 46, 48] []) σ0 (r)) := by
  unfold fX3_drawTiles_242
  exact zpc_bi (fe_fX3_numberIn h) (fun σ3 v4 hσ3 => zpc_if (fun _ => fe_fX3_drawTiles_275 hk143 hσ3) (fun _ => zpc_if (fun _ => fe_fX3_drawTiles_275 hk143 hσ3) (fun _ => fe_fX3_drawTiles_276 hk143 hσ3)))
theorem fe_fX3_drawTiles_215 {σ0 : zSt} {k143 : zSt → Int32 → Int32 → Int32 → Int32 → Int32 → Int32 → Option (zSt)} (hk143 : ∀ (y0 : zSt) (y1 : Int32) (y2 : Int32) (y3 : Int32) (y4 : Int32) (y5 : Int32) (y6 : Int32), (zQ [3, 5, 7, 9, 10, 15, 17, 19, 21, 23, 25, 27, 28, 29, 30, 32, 34, 36, 40, 42, 44, 45] [(11, 2, 3), (12, 2, 3)] [5, 38, 46, 48] []) σ0 y0 → zpc (k143 y0 y1 y2 y3 y4 y5 y6) (fun r => (zQ [3, 5, 7, 9, 10, 15, 17, 19, 21, 23, 25, 27, 28, 29, 30, 32, 34, 36, 40, 42, 44, 45] [(11, 2, 3), (12, 2, 3)] [5, 38, 46, 48] []) σ0 (r))) {σ : zSt} {x1 : Int32} {x5 : Int32} {x6 : Int32} {x7 : Int32} {x8 : Int32} {x9 : Int32} {x10 : Int32} (h : (zQ [3, 5, 7, 9, 10, 15, 17, 19, 21, 23, 25, 27, 28, 29, 30, 32, 34, 36, 40, 42, 44, 45] [(11, 2, 3), (12, 2, 3)] [5, 38, 46, 48] []) σ0 σ) : zpc (fX3_drawTiles_215 k143 σ x1 x5 x6 x7 x8 x9 x10) (fun r => (zQ [3, 5, 7, 9, 10, 15, 17, 19, 21, 23, 25, 27, 28, 29, 30, 32, 34, 36, 40, 42, 44, 45] [(11, 2, 3), (12, 2, 3)] [5, 38, 46, 48] []) σ0 (r)) := by
  unfold fX3_drawTiles_215
  exact zpc_if (fun _ => fe_fX3_drawTiles_242 hk143 h) (fun _ => fe_fX3_drawTiles_242 hk143 h)
theorem fe_fX3_drawTiles_212 {σ0 : zSt} {k143 : zSt → Int32 → Int32 → Int32 → Int32 → Int32 → Int32 → Option (zSt)} (hk143 : ∀ (y0 : zSt) (y1 : Int32) (y2 : Int32) (y3 : Int32) (y4 : Int32) (y5 : Int32) (y6 : Int32), (zQ [3, 5, 7, 9, 10, 15, 17, 19, 21, 23, 25, 27, 28, 29, 30, 32, 34, 36, 40, 42, 44, 45] [(11, 2, 3), (12, 2, 3)] [5, 38, 46, 48] []) σ0 y0 → zpc (k143 y0 y1 y2 y3 y4 y5 y6) (fun r => (zQ [3, 5, 7, 9, 10, 15, 17, 19, 21, 23, 25, 27, 28, 29, 30, 32, 34, 36, 40, 42, 44, 45] [(11, 2, 3), (12, 2, 3)] [5, 38, 46, 48] []) σ0 (r))) {σ : zSt} {x1 : Int32} {x5 : Int32} {x6 : Int32} {x7 : Int32} {x8 : Int32} {x9 : Int32} {x10 : Int32} {s0 : Int32} {s1 : Int32} (h : (zQ [3, 5, 7, 9, 10, 15, 17, 19, 21, 23, 25, 27, 28, 29, 30, 32, 34, 36, 40, 42, 44, 45] [(11, 2, 3), (12, 2, 3)] [5, 38, 46, 48] []) σ0 σ) : zpc (fX3_drawTiles_212 k143 σ x1 x5 x6 x7 x8 x9 x10 s0 s1) (fun r => (zQ [3, 5, 7, 9, 10, 15, 17, 19, 21, 23, 25, 27, 28, 29, 30, 32, 34, 36, 40, 42, 44, 45] [(11, 2, 3), (12, 2, 3)] [5, 38, 46, 48] []) σ0 (r)) := by
  unfold fX3_drawTiles_212
  exact zpc_bu (fe_fX3_takeTile h) (fun σ5 hσ5 => fe_fX3_drawTiles_215 hk143 hσ5)
theorem fe_fX3_drawTiles_210 {σ0 : zSt} {k143 : zSt → Int32 → Int32 → Int32 → Int32 → Int32 → Int32 → Option (zSt)} (hk143 : ∀ (y0 : zSt) (y1 : Int32) (y2 : Int32) (y3 : Int32) (y4 : Int32) (y5 : Int32) (y6 : Int32), (zQ [3, 5, 7, 9, 10, 15, 17, 19, 21, 23, 25, 27, 28, 29, 30, 32, 34, 36, 40, 42, 44, 45] [(11, 2, 3), (12, 2, 3)] [5, 38, 46, 48] []) σ0 y0 → zpc (k143 y0 y1 y2 y3 y4 y5 y6) (fun r => (zQ [3, 5, 7, 9, 10, 15, 17, 19, 21, 23, 25, 27, 28, 29, 30, 32, 34, 36, 40, 42, 44, 45] [(11, 2, 3), (12, 2, 3)] [5, 38, 46, 48] []) σ0 (r))) {σ : zSt} {x1 : Int32} {x5 : Int32} {x6 : Int32} {x7 : Int32} {x8 : Int32} {x9 : Int32} {x10 : Int32} {s0 : Int32} (h : (zQ [3, 5, 7, 9, 10, 15, 17, 19, 21, 23, 25, 27, 28, 29, 30, 32, 34, 36, 40, 42, 44, 45] [(11, 2, 3), (12, 2, 3)] [5, 38, 46, 48] []) σ0 σ) : zpc (fX3_drawTiles_210 k143 σ x1 x5 x6 x7 x8 x9 x10 s0) (fun r => (zQ [3, 5, 7, 9, 10, 15, 17, 19, 21, 23, 25, 27, 28, 29, 30, 32, 34, 36, 40, 42, 44, 45] [(11, 2, 3), (12, 2, 3)] [5, 38, 46, 48] []) σ0 (r)) := by
  unfold fX3_drawTiles_210
  exact fe_fX3_drawTiles_212 hk143 h
theorem fe_fX3_drawTiles_183 {σ0 : zSt} {k143 : zSt → Int32 → Int32 → Int32 → Int32 → Int32 → Int32 → Option (zSt)} (hk143 : ∀ (y0 : zSt) (y1 : Int32) (y2 : Int32) (y3 : Int32) (y4 : Int32) (y5 : Int32) (y6 : Int32), (zQ [3, 5, 7, 9, 10, 15, 17, 19, 21, 23, 25, 27, 28, 29, 30, 32, 34, 36, 40, 42, 44, 45] [(11, 2, 3), (12, 2, 3)] [5, 38, 46, 48] []) σ0 y0 → zpc (k143 y0 y1 y2 y3 y4 y5 y6) (fun r => (zQ [3, 5, 7, 9, 10, 15, 17, 19, 21, 23, 25, 27, 28, 29, 30, 32, 34, 36, 40, 42, 44, 45] [(11, 2, 3), (12, 2, 3)] [5, 38, 46, 48] []) σ0 (r))) {σ : zSt} {x1 : Int32} {x5 : Int32} {x6 : Int32} {x7 : Int32} {x8 : Int32} {x9 : Int32} {x10 : Int32} (h : (zQ [3, 5, 7, 9, 10, 15, 17, 19, 21, 23, 25, 27, 28, 29, 30, 32, 34, 36, 40, 42, 44, 45] [(11, 2, 3), (12, 2, 3)] [5, 38, 46, 48] []) σ0 σ) : zpc (fX3_drawTiles_183 k143 σ x1 x5 x6 x7 x8 x9 x10) (fun r => (zQ [3, 5, 7, 9, 10, 15, 17, 19, 21, 23, 25, 27, 28, 29, 30, 32, 34, 36, 40, 42, 44, 45] [(11, 2, 3), (12, 2, 3)] [5, 38, 46, 48] []) σ0 (r)) := by
  unfold fX3_drawTiles_183
  exact zpc_if (fun _ => fe_fX3_drawTiles_210 hk143 h) (fun _ => zpc_if (fun _ => fe_fX3_drawTiles_210 hk143 h) (fun _ => fe_fX3_drawTiles_212 hk143 h))
theorem fe_fX3_drawTiles_143_body {σ0 : zSt} {k143 : zSt → Int32 → Int32 → Int32 → Int32 → Int32 → Int32 → Option (zSt)} (hk143 : ∀ (y0 : zSt) (y1 : Int32) (y2 : Int32) (y3 : Int32) (y4 : Int32) (y5 : Int32) (y6 : Int32), (zQ [3, 5, 7, 9, 10, 15, 17, 19, 21, 23, 25, 27, 28, 29, 30, 32, 34, 36, 40, 42, 44, 45] [(11, 2, 3), (12, 2, 3)] [5, 38, 46, 48] []) σ0 y0 → zpc (k143 y0 y1 y2 y3 y4 y5 y6) (fun r => (zQ [3, 5, 7, 9, 10, 15, 17, 19, 21, 23, 25, 27, 28, 29, 30, 32, 34, 36, 40, 42, 44, 45] [(11, 2, 3), (12, 2, 3)] [5, 38, 46, 48] []) σ0 (r))) {σ : zSt} {x1 : Int32} {x5 : Int32} {x6 : Int32} {x7 : Int32} {x8 : Int32} {x9 : Int32} (h : (zQ [3, 5, 7, 9, 10, 15, 17, 19, 21, 23, 25, 27, 28, 29, 30, 32, 34, 36, 40, 42, 44, 45] [(11, 2, 3), (12, 2, 3)] [5, 38, 46, 48] []) σ0 σ) : zpc (fX3_drawTiles_143_body k143 σ x1 x5 x6 x7 x8 x9) (fun r => (zQ [3, 5, 7, 9, 10, 15, 17, 19, 21, 23, 25, 27, 28, 29, 30, 32, 34, 36, 40, 42, 44, 45] [(11, 2, 3), (12, 2, 3)] [5, 38, 46, 48] []) σ0 (r)) := by
  unfold fX3_drawTiles_143_body
  exact zpc_if (fun _ => zpc_some h) (fun _ => zpc_bv (fun v6 _ => zpc_if (fun _ => fe_fX3_drawTiles_183 hk143 h) (fun _ => zpc_if (fun _ => fe_fX3_drawTiles_183 hk143 h) (fun _ => zpc_if (fun _ => fe_fX3_drawTiles_183 hk143 h) (fun _ => fe_fX3_drawTiles_215 hk143 h)))))
theorem fe_fX3_drawTiles_143 {σ0 : zSt} : ∀ (n : Nat) (y0 : zSt) (y1 : Int32) (y2 : Int32) (y3 : Int32) (y4 : Int32) (y5 : Int32) (y6 : Int32), (zQ [3, 5, 7, 9, 10, 15, 17, 19, 21, 23, 25, 27, 28, 29, 30, 32, 34, 36, 40, 42, 44, 45] [(11, 2, 3), (12, 2, 3)] [5, 38, 46, 48] []) σ0 y0 → zpc (fX3_drawTiles_143 n y0 y1 y2 y3 y4 y5 y6) (fun r => (zQ [3, 5, 7, 9, 10, 15, 17, 19, 21, 23, 25, 27, 28, 29, 30, 32, 34, 36, 40, 42, 44, 45] [(11, 2, 3), (12, 2, 3)] [5, 38, 46, 48] []) σ0 (r)) := by
  intro n
  induction n with
  | zero => intro y0 y1 y2 y3 y4 y5 y6 h; exact zpc_none
  | succ n ih => intro y0 y1 y2 y3 y4 y5 y6 h; exact fe_fX3_drawTiles_143_body ih h
theorem fe_fX3_drawTiles_138 {σ0 : zSt} {σ : zSt} {x1 : Int32} {x5 : Int32} {x6 : Int32} {x7 : Int32} {s0 : Int32} (h : (zQ [3, 5, 7, 9, 10, 15, 17, 19, 21, 23, 25, 27, 28, 29, 30, 32, 34, 36, 40, 42, 44, 45] [(11, 2, 3), (12, 2, 3)] [5, 38, 46, 48] []) σ0 σ) : zpc (fX3_drawTiles_138 σ x1 x5 x6 x7 s0) (fun r => (zQ [3, 5, 7, 9, 10, 15, 17, 19, 21, 23, 25, 27, 28, 29, 30, 32, 34, 36, 40, 42, 44, 45] [(11, 2, 3), (12, 2, 3)] [5, 38, 46, 48] []) σ0 (r)) := by
  unfold fX3_drawTiles_138
  exact fe_fX3_drawTiles_143 _ _ _ _ _ _ _ _ h
theorem fe_fX3_drawTiles_122 {σ0 : zSt} {σ : zSt} {x1 : Int32} {x3 : Int32} {x5 : Int32} {x6 : Int32} {s0 : Int32} {s1 : Int32} (h : (zQ [3, 5, 7, 9, 10, 15, 17, 19, 21, 23, 25, 27, 28, 29, 30, 32, 34, 36, 40, 42, 44, 45] [(11, 2, 3), (12, 2, 3)] [5, 38, 46, 48] []) σ0 σ) : zpc (fX3_drawTiles_122 σ x1 x3 x5 x6 s0 s1) (fun r => (zQ [3, 5, 7, 9, 10, 15, 17, 19, 21, 23, 25, 27, 28, 29, 30, 32, 34, 36, 40, 42, 44, 45] [(11, 2, 3), (12, 2, 3)] [5, 38, 46, 48] []) σ0 (r)) := by
  unfold fX3_drawTiles_122
  exact zpc_ck (zpc_bv (fun v7 _ => zpc_if (fun _ => fe_fX3_drawTiles_138 h) (fun _ => fe_fX3_drawTiles_138 h)))
theorem fe_fX3_drawTiles_96 {σ0 : zSt} {σ : zSt} {x1 : Int32} {x2 : Int32} {x3 : Int32} {x5 : Int32} {s0 : Int32} (h : (zQ [3, 5, 7, 9, 10, 15, 17, 19, 21, 23, 25, 27, 28, 29, 30, 32, 34, 36, 40, 42, 44, 45] [(11, 2, 3), (12, 2, 3)] [5, 38, 46, 48] []) σ0 σ) : zpc (fX3_drawTiles_96 σ x1 x2 x3 x5 s0) (fun r => (zQ [3, 5, 7, 9, 10, 15, 17, 19, 21, 23, 25, 27, 28, 29, 30, 32, 34, 36, 40, 42, 44, 45] [(11, 2, 3), (12, 2, 3)] [5, 38, 46, 48] []) σ0 (r)) := by
  unfold fX3_drawTiles_96
  exact zpc_bi (fe_fX9_held h) (fun σ8 v9 hσ8 => zpc_if (fun _ => fe_fX3_drawTiles_122 hσ8) (fun _ => fe_fX3_drawTiles_122 hσ8))
theorem fe_fX3_drawTiles_87 {σ0 : zSt} {σ : zSt} {x1 : Int32} {x2 : Int32} {x3 : Int32} {x5 : Int32} (h : (zQ [3, 5, 7, 9, 10, 15, 17, 19, 21, 23, 25, 27, 28, 29, 30, 32, 34, 36, 40, 42, 44, 45] [(11, 2, 3), (12, 2, 3)] [5, 38, 46, 48] []) σ0 σ) : zpc (fX3_drawTiles_87 σ x1 x2 x3 x5) (fun r => (zQ [3, 5, 7, 9, 10, 15, 17, 19, 21, 23, 25, 27, 28, 29, 30, 32, 34, 36, 40, 42, 44, 45] [(11, 2, 3), (12, 2, 3)] [5, 38, 46, 48] []) σ0 (r)) := by
  unfold fX3_drawTiles_87
  exact zpc_bi (fe_fX9_held h) (fun σ10 v11 hσ10 => fe_fX3_drawTiles_96 hσ10)
theorem fe_fX3_drawTiles_68 {σ0 : zSt} {σ : zSt} {x1 : Int32} {x2 : Int32} {x3 : Int32} {s0 : Int32} (h : (zQ [3, 5, 7, 9, 10, 15, 17, 19, 21, 23, 25, 27, 28, 29, 30, 32, 34, 36, 40, 42, 44, 45] [(11, 2, 3), (12, 2, 3)] [5, 38, 46, 48] []) σ0 σ) : zpc (fX3_drawTiles_68 σ x1 x2 x3 s0) (fun r => (zQ [3, 5, 7, 9, 10, 15, 17, 19, 21, 23, 25, 27, 28, 29, 30, 32, 34, 36, 40, 42, 44, 45] [(11, 2, 3), (12, 2, 3)] [5, 38, 46, 48] []) σ0 (r)) := by
  unfold fX3_drawTiles_68
  exact zpc_if (fun _ => fe_fX3_drawTiles_87 h) (fun _ => zpc_if (fun _ => fe_fX3_drawTiles_87 h) (fun _ => fe_fX3_drawTiles_96 h))
theorem fe_fX3_drawTiles_18 {σ0 : zSt} {σ : zSt} {x1 : Int32} {s0 : Int32} (h : (zQ [3, 5, 7, 9, 10, 15, 17, 19, 21, 23, 25, 27, 28, 29, 30, 32, 34, 36, 40, 42, 44, 45] [(11, 2, 3), (12, 2, 3)] [5, 38, 46, 48] []) σ0 σ) : zpc (fX3_drawTiles_18 σ x1 s0) (fun r => (zQ [3, 5, 7, 9, 10, 15, 17, 19, 21, 23, 25, 27, 28, 29, 30, 32, 34, 36, 40, 42, 44, 45] [(11, 2, 3), (12, 2, 3)] [5, 38, 46, 48] []) σ0 (r)) := by
  unfold fX3_drawTiles_18
  exact zpc_bi (fe_fX9_held h) (fun σ12 v13 hσ12 => zpc_bi (fe_fX9_held hσ12) (fun σ14 v15 hσ14 => zpc_if (fun _ => fe_fX3_drawTiles_68 hσ14) (fun _ => fe_fX3_drawTiles_68 hσ14)))
theorem fe_fX3_drawTiles {σ0 : zSt} {σ : zSt} {x1 : Int32} (h : (zQ [3, 5, 7, 9, 10, 15, 17, 19, 21, 23, 25, 27, 28, 29, 30, 32, 34, 36, 40, 42, 44, 45] [(11, 2, 3), (12, 2, 3)] [5, 38, 46, 48] []) σ0 σ) : zpc (fX3_drawTiles σ x1) (fun r => (zQ [3, 5, 7, 9, 10, 15, 17, 19, 21, 23, 25, 27, 28, 29, 30, 32, 34, 36, 40, 42, 44, 45] [(11, 2, 3), (12, 2, 3)] [5, 38, 46, 48] []) σ0 (r)) := by
  unfold fX3_drawTiles
  exact zpc_bi (fe_fX9_height h) (fun σ16 v17 hσ16 => zpc_if (fun _ => fe_fX3_drawTiles_18 hσ16) (fun _ => fe_fX3_drawTiles_18 hσ16))
theorem fe_fJ7_fill_53178_k28_5_body {σ0 : zSt} {k5 : zSt → Int32 → Int32 → Int32 → Option (zSt)} (hk5 : ∀ (y0 : zSt) (y1 : Int32) (y2 : Int32) (y3 : Int32), (zQ [3, 5, 7, 9, 10, 15, 17, 19, 21, 23, 25, 27, 28, 29, 30, 32, 34, 36, 40, 42, 44, 45] [(11, 2, 3), (12, 2, 3)] [5, 38, 46, 48] []) σ0 y0 → zpc (k5 y0 y1 y2 y3) (fun r => (zQ [3, 5, 7, 9, 10, 15, 17, 19, 21, 23, 25, 27, 28, 29, 30, 32, 34, 36, 40, 42, 44, 45] [(11, 2, 3), (12, 2, 3)] [5, 38, 46, 48] []) σ0 (r))) {σ : zSt} {x1 : Int32} {x2 : Int32} {x3 : Int32} (h : (zQ [3, 5, 7, 9, 10, 15, 17, 19, 21, 23, 25, 27, 28, 29, 30, 32, 34, 36, 40, 42, 44, 45] [(11, 2, 3), (12, 2, 3)] [5, 38, 46, 48] []) σ0 σ) : zpc (fJ7_fill_53178_k28_5_body k5 σ x1 x2 x3) (fun r => (zQ [3, 5, 7, 9, 10, 15, 17, 19, 21, 23, 25, 27, 28, 29, 30, 32, 34, 36, 40, 42, 44, 45] [(11, 2, 3), (12, 2, 3)] [5, 38, 46, 48] []) σ0 (r)) := by
  unfold fJ7_fill_53178_k28_5_body
  exact zpc_if (fun _ => zpc_some h) (fun _ => zpc_ck (zpc_bs (zQ.wi h rfl) (fun σ1 hσ1 => zpc_bv (fun v2 _ => hk5 _ _ _ _ hσ1))))
theorem fe_fJ7_fill_53178_k28_5 {σ0 : zSt} : ∀ (n : Nat) (y0 : zSt) (y1 : Int32) (y2 : Int32) (y3 : Int32), (zQ [3, 5, 7, 9, 10, 15, 17, 19, 21, 23, 25, 27, 28, 29, 30, 32, 34, 36, 40, 42, 44, 45] [(11, 2, 3), (12, 2, 3)] [5, 38, 46, 48] []) σ0 y0 → zpc (fJ7_fill_53178_k28_5 n y0 y1 y2 y3) (fun r => (zQ [3, 5, 7, 9, 10, 15, 17, 19, 21, 23, 25, 27, 28, 29, 30, 32, 34, 36, 40, 42, 44, 45] [(11, 2, 3), (12, 2, 3)] [5, 38, 46, 48] []) σ0 (r)) := by
  intro n
  induction n with
  | zero => intro y0 y1 y2 y3 h; exact zpc_none
  | succ n ih => intro y0 y1 y2 y3 h; exact fe_fJ7_fill_53178_k28_5_body ih h
theorem fe_fJ7_fill_53178_k28 {σ0 : zSt} {σ : zSt} {x1 : Int32} (h : (zQ [3, 5, 7, 9, 10, 15, 17, 19, 21, 23, 25, 27, 28, 29, 30, 32, 34, 36, 40, 42, 44, 45] [(11, 2, 3), (12, 2, 3)] [5, 38, 46, 48] []) σ0 σ) : zpc (fJ7_fill_53178_k28 σ x1) (fun r => (zQ [3, 5, 7, 9, 10, 15, 17, 19, 21, 23, 25, 27, 28, 29, 30, 32, 34, 36, 40, 42, 44, 45] [(11, 2, 3), (12, 2, 3)] [5, 38, 46, 48] []) σ0 (r)) := by
  unfold fJ7_fill_53178_k28
  exact fe_fJ7_fill_53178_k28_5 _ _ _ _ _ h
theorem fe_fX3_rowOfSprite_56 {σ0 : zSt} {σ : zSt} {s0 : Int32} (h : (zQ [3, 5, 7, 9, 10, 15, 17, 19, 21, 23, 25, 27, 28, 29, 30, 32, 34, 36, 40, 42, 44, 45] [(11, 2, 3), (12, 2, 3)] [5, 38, 46, 48] []) σ0 σ) : zpc (fX3_rowOfSprite_56 σ s0) (fun r => (zQ [3, 5, 7, 9, 10, 15, 17, 19, 21, 23, 25, 27, 28, 29, 30, 32, 34, 36, 40, 42, 44, 45] [(11, 2, 3), (12, 2, 3)] [5, 38, 46, 48] []) σ0 (r.1)) := by
  unfold fX3_rowOfSprite_56
  exact zpc_some h
theorem fe_fX3_rowOfSprite_47 {σ0 : zSt} {σ : zSt} {x4 : Int32} {s0 : Int32} {s1 : Int32} (h : (zQ [3, 5, 7, 9, 10, 15, 17, 19, 21, 23, 25, 27, 28, 29, 30, 32, 34, 36, 40, 42, 44, 45] [(11, 2, 3), (12, 2, 3)] [5, 38, 46, 48] []) σ0 σ) : zpc (fX3_rowOfSprite_47 σ x4 s0 s1) (fun r => (zQ [3, 5, 7, 9, 10, 15, 17, 19, 21, 23, 25, 27, 28, 29, 30, 32, 34, 36, 40, 42, 44, 45] [(11, 2, 3), (12, 2, 3)] [5, 38, 46, 48] []) σ0 (r.1)) := by
  unfold fX3_rowOfSprite_47
  exact zpc_if (fun _ => fe_fX3_rowOfSprite_56 h) (fun _ => fe_fX3_rowOfSprite_56 h)
theorem fe_fX3_rowOfSprite_32 {σ0 : zSt} {σ : zSt} {x3 : Int32} {x4 : Int32} (h : (zQ [3, 5, 7, 9, 10, 15, 17, 19, 21, 23, 25, 27, 28, 29, 30, 32, 34, 36, 40, 42, 44, 45] [(11, 2, 3), (12, 2, 3)] [5, 38, 46, 48] []) σ0 σ) : zpc (fX3_rowOfSprite_32 σ x3 x4) (fun r => (zQ [3, 5, 7, 9, 10, 15, 17, 19, 21, 23, 25, 27, 28, 29, 30, 32, 34, 36, 40, 42, 44, 45] [(11, 2, 3), (12, 2, 3)] [5, 38, 46, 48] []) σ0 (r.1)) := by
  unfold fX3_rowOfSprite_32
  exact zpc_if (fun _ => fe_fX3_rowOfSprite_47 h) (fun _ => fe_fX3_rowOfSprite_47 h)
theorem fe_fX3_rowOfSprite {σ0 : zSt} {σ : zSt} {x1 : Int32} {x2 : Int32} (h : (zQ [3, 5, 7, 9, 10, 15, 17, 19, 21, 23, 25, 27, 28, 29, 30, 32, 34, 36, 40, 42, 44, 45] [(11, 2, 3), (12, 2, 3)] [5, 38, 46, 48] []) σ0 σ) : zpc (fX3_rowOfSprite σ x1 x2) (fun r => (zQ [3, 5, 7, 9, 10, 15, 17, 19, 21, 23, 25, 27, 28, 29, 30, 32, 34, 36, 40, 42, 44, 45] [(11, 2, 3), (12, 2, 3)] [5, 38, 46, 48] []) σ0 (r.1)) := by
  unfold fX3_rowOfSprite
  exact zpc_bi (fe_fX9_held h) (fun σ1 v2 hσ1 => zpc_bv (fun v3 _ => zpc_if (fun _ => fe_fX3_rowOfSprite_32 hσ1) (fun _ => zpc_bv (fun v4 _ => fe_fX3_rowOfSprite_32 hσ1))))
theorem fe_fX9_mark {σ0 : zSt} {σ : zSt} {x1 : Int32} (h : (zQ [3, 5, 7, 9, 10, 15, 17, 19, 21, 23, 25, 27, 28, 29, 30, 32, 34, 36, 40, 42, 44, 45] [(11, 2, 3), (12, 2, 3)] [5, 38, 46, 48] []) σ0 σ) : zpc (fX9_mark σ x1) (fun r => (zQ [3, 5, 7, 9, 10, 15, 17, 19, 21, 23, 25, 27, 28, 29, 30, 32, 34, 36, 40, 42, 44, 45] [(11, 2, 3), (12, 2, 3)] [5, 38, 46, 48] []) σ0 (r)) := by
  unfold fX9_mark
  exact zpc_ck (zpc_ck (zpc_bs (zQ.wi h rfl) (fun σ1 hσ1 => zpc_some hσ1)))
theorem fe_fX3_drawSprite_190 {σ0 : zSt} {k111 : zSt → Int32 → Int32 → Int32 → Option (zSt)} (hk111 : ∀ (y0 : zSt) (y1 : Int32) (y2 : Int32) (y3 : Int32), (zQ [3, 5, 7, 9, 10, 15, 17, 19, 21, 23, 25, 27, 28, 29, 30, 32, 34, 36, 40, 42, 44, 45] [(11, 2, 3), (12, 2, 3)] [5, 38, 46, 48] []) σ0 y0 → zpc (k111 y0 y1 y2 y3) (fun r => (zQ [3, 5, 7, 9, 10, 15, 17, 19, 21, 23, 25, 27, 28, 29, 30, 32, 34, 36, 40, 42, 44, 45] [(11, 2, 3), (12, 2, 3)] [5, 38, 46, 48] []) σ0 (r))) {σ : zSt} {x3 : Int32} {x6 : Int32} {x7 : Int32} (h : (zQ [3, 5, 7, 9, 10, 15, 17, 19, 21, 23, 25, 27, 28, 29, 30, 32, 34, 36, 40, 42, 44, 45] [(11, 2, 3), (12, 2, 3)] [5, 38, 46, 48] []) σ0 σ) : zpc (fX3_drawSprite_190 k111 σ x3 x6 x7) (fun r => (zQ [3, 5, 7, 9, 10, 15, 17, 19, 21, 23, 25, 27, 28, 29, 30, 32, 34, 36, 40, 42, 44, 45] [(11, 2, 3), (12, 2, 3)] [5, 38, 46, 48] []) σ0 (r)) := by
  unfold fX3_drawSprite_190
  exact zpc_bv (fun v1 _ => hk111 _ _ _ _ h)
theorem fe_fX3_drawSprite_111_body {σ0 : zSt} {k111 : zSt → Int32 → Int32 → Int32 → Option (zSt)} (hk111 : ∀ (y0 : zSt) (y1 : Int32) (y2 : Int32) (y3 : Int32), (zQ [3, 5, 7, 9, 10, 15, 17, 19, 21, 23, 25, 27, 28, 29, 30, 32, 34, 36, 40, 42, 44, 45] [(11, 2, 3), (12, 2, 3)] [5, 38, 46, 48] []) σ0 y0 → zpc (k111 y0 y1 y2 y3) (fun r => (zQ [3, 5, 7, 9, 10, 15, 17, 19, 21, 23, 25, 27, 28, 29, 30, 32, 34, 36, 40, 42, 44, 45] [(11, 2, 3), (12, 2, 3)] [5, 38, 46, 48] []) σ0 (r))) {σ : zSt} {x3 : Int32} {x6 : Int32} {x7 : Int32} (h : (zQ [3, 5, 7, 9, 10, 15, 17, 19, 21, 23, 25, 27, 28, 29, 30, 32, 34, 36, 40, 42, 44, 45] [(11, 2, 3), (12, 2, 3)] [5, 38, 46, 48] []) σ0 σ) : zpc (fX3_drawSprite_111_body k111 σ x3 x6 x7) (fun r => (zQ [3, 5, 7, 9, 10, 15, 17, 19, 21, 23, 25, 27, 28, 29, 30, 32, 34, 36, 40, 42, 44, 45] [(11, 2, 3), (12, 2, 3)] [5, 38, 46, 48] []) σ0 (r)) := by
  unfold fX3_drawSprite_111_body
  exact zpc_if (fun _ => zpc_some h) (fun _ => zpc_bv (fun v2 _ => zpc_bi (fe_fX3_numberIn h) (fun σ3 v4 hσ3 => zpc_if (fun _ => fe_fX3_drawSprite_190 hk111 hσ3) (fun _ => zpc_if (fun _ => fe_fX3_drawSprite_190 hk111 hσ3) (fun _ => zpc_if (fun _ => fe_fX3_drawSprite_190 hk111 hσ3) (fun _ => zpc_ck (zpc_if (fun _ => zpc_ck (zpc_bs (zQ.wi hσ3 rfl) (fun σ5 hσ5 => fe_fX3_drawSprite_190 hk111 hσ5))) (fun _ => zpc_bu (fe_fX9_mark hσ3) (fun σ6 hσ6 => fe_fX3_drawSprite_190 hk111 hσ6)))))))))
theorem fe_fX3_drawSprite_111 {σ0 : zSt} : ∀ (n : Nat) (y0 : zSt) (y1 : Int32) (y2 : Int32) (y3 : Int32), (zQ [3, 5, 7, 9, 10, 15, 17, 19, 21, 23, 25, 27, 28, 29, 30, 32, 34, 36, 40, 42, 44, 45] [(11, 2, 3), (12, 2, 3)] [5, 38, 46, 48] []) σ0 y0 → zpc (fX3_drawSprite_111 n y0 y1 y2 y3) (fun r => (zQ [3, 5, 7, 9, 10, 15, 17, 19, 21, 23, 25, 27, 28, 29, 30, 32, 34, 36, 40, 42, 44, 45] [(11, 2, 3), (12, 2, 3)] [5, 38, 46, 48] []) σ0 (r)) := by
  intro n
  induction n with
  | zero => intro y0 y1 y2 y3 h; exact zpc_none
  | succ n ih => intro y0 y1 y2 y3 h; exact fe_fX3_drawSprite_111_body ih h
theorem fe_fX3_drawSprite_100 {σ0 : zSt} {σ : zSt} {x2 : Int32} {x3 : Int32} {x6 : Int32} {s0 : Int32} {s1 : Int32} (h : (zQ [3, 5, 7, 9, 10, 15, 17, 19, 21, 23, 25, 27, 28, 29, 30, 32, 34, 36, 40, 42, 44, 45] [(11, 2, 3), (12, 2, 3)] [5, 38, 46, 48] []) σ0 σ) : zpc (fX3_drawSprite_100 σ x2 x3 x6 s0 s1) (fun r => (zQ [3, 5, 7, 9, 10, 15, 17, 19, 21, 23, 25, 27, 28, 29, 30, 32, 34, 36, 40, 42, 44, 45] [(11, 2, 3), (12, 2, 3)] [5, 38, 46, 48] []) σ0 (r)) := by
  unfold fX3_drawSprite_100
  exact zpc_bu (fe_fX3_takePlanes h) (fun σ7 hσ7 => fe_fX3_drawSprite_111 _ _ _ _ _ hσ7)
theorem fe_fX3_drawSprite_61 {σ0 : zSt} {σ : zSt} {x2 : Int32} {x3 : Int32} {s0 : Int32} {s1 : Int32} (h : (zQ [3, 5, 7, 9, 10, 15, 17, 19, 21, 23, 25, 27, 28, 29, 30, 32, 34, 36, 40, 42, 44, 45] [(11, 2, 3), (12, 2, 3)] [5, 38, 46, 48] []) σ0 σ) : zpc (fX3_drawSprite_61 σ x2 x3 s0 s1) (fun r => (zQ [3, 5, 7, 9, 10, 15, 17, 19, 21, 23, 25, 27, 28, 29, 30, 32, 34, 36, 40, 42, 44, 45] [(11, 2, 3), (12, 2, 3)] [5, 38, 46, 48] []) σ0 (r)) := by
  unfold fX3_drawSprite_61
  exact zpc_bv (fun v8 _ => zpc_bi (fe_fX9_held h) (fun σ9 v10 hσ9 => zpc_bv (fun v11 _ => zpc_if (fun _ => fe_fX3_drawSprite_100 hσ9) (fun _ => fe_fX3_drawSprite_100 hσ9))))
theorem fe_fX3_drawSprite_28 {σ0 : zSt} {σ : zSt} {x1 : Int32} {x2 : Int32} {s0 : Int32} {s1 : Int32} (h : (zQ [3, 5, 7, 9, 10, 15, 17, 19, 21, 23, 25, 27, 28, 29, 30, 32, 34, 36, 40, 42, 44, 45] [(11, 2, 3), (12, 2, 3)] [5, 38, 46, 48] []) σ0 σ) : zpc (fX3_drawSprite_28 σ x1 x2 s0 s1) (fun r => (zQ [3, 5, 7, 9, 10, 15, 17, 19, 21, 23, 25, 27, 28, 29, 30, 32, 34, 36, 40, 42, 44, 45] [(11, 2, 3), (12, 2, 3)] [5, 38, 46, 48] []) σ0 (r)) := by
  unfold fX3_drawSprite_28
  exact zpc_bv (fun v12 _ => zpc_bi (fe_fX9_vramByte h) (fun σ13 v14 hσ13 => zpc_bi (fe_fX9_held hσ13) (fun σ15 v16 hσ15 => zpc_if (fun _ => fe_fX3_drawSprite_61 hσ15) (fun _ => fe_fX3_drawSprite_61 hσ15))))
theorem fe_fX3_drawSprite {σ0 : zSt} {σ : zSt} {x1 : Int32} {x2 : Int32} (h : (zQ [3, 5, 7, 9, 10, 15, 17, 19, 21, 23, 25, 27, 28, 29, 30, 32, 34, 36, 40, 42, 44, 45] [(11, 2, 3), (12, 2, 3)] [5, 38, 46, 48] []) σ0 σ) : zpc (fX3_drawSprite σ x1 x2) (fun r => (zQ [3, 5, 7, 9, 10, 15, 17, 19, 21, 23, 25, 27, 28, 29, 30, 32, 34, 36, 40, 42, 44, 45] [(11, 2, 3), (12, 2, 3)] [5, 38, 46, 48] []) σ0 (r)) := by
  unfold fX3_drawSprite
  exact zpc_bi (fe_fX9_vramByte h) (fun σ17 v18 hσ17 => zpc_bi (fe_fX9_held hσ17) (fun σ19 v20 hσ19 => zpc_if (fun _ => fe_fX3_drawSprite_28 hσ19) (fun _ => fe_fX3_drawSprite_28 hσ19)))
theorem fe_fX3_drawSprites_196 {σ0 : zSt} {k147 : zSt → Int32 → Option (zSt)} (hk147 : ∀ (y0 : zSt) (y1 : Int32), (zQ [3, 5, 7, 9, 10, 15, 17, 19, 21, 23, 25, 27, 28, 29, 30, 32, 34, 36, 40, 42, 44, 45] [(11, 2, 3), (12, 2, 3)] [5, 38, 46, 48] []) σ0 y0 → zpc (k147 y0 y1) (fun r => (zQ [3, 5, 7, 9, 10, 15, 17, 19, 21, 23, 25, 27, 28, 29, 30, 32, 34, 36, 40, 42, 44, 45] [(11, 2, 3), (12, 2, 3)] [5, 38, 46, 48] []) σ0 (r))) {σ : zSt} {x5 : Int32} (h : (zQ [3, 5, 7, 9, 10, 15, 17, 19, 21, 23, 25, 27, 28, 29, 30, 32, 34, 36, 40, 42, 44, 45] [(11, 2, 3), (12, 2, 3)] [5, 38, 46, 48] []) σ0 σ) : zpc (fX3_drawSprites_196 k147 σ x5) (fun r => (zQ [3, 5, 7, 9, 10, 15, 17, 19, 21, 23, 25, 27, 28, 29, 30, 32, 34, 36, 40, 42, 44, 45] [(11, 2, 3), (12, 2, 3)] [5, 38, 46, 48] []) σ0 (r)) := by
  unfold fX3_drawSprites_196
  exact zpc_bv (fun v1 _ => hk147 _ _ h)
theorem fe_fX3_drawSprites_147_body {σ0 : zSt} {k147 : zSt → Int32 → Option (zSt)} (hk147 : ∀ (y0 : zSt) (y1 : Int32), (zQ [3, 5, 7, 9, 10, 15, 17, 19, 21, 23, 25, 27, 28, 29, 30, 32, 34, 36, 40, 42, 44, 45] [(11, 2, 3), (12, 2, 3)] [5, 38, 46, 48] []) σ0 y0 → zpc (k147 y0 y1) (fun r => (zQ [3, 5, 7, 9, 10, 15, 17, 19, 21, 23, 25, 27, 28, 29, 30, 32, 34, 36, 40, 42, 44, 45] [(11, 2, 3), (12, 2, 3)] [5, 38, 46, 48] []) σ0 (r))) {σ : zSt} {x5 : Int32} (h : (zQ [3, 5, 7, 9, 10, 15, 17, 19, 21, 23, 25, 27, 28, 29, 30, 32, 34, 36, 40, 42, 44, 45] [(11, 2, 3), (12, 2, 3)] [5, 38, 46, 48] []) σ0 σ) : zpc (fX3_drawSprites_147_body k147 σ x5) (fun r => (zQ [3, 5, 7, 9, 10, 15, 17, 19, 21, 23, 25, 27, 28, 29, 30, 32, 34, 36, 40, 42, 44, 45] [(11, 2, 3), (12, 2, 3)] [5, 38, 46, 48] []) σ0 (r)) := by
  unfold fX3_drawSprites_147_body
  exact zpc_if (fun _ => zpc_some h) (fun _ => zpc_ck (zpc_if (fun _ => fe_fX3_drawSprites_196 hk147 h) (fun _ => zpc_ck (zpc_if (fun _ => zpc_ck (zpc_ck (zpc_bs (zQ.wi h rfl) (fun σ2 hσ2 => fe_fX3_drawSprites_196 hk147 hσ2)))) (fun _ => fe_fX3_drawSprites_196 hk147 h)))))
theorem fe_fX3_drawSprites_147 {σ0 : zSt} : ∀ (n : Nat) (y0 : zSt) (y1 : Int32), (zQ [3, 5, 7, 9, 10, 15, 17, 19, 21, 23, 25, 27, 28, 29, 30, 32, 34, 36, 40, 42, 44, 45] [(11, 2, 3), (12, 2, 3)] [5, 38, 46, 48] []) σ0 y0 → zpc (fX3_drawSprites_147 n y0 y1) (fun r => (zQ [3, 5, 7, 9, 10, 15, 17, 19, 21, 23, 25, 27, 28, 29, 30, 32, 34, 36, 40, 42, 44, 45] [(11, 2, 3), (12, 2, 3)] [5, 38, 46, 48] []) σ0 (r)) := by
  intro n
  induction n with
  | zero => intro y0 y1 h; exact zpc_none
  | succ n ih => intro y0 y1 h; exact fe_fX3_drawSprites_147_body ih h
theorem fe_fX3_drawSprites_144 {σ0 : zSt} {σ : zSt} (h : (zQ [3, 5, 7, 9, 10, 15, 17, 19, 21, 23, 25, 27, 28, 29, 30, 32, 34, 36, 40, 42, 44, 45] [(11, 2, 3), (12, 2, 3)] [5, 38, 46, 48] []) σ0 σ) : zpc (fX3_drawSprites_144 σ) (fun r => (zQ [3, 5, 7, 9, 10, 15, 17, 19, 21, 23, 25, 27, 28, 29, 30, 32, 34, 36, 40, 42, 44, 45] [(11, 2, 3), (12, 2, 3)] [5, 38, 46, 48] []) σ0 (r)) := by
  unfold fX3_drawSprites_144
  exact fe_fX3_drawSprites_147 _ _ _ h
theorem fe_fX3_drawSprites_138 {σ0 : zSt} {k51 : zSt → Int32 → Int32 → Int32 → Int32 → Int32 → Option (zSt)} (hk51 : ∀ (y0 : zSt) (y1 : Int32) (y2 : Int32) (y3 : Int32) (y4 : Int32) (y5 : Int32), (zQ [3, 5, 7, 9, 10, 15, 17, 19, 21, 23, 25, 27, 28, 29, 30, 32, 34, 36, 40, 42, 44, 45] [(11, 2, 3), (12, 2, 3)] [5, 38, 46, 48] []) σ0 y0 → zpc (k51 y0 y1 y2 y3 y4 y5) (fun r => (zQ [3, 5, 7, 9, 10, 15, 17, 19, 21, 23, 25, 27, 28, 29, 30, 32, 34, 36, 40, 42, 44, 45] [(11, 2, 3), (12, 2, 3)] [5, 38, 46, 48] []) σ0 (r))) {σ : zSt} {x1 : Int32} {x2 : Int32} {x3 : Int32} {x4 : Int32} {x5 : Int32} (h : (zQ [3, 5, 7, 9, 10, 15, 17, 19, 21, 23, 25, 27, 28, 29, 30, 32, 34, 36, 40, 42, 44, 45] [(11, 2, 3), (12, 2, 3)] [5, 38, 46, 48] []) σ0 σ) : zpc (fX3_drawSprites_138 k51 σ x1 x2 x3 x4 x5) (fun r => (zQ [3, 5, 7, 9, 10, 15, 17, 19, 21, 23, 25, 27, 28, 29, 30, 32, 34, 36, 40, 42, 44, 45] [(11, 2, 3), (12, 2, 3)] [5, 38, 46, 48] []) σ0 (r)) := by
  unfold fX3_drawSprites_138
  exact zpc_bv (fun v3 _ => hk51 _ _ _ _ _ _ h)
theorem fe_fX3_drawSprites_86 {σ0 : zSt} {k51 : zSt → Int32 → Int32 → Int32 → Int32 → Int32 → Option (zSt)} (hk51 : ∀ (y0 : zSt) (y1 : Int32) (y2 : Int32) (y3 : Int32) (y4 : Int32) (y5 : Int32), (zQ [3, 5, 7, 9, 10, 15, 17, 19, 21, 23, 25, 27, 28, 29, 30, 32, 34, 36, 40, 42, 44, 45] [(11, 2, 3), (12, 2, 3)] [5, 38, 46, 48] []) σ0 y0 → zpc (k51 y0 y1 y2 y3 y4 y5) (fun r => (zQ [3, 5, 7, 9, 10, 15, 17, 19, 21, 23, 25, 27, 28, 29, 30, 32, 34, 36, 40, 42, 44, 45] [(11, 2, 3), (12, 2, 3)] [5, 38, 46, 48] []) σ0 (r))) {σ : zSt} {x1 : Int32} {x2 : Int32} {x3 : Int32} {x4 : Int32} {x5 : Int32} {x6 : Int32} (h : (zQ [3, 5, 7, 9, 10, 15, 17, 19, 21, 23, 25, 27, 28, 29, 30, 32, 34, 36, 40, 42, 44, 45] [(11, 2, 3), (12, 2, 3)] [5, 38, 46, 48] []) σ0 σ) : zpc (fX3_drawSprites_86 k51 σ x1 x2 x3 x4 x5 x6) (fun r => (zQ [3, 5, 7, 9, 10, 15, 17, 19, 21, 23, 25, 27, 28, 29, 30, 32, 34, 36, 40, 42, 44, 45] [(11, 2, 3), (12, 2, 3)] [5, 38, 46, 48] []) σ0 (r)) := by
  unfold fX3_drawSprites_86
  exact zpc_bi (fe_fX3_rowOfSprite h) (fun σ4 v5 hσ4 => zpc_if (fun _ => fe_fX3_drawSprites_138 hk51 hσ4) (fun _ => zpc_bv (fun v6 _ => zpc_if (fun _ => zpc_bu (fe_fX3_drawSprite hσ4) (fun σ7 hσ7 => fe_fX3_drawSprites_138 hk51 hσ7)) (fun _ => zpc_bu (fe_fX9_mark hσ4) (fun σ8 hσ8 => fe_fX3_drawSprites_144 hσ8)))))
theorem fe_fX3_drawSprites_51_body {σ0 : zSt} {k51 : zSt → Int32 → Int32 → Int32 → Int32 → Int32 → Option (zSt)} (hk51 : ∀ (y0 : zSt) (y1 : Int32) (y2 : Int32) (y3 : Int32) (y4 : Int32) (y5 : Int32), (zQ [3, 5, 7, 9, 10, 15, 17, 19, 21, 23, 25, 27, 28, 29, 30, 32, 34, 36, 40, 42, 44, 45] [(11, 2, 3), (12, 2, 3)] [5, 38, 46, 48] []) σ0 y0 → zpc (k51 y0 y1 y2 y3 y4 y5) (fun r => (zQ [3, 5, 7, 9, 10, 15, 17, 19, 21, 23, 25, 27, 28, 29, 30, 32, 34, 36, 40, 42, 44, 45] [(11, 2, 3), (12, 2, 3)] [5, 38, 46, 48] []) σ0 (r))) {σ : zSt} {x1 : Int32} {x2 : Int32} {x3 : Int32} {x4 : Int32} {x5 : Int32} (h : (zQ [3, 5, 7, 9, 10, 15, 17, 19, 21, 23, 25, 27, 28, 29, 30, 32, 34, 36, 40, 42, 44, 45] [(11, 2, 3), (12, 2, 3)] [5, 38, 46, 48] []) σ0 σ) : zpc (fX3_drawSprites_51_body k51 σ x1 x2 x3 x4 x5) (fun r => (zQ [3, 5, 7, 9, 10, 15, 17, 19, 21, 23, 25, 27, 28, 29, 30, 32, 34, 36, 40, 42, 44, 45] [(11, 2, 3), (12, 2, 3)] [5, 38, 46, 48] []) σ0 (r)) := by
  unfold fX3_drawSprites_51_body
  exact zpc_if (fun _ => fe_fX3_drawSprites_144 h) (fun _ => zpc_bi (fe_fX9_vramByte h) (fun σ9 v10 hσ9 => zpc_if (fun _ => fe_fX3_drawSprites_86 hk51 hσ9) (fun _ => zpc_if (fun _ => fe_fX3_drawSprites_144 hσ9) (fun _ => fe_fX3_drawSprites_86 hk51 hσ9))))
theorem fe_fX3_drawSprites_51 {σ0 : zSt} : ∀ (n : Nat) (y0 : zSt) (y1 : Int32) (y2 : Int32) (y3 : Int32) (y4 : Int32) (y5 : Int32), (zQ [3, 5, 7, 9, 10, 15, 17, 19, 21, 23, 25, 27, 28, 29, 30, 32, 34, 36, 40, 42, 44, 45] [(11, 2, 3), (12, 2, 3)] [5, 38, 46, 48] []) σ0 y0 → zpc (fX3_drawSprites_51 n y0 y1 y2 y3 y4 y5) (fun r => (zQ [3, 5, 7, 9, 10, 15, 17, 19, 21, 23, 25, 27, 28, 29, 30, 32, 34, 36, 40, 42, 44, 45] [(11, 2, 3), (12, 2, 3)] [5, 38, 46, 48] []) σ0 (r)) := by
  intro n
  induction n with
  | zero => intro y0 y1 y2 y3 y4 y5 h; exact zpc_none
  | succ n ih => intro y0 y1 y2 y3 y4 y5 h; exact fe_fX3_drawSprites_51_body ih h
theorem fe_fX3_drawSprites_44 {σ0 : zSt} {σ : zSt} {x1 : Int32} {x2 : Int32} {s0 : Int32} (h : (zQ [3, 5, 7, 9, 10, 15, 17, 19, 21, 23, 25, 27, 28, 29, 30, 32, 34, 36, 40, 42, 44, 45] [(11, 2, 3), (12, 2, 3)] [5, 38, 46, 48] []) σ0 σ) : zpc (fX3_drawSprites_44 σ x1 x2 s0) (fun r => (zQ [3, 5, 7, 9, 10, 15, 17, 19, 21, 23, 25, 27, 28, 29, 30, 32, 34, 36, 40, 42, 44, 45] [(11, 2, 3), (12, 2, 3)] [5, 38, 46, 48] []) σ0 (r)) := by
  unfold fX3_drawSprites_44
  exact fe_fX3_drawSprites_51 _ _ _ _ _ _ _ h
theorem fe_fX3_drawSprites {σ0 : zSt} {σ : zSt} {x1 : Int32} (h : (zQ [3, 5, 7, 9, 10, 15, 17, 19, 21, 23, 25, 27, 28, 29, 30, 32, 34, 36, 40, 42, 44, 45] [(11, 2, 3), (12, 2, 3)] [5, 38, 46, 48] []) σ0 σ) : zpc (fX3_drawSprites σ x1) (fun r => (zQ [3, 5, 7, 9, 10, 15, 17, 19, 21, 23, 25, 27, 28, 29, 30, 32, 34, 36, 40, 42, 44, 45] [(11, 2, 3), (12, 2, 3)] [5, 38, 46, 48] []) σ0 (r)) := by
  unfold fX3_drawSprites
  exact zpc_bu (fe_fJ7_fill_53178_k28 h) (fun σ11 hσ11 => zpc_bi (fe_fX9_held hσ11) (fun σ12 v13 hσ12 => zpc_bv (fun v14 _ => zpc_bi (fe_fX9_height hσ12) (fun σ15 v16 hσ15 => zpc_if (fun _ => fe_fX3_drawSprites_44 hσ15) (fun _ => fe_fX3_drawSprites_44 hσ15)))))
theorem fe_fJ7_rangeCheck_23922 {σ0 : zSt} {σ : zSt} {x0 : Int32} {x1 : Int32} {x2 : Int32} (h : (zQ [3, 5, 7, 9, 10, 15, 17, 19, 21, 23, 25, 27, 28, 29, 30, 32, 34, 36, 40, 42, 44, 45] [(11, 2, 3), (12, 2, 3)] [5, 38, 46, 48] []) σ0 σ) : zpc (fJ7_rangeCheck_23922 σ x0 x1 x2) (fun r => (zQ [3, 5, 7, 9, 10, 15, 17, 19, 21, 23, 25, 27, 28, 29, 30, 32, 34, 36, 40, 42, 44, 45] [(11, 2, 3), (12, 2, 3)] [5, 38, 46, 48] []) σ0 (r)) := by
  unfold fJ7_rangeCheck_23922
  exact zpc_if (fun _ => zpc_if (fun _ => zpc_if (fun _ => zpc_some h) (fun _ => zpc_none)) (fun _ => zpc_none)) (fun _ => zpc_none)
theorem fe_fJ7_fill_fda19_k27_10_body {σ0 : zSt} {k10 : zSt → Int32 → Int32 → Int32 → Option (zSt)} (hk10 : ∀ (y0 : zSt) (y1 : Int32) (y2 : Int32) (y3 : Int32), (zQ [3, 5, 7, 9, 10, 15, 17, 19, 21, 23, 25, 27, 28, 29, 30, 32, 34, 36, 40, 42, 44, 45] [(11, 2, 3), (12, 2, 3)] [5, 38, 46, 48] []) σ0 y0 → zpc (k10 y0 y1 y2 y3) (fun r => (zQ [3, 5, 7, 9, 10, 15, 17, 19, 21, 23, 25, 27, 28, 29, 30, 32, 34, 36, 40, 42, 44, 45] [(11, 2, 3), (12, 2, 3)] [5, 38, 46, 48] []) σ0 (r))) {σ : zSt} {x2 : Int32} {x3 : Int32} {x4 : Int32} (h : (zQ [3, 5, 7, 9, 10, 15, 17, 19, 21, 23, 25, 27, 28, 29, 30, 32, 34, 36, 40, 42, 44, 45] [(11, 2, 3), (12, 2, 3)] [5, 38, 46, 48] []) σ0 σ) : zpc (fJ7_fill_fda19_k27_10_body k10 σ x2 x3 x4) (fun r => (zQ [3, 5, 7, 9, 10, 15, 17, 19, 21, 23, 25, 27, 28, 29, 30, 32, 34, 36, 40, 42, 44, 45] [(11, 2, 3), (12, 2, 3)] [5, 38, 46, 48] []) σ0 (r)) := by
  unfold fJ7_fill_fda19_k27_10_body
  exact zpc_if (fun _ => zpc_some h) (fun _ => zpc_ck (zpc_bs (zQ.wi h rfl) (fun σ1 hσ1 => zpc_bv (fun v2 _ => hk10 _ _ _ _ hσ1))))
theorem fe_fJ7_fill_fda19_k27_10 {σ0 : zSt} : ∀ (n : Nat) (y0 : zSt) (y1 : Int32) (y2 : Int32) (y3 : Int32), (zQ [3, 5, 7, 9, 10, 15, 17, 19, 21, 23, 25, 27, 28, 29, 30, 32, 34, 36, 40, 42, 44, 45] [(11, 2, 3), (12, 2, 3)] [5, 38, 46, 48] []) σ0 y0 → zpc (fJ7_fill_fda19_k27_10 n y0 y1 y2 y3) (fun r => (zQ [3, 5, 7, 9, 10, 15, 17, 19, 21, 23, 25, 27, 28, 29, 30, 32, 34, 36, 40, 42, 44, 45] [(11, 2, 3), (12, 2, 3)] [5, 38, 46, 48] []) σ0 (r)) := by
  intro n
  induction n with
  | zero => intro y0 y1 y2 y3 h; exact zpc_none
  | succ n ih => intro y0 y1 y2 y3 h; exact fe_fJ7_fill_fda19_k27_10_body ih h
theorem fe_fJ7_fill_fda19_k27 {σ0 : zSt} {σ : zSt} {x1 : Int32} {x2 : Int32} {x3 : Int32} (h : (zQ [3, 5, 7, 9, 10, 15, 17, 19, 21, 23, 25, 27, 28, 29, 30, 32, 34, 36, 40, 42, 44, 45] [(11, 2, 3), (12, 2, 3)] [5, 38, 46, 48] []) σ0 σ) : zpc (fJ7_fill_fda19_k27 σ x1 x2 x3) (fun r => (zQ [3, 5, 7, 9, 10, 15, 17, 19, 21, 23, 25, 27, 28, 29, 30, 32, 34, 36, 40, 42, 44, 45] [(11, 2, 3), (12, 2, 3)] [5, 38, 46, 48] []) σ0 (r)) := by
  unfold fJ7_fill_fda19_k27
  exact zpc_bu (fe_fJ7_rangeCheck_23922 h) (fun σ3 hσ3 => fe_fJ7_fill_fda19_k27_10 _ _ _ _ _ hσ3)
theorem fe_fX3_patternAt {σ0 : zSt} {σ : zSt} {x1 : Int32} {x2 : Int32} (h : (zQ [3, 5, 7, 9, 10, 15, 17, 19, 21, 23, 25, 27, 28, 29, 30, 32, 34, 36, 40, 42, 44, 45] [(11, 2, 3), (12, 2, 3)] [5, 38, 46, 48] []) σ0 σ) : zpc (fX3_patternAt σ x1 x2) (fun r => (zQ [3, 5, 7, 9, 10, 15, 17, 19, 21, 23, 25, 27, 28, 29, 30, 32, 34, 36, 40, 42, 44, 45] [(11, 2, 3), (12, 2, 3)] [5, 38, 46, 48] []) σ0 (r.1)) := by
  unfold fX3_patternAt
  exact zpc_bi (fe_fX9_held h) (fun σ1 v2 hσ1 => zpc_bi (fe_fX9_vramByte hσ1) (fun σ3 v4 hσ3 => zpc_some hσ3))
theorem fe_fX3_drawText_101 {σ0 : zSt} {k21 : zSt → Int32 → Int32 → Int32 → Int32 → Option (zSt)} (hk21 : ∀ (y0 : zSt) (y1 : Int32) (y2 : Int32) (y3 : Int32) (y4 : Int32), (zQ [3, 5, 7, 9, 10, 15, 17, 19, 21, 23, 25, 27, 28, 29, 30, 32, 34, 36, 40, 42, 44, 45] [(11, 2, 3), (12, 2, 3)] [5, 38, 46, 48] []) σ0 y0 → zpc (k21 y0 y1 y2 y3 y4) (fun r => (zQ [3, 5, 7, 9, 10, 15, 17, 19, 21, 23, 25, 27, 28, 29, 30, 32, 34, 36, 40, 42, 44, 45] [(11, 2, 3), (12, 2, 3)] [5, 38, 46, 48] []) σ0 (r))) {k56 : zSt → Int32 → Int32 → Int32 → Int32 → Int32 → Int32 → Option (zSt)} (hk56 : ∀ (y0 : zSt) (y1 : Int32) (y2 : Int32) (y3 : Int32) (y4 : Int32) (y5 : Int32) (y6 : Int32), (zQ [3, 5, 7, 9, 10, 15, 17, 19, 21, 23, 25, 27, 28, 29, 30, 32, 34, 36, 40, 42, 44, 45] [(11, 2, 3), (12, 2, 3)] [5, 38, 46, 48] []) σ0 y0 → zpc (k56 y0 y1 y2 y3 y4 y5 y6) (fun r => (zQ [3, 5, 7, 9, 10, 15, 17, 19, 21, 23, 25, 27, 28, 29, 30, 32, 34, 36, 40, 42, 44, 45] [(11, 2, 3), (12, 2, 3)] [5, 38, 46, 48] []) σ0 (r))) {σ : zSt} {x1 : Int32} {x2 : Int32} {x3 : Int32} {x4 : Int32} {x5 : Int32} {x6 : Int32} {s0 : Int32} {s1 : Int32} (h : (zQ [3, 5, 7, 9, 10, 15, 17, 19, 21, 23, 25, 27, 28, 29, 30, 32, 34, 36, 40, 42, 44, 45] [(11, 2, 3), (12, 2, 3)] [5, 38, 46, 48] []) σ0 σ) : zpc (fX3_drawText_101 k21 k56 σ x1 x2 x3 x4 x5 x6 s0 s1) (fun r => (zQ [3, 5, 7, 9, 10, 15, 17, 19, 21, 23, 25, 27, 28, 29, 30, 32, 34, 36, 40, 42, 44, 45] [(11, 2, 3), (12, 2, 3)] [5, 38, 46, 48] []) σ0 (r)) := by
  unfold fX3_drawText_101
  exact zpc_ck (zpc_bs (zQ.wi h rfl) (fun σ1 hσ1 => zpc_bv (fun v2 _ => hk56 _ _ _ _ _ _ _ hσ1)))
theorem fe_fX3_drawText_56_body {σ0 : zSt} {k21 : zSt → Int32 → Int32 → Int32 → Int32 → Option (zSt)} (hk21 : ∀ (y0 : zSt) (y1 : Int32) (y2 : Int32) (y3 : Int32) (y4 : Int32), (zQ [3, 5, 7, 9, 10, 15, 17, 19, 21, 23, 25, 27, 28, 29, 30, 32, 34, 36, 40, 42, 44, 45] [(11, 2, 3), (12, 2, 3)] [5, 38, 46, 48] []) σ0 y0 → zpc (k21 y0 y1 y2 y3 y4) (fun r => (zQ [3, 5, 7, 9, 10, 15, 17, 19, 21, 23, 25, 27, 28, 29, 30, 32, 34, 36, 40, 42, 44, 45] [(11, 2, 3), (12, 2, 3)] [5, 38, 46, 48] []) σ0 (r))) {k56 : zSt → Int32 → Int32 → Int32 → Int32 → Int32 → Int32 → Option (zSt)} (hk56 : ∀ (y0 : zSt) (y1 : Int32) (y2 : Int32) (y3 : Int32) (y4 : Int32) (y5 : Int32) (y6 : Int32), (zQ [3, 5, 7, 9, 10, 15, 17, 19, 21, 23, 25, 27, 28, 29, 30, 32, 34, 36, 40, 42, 44, 45] [(11, 2, 3), (12, 2, 3)] [5, 38, 46, 48] []) σ0 y0 → zpc (k56 y0 y1 y2 y3 y4 y5 y6) (fun r => (zQ [3, 5, 7, 9, 10, 15, 17, 19, 21, 23, 25, 27, 28, 29, 30, 32, 34, 36, 40, 42, 44, 45] [(11, 2, 3), (12, 2, 3)] [5, 38, 46, 48] []) σ0 (r))) {σ : zSt} {x1 : Int32} {x2 : Int32} {x3 : Int32} {x4 : Int32} {x5 : Int32} {x6 : Int32} (h : (zQ [3, 5, 7, 9, 10, 15, 17, 19, 21, 23, 25, 27, 28, 29, 30, 32, 34, 36, 40, 42, 44, 45] [(11, 2, 3), (12, 2, 3)] [5, 38, 46, 48] []) σ0 σ) : zpc (fX3_drawText_56_body k21 k56 σ x1 x2 x3 x4 x5 x6) (fun r => (zQ [3, 5, 7, 9, 10, 15, 17, 19, 21, 23, 25, 27, 28, 29, 30, 32, 34, 36, 40, 42, 44, 45] [(11, 2, 3), (12, 2, 3)] [5, 38, 46, 48] []) σ0 (r)) := by
  unfold fX3_drawText_56_body
  exact zpc_if (fun _ => zpc_bv (fun v3 _ => hk21 _ _ _ _ _ h)) (fun _ => zpc_if (fun _ => fe_fX3_drawText_101 hk21 hk56 h) (fun _ => fe_fX3_drawText_101 hk21 hk56 h))
theorem fe_fX3_drawText_56 {σ0 : zSt} {k21 : zSt → Int32 → Int32 → Int32 → Int32 → Option (zSt)} (hk21 : ∀ (y0 : zSt) (y1 : Int32) (y2 : Int32) (y3 : Int32) (y4 : Int32), (zQ [3, 5, 7, 9, 10, 15, 17, 19, 21, 23, 25, 27, 28, 29, 30, 32, 34, 36, 40, 42, 44, 45] [(11, 2, 3), (12, 2, 3)] [5, 38, 46, 48] []) σ0 y0 → zpc (k21 y0 y1 y2 y3 y4) (fun r => (zQ [3, 5, 7, 9, 10, 15, 17, 19, 21, 23, 25, 27, 28, 29, 30, 32, 34, 36, 40, 42, 44, 45] [(11, 2, 3), (12, 2, 3)] [5, 38, 46, 48] []) σ0 (r))) : ∀ (n : Nat) (y0 : zSt) (y1 : Int32) (y2 : Int32) (y3 : Int32) (y4 : Int32) (y5 : Int32) (y6 : Int32), (zQ [3, 5, 7, 9, 10, 15, 17, 19, 21, 23, 25, 27, 28, 29, 30, 32, 34, 36, 40, 42, 44, 45] [(11, 2, 3), (12, 2, 3)] [5, 38, 46, 48] []) σ0 y0 → zpc (fX3_drawText_56 k21 n y0 y1 y2 y3 y4 y5 y6) (fun r => (zQ [3, 5, 7, 9, 10, 15, 17, 19, 21, 23, 25, 27, 28, 29, 30, 32, 34, 36, 40, 42, 44, 45] [(11, 2, 3), (12, 2, 3)] [5, 38, 46, 48] []) σ0 (r)) := by
  intro n
  induction n with
  | zero => intro y0 y1 y2 y3 y4 y5 y6 h; exact zpc_none
  | succ n ih => intro y0 y1 y2 y3 y4 y5 y6 h; exact fe_fX3_drawText_56_body hk21 ih h
theorem fe_fX3_drawText_21_body {σ0 : zSt} {k21 : zSt → Int32 → Int32 → Int32 → Int32 → Option (zSt)} (hk21 : ∀ (y0 : zSt) (y1 : Int32) (y2 : Int32) (y3 : Int32) (y4 : Int32), (zQ [3, 5, 7, 9, 10, 15, 17, 19, 21, 23, 25, 27, 28, 29, 30, 32, 34, 36, 40, 42, 44, 45] [(11, 2, 3), (12, 2, 3)] [5, 38, 46, 48] []) σ0 y0 → zpc (k21 y0 y1 y2 y3 y4) (fun r => (zQ [3, 5, 7, 9, 10, 15, 17, 19, 21, 23, 25, 27, 28, 29, 30, 32, 34, 36, 40, 42, 44, 45] [(11, 2, 3), (12, 2, 3)] [5, 38, 46, 48] []) σ0 (r))) {σ : zSt} {x1 : Int32} {x2 : Int32} {x3 : Int32} {x4 : Int32} (h : (zQ [3, 5, 7, 9, 10, 15, 17, 19, 21, 23, 25, 27, 28, 29, 30, 32, 34, 36, 40, 42, 44, 45] [(11, 2, 3), (12, 2, 3)] [5, 38, 46, 48] []) σ0 σ) : zpc (fX3_drawText_21_body k21 σ x1 x2 x3 x4) (fun r => (zQ [3, 5, 7, 9, 10, 15, 17, 19, 21, 23, 25, 27, 28, 29, 30, 32, 34, 36, 40, 42, 44, 45] [(11, 2, 3), (12, 2, 3)] [5, 38, 46, 48] []) σ0 (r)) := by
  unfold fX3_drawText_21_body
  exact zpc_if (fun _ => zpc_some h) (fun _ => zpc_bi (fe_fX9_vramByte h) (fun σ4 v5 hσ4 => zpc_bi (fe_fX3_patternAt hσ4) (fun σ6 v7 hσ6 => fe_fX3_drawText_56 hk21 _ _ _ _ _ _ _ _ hσ6)))
theorem fe_fX3_drawText_21 {σ0 : zSt} : ∀ (n : Nat) (y0 : zSt) (y1 : Int32) (y2 : Int32) (y3 : Int32) (y4 : Int32), (zQ [3, 5, 7, 9, 10, 15, 17, 19, 21, 23, 25, 27, 28, 29, 30, 32, 34, 36, 40, 42, 44, 45] [(11, 2, 3), (12, 2, 3)] [5, 38, 46, 48] []) σ0 y0 → zpc (fX3_drawText_21 n y0 y1 y2 y3 y4) (fun r => (zQ [3, 5, 7, 9, 10, 15, 17, 19, 21, 23, 25, 27, 28, 29, 30, 32, 34, 36, 40, 42, 44, 45] [(11, 2, 3), (12, 2, 3)] [5, 38, 46, 48] []) σ0 (r)) := by
  intro n
  induction n with
  | zero => intro y0 y1 y2 y3 y4 h; exact zpc_none
  | succ n ih => intro y0 y1 y2 y3 y4 h; exact fe_fX3_drawText_21_body ih h
theorem fe_fX3_drawText {σ0 : zSt} {σ : zSt} {x1 : Int32} {x2 : Int32} (h : (zQ [3, 5, 7, 9, 10, 15, 17, 19, 21, 23, 25, 27, 28, 29, 30, 32, 34, 36, 40, 42, 44, 45] [(11, 2, 3), (12, 2, 3)] [5, 38, 46, 48] []) σ0 σ) : zpc (fX3_drawText σ x1 x2) (fun r => (zQ [3, 5, 7, 9, 10, 15, 17, 19, 21, 23, 25, 27, 28, 29, 30, 32, 34, 36, 40, 42, 44, 45] [(11, 2, 3), (12, 2, 3)] [5, 38, 46, 48] []) σ0 (r)) := by
  unfold fX3_drawText
  exact zpc_bi (fe_fX9_held h) (fun σ8 v9 hσ8 => zpc_bu (fe_fJ7_fill_53178_k27 hσ8) (fun σ10 hσ10 => fe_fX3_drawText_21 _ _ _ _ _ _ hσ10))
theorem fe_fX3_drawPattern_57 {σ0 : zSt} {σ : zSt} (h : (zQ [3, 5, 7, 9, 10, 15, 17, 19, 21, 23, 25, 27, 28, 29, 30, 32, 34, 36, 40, 42, 44, 45] [(11, 2, 3), (12, 2, 3)] [5, 38, 46, 48] []) σ0 σ) : zpc (fX3_drawPattern_57 σ) (fun r => (zQ [3, 5, 7, 9, 10, 15, 17, 19, 21, 23, 25, 27, 28, 29, 30, 32, 34, 36, 40, 42, 44, 45] [(11, 2, 3), (12, 2, 3)] [5, 38, 46, 48] []) σ0 (r)) := by
  unfold fX3_drawPattern_57
  exact zpc_some h
theorem fe_fX3_drawPattern_50 {σ0 : zSt} {k3 : zSt → Int32 → Int32 → Int32 → Int32 → Option (zSt)} (hk3 : ∀ (y0 : zSt) (y1 : Int32) (y2 : Int32) (y3 : Int32) (y4 : Int32), (zQ [3, 5, 7, 9, 10, 15, 17, 19, 21, 23, 25, 27, 28, 29, 30, 32, 34, 36, 40, 42, 44, 45] [(11, 2, 3), (12, 2, 3)] [5, 38, 46, 48] []) σ0 y0 → zpc (k3 y0 y1 y2 y3 y4) (fun r => (zQ [3, 5, 7, 9, 10, 15, 17, 19, 21, 23, 25, 27, 28, 29, 30, 32, 34, 36, 40, 42, 44, 45] [(11, 2, 3), (12, 2, 3)] [5, 38, 46, 48] []) σ0 (r))) {σ : zSt} {x1 : Int32} {x2 : Int32} {x3 : Int32} {x4 : Int32} {s0 : Int32} {s1 : Int32} (h : (zQ [3, 5, 7, 9, 10, 15, 17, 19, 21, 23, 25, 27, 28, 29, 30, 32, 34, 36, 40, 42, 44, 45] [(11, 2, 3), (12, 2, 3)] [5, 38, 46, 48] []) σ0 σ) : zpc (fX3_drawPattern_50 k3 σ x1 x2 x3 x4 s0 s1) (fun r => (zQ [3, 5, 7, 9, 10, 15, 17, 19, 21, 23, 25, 27, 28, 29, 30, 32, 34, 36, 40, 42, 44, 45] [(11, 2, 3), (12, 2, 3)] [5, 38, 46, 48] []) σ0 (r)) := by
  unfold fX3_drawPattern_50
  exact zpc_ck (zpc_bs (zQ.wi h rfl) (fun σ1 hσ1 => zpc_bv (fun v2 _ => hk3 _ _ _ _ _ hσ1)))
theorem fe_fX3_drawPattern_3_body {σ0 : zSt} {k3 : zSt → Int32 → Int32 → Int32 → Int32 → Option (zSt)} (hk3 : ∀ (y0 : zSt) (y1 : Int32) (y2 : Int32) (y3 : Int32) (y4 : Int32), (zQ [3, 5, 7, 9, 10, 15, 17, 19, 21, 23, 25, 27, 28, 29, 30, 32, 34, 36, 40, 42, 44, 45] [(11, 2, 3), (12, 2, 3)] [5, 38, 46, 48] []) σ0 y0 → zpc (k3 y0 y1 y2 y3 y4) (fun r => (zQ [3, 5, 7, 9, 10, 15, 17, 19, 21, 23, 25, 27, 28, 29, 30, 32, 34, 36, 40, 42, 44, 45] [(11, 2, 3), (12, 2, 3)] [5, 38, 46, 48] []) σ0 (r))) {σ : zSt} {x1 : Int32} {x2 : Int32} {x3 : Int32} {x4 : Int32} (h : (zQ [3, 5, 7, 9, 10, 15, 17, 19, 21, 23, 25, 27, 28, 29, 30, 32, 34, 36, 40, 42, 44, 45] [(11, 2, 3), (12, 2, 3)] [5, 38, 46, 48] []) σ0 σ) : zpc (fX3_drawPattern_3_body k3 σ x1 x2 x3 x4) (fun r => (zQ [3, 5, 7, 9, 10, 15, 17, 19, 21, 23, 25, 27, 28, 29, 30, 32, 34, 36, 40, 42, 44, 45] [(11, 2, 3), (12, 2, 3)] [5, 38, 46, 48] []) σ0 (r)) := by
  unfold fX3_drawPattern_3_body
  exact zpc_if (fun _ => fe_fX3_drawPattern_57 h) (fun _ => zpc_if (fun _ => fe_fX3_drawPattern_57 h) (fun _ => zpc_if (fun _ => fe_fX3_drawPattern_50 hk3 h) (fun _ => fe_fX3_drawPattern_50 hk3 h)))
theorem fe_fX3_drawPattern_3 {σ0 : zSt} : ∀ (n : Nat) (y0 : zSt) (y1 : Int32) (y2 : Int32) (y3 : Int32) (y4 : Int32), (zQ [3, 5, 7, 9, 10, 15, 17, 19, 21, 23, 25, 27, 28, 29, 30, 32, 34, 36, 40, 42, 44, 45] [(11, 2, 3), (12, 2, 3)] [5, 38, 46, 48] []) σ0 y0 → zpc (fX3_drawPattern_3 n y0 y1 y2 y3 y4) (fun r => (zQ [3, 5, 7, 9, 10, 15, 17, 19, 21, 23, 25, 27, 28, 29, 30, 32, 34, 36, 40, 42, 44, 45] [(11, 2, 3), (12, 2, 3)] [5, 38, 46, 48] []) σ0 (r)) := by
  intro n
  induction n with
  | zero => intro y0 y1 y2 y3 y4 h; exact zpc_none
  | succ n ih => intro y0 y1 y2 y3 y4 h; exact fe_fX3_drawPattern_3_body ih h
theorem fe_fX3_drawPattern {σ0 : zSt} {σ : zSt} {x1 : Int32} {x2 : Int32} {x3 : Int32} (h : (zQ [3, 5, 7, 9, 10, 15, 17, 19, 21, 23, 25, 27, 28, 29, 30, 32, 34, 36, 40, 42, 44, 45] [(11, 2, 3), (12, 2, 3)] [5, 38, 46, 48] []) σ0 σ) : zpc (fX3_drawPattern σ x1 x2 x3) (fun r => (zQ [3, 5, 7, 9, 10, 15, 17, 19, 21, 23, 25, 27, 28, 29, 30, 32, 34, 36, 40, 42, 44, 45] [(11, 2, 3), (12, 2, 3)] [5, 38, 46, 48] []) σ0 (r)) := by
  unfold fX3_drawPattern
  exact fe_fX3_drawPattern_3 _ _ _ _ _ _ h
theorem fe_fX3_drawBlocks {σ0 : zSt} {σ : zSt} {x1 : Int32} {x2 : Int32} {x3 : Int32} (h : (zQ [3, 5, 7, 9, 10, 15, 17, 19, 21, 23, 25, 27, 28, 29, 30, 32, 34, 36, 40, 42, 44, 45] [(11, 2, 3), (12, 2, 3)] [5, 38, 46, 48] []) σ0 σ) : zpc (fX3_drawBlocks σ x1 x2 x3) (fun r => (zQ [3, 5, 7, 9, 10, 15, 17, 19, 21, 23, 25, 27, 28, 29, 30, 32, 34, 36, 40, 42, 44, 45] [(11, 2, 3), (12, 2, 3)] [5, 38, 46, 48] []) σ0 (r)) := by
  unfold fX3_drawBlocks
  exact zpc_bi (fe_fX9_held h) (fun σ1 v2 hσ1 => zpc_bv (fun v3 _ => zpc_bi (fe_fX9_vramByte hσ1) (fun σ4 v5 hσ4 => zpc_bu (fe_fX3_drawPattern hσ4) (fun σ6 hσ6 => zpc_some hσ6))))
theorem fe_fX3_drawThird {σ0 : zSt} {σ : zSt} {x1 : Int32} {x2 : Int32} {x3 : Int32} (h : (zQ [3, 5, 7, 9, 10, 15, 17, 19, 21, 23, 25, 27, 28, 29, 30, 32, 34, 36, 40, 42, 44, 45] [(11, 2, 3), (12, 2, 3)] [5, 38, 46, 48] []) σ0 σ) : zpc (fX3_drawThird σ x1 x2 x3) (fun r => (zQ [3, 5, 7, 9, 10, 15, 17, 19, 21, 23, 25, 27, 28, 29, 30, 32, 34, 36, 40, 42, 44, 45] [(11, 2, 3), (12, 2, 3)] [5, 38, 46, 48] []) σ0 (r)) := by
  unfold fX3_drawThird
  exact zpc_bi (fe_fX9_held h) (fun σ1 v2 hσ1 => zpc_bi (fe_fX9_held hσ1) (fun σ3 v4 hσ3 => zpc_bv (fun v5 _ => zpc_bv (fun v6 _ => zpc_bi (fe_fX9_vramByte hσ3) (fun σ7 v8 hσ7 => zpc_bi (fe_fX9_vramByte hσ7) (fun σ9 v10 hσ9 => zpc_bu (fe_fX3_drawPattern hσ9) (fun σ11 hσ11 => zpc_some hσ11)))))))
theorem fe_fX3_drawOld_165 {σ0 : zSt} {k31 : zSt → Int32 → Int32 → Int32 → Int32 → Option (zSt)} (hk31 : ∀ (y0 : zSt) (y1 : Int32) (y2 : Int32) (y3 : Int32) (y4 : Int32), (zQ [3, 5, 7, 9, 10, 15, 17, 19, 21, 23, 25, 27, 28, 29, 30, 32, 34, 36, 40, 42, 44, 45] [(11, 2, 3), (12, 2, 3)] [5, 38, 46, 48] []) σ0 y0 → zpc (k31 y0 y1 y2 y3 y4) (fun r => (zQ [3, 5, 7, 9, 10, 15, 17, 19, 21, 23, 25, 27, 28, 29, 30, 32, 34, 36, 40, 42, 44, 45] [(11, 2, 3), (12, 2, 3)] [5, 38, 46, 48] []) σ0 (r))) {σ : zSt} {x1 : Int32} {x2 : Int32} {x3 : Int32} {x4 : Int32} (h : (zQ [3, 5, 7, 9, 10, 15, 17, 19, 21, 23, 25, 27, 28, 29, 30, 32, 34, 36, 40, 42, 44, 45] [(11, 2, 3), (12, 2, 3)] [5, 38, 46, 48] []) σ0 σ) : zpc (fX3_drawOld_165 k31 σ x1 x2 x3 x4) (fun r => (zQ [3, 5, 7, 9, 10, 15, 17, 19, 21, 23, 25, 27, 28, 29, 30, 32, 34, 36, 40, 42, 44, 45] [(11, 2, 3), (12, 2, 3)] [5, 38, 46, 48] []) σ0 (r)) := by
  unfold fX3_drawOld_165
  exact zpc_bv (fun v1 _ => hk31 _ _ _ _ _ h)
theorem fe_fX3_drawOld_31_body {σ0 : zSt} {k31 : zSt → Int32 → Int32 → Int32 → Int32 → Option (zSt)} (hk31 : ∀ (y0 : zSt) (y1 : Int32) (y2 : Int32) (y3 : Int32) (y4 : Int32), (zQ [3, 5, 7, 9, 10, 15, 17, 19, 21, 23, 25, 27, 28, 29, 30, 32, 34, 36, 40, 42, 44, 45] [(11, 2, 3), (12, 2, 3)] [5, 38, 46, 48] []) σ0 y0 → zpc (k31 y0 y1 y2 y3 y4) (fun r => (zQ [3, 5, 7, 9, 10, 15, 17, 19, 21, 23, 25, 27, 28, 29, 30, 32, 34, 36, 40, 42, 44, 45] [(11, 2, 3), (12, 2, 3)] [5, 38, 46, 48] []) σ0 (r))) {σ : zSt} {x1 : Int32} {x2 : Int32} {x3 : Int32} {x4 : Int32} (h : (zQ [3, 5, 7, 9, 10, 15, 17, 19, 21, 23, 25, 27, 28, 29, 30, 32, 34, 36, 40, 42, 44, 45] [(11, 2, 3), (12, 2, 3)] [5, 38, 46, 48] []) σ0 σ) : zpc (fX3_drawOld_31_body k31 σ x1 x2 x3 x4) (fun r => (zQ [3, 5, 7, 9, 10, 15, 17, 19, 21, 23, 25, 27, 28, 29, 30, 32, 34, 36, 40, 42, 44, 45] [(11, 2, 3), (12, 2, 3)] [5, 38, 46, 48] []) σ0 (r)) := by
  unfold fX3_drawOld_31_body
  exact zpc_if (fun _ => zpc_some h) (fun _ => zpc_bi (fe_fX9_vramByte h) (fun σ2 v3 hσ2 => zpc_if (fun _ => zpc_bi (fe_fX3_patternAt hσ2) (fun σ4 v5 hσ4 => zpc_bi (fe_fX9_held hσ4) (fun σ6 v7 hσ6 => zpc_bi (fe_fX9_vramByte hσ6) (fun σ8 v9 hσ8 => zpc_bu (fe_fX3_drawPattern hσ8) (fun σ10 hσ10 => fe_fX3_drawOld_165 hk31 hσ10))))) (fun _ => zpc_if (fun _ => zpc_bu (fe_fX3_drawThird hσ2) (fun σ11 hσ11 => fe_fX3_drawOld_165 hk31 hσ11)) (fun _ => zpc_bu (fe_fX3_drawBlocks hσ2) (fun σ12 hσ12 => fe_fX3_drawOld_165 hk31 hσ12)))))
theorem fe_fX3_drawOld_31 {σ0 : zSt} : ∀ (n : Nat) (y0 : zSt) (y1 : Int32) (y2 : Int32) (y3 : Int32) (y4 : Int32), (zQ [3, 5, 7, 9, 10, 15, 17, 19, 21, 23, 25, 27, 28, 29, 30, 32, 34, 36, 40, 42, 44, 45] [(11, 2, 3), (12, 2, 3)] [5, 38, 46, 48] []) σ0 y0 → zpc (fX3_drawOld_31 n y0 y1 y2 y3 y4) (fun r => (zQ [3, 5, 7, 9, 10, 15, 17, 19, 21, 23, 25, 27, 28, 29, 30, 32, 34, 36, 40, 42, 44, 45] [(11, 2, 3), (12, 2, 3)] [5, 38, 46, 48] []) σ0 (r)) := by
  intro n
  induction n with
  | zero => intro y0 y1 y2 y3 y4 h; exact zpc_none
  | succ n ih => intro y0 y1 y2 y3 y4 h; exact fe_fX3_drawOld_31_body ih h
theorem fe_fX3_drawOld {σ0 : zSt} {σ : zSt} {x1 : Int32} {x2 : Int32} (h : (zQ [3, 5, 7, 9, 10, 15, 17, 19, 21, 23, 25, 27, 28, 29, 30, 32, 34, 36, 40, 42, 44, 45] [(11, 2, 3), (12, 2, 3)] [5, 38, 46, 48] []) σ0 σ) : zpc (fX3_drawOld σ x1 x2) (fun r => (zQ [3, 5, 7, 9, 10, 15, 17, 19, 21, 23, 25, 27, 28, 29, 30, 32, 34, 36, 40, 42, 44, 45] [(11, 2, 3), (12, 2, 3)] [5, 38, 46, 48] []) σ0 (r)) := by
  unfold fX3_drawOld
  exact zpc_bi (fe_fX9_held h) (fun σ13 v14 hσ13 => zpc_bv (fun v15 _ => zpc_if (fun _ => zpc_bu (fe_fX3_drawText hσ13) (fun σ16 hσ16 => zpc_some hσ16)) (fun _ => fe_fX3_drawOld_31 _ _ _ _ _ _ hσ13)))
theorem fe_fX9_markFifth_39 {σ0 : zSt} {σ : zSt} (h : (zQ [3, 5, 7, 9, 10, 15, 17, 19, 21, 23, 25, 27, 28, 29, 30, 32, 34, 36, 40, 42, 44, 45] [(11, 2, 3), (12, 2, 3)] [5, 38, 46, 48] []) σ0 σ) : zpc (fX9_markFifth_39 σ) (fun r => (zQ [3, 5, 7, 9, 10, 15, 17, 19, 21, 23, 25, 27, 28, 29, 30, 32, 34, 36, 40, 42, 44, 45] [(11, 2, 3), (12, 2, 3)] [5, 38, 46, 48] []) σ0 (r)) := by
  unfold fX9_markFifth_39
  exact zpc_some h
theorem fe_fX9_markFifth {σ0 : zSt} {σ : zSt} {x1 : Int32} (h : (zQ [3, 5, 7, 9, 10, 15, 17, 19, 21, 23, 25, 27, 28, 29, 30, 32, 34, 36, 40, 42, 44, 45] [(11, 2, 3), (12, 2, 3)] [5, 38, 46, 48] []) σ0 σ) : zpc (fX9_markFifth σ x1) (fun r => (zQ [3, 5, 7, 9, 10, 15, 17, 19, 21, 23, 25, 27, 28, 29, 30, 32, 34, 36, 40, 42, 44, 45] [(11, 2, 3), (12, 2, 3)] [5, 38, 46, 48] []) σ0 (r)) := by
  unfold fX9_markFifth
  exact zpc_ck (zpc_if (fun _ => zpc_ck (zpc_ck (zpc_bs (zQ.wi h rfl) (fun σ1 hσ1 => fe_fX9_markFifth_39 hσ1)))) (fun _ => fe_fX9_markFifth_39 h))
theorem fe_fX3_takeDot_41 {σ0 : zSt} {σ : zSt} (h : (zQ [3, 5, 7, 9, 10, 15, 17, 19, 21, 23, 25, 27, 28, 29, 30, 32, 34, 36, 40, 42, 44, 45] [(11, 2, 3), (12, 2, 3)] [5, 38, 46, 48] []) σ0 σ) : zpc (fX3_takeDot_41 σ) (fun r => (zQ [3, 5, 7, 9, 10, 15, 17, 19, 21, 23, 25, 27, 28, 29, 30, 32, 34, 36, 40, 42, 44, 45] [(11, 2, 3), (12, 2, 3)] [5, 38, 46, 48] []) σ0 (r)) := by
  unfold fX3_takeDot_41
  exact zpc_some h
theorem fe_fX3_takeDot_18 {σ0 : zSt} {σ : zSt} {x1 : Int32} {x2 : Int32} (h : (zQ [3, 5, 7, 9, 10, 15, 17, 19, 21, 23, 25, 27, 28, 29, 30, 32, 34, 36, 40, 42, 44, 45] [(11, 2, 3), (12, 2, 3)] [5, 38, 46, 48] []) σ0 σ) : zpc (fX3_takeDot_18 σ x1 x2) (fun r => (zQ [3, 5, 7, 9, 10, 15, 17, 19, 21, 23, 25, 27, 28, 29, 30, 32, 34, 36, 40, 42, 44, 45] [(11, 2, 3), (12, 2, 3)] [5, 38, 46, 48] []) σ0 (r)) := by
  unfold fX3_takeDot_18
  exact zpc_ck (zpc_if (fun _ => zpc_ck (zpc_bs (zQ.wi h rfl) (fun σ1 hσ1 => fe_fX3_takeDot_41 hσ1))) (fun _ => fe_fX3_takeDot_41 h))
theorem fe_fX3_takeDot {σ0 : zSt} {σ : zSt} {x1 : Int32} {x2 : Int32} (h : (zQ [3, 5, 7, 9, 10, 15, 17, 19, 21, 23, 25, 27, 28, 29, 30, 32, 34, 36, 40, 42, 44, 45] [(11, 2, 3), (12, 2, 3)] [5, 38, 46, 48] []) σ0 σ) : zpc (fX3_takeDot σ x1 x2) (fun r => (zQ [3, 5, 7, 9, 10, 15, 17, 19, 21, 23, 25, 27, 28, 29, 30, 32, 34, 36, 40, 42, 44, 45] [(11, 2, 3), (12, 2, 3)] [5, 38, 46, 48] []) σ0 (r)) := by
  unfold fX3_takeDot
  exact zpc_ck (zpc_if (fun _ => fe_fX3_takeDot_18 h) (fun _ => zpc_bu (fe_fX9_mark h) (fun σ2 hσ2 => fe_fX3_takeDot_18 hσ2)))
theorem fe_fX3_drawOldSprite_224 {σ0 : zSt} {k158 : zSt → Int32 → Int32 → Int32 → Int32 → Int32 → Int32 → Option (zSt)} (hk158 : ∀ (y0 : zSt) (y1 : Int32) (y2 : Int32) (y3 : Int32) (y4 : Int32) (y5 : Int32) (y6 : Int32), (zQ [3, 5, 7, 9, 10, 15, 17, 19, 21, 23, 25, 27, 28, 29, 30, 32, 34, 36, 40, 42, 44, 45] [(11, 2, 3), (12, 2, 3)] [5, 38, 46, 48] []) σ0 y0 → zpc (k158 y0 y1 y2 y3 y4 y5 y6) (fun r => (zQ [3, 5, 7, 9, 10, 15, 17, 19, 21, 23, 25, 27, 28, 29, 30, 32, 34, 36, 40, 42, 44, 45] [(11, 2, 3), (12, 2, 3)] [5, 38, 46, 48] []) σ0 (r))) {σ : zSt} {x3 : Int32} {x4 : Int32} {x7 : Int32} {x8 : Int32} {x10 : Int32} {x11 : Int32} (h : (zQ [3, 5, 7, 9, 10, 15, 17, 19, 21, 23, 25, 27, 28, 29, 30, 32, 34, 36, 40, 42, 44, 45] [(11, 2, 3), (12, 2, 3)] [5, 38, 46, 48] []) σ0 σ) : zpc (fX3_drawOldSprite_224 k158 σ x3 x4 x7 x8 x10 x11) (fun r => (zQ [3, 5, 7, 9, 10, 15, 17, 19, 21, 23, 25, 27, 28, 29, 30, 32, 34, 36, 40, 42, 44, 45] [(11, 2, 3), (12, 2, 3)] [5, 38, 46, 48] []) σ0 (r)) := by
  unfold fX3_drawOldSprite_224
  exact zpc_bv (fun v1 _ => hk158 _ _ _ _ _ _ _ h)
theorem fe_fX3_drawOldSprite_172 {σ0 : zSt} {k158 : zSt → Int32 → Int32 → Int32 → Int32 → Int32 → Int32 → Option (zSt)} (hk158 : ∀ (y0 : zSt) (y1 : Int32) (y2 : Int32) (y3 : Int32) (y4 : Int32) (y5 : Int32) (y6 : Int32), (zQ [3, 5, 7, 9, 10, 15, 17, 19, 21, 23, 25, 27, 28, 29, 30, 32, 34, 36, 40, 42, 44, 45] [(11, 2, 3), (12, 2, 3)] [5, 38, 46, 48] []) σ0 y0 → zpc (k158 y0 y1 y2 y3 y4 y5 y6) (fun r => (zQ [3, 5, 7, 9, 10, 15, 17, 19, 21, 23, 25, 27, 28, 29, 30, 32, 34, 36, 40, 42, 44, 45] [(11, 2, 3), (12, 2, 3)] [5, 38, 46, 48] []) σ0 (r))) {σ : zSt} {x3 : Int32} {x4 : Int32} {x7 : Int32} {x8 : Int32} {x10 : Int32} {x11 : Int32} {s0 : Int32} {s1 : Int32} (h : (zQ [3, 5, 7, 9, 10, 15, 17, 19, 21, 23, 25, 27, 28, 29, 30, 32, 34, 36, 40, 42, 44, 45] [(11, 2, 3), (12, 2, 3)] [5, 38, 46, 48] []) σ0 σ) : zpc (fX3_drawOldSprite_172 k158 σ x3 x4 x7 x8 x10 x11 s0 s1) (fun r => (zQ [3, 5, 7, 9, 10, 15, 17, 19, 21, 23, 25, 27, 28, 29, 30, 32, 34, 36, 40, 42, 44, 45] [(11, 2, 3), (12, 2, 3)] [5, 38, 46, 48] []) σ0 (r)) := by
  unfold fX3_drawOldSprite_172
  exact zpc_if (fun _ => zpc_some h) (fun _ => zpc_bv (fun v2 _ => zpc_if (fun _ => fe_fX3_drawOldSprite_224 hk158 h) (fun _ => zpc_if (fun _ => fe_fX3_drawOldSprite_224 hk158 h) (fun _ => zpc_if (fun _ => fe_fX3_drawOldSprite_224 hk158 h) (fun _ => zpc_bu (fe_fX3_takeDot h) (fun σ3 hσ3 => fe_fX3_drawOldSprite_224 hk158 hσ3))))))
theorem fe_fX3_drawOldSprite_158_body {σ0 : zSt} {k158 : zSt → Int32 → Int32 → Int32 → Int32 → Int32 → Int32 → Option (zSt)} (hk158 : ∀ (y0 : zSt) (y1 : Int32) (y2 : Int32) (y3 : Int32) (y4 : Int32) (y5 : Int32) (y6 : Int32), (zQ [3, 5, 7, 9, 10, 15, 17, 19, 21, 23, 25, 27, 28, 29, 30, 32, 34, 36, 40, 42, 44, 45] [(11, 2, 3), (12, 2, 3)] [5, 38, 46, 48] []) σ0 y0 → zpc (k158 y0 y1 y2 y3 y4 y5 y6) (fun r => (zQ [3, 5, 7, 9, 10, 15, 17, 19, 21, 23, 25, 27, 28, 29, 30, 32, 34, 36, 40, 42, 44, 45] [(11, 2, 3), (12, 2, 3)] [5, 38, 46, 48] []) σ0 (r))) {σ : zSt} {x3 : Int32} {x4 : Int32} {x7 : Int32} {x8 : Int32} {x10 : Int32} {x11 : Int32} (h : (zQ [3, 5, 7, 9, 10, 15, 17, 19, 21, 23, 25, 27, 28, 29, 30, 32, 34, 36, 40, 42, 44, 45] [(11, 2, 3), (12, 2, 3)] [5, 38, 46, 48] []) σ0 σ) : zpc (fX3_drawOldSprite_158_body k158 σ x3 x4 x7 x8 x10 x11) (fun r => (zQ [3, 5, 7, 9, 10, 15, 17, 19, 21, 23, 25, 27, 28, 29, 30, 32, 34, 36, 40, 42, 44, 45] [(11, 2, 3), (12, 2, 3)] [5, 38, 46, 48] []) σ0 (r)) := by
  unfold fX3_drawOldSprite_158_body
  exact zpc_if (fun _ => fe_fX3_drawOldSprite_172 hk158 h) (fun _ => fe_fX3_drawOldSprite_172 hk158 h)
theorem fe_fX3_drawOldSprite_158 {σ0 : zSt} : ∀ (n : Nat) (y0 : zSt) (y1 : Int32) (y2 : Int32) (y3 : Int32) (y4 : Int32) (y5 : Int32) (y6 : Int32), (zQ [3, 5, 7, 9, 10, 15, 17, 19, 21, 23, 25, 27, 28, 29, 30, 32, 34, 36, 40, 42, 44, 45] [(11, 2, 3), (12, 2, 3)] [5, 38, 46, 48] []) σ0 y0 → zpc (fX3_drawOldSprite_158 n y0 y1 y2 y3 y4 y5 y6) (fun r => (zQ [3, 5, 7, 9, 10, 15, 17, 19, 21, 23, 25, 27, 28, 29, 30, 32, 34, 36, 40, 42, 44, 45] [(11, 2, 3), (12, 2, 3)] [5, 38, 46, 48] []) σ0 (r)) := by
  intro n
  induction n with
  | zero => intro y0 y1 y2 y3 y4 y5 y6 h; exact zpc_none
  | succ n ih => intro y0 y1 y2 y3 y4 y5 y6 h; exact fe_fX3_drawOldSprite_158_body ih h
theorem fe_fX3_drawOldSprite_152 {σ0 : zSt} {σ : zSt} {x3 : Int32} {x4 : Int32} {x7 : Int32} {x8 : Int32} {s0 : Int32} {s1 : Int32} (h : (zQ [3, 5, 7, 9, 10, 15, 17, 19, 21, 23, 25, 27, 28, 29, 30, 32, 34, 36, 40, 42, 44, 45] [(11, 2, 3), (12, 2, 3)] [5, 38, 46, 48] []) σ0 σ) : zpc (fX3_drawOldSprite_152 σ x3 x4 x7 x8 s0 s1) (fun r => (zQ [3, 5, 7, 9, 10, 15, 17, 19, 21, 23, 25, 27, 28, 29, 30, 32, 34, 36, 40, 42, 44, 45] [(11, 2, 3), (12, 2, 3)] [5, 38, 46, 48] []) σ0 (r)) := by
  unfold fX3_drawOldSprite_152
  exact zpc_bv (fun v4 _ => fe_fX3_drawOldSprite_158 _ _ _ _ _ _ _ _ h)
theorem fe_fX3_drawOldSprite_113 {σ0 : zSt} {σ : zSt} {x2 : Int32} {x3 : Int32} {x4 : Int32} {x7 : Int32} {x8 : Int32} {s0 : Int32} {s1 : Int32} {s2 : Int32} (h : (zQ [3, 5, 7, 9, 10, 15, 17, 19, 21, 23, 25, 27, 28, 29, 30, 32, 34, 36, 40, 42, 44, 45] [(11, 2, 3), (12, 2, 3)] [5, 38, 46, 48] []) σ0 σ) : zpc (fX3_drawOldSprite_113 σ x2 x3 x4 x7 x8 s0 s1 s2) (fun r => (zQ [3, 5, 7, 9, 10, 15, 17, 19, 21, 23, 25, 27, 28, 29, 30, 32, 34, 36, 40, 42, 44, 45] [(11, 2, 3), (12, 2, 3)] [5, 38, 46, 48] []) σ0 (r)) := by
  unfold fX3_drawOldSprite_113
  exact zpc_bv (fun v5 _ => zpc_bi (fe_fX9_vramByte h) (fun σ6 v7 hσ6 => zpc_if (fun _ => fe_fX3_drawOldSprite_152 hσ6) (fun _ => zpc_bi (fe_fX9_vramByte hσ6) (fun σ8 v9 hσ8 => fe_fX3_drawOldSprite_152 hσ8))))
theorem fe_fX3_drawOldSprite_78 {σ0 : zSt} {σ : zSt} {x2 : Int32} {x3 : Int32} {x4 : Int32} {x5 : Int32} {x7 : Int32} {s0 : Int32} (h : (zQ [3, 5, 7, 9, 10, 15, 17, 19, 21, 23, 25, 27, 28, 29, 30, 32, 34, 36, 40, 42, 44, 45] [(11, 2, 3), (12, 2, 3)] [5, 38, 46, 48] []) σ0 σ) : zpc (fX3_drawOldSprite_78 σ x2 x3 x4 x5 x7 s0) (fun r => (zQ [3, 5, 7, 9, 10, 15, 17, 19, 21, 23, 25, 27, 28, 29, 30, 32, 34, 36, 40, 42, 44, 45] [(11, 2, 3), (12, 2, 3)] [5, 38, 46, 48] []) σ0 (r)) := by
  unfold fX3_drawOldSprite_78
  exact zpc_bi (fe_fX9_held h) (fun σ10 v11 hσ10 => zpc_if (fun _ => fe_fX3_drawOldSprite_113 hσ10) (fun _ => fe_fX3_drawOldSprite_113 hσ10))
theorem fe_fX3_drawOldSprite_35 {σ0 : zSt} {σ : zSt} {x1 : Int32} {x2 : Int32} {x3 : Int32} {s0 : Int32} {s1 : Int32} (h : (zQ [3, 5, 7, 9, 10, 15, 17, 19, 21, 23, 25, 27, 28, 29, 30, 32, 34, 36, 40, 42, 44, 45] [(11, 2, 3), (12, 2, 3)] [5, 38, 46, 48] []) σ0 σ) : zpc (fX3_drawOldSprite_35 σ x1 x2 x3 s0 s1) (fun r => (zQ [3, 5, 7, 9, 10, 15, 17, 19, 21, 23, 25, 27, 28, 29, 30, 32, 34, 36, 40, 42, 44, 45] [(11, 2, 3), (12, 2, 3)] [5, 38, 46, 48] []) σ0 (r)) := by
  unfold fX3_drawOldSprite_35
  exact zpc_bv (fun v12 _ => zpc_bi (fe_fX9_vramByte h) (fun σ13 v14 hσ13 => zpc_bi (fe_fX9_held hσ13) (fun σ15 v16 hσ15 => zpc_bv (fun v17 _ => zpc_if (fun _ => fe_fX3_drawOldSprite_78 hσ15) (fun _ => fe_fX3_drawOldSprite_78 hσ15)))))
theorem fe_fX3_drawOldSprite {σ0 : zSt} {σ : zSt} {x1 : Int32} {x2 : Int32} (h : (zQ [3, 5, 7, 9, 10, 15, 17, 19, 21, 23, 25, 27, 28, 29, 30, 32, 34, 36, 40, 42, 44, 45] [(11, 2, 3), (12, 2, 3)] [5, 38, 46, 48] []) σ0 σ) : zpc (fX3_drawOldSprite σ x1 x2) (fun r => (zQ [3, 5, 7, 9, 10, 15, 17, 19, 21, 23, 25, 27, 28, 29, 30, 32, 34, 36, 40, 42, 44, 45] [(11, 2, 3), (12, 2, 3)] [5, 38, 46, 48] []) σ0 (r)) := by
  unfold fX3_drawOldSprite
  exact zpc_bi (fe_fX9_vramByte h) (fun σ18 v19 hσ18 => zpc_bi (fe_fX9_vramByte hσ18) (fun σ20 v21 hσ20 => zpc_if (fun _ => fe_fX3_drawOldSprite_35 hσ20) (fun _ => fe_fX3_drawOldSprite_35 hσ20)))
theorem fe_fX3_drawOldSprites_155 {σ0 : zSt} {k117 : zSt → Int32 → Option (zSt)} (hk117 : ∀ (y0 : zSt) (y1 : Int32), (zQ [3, 5, 7, 9, 10, 15, 17, 19, 21, 23, 25, 27, 28, 29, 30, 32, 34, 36, 40, 42, 44, 45] [(11, 2, 3), (12, 2, 3)] [5, 38, 46, 48] []) σ0 y0 → zpc (k117 y0 y1) (fun r => (zQ [3, 5, 7, 9, 10, 15, 17, 19, 21, 23, 25, 27, 28, 29, 30, 32, 34, 36, 40, 42, 44, 45] [(11, 2, 3), (12, 2, 3)] [5, 38, 46, 48] []) σ0 (r))) {σ : zSt} {x4 : Int32} (h : (zQ [3, 5, 7, 9, 10, 15, 17, 19, 21, 23, 25, 27, 28, 29, 30, 32, 34, 36, 40, 42, 44, 45] [(11, 2, 3), (12, 2, 3)] [5, 38, 46, 48] []) σ0 σ) : zpc (fX3_drawOldSprites_155 k117 σ x4) (fun r => (zQ [3, 5, 7, 9, 10, 15, 17, 19, 21, 23, 25, 27, 28, 29, 30, 32, 34, 36, 40, 42, 44, 45] [(11, 2, 3), (12, 2, 3)] [5, 38, 46, 48] []) σ0 (r)) := by
  unfold fX3_drawOldSprites_155
  exact zpc_bv (fun v1 _ => hk117 _ _ h)
theorem fe_fX3_drawOldSprites_117_body {σ0 : zSt} {k117 : zSt → Int32 → Option (zSt)} (hk117 : ∀ (y0 : zSt) (y1 : Int32), (zQ [3, 5, 7, 9, 10, 15, 17, 19, 21, 23, 25, 27, 28, 29, 30, 32, 34, 36, 40, 42, 44, 45] [(11, 2, 3), (12, 2, 3)] [5, 38, 46, 48] []) σ0 y0 → zpc (k117 y0 y1) (fun r => (zQ [3, 5, 7, 9, 10, 15, 17, 19, 21, 23, 25, 27, 28, 29, 30, 32, 34, 36, 40, 42, 44, 45] [(11, 2, 3), (12, 2, 3)] [5, 38, 46, 48] []) σ0 (r))) {σ : zSt} {x4 : Int32} (h : (zQ [3, 5, 7, 9, 10, 15, 17, 19, 21, 23, 25, 27, 28, 29, 30, 32, 34, 36, 40, 42, 44, 45] [(11, 2, 3), (12, 2, 3)] [5, 38, 46, 48] []) σ0 σ) : zpc (fX3_drawOldSprites_117_body k117 σ x4) (fun r => (zQ [3, 5, 7, 9, 10, 15, 17, 19, 21, 23, 25, 27, 28, 29, 30, 32, 34, 36, 40, 42, 44, 45] [(11, 2, 3), (12, 2, 3)] [5, 38, 46, 48] []) σ0 (r)) := by
  unfold fX3_drawOldSprites_117_body
  exact zpc_if (fun _ => zpc_some h) (fun _ => zpc_ck (zpc_if (fun _ => fe_fX3_drawOldSprites_155 hk117 h) (fun _ => zpc_ck (zpc_ck (zpc_bs (zQ.wi h rfl) (fun σ2 hσ2 => fe_fX3_drawOldSprites_155 hk117 hσ2))))))
theorem fe_fX3_drawOldSprites_117 {σ0 : zSt} : ∀ (n : Nat) (y0 : zSt) (y1 : Int32), (zQ [3, 5, 7, 9, 10, 15, 17, 19, 21, 23, 25, 27, 28, 29, 30, 32, 34, 36, 40, 42, 44, 45] [(11, 2, 3), (12, 2, 3)] [5, 38, 46, 48] []) σ0 y0 → zpc (fX3_drawOldSprites_117 n y0 y1) (fun r => (zQ [3, 5, 7, 9, 10, 15, 17, 19, 21, 23, 25, 27, 28, 29, 30, 32, 34, 36, 40, 42, 44, 45] [(11, 2, 3), (12, 2, 3)] [5, 38, 46, 48] []) σ0 (r)) := by
  intro n
  induction n with
  | zero => intro y0 y1 h; exact zpc_none
  | succ n ih => intro y0 y1 h; exact fe_fX3_drawOldSprites_117_body ih h
theorem fe_fX3_drawOldSprites_114 {σ0 : zSt} {σ : zSt} (h : (zQ [3, 5, 7, 9, 10, 15, 17, 19, 21, 23, 25, 27, 28, 29, 30, 32, 34, 36, 40, 42, 44, 45] [(11, 2, 3), (12, 2, 3)] [5, 38, 46, 48] []) σ0 σ) : zpc (fX3_drawOldSprites_114 σ) (fun r => (zQ [3, 5, 7, 9, 10, 15, 17, 19, 21, 23, 25, 27, 28, 29, 30, 32, 34, 36, 40, 42, 44, 45] [(11, 2, 3), (12, 2, 3)] [5, 38, 46, 48] []) σ0 (r)) := by
  unfold fX3_drawOldSprites_114
  exact fe_fX3_drawOldSprites_117 _ _ _ h
theorem fe_fX3_drawOldSprites_108 {σ0 : zSt} {k29 : zSt → Int32 → Int32 → Int32 → Int32 → Option (zSt)} (hk29 : ∀ (y0 : zSt) (y1 : Int32) (y2 : Int32) (y3 : Int32) (y4 : Int32), (zQ [3, 5, 7, 9, 10, 15, 17, 19, 21, 23, 25, 27, 28, 29, 30, 32, 34, 36, 40, 42, 44, 45] [(11, 2, 3), (12, 2, 3)] [5, 38, 46, 48] []) σ0 y0 → zpc (k29 y0 y1 y2 y3 y4) (fun r => (zQ [3, 5, 7, 9, 10, 15, 17, 19, 21, 23, 25, 27, 28, 29, 30, 32, 34, 36, 40, 42, 44, 45] [(11, 2, 3), (12, 2, 3)] [5, 38, 46, 48] []) σ0 (r))) {σ : zSt} {x1 : Int32} {x2 : Int32} {x3 : Int32} {x4 : Int32} (h : (zQ [3, 5, 7, 9, 10, 15, 17, 19, 21, 23, 25, 27, 28, 29, 30, 32, 34, 36, 40, 42, 44, 45] [(11, 2, 3), (12, 2, 3)] [5, 38, 46, 48] []) σ0 σ) : zpc (fX3_drawOldSprites_108 k29 σ x1 x2 x3 x4) (fun r => (zQ [3, 5, 7, 9, 10, 15, 17, 19, 21, 23, 25, 27, 28, 29, 30, 32, 34, 36, 40, 42, 44, 45] [(11, 2, 3), (12, 2, 3)] [5, 38, 46, 48] []) σ0 (r)) := by
  unfold fX3_drawOldSprites_108
  exact zpc_bv (fun v3 _ => hk29 _ _ _ _ _ h)
theorem fe_fX3_drawOldSprites_29_body {σ0 : zSt} {k29 : zSt → Int32 → Int32 → Int32 → Int32 → Option (zSt)} (hk29 : ∀ (y0 : zSt) (y1 : Int32) (y2 : Int32) (y3 : Int32) (y4 : Int32), (zQ [3, 5, 7, 9, 10, 15, 17, 19, 21, 23, 25, 27, 28, 29, 30, 32, 34, 36, 40, 42, 44, 45] [(11, 2, 3), (12, 2, 3)] [5, 38, 46, 48] []) σ0 y0 → zpc (k29 y0 y1 y2 y3 y4) (fun r => (zQ [3, 5, 7, 9, 10, 15, 17, 19, 21, 23, 25, 27, 28, 29, 30, 32, 34, 36, 40, 42, 44, 45] [(11, 2, 3), (12, 2, 3)] [5, 38, 46, 48] []) σ0 (r))) {σ : zSt} {x1 : Int32} {x2 : Int32} {x3 : Int32} {x4 : Int32} (h : (zQ [3, 5, 7, 9, 10, 15, 17, 19, 21, 23, 25, 27, 28, 29, 30, 32, 34, 36, 40, 42, 44, 45] [(11, 2, 3), (12, 2, 3)] [5, 38, 46, 48] []) σ0 σ) : zpc (fX3_drawOldSprites_29_body k29 σ x1 x2 x3 x4) (fun r => (zQ [3, 5, 7, 9, 10, 15, 17, 19, 21, 23, 25, 27, 28, 29, 30, 32, 34, 36, 40, 42, 44, 45] [(11, 2, 3), (12, 2, 3)] [5, 38, 46, 48] []) σ0 (r)) := by
  unfold fX3_drawOldSprites_29_body
  exact zpc_if (fun _ => fe_fX3_drawOldSprites_114 h) (fun _ => zpc_bv (fun v4 _ => zpc_bi (fe_fX9_vramByte h) (fun σ5 v6 hσ5 => zpc_if (fun _ => fe_fX3_drawOldSprites_114 hσ5) (fun _ => zpc_bi (fe_fX3_rowOfSprite hσ5) (fun σ7 v8 hσ7 => zpc_if (fun _ => fe_fX3_drawOldSprites_108 hk29 hσ7) (fun _ => zpc_bv (fun v9 _ => zpc_if (fun _ => zpc_bu (fe_fX3_drawOldSprite hσ7) (fun σ10 hσ10 => fe_fX3_drawOldSprites_108 hk29 hσ10)) (fun _ => zpc_bu (fe_fX9_markFifth hσ7) (fun σ11 hσ11 => fe_fX3_drawOldSprites_114 hσ11)))))))))
theorem fe_fX3_drawOldSprites_29 {σ0 : zSt} : ∀ (n : Nat) (y0 : zSt) (y1 : Int32) (y2 : Int32) (y3 : Int32) (y4 : Int32), (zQ [3, 5, 7, 9, 10, 15, 17, 19, 21, 23, 25, 27, 28, 29, 30, 32, 34, 36, 40, 42, 44, 45] [(11, 2, 3), (12, 2, 3)] [5, 38, 46, 48] []) σ0 y0 → zpc (fX3_drawOldSprites_29 n y0 y1 y2 y3 y4) (fun r => (zQ [3, 5, 7, 9, 10, 15, 17, 19, 21, 23, 25, 27, 28, 29, 30, 32, 34, 36, 40, 42, 44, 45] [(11, 2, 3), (12, 2, 3)] [5, 38, 46, 48] []) σ0 (r)) := by
  intro n
  induction n with
  | zero => intro y0 y1 y2 y3 y4 h; exact zpc_none
  | succ n ih => intro y0 y1 y2 y3 y4 h; exact fe_fX3_drawOldSprites_29_body ih h
theorem fe_fX3_drawOldSprites {σ0 : zSt} {σ : zSt} {x1 : Int32} (h : (zQ [3, 5, 7, 9, 10, 15, 17, 19, 21, 23, 25, 27, 28, 29, 30, 32, 34, 36, 40, 42, 44, 45] [(11, 2, 3), (12, 2, 3)] [5, 38, 46, 48] []) σ0 σ) : zpc (fX3_drawOldSprites σ x1) (fun r => (zQ [3, 5, 7, 9, 10, 15, 17, 19, 21, 23, 25, 27, 28, 29, 30, 32, 34, 36, 40, 42, 44, 45] [(11, 2, 3), (12, 2, 3)] [5, 38, 46, 48] []) σ0 (r)) := by
  unfold fX3_drawOldSprites
  exact zpc_bu (fe_fJ7_fill_53178_k28 h) (fun σ12 hσ12 => zpc_bi (fe_fX9_held hσ12) (fun σ13 v14 hσ13 => zpc_bv (fun v15 _ => fe_fX3_drawOldSprites_29 _ _ _ _ _ _ hσ13)))
theorem fe_fX3_fillBack_25 {σ0 : zSt} {k2 : zSt → Int32 → Int32 → Option (zSt)} (hk2 : ∀ (y0 : zSt) (y1 : Int32) (y2 : Int32), (zQ [3, 5, 7, 9, 10, 15, 17, 19, 21, 23, 25, 27, 28, 29, 30, 32, 34, 36, 40, 42, 44, 45] [(11, 2, 3), (12, 2, 3)] [5, 38, 46, 48] []) σ0 y0 → zpc (k2 y0 y1 y2) (fun r => (zQ [3, 5, 7, 9, 10, 15, 17, 19, 21, 23, 25, 27, 28, 29, 30, 32, 34, 36, 40, 42, 44, 45] [(11, 2, 3), (12, 2, 3)] [5, 38, 46, 48] []) σ0 (r))) {σ : zSt} {x1 : Int32} {x2 : Int32} (h : (zQ [3, 5, 7, 9, 10, 15, 17, 19, 21, 23, 25, 27, 28, 29, 30, 32, 34, 36, 40, 42, 44, 45] [(11, 2, 3), (12, 2, 3)] [5, 38, 46, 48] []) σ0 σ) : zpc (fX3_fillBack_25 k2 σ x1 x2) (fun r => (zQ [3, 5, 7, 9, 10, 15, 17, 19, 21, 23, 25, 27, 28, 29, 30, 32, 34, 36, 40, 42, 44, 45] [(11, 2, 3), (12, 2, 3)] [5, 38, 46, 48] []) σ0 (r)) := by
  unfold fX3_fillBack_25
  exact zpc_bv (fun v1 _ => hk2 _ _ _ h)
theorem fe_fX3_fillBack_2_body {σ0 : zSt} {k2 : zSt → Int32 → Int32 → Option (zSt)} (hk2 : ∀ (y0 : zSt) (y1 : Int32) (y2 : Int32), (zQ [3, 5, 7, 9, 10, 15, 17, 19, 21, 23, 25, 27, 28, 29, 30, 32, 34, 36, 40, 42, 44, 45] [(11, 2, 3), (12, 2, 3)] [5, 38, 46, 48] []) σ0 y0 → zpc (k2 y0 y1 y2) (fun r => (zQ [3, 5, 7, 9, 10, 15, 17, 19, 21, 23, 25, 27, 28, 29, 30, 32, 34, 36, 40, 42, 44, 45] [(11, 2, 3), (12, 2, 3)] [5, 38, 46, 48] []) σ0 (r))) {σ : zSt} {x1 : Int32} {x2 : Int32} (h : (zQ [3, 5, 7, 9, 10, 15, 17, 19, 21, 23, 25, 27, 28, 29, 30, 32, 34, 36, 40, 42, 44, 45] [(11, 2, 3), (12, 2, 3)] [5, 38, 46, 48] []) σ0 σ) : zpc (fX3_fillBack_2_body k2 σ x1 x2) (fun r => (zQ [3, 5, 7, 9, 10, 15, 17, 19, 21, 23, 25, 27, 28, 29, 30, 32, 34, 36, 40, 42, 44, 45] [(11, 2, 3), (12, 2, 3)] [5, 38, 46, 48] []) σ0 (r)) := by
  unfold fX3_fillBack_2_body
  exact zpc_if (fun _ => zpc_some h) (fun _ => zpc_ck (zpc_if (fun _ => zpc_ck (zpc_bs (zQ.wi h rfl) (fun σ2 hσ2 => fe_fX3_fillBack_25 hk2 hσ2))) (fun _ => fe_fX3_fillBack_25 hk2 h)))
theorem fe_fX3_fillBack_2 {σ0 : zSt} : ∀ (n : Nat) (y0 : zSt) (y1 : Int32) (y2 : Int32), (zQ [3, 5, 7, 9, 10, 15, 17, 19, 21, 23, 25, 27, 28, 29, 30, 32, 34, 36, 40, 42, 44, 45] [(11, 2, 3), (12, 2, 3)] [5, 38, 46, 48] []) σ0 y0 → zpc (fX3_fillBack_2 n y0 y1 y2) (fun r => (zQ [3, 5, 7, 9, 10, 15, 17, 19, 21, 23, 25, 27, 28, 29, 30, 32, 34, 36, 40, 42, 44, 45] [(11, 2, 3), (12, 2, 3)] [5, 38, 46, 48] []) σ0 (r)) := by
  intro n
  induction n with
  | zero => intro y0 y1 y2 h; exact zpc_none
  | succ n ih => intro y0 y1 y2 h; exact fe_fX3_fillBack_2_body ih h
theorem fe_fX3_fillBack {σ0 : zSt} {σ : zSt} {x1 : Int32} (h : (zQ [3, 5, 7, 9, 10, 15, 17, 19, 21, 23, 25, 27, 28, 29, 30, 32, 34, 36, 40, 42, 44, 45] [(11, 2, 3), (12, 2, 3)] [5, 38, 46, 48] []) σ0 σ) : zpc (fX3_fillBack σ x1) (fun r => (zQ [3, 5, 7, 9, 10, 15, 17, 19, 21, 23, 25, 27, 28, 29, 30, 32, 34, 36, 40, 42, 44, 45] [(11, 2, 3), (12, 2, 3)] [5, 38, 46, 48] []) σ0 (r)) := by
  unfold fX3_fillBack
  exact fe_fX3_fillBack_2 _ _ _ _ h
theorem fe_fX3_draw_21 {σ0 : zSt} {σ : zSt} (h : (zQ [3, 5, 7, 9, 10, 15, 17, 19, 21, 23, 25, 27, 28, 29, 30, 32, 34, 36, 40, 42, 44, 45] [(11, 2, 3), (12, 2, 3)] [5, 38, 46, 48] []) σ0 σ) : zpc (fX3_draw_21 σ) (fun r => (zQ [3, 5, 7, 9, 10, 15, 17, 19, 21, 23, 25, 27, 28, 29, 30, 32, 34, 36, 40, 42, 44, 45] [(11, 2, 3), (12, 2, 3)] [5, 38, 46, 48] []) σ0 (r)) := by
  unfold fX3_draw_21
  exact zpc_some h
theorem fe_fX3_draw_152_body {σ0 : zSt} {k152 : zSt → Int32 → Int32 → Option (zSt)} (hk152 : ∀ (y0 : zSt) (y1 : Int32) (y2 : Int32), (zQ [3, 5, 7, 9, 10, 15, 17, 19, 21, 23, 25, 27, 28, 29, 30, 32, 34, 36, 40, 42, 44, 45] [(11, 2, 3), (12, 2, 3)] [5, 38, 46, 48] []) σ0 y0 → zpc (k152 y0 y1 y2) (fun r => (zQ [3, 5, 7, 9, 10, 15, 17, 19, 21, 23, 25, 27, 28, 29, 30, 32, 34, 36, 40, 42, 44, 45] [(11, 2, 3), (12, 2, 3)] [5, 38, 46, 48] []) σ0 (r))) {σ : zSt} {x1 : Int32} {x4 : Int32} (h : (zQ [3, 5, 7, 9, 10, 15, 17, 19, 21, 23, 25, 27, 28, 29, 30, 32, 34, 36, 40, 42, 44, 45] [(11, 2, 3), (12, 2, 3)] [5, 38, 46, 48] []) σ0 σ) : zpc (fX3_draw_152_body k152 σ x1 x4) (fun r => (zQ [3, 5, 7, 9, 10, 15, 17, 19, 21, 23, 25, 27, 28, 29, 30, 32, 34, 36, 40, 42, 44, 45] [(11, 2, 3), (12, 2, 3)] [5, 38, 46, 48] []) σ0 (r)) := by
  unfold fX3_draw_152_body
  exact zpc_if (fun _ => zpc_some h) (fun _ => zpc_ck (zpc_ck (zpc_ck (zpc_bs (zQ.wi h rfl) (fun σ1 hσ1 => zpc_bv (fun v2 _ => hk152 _ _ _ hσ1))))))
theorem fe_fX3_draw_152 {σ0 : zSt} : ∀ (n : Nat) (y0 : zSt) (y1 : Int32) (y2 : Int32), (zQ [3, 5, 7, 9, 10, 15, 17, 19, 21, 23, 25, 27, 28, 29, 30, 32, 34, 36, 40, 42, 44, 45] [(11, 2, 3), (12, 2, 3)] [5, 38, 46, 48] []) σ0 y0 → zpc (fX3_draw_152 n y0 y1 y2) (fun r => (zQ [3, 5, 7, 9, 10, 15, 17, 19, 21, 23, 25, 27, 28, 29, 30, 32, 34, 36, 40, 42, 44, 45] [(11, 2, 3), (12, 2, 3)] [5, 38, 46, 48] []) σ0 (r)) := by
  intro n
  induction n with
  | zero => intro y0 y1 y2 h; exact zpc_none
  | succ n ih => intro y0 y1 y2 h; exact fe_fX3_draw_152_body ih h
theorem fe_fX3_draw_144 {σ0 : zSt} {σ : zSt} {x1 : Int32} {x2 : Int32} (h : (zQ [3, 5, 7, 9, 10, 15, 17, 19, 21, 23, 25, 27, 28, 29, 30, 32, 34, 36, 40, 42, 44, 45] [(11, 2, 3), (12, 2, 3)] [5, 38, 46, 48] []) σ0 σ) : zpc (fX3_draw_144 σ x1 x2) (fun r => (zQ [3, 5, 7, 9, 10, 15, 17, 19, 21, 23, 25, 27, 28, 29, 30, 32, 34, 36, 40, 42, 44, 45] [(11, 2, 3), (12, 2, 3)] [5, 38, 46, 48] []) σ0 (r)) := by
  unfold fX3_draw_144
  exact zpc_bu (fe_fX3_mixColours h) (fun σ3 hσ3 => fe_fX3_draw_152 _ _ _ _ hσ3)
theorem fe_fX3_draw_139 {σ0 : zSt} {σ : zSt} {x1 : Int32} {x2 : Int32} {x3 : Int32} (h : (zQ [3, 5, 7, 9, 10, 15, 17, 19, 21, 23, 25, 27, 28, 29, 30, 32, 34, 36, 40, 42, 44, 45] [(11, 2, 3), (12, 2, 3)] [5, 38, 46, 48] []) σ0 σ) : zpc (fX3_draw_139 σ x1 x2 x3) (fun r => (zQ [3, 5, 7, 9, 10, 15, 17, 19, 21, 23, 25, 27, 28, 29, 30, 32, 34, 36, 40, 42, 44, 45] [(11, 2, 3), (12, 2, 3)] [5, 38, 46, 48] []) σ0 (r)) := by
  unfold fX3_draw_139
  exact zpc_bu (fe_fX3_fillBack h) (fun σ4 hσ4 => fe_fX3_draw_144 hσ4)
theorem fe_fX3_draw_41 {σ0 : zSt} {σ : zSt} {x1 : Int32} {x2 : Int32} {s0 : Int32} (h : (zQ [3, 5, 7, 9, 10, 15, 17, 19, 21, 23, 25, 27, 28, 29, 30, 32, 34, 36, 40, 42, 44, 45] [(11, 2, 3), (12, 2, 3)] [5, 38, 46, 48] []) σ0 σ) : zpc (fX3_draw_41 σ x1 x2 s0) (fun r => (zQ [3, 5, 7, 9, 10, 15, 17, 19, 21, 23, 25, 27, 28, 29, 30, 32, 34, 36, 40, 42, 44, 45] [(11, 2, 3), (12, 2, 3)] [5, 38, 46, 48] []) σ0 (r)) := by
  unfold fX3_draw_41
  exact zpc_bi (fe_fX9_held h) (fun σ5 v6 hσ5 => zpc_bv (fun v7 _ => zpc_bi (fe_fX9_held hσ5) (fun σ8 v9 hσ8 => zpc_if (fun _ => zpc_bu (fe_fJ7_fill_53178_k27 hσ8) (fun σ17 hσ17 => fe_fX3_draw_144 hσ17)) (fun _ => zpc_if (fun _ => zpc_bu (fe_fX3_drawTiles hσ8) (fun σ12 hσ12 => zpc_bu (fe_fX3_drawSprites hσ12) (fun σ13 hσ13 => zpc_bi (fe_fX9_held hσ13) (fun σ14 v15 hσ14 => zpc_if (fun _ => fe_fX3_draw_144 hσ14) (fun _ => zpc_bu (fe_fJ7_fill_fda19_k27 hσ14) (fun σ16 hσ16 => fe_fX3_draw_144 hσ16)))))) (fun _ => zpc_bu (fe_fX3_drawOld hσ8) (fun σ10 hσ10 => zpc_if (fun _ => fe_fX3_draw_139 hσ10) (fun _ => zpc_bu (fe_fX3_drawOldSprites hσ10) (fun σ11 hσ11 => fe_fX3_draw_139 hσ11))))))))
theorem fe_fX3_draw {σ0 : zSt} {σ : zSt} (h : (zQ [3, 5, 7, 9, 10, 15, 17, 19, 21, 23, 25, 27, 28, 29, 30, 32, 34, 36, 40, 42, 44, 45] [(11, 2, 3), (12, 2, 3)] [5, 38, 46, 48] []) σ0 σ) : zpc (fX3_draw σ) (fun r => (zQ [3, 5, 7, 9, 10, 15, 17, 19, 21, 23, 25, 27, 28, 29, 30, 32, 34, 36, 40, 42, 44, 45] [(11, 2, 3), (12, 2, 3)] [5, 38, 46, 48] []) σ0 (r)) := by
  unfold fX3_draw
  exact zpc_bi (fe_fX9_held h) (fun σ18 v19 hσ18 => zpc_if (fun _ => fe_fX3_draw_21 hσ18) (fun _ => zpc_if (fun _ => zpc_bi (fe_fX9_mode hσ18) (fun σ20 v21 hσ20 => zpc_if (fun _ => fe_fX3_draw_41 hσ20) (fun _ => fe_fX3_draw_41 hσ20))) (fun _ => fe_fX3_draw_21 hσ18)))
theorem fe_fX4_clear {σ0 : zSt} {σ : zSt} (h : (zQ [3, 5, 7, 9, 10, 15, 17, 19, 21, 23, 25, 27, 28, 29, 30, 32, 34, 36, 40, 42, 44, 45] [(11, 2, 3), (12, 2, 3)] [5, 38, 46, 48] []) σ0 σ) : zpc (fX4_clear σ) (fun r => (zQ [3, 5, 7, 9, 10, 15, 17, 19, 21, 23, 25, 27, 28, 29, 30, 32, 34, 36, 40, 42, 44, 45] [(11, 2, 3), (12, 2, 3)] [5, 38, 46, 48] []) σ0 (r)) := by
  unfold fX4_clear
  exact zpc_ck (zpc_bs (zQ.wi h rfl) (fun σ1 hσ1 => zpc_ck (zpc_bs (zQ.wi hσ1 rfl) (fun σ2 hσ2 => zpc_ck (zpc_bs (zQ.wi hσ2 rfl) (fun σ3 hσ3 => zpc_ck (zpc_bs (zQ.wi hσ3 rfl) (fun σ4 hσ4 => zpc_ck (zpc_bs (zQ.wi hσ4 rfl) (fun σ5 hσ5 => zpc_ck (zpc_bs (zQ.wi hσ5 rfl) (fun σ6 hσ6 => zpc_ck (zpc_bs (zQ.wi hσ6 rfl) (fun σ7 hσ7 => zpc_some hσ7))))))))))))))
theorem fe_fX4_canPress_24 {σ0 : zSt} {σ : zSt} {s0 : Int32} (h : (zQ [3, 5, 7, 9, 10, 15, 17, 19, 21, 23, 25, 27, 28, 29, 30, 32, 34, 36, 40, 42, 44, 45] [(11, 2, 3), (12, 2, 3)] [5, 38, 46, 48] []) σ0 σ) : zpc (fX4_canPress_24 σ s0) (fun r => (zQ [3, 5, 7, 9, 10, 15, 17, 19, 21, 23, 25, 27, 28, 29, 30, 32, 34, 36, 40, 42, 44, 45] [(11, 2, 3), (12, 2, 3)] [5, 38, 46, 48] []) σ0 (r.1)) := by
  unfold fX4_canPress_24
  exact zpc_ck (zpc_some h)
theorem fe_fX4_canPress_23 {σ0 : zSt} {σ : zSt} (h : (zQ [3, 5, 7, 9, 10, 15, 17, 19, 21, 23, 25, 27, 28, 29, 30, 32, 34, 36, 40, 42, 44, 45] [(11, 2, 3), (12, 2, 3)] [5, 38, 46, 48] []) σ0 σ) : zpc (fX4_canPress_23 σ) (fun r => (zQ [3, 5, 7, 9, 10, 15, 17, 19, 21, 23, 25, 27, 28, 29, 30, 32, 34, 36, 40, 42, 44, 45] [(11, 2, 3), (12, 2, 3)] [5, 38, 46, 48] []) σ0 (r.1)) := by
  unfold fX4_canPress_23
  exact fe_fX4_canPress_24 h
theorem fe_fX4_canPress {σ0 : zSt} {σ : zSt} {x0 : Int32} {x1 : Int32} (h : (zQ [3, 5, 7, 9, 10, 15, 17, 19, 21, 23, 25, 27, 28, 29, 30, 32, 34, 36, 40, 42, 44, 45] [(11, 2, 3), (12, 2, 3)] [5, 38, 46, 48] []) σ0 σ) : zpc (fX4_canPress σ x0 x1) (fun r => (zQ [3, 5, 7, 9, 10, 15, 17, 19, 21, 23, 25, 27, 28, 29, 30, 32, 34, 36, 40, 42, 44, 45] [(11, 2, 3), (12, 2, 3)] [5, 38, 46, 48] []) σ0 (r.1)) := by
  unfold fX4_canPress
  exact zpc_if (fun _ => fe_fX4_canPress_23 h) (fun _ => zpc_if (fun _ => fe_fX4_canPress_23 h) (fun _ => zpc_if (fun _ => fe_fX4_canPress_23 h) (fun _ => zpc_if (fun _ => fe_fX4_canPress_23 h) (fun _ => fe_fX4_canPress_24 h))))
theorem fe_fX4_holdStart_15 {σ0 : zSt} {σ : zSt} {s0 : Int32} {s1 : Int32} (h : (zQ [3, 5, 7, 9, 10, 15, 17, 19, 21, 23, 25, 27, 28, 29, 30, 32, 34, 36, 40, 42, 44, 45] [(11, 2, 3), (12, 2, 3)] [5, 38, 46, 48] []) σ0 σ) : zpc (fX4_holdStart_15 σ s0 s1) (fun r => (zQ [3, 5, 7, 9, 10, 15, 17, 19, 21, 23, 25, 27, 28, 29, 30, 32, 34, 36, 40, 42, 44, 45] [(11, 2, 3), (12, 2, 3)] [5, 38, 46, 48] []) σ0 (r)) := by
  unfold fX4_holdStart_15
  exact zpc_ck (zpc_bs (zQ.wi h rfl) (fun σ1 hσ1 => zpc_some hσ1))
theorem fe_fX4_holdStart {σ0 : zSt} {σ : zSt} {x1 : Int32} (h : (zQ [3, 5, 7, 9, 10, 15, 17, 19, 21, 23, 25, 27, 28, 29, 30, 32, 34, 36, 40, 42, 44, 45] [(11, 2, 3), (12, 2, 3)] [5, 38, 46, 48] []) σ0 σ) : zpc (fX4_holdStart σ x1) (fun r => (zQ [3, 5, 7, 9, 10, 15, 17, 19, 21, 23, 25, 27, 28, 29, 30, 32, 34, 36, 40, 42, 44, 45] [(11, 2, 3), (12, 2, 3)] [5, 38, 46, 48] []) σ0 (r)) := by
  unfold fX4_holdStart
  exact zpc_if (fun _ => fe_fX4_holdStart_15 h) (fun _ => fe_fX4_holdStart_15 h)
theorem fe_fX4_lines_52 {σ0 : zSt} {σ : zSt} {x2 : Int32} {s0 : Int32} (h : (zQ [3, 5, 7, 9, 10, 15, 17, 19, 21, 23, 25, 27, 28, 29, 30, 32, 34, 36, 40, 42, 44, 45] [(11, 2, 3), (12, 2, 3)] [5, 38, 46, 48] []) σ0 σ) : zpc (fX4_lines_52 σ x2 s0) (fun r => (zQ [3, 5, 7, 9, 10, 15, 17, 19, 21, 23, 25, 27, 28, 29, 30, 32, 34, 36, 40, 42, 44, 45] [(11, 2, 3), (12, 2, 3)] [5, 38, 46, 48] []) σ0 (r.1)) := by
  unfold fX4_lines_52
  exact zpc_some h
theorem fe_fX4_lines_28 {σ0 : zSt} {σ : zSt} {x1 : Int32} {s0 : Int32} (h : (zQ [3, 5, 7, 9, 10, 15, 17, 19, 21, 23, 25, 27, 28, 29, 30, 32, 34, 36, 40, 42, 44, 45] [(11, 2, 3), (12, 2, 3)] [5, 38, 46, 48] []) σ0 σ) : zpc (fX4_lines_28 σ x1 s0) (fun r => (zQ [3, 5, 7, 9, 10, 15, 17, 19, 21, 23, 25, 27, 28, 29, 30, 32, 34, 36, 40, 42, 44, 45] [(11, 2, 3), (12, 2, 3)] [5, 38, 46, 48] []) σ0 (r.1)) := by
  unfold fX4_lines_28
  exact zpc_if (fun _ => fe_fX4_lines_52 h) (fun _ => zpc_ck (fe_fX4_lines_52 h))
theorem fe_fX4_lines {σ0 : zSt} {σ : zSt} (h : (zQ [3, 5, 7, 9, 10, 15, 17, 19, 21, 23, 25, 27, 28, 29, 30, 32, 34, 36, 40, 42, 44, 45] [(11, 2, 3), (12, 2, 3)] [5, 38, 46, 48] []) σ0 σ) : zpc (fX4_lines σ) (fun r => (zQ [3, 5, 7, 9, 10, 15, 17, 19, 21, 23, 25, 27, 28, 29, 30, 32, 34, 36, 40, 42, 44, 45] [(11, 2, 3), (12, 2, 3)] [5, 38, 46, 48] []) σ0 (r.1)) := by
  unfold fX4_lines
  exact zpc_ck (zpc_bv (fun v1 _ => zpc_if (fun _ => fe_fX4_lines_28 h) (fun _ => zpc_ck (fe_fX4_lines_28 h))))
theorem fe_fX9_hCount_27 {σ0 : zSt} {σ : zSt} {s0 : Int32} (h : (zQ [3, 5, 7, 9, 10, 15, 17, 19, 21, 23, 25, 27, 28, 29, 30, 32, 34, 36, 40, 42, 44, 45] [(11, 2, 3), (12, 2, 3)] [5, 38, 46, 48] []) σ0 σ) : zpc (fX9_hCount_27 σ s0) (fun r => (zQ [3, 5, 7, 9, 10, 15, 17, 19, 21, 23, 25, 27, 28, 29, 30, 32, 34, 36, 40, 42, 44, 45] [(11, 2, 3), (12, 2, 3)] [5, 38, 46, 48] []) σ0 (r.1)) := by
  unfold fX9_hCount_27
  exact zpc_some h
theorem fe_fX9_hCount {σ0 : zSt} {σ : zSt} (h : (zQ [3, 5, 7, 9, 10, 15, 17, 19, 21, 23, 25, 27, 28, 29, 30, 32, 34, 36, 40, 42, 44, 45] [(11, 2, 3), (12, 2, 3)] [5, 38, 46, 48] []) σ0 σ) : zpc (fX9_hCount σ) (fun r => (zQ [3, 5, 7, 9, 10, 15, 17, 19, 21, 23, 25, 27, 28, 29, 30, 32, 34, 36, 40, 42, 44, 45] [(11, 2, 3), (12, 2, 3)] [5, 38, 46, 48] []) σ0 (r.1)) := by
  unfold fX9_hCount
  exact zpc_ck (zpc_ck (zpc_bv (fun v1 _ => zpc_if (fun _ => fe_fX9_hCount_27 h) (fun _ => fe_fX9_hCount_27 h))))
theorem fe_fX4_changeLines_37 {σ0 : zSt} {σ : zSt} (h : (zQ [3, 5, 7, 9, 10, 15, 17, 19, 21, 23, 25, 27, 28, 29, 30, 32, 34, 36, 40, 42, 44, 45] [(11, 2, 3), (12, 2, 3)] [5, 38, 46, 48] []) σ0 σ) : zpc (fX4_changeLines_37 σ) (fun r => (zQ [3, 5, 7, 9, 10, 15, 17, 19, 21, 23, 25, 27, 28, 29, 30, 32, 34, 36, 40, 42, 44, 45] [(11, 2, 3), (12, 2, 3)] [5, 38, 46, 48] []) σ0 (r)) := by
  unfold fX4_changeLines_37
  exact zpc_some h
theorem fe_fX4_changeLines {σ0 : zSt} {σ : zSt} {x1 : Int32} {x2 : Int32} (h : (zQ [3, 5, 7, 9, 10, 15, 17, 19, 21, 23, 25, 27, 28, 29, 30, 32, 34, 36, 40, 42, 44, 45] [(11, 2, 3), (12, 2, 3)] [5, 38, 46, 48] []) σ0 σ) : zpc (fX4_changeLines σ x1 x2) (fun r => (zQ [3, 5, 7, 9, 10, 15, 17, 19, 21, 23, 25, 27, 28, 29, 30, 32, 34, 36, 40, 42, 44, 45] [(11, 2, 3), (12, 2, 3)] [5, 38, 46, 48] []) σ0 (r)) := by
  unfold fX4_changeLines
  exact zpc_bi (fe_fX4_lines h) (fun σ1 v2 hσ1 => zpc_ck (zpc_bs (zQ.wi hσ1 rfl) (fun σ3 hσ3 => zpc_bi (fe_fX4_lines hσ3) (fun σ4 v5 hσ4 => zpc_if (fun _ => fe_fX4_changeLines_37 hσ4) (fun _ => zpc_bi (fe_fX9_hCount hσ4) (fun σ6 v7 hσ6 => zpc_ck (zpc_bs (zQ.wi hσ6 rfl) (fun σ8 hσ8 => fe_fX4_changeLines_37 hσ8))))))))
theorem fe_fX4_moveLine_16 {σ0 : zSt} {σ : zSt} {s0 : Int32} {s1 : Int32} (h : (zQ [3, 5, 7, 9, 10, 15, 17, 19, 21, 23, 25, 27, 28, 29, 30, 32, 34, 36, 40, 42, 44, 45] [(11, 2, 3), (12, 2, 3)] [5, 38, 46, 48] []) σ0 σ) : zpc (fX4_moveLine_16 σ s0 s1) (fun r => (zQ [3, 5, 7, 9, 10, 15, 17, 19, 21, 23, 25, 27, 28, 29, 30, 32, 34, 36, 40, 42, 44, 45] [(11, 2, 3), (12, 2, 3)] [5, 38, 46, 48] []) σ0 (r)) := by
  unfold fX4_moveLine_16
  exact zpc_bu (fe_fX4_changeLines h) (fun σ1 hσ1 => zpc_some hσ1)
theorem fe_fX4_moveLine {σ0 : zSt} {σ : zSt} {x1 : Int32} {x2 : Int32} (h : (zQ [3, 5, 7, 9, 10, 15, 17, 19, 21, 23, 25, 27, 28, 29, 30, 32, 34, 36, 40, 42, 44, 45] [(11, 2, 3), (12, 2, 3)] [5, 38, 46, 48] []) σ0 σ) : zpc (fX4_moveLine σ x1 x2) (fun r => (zQ [3, 5, 7, 9, 10, 15, 17, 19, 21, 23, 25, 27, 28, 29, 30, 32, 34, 36, 40, 42, 44, 45] [(11, 2, 3), (12, 2, 3)] [5, 38, 46, 48] []) σ0 (r)) := by
  unfold fX4_moveLine
  exact zpc_if (fun _ => fe_fX4_moveLine_16 h) (fun _ => fe_fX4_moveLine_16 h)
theorem fe_fX10_value_11 {σ0 : zSt} {σ : zSt} (h : (zQ [3, 5, 7, 9, 10, 15, 17, 19, 21, 23, 25, 27, 28, 29, 30, 32, 34, 36, 40, 42, 44, 45] [(11, 2, 3), (12, 2, 3)] [5, 38, 46, 48] []) σ0 σ) : zpc (fX10_value_11 σ) (fun r => (zQ [3, 5, 7, 9, 10, 15, 17, 19, 21, 23, 25, 27, 28, 29, 30, 32, 34, 36, 40, 42, 44, 45] [(11, 2, 3), (12, 2, 3)] [5, 38, 46, 48] []) σ0 (r.1)) := by
  unfold fX10_value_11
  exact zpc_some h
theorem fe_fX10_value_38 {σ0 : zSt} {σ : zSt} {s0 : Int32} (h : (zQ [3, 5, 7, 9, 10, 15, 17, 19, 21, 23, 25, 27, 28, 29, 30, 32, 34, 36, 40, 42, 44, 45] [(11, 2, 3), (12, 2, 3)] [5, 38, 46, 48] []) σ0 σ) : zpc (fX10_value_38 σ s0) (fun r => (zQ [3, 5, 7, 9, 10, 15, 17, 19, 21, 23, 25, 27, 28, 29, 30, 32, 34, 36, 40, 42, 44, 45] [(11, 2, 3), (12, 2, 3)] [5, 38, 46, 48] []) σ0 (r.1)) := by
  unfold fX10_value_38
  exact zpc_some h
theorem fe_fX10_value {σ0 : zSt} {σ : zSt} {x1 : Int32} (h : (zQ [3, 5, 7, 9, 10, 15, 17, 19, 21, 23, 25, 27, 28, 29, 30, 32, 34, 36, 40, 42, 44, 45] [(11, 2, 3), (12, 2, 3)] [5, 38, 46, 48] []) σ0 σ) : zpc (fX10_value σ x1) (fun r => (zQ [3, 5, 7, 9, 10, 15, 17, 19, 21, 23, 25, 27, 28, 29, 30, 32, 34, 36, 40, 42, 44, 45] [(11, 2, 3), (12, 2, 3)] [5, 38, 46, 48] []) σ0 (r.1)) := by
  unfold fX10_value
  exact zpc_if (fun _ => fe_fX10_value_11 h) (fun _ => zpc_if (fun _ => zpc_if (fun _ => zpc_ck (fe_fX10_value_38 h)) (fun _ => zpc_ck (fe_fX10_value_38 h))) (fun _ => fe_fX10_value_11 h))
theorem fe_fX4_readEvenPads_56 {σ0 : zSt} {σ : zSt} {s0 : Int32} (h : (zQ [3, 5, 7, 9, 10, 15, 17, 19, 21, 23, 25, 27, 28, 29, 30, 32, 34, 36, 40, 42, 44, 45] [(11, 2, 3), (12, 2, 3)] [5, 38, 46, 48] []) σ0 σ) : zpc (fX4_readEvenPads_56 σ s0) (fun r => (zQ [3, 5, 7, 9, 10, 15, 17, 19, 21, 23, 25, 27, 28, 29, 30, 32, 34, 36, 40, 42, 44, 45] [(11, 2, 3), (12, 2, 3)] [5, 38, 46, 48] []) σ0 (r.1)) := by
  unfold fX4_readEvenPads_56
  exact zpc_some h
theorem fe_fX4_readEvenPads {σ0 : zSt} {σ : zSt} (h : (zQ [3, 5, 7, 9, 10, 15, 17, 19, 21, 23, 25, 27, 28, 29, 30, 32, 34, 36, 40, 42, 44, 45] [(11, 2, 3), (12, 2, 3)] [5, 38, 46, 48] []) σ0 σ) : zpc (fX4_readEvenPads σ) (fun r => (zQ [3, 5, 7, 9, 10, 15, 17, 19, 21, 23, 25, 27, 28, 29, 30, 32, 34, 36, 40, 42, 44, 45] [(11, 2, 3), (12, 2, 3)] [5, 38, 46, 48] []) σ0 (r.1)) := by
  unfold fX4_readEvenPads
  exact zpc_ck (zpc_ck (zpc_bv (fun v1 _ => zpc_ck (zpc_if (fun _ => zpc_ck (fe_fX4_readEvenPads_56 h)) (fun _ => fe_fX4_readEvenPads_56 h)))))
theorem fe_fX4_readOddPads_57 {σ0 : zSt} {σ : zSt} {s0 : Int32} (h : (zQ [3, 5, 7, 9, 10, 15, 17, 19, 21, 23, 25, 27, 28, 29, 30, 32, 34, 36, 40, 42, 44, 45] [(11, 2, 3), (12, 2, 3)] [5, 38, 46, 48] []) σ0 σ) : zpc (fX4_readOddPads_57 σ s0) (fun r => (zQ [3, 5, 7, 9, 10, 15, 17, 19, 21, 23, 25, 27, 28, 29, 30, 32, 34, 36, 40, 42, 44, 45] [(11, 2, 3), (12, 2, 3)] [5, 38, 46, 48] []) σ0 (r.1)) := by
  unfold fX4_readOddPads_57
  exact zpc_some h
theorem fe_fX4_readOddPads {σ0 : zSt} {σ : zSt} (h : (zQ [3, 5, 7, 9, 10, 15, 17, 19, 21, 23, 25, 27, 28, 29, 30, 32, 34, 36, 40, 42, 44, 45] [(11, 2, 3), (12, 2, 3)] [5, 38, 46, 48] []) σ0 σ) : zpc (fX4_readOddPads σ) (fun r => (zQ [3, 5, 7, 9, 10, 15, 17, 19, 21, 23, 25, 27, 28, 29, 30, 32, 34, 36, 40, 42, 44, 45] [(11, 2, 3), (12, 2, 3)] [5, 38, 46, 48] []) σ0 (r.1)) := by
  unfold fX4_readOddPads
  exact zpc_ck (zpc_bi (fe_fX4_lines h) (fun σ1 v2 hσ1 => zpc_bv (fun v3 _ => zpc_ck (zpc_if (fun _ => zpc_ck (fe_fX4_readOddPads_57 hσ1)) (fun _ => fe_fX4_readOddPads_57 hσ1)))))
theorem fe_fX9_readAhead {σ0 : zSt} {σ : zSt} (h : (zQ [3, 5, 7, 9, 10, 15, 17, 19, 21, 23, 25, 27, 28, 29, 30, 32, 34, 36, 40, 42, 44, 45] [(11, 2, 3), (12, 2, 3)] [5, 38, 46, 48] []) σ0 σ) : zpc (fX9_readAhead σ) (fun r => (zQ [3, 5, 7, 9, 10, 15, 17, 19, 21, 23, 25, 27, 28, 29, 30, 32, 34, 36, 40, 42, 44, 45] [(11, 2, 3), (12, 2, 3)] [5, 38, 46, 48] []) σ0 (r)) := by
  unfold fX9_readAhead
  exact zpc_ck (zpc_ck (zpc_ck (zpc_bs (zQ.wi h rfl) (fun σ1 hσ1 => zpc_ck (zpc_ck (zpc_bs (zQ.wi hσ1 rfl) (fun σ2 hσ2 => zpc_some hσ2)))))))
theorem fe_fX9_readData {σ0 : zSt} {σ : zSt} (h : (zQ [3, 5, 7, 9, 10, 15, 17, 19, 21, 23, 25, 27, 28, 29, 30, 32, 34, 36, 40, 42, 44, 45] [(11, 2, 3), (12, 2, 3)] [5, 38, 46, 48] []) σ0 σ) : zpc (fX9_readData σ) (fun r => (zQ [3, 5, 7, 9, 10, 15, 17, 19, 21, 23, 25, 27, 28, 29, 30, 32, 34, 36, 40, 42, 44, 45] [(11, 2, 3), (12, 2, 3)] [5, 38, 46, 48] []) σ0 (r.1)) := by
  unfold fX9_readData
  exact zpc_ck (zpc_bv (fun v1 _ => zpc_ck (zpc_bs (zQ.wi h rfl) (fun σ2 hσ2 => zpc_bu (fe_fX9_readAhead hσ2) (fun σ3 hσ3 => zpc_some hσ3)))))
theorem fe_fX9_readStatus {σ0 : zSt} {σ : zSt} (h : (zQ [3, 5, 7, 9, 10, 15, 17, 19, 21, 23, 25, 27, 28, 29, 30, 32, 34, 36, 40, 42, 44, 45] [(11, 2, 3), (12, 2, 3)] [5, 38, 46, 48] []) σ0 σ) : zpc (fX9_readStatus σ) (fun r => (zQ [3, 5, 7, 9, 10, 15, 17, 19, 21, 23, 25, 27, 28, 29, 30, 32, 34, 36, 40, 42, 44, 45] [(11, 2, 3), (12, 2, 3)] [5, 38, 46, 48] []) σ0 (r.1)) := by
  unfold fX9_readStatus
  exact zpc_ck (zpc_bv (fun v1 _ => zpc_ck (zpc_bs (zQ.wi h rfl) (fun σ2 hσ2 => zpc_ck (zpc_bs (zQ.wi hσ2 rfl) (fun σ3 hσ3 => zpc_ck (zpc_bs (zQ.wi hσ3 rfl) (fun σ4 hσ4 => zpc_some hσ4))))))))
theorem fe_fX9_vCount_137 {σ0 : zSt} {σ : zSt} {s0 : Int32} (h : (zQ [3, 5, 7, 9, 10, 15, 17, 19, 21, 23, 25, 27, 28, 29, 30, 32, 34, 36, 40, 42, 44, 45] [(11, 2, 3), (12, 2, 3)] [5, 38, 46, 48] []) σ0 σ) : zpc (fX9_vCount_137 σ s0) (fun r => (zQ [3, 5, 7, 9, 10, 15, 17, 19, 21, 23, 25, 27, 28, 29, 30, 32, 34, 36, 40, 42, 44, 45] [(11, 2, 3), (12, 2, 3)] [5, 38, 46, 48] []) σ0 (r.1)) := by
  unfold fX9_vCount_137
  exact zpc_some h
theorem fe_fX9_vCount_136 {σ0 : zSt} {σ : zSt} {s0 : Int32} {s1 : Int32} (h : (zQ [3, 5, 7, 9, 10, 15, 17, 19, 21, 23, 25, 27, 28, 29, 30, 32, 34, 36, 40, 42, 44, 45] [(11, 2, 3), (12, 2, 3)] [5, 38, 46, 48] []) σ0 σ) : zpc (fX9_vCount_136 σ s0 s1) (fun r => (zQ [3, 5, 7, 9, 10, 15, 17, 19, 21, 23, 25, 27, 28, 29, 30, 32, 34, 36, 40, 42, 44, 45] [(11, 2, 3), (12, 2, 3)] [5, 38, 46, 48] []) σ0 (r.1)) := by
  unfold fX9_vCount_136
  exact fe_fX9_vCount_137 h
theorem fe_fX9_vCount_97 {σ0 : zSt} {σ : zSt} {x2 : Int32} {x3 : Int32} (h : (zQ [3, 5, 7, 9, 10, 15, 17, 19, 21, 23, 25, 27, 28, 29, 30, 32, 34, 36, 40, 42, 44, 45] [(11, 2, 3), (12, 2, 3)] [5, 38, 46, 48] []) σ0 σ) : zpc (fX9_vCount_97 σ x2 x3) (fun r => (zQ [3, 5, 7, 9, 10, 15, 17, 19, 21, 23, 25, 27, 28, 29, 30, 32, 34, 36, 40, 42, 44, 45] [(11, 2, 3), (12, 2, 3)] [5, 38, 46, 48] []) σ0 (r.1)) := by
  unfold fX9_vCount_97
  exact zpc_ck (zpc_if (fun _ => zpc_ck (zpc_if (fun _ => fe_fX9_vCount_136 h) (fun _ => fe_fX9_vCount_136 h))) (fun _ => zpc_ck (fe_fX9_vCount_137 h)))
theorem fe_fX9_vCount_96 {σ0 : zSt} {σ : zSt} {x2 : Int32} {s0 : Int32} (h : (zQ [3, 5, 7, 9, 10, 15, 17, 19, 21, 23, 25, 27, 28, 29, 30, 32, 34, 36, 40, 42, 44, 45] [(11, 2, 3), (12, 2, 3)] [5, 38, 46, 48] []) σ0 σ) : zpc (fX9_vCount_96 σ x2 s0) (fun r => (zQ [3, 5, 7, 9, 10, 15, 17, 19, 21, 23, 25, 27, 28, 29, 30, 32, 34, 36, 40, 42, 44, 45] [(11, 2, 3), (12, 2, 3)] [5, 38, 46, 48] []) σ0 (r.1)) := by
  unfold fX9_vCount_96
  exact fe_fX9_vCount_97 h
theorem fe_fX9_vCount_78 {σ0 : zSt} {σ : zSt} {x2 : Int32} {s0 : Int32} (h : (zQ [3, 5, 7, 9, 10, 15, 17, 19, 21, 23, 25, 27, 28, 29, 30, 32, 34, 36, 40, 42, 44, 45] [(11, 2, 3), (12, 2, 3)] [5, 38, 46, 48] []) σ0 σ) : zpc (fX9_vCount_78 σ x2 s0) (fun r => (zQ [3, 5, 7, 9, 10, 15, 17, 19, 21, 23, 25, 27, 28, 29, 30, 32, 34, 36, 40, 42, 44, 45] [(11, 2, 3), (12, 2, 3)] [5, 38, 46, 48] []) σ0 (r.1)) := by
  unfold fX9_vCount_78
  exact fe_fX9_vCount_97 h
theorem fe_fX9_vCount_61 {σ0 : zSt} {σ : zSt} {x2 : Int32} {s0 : Int32} (h : (zQ [3, 5, 7, 9, 10, 15, 17, 19, 21, 23, 25, 27, 28, 29, 30, 32, 34, 36, 40, 42, 44, 45] [(11, 2, 3), (12, 2, 3)] [5, 38, 46, 48] []) σ0 σ) : zpc (fX9_vCount_61 σ x2 s0) (fun r => (zQ [3, 5, 7, 9, 10, 15, 17, 19, 21, 23, 25, 27, 28, 29, 30, 32, 34, 36, 40, 42, 44, 45] [(11, 2, 3), (12, 2, 3)] [5, 38, 46, 48] []) σ0 (r.1)) := by
  unfold fX9_vCount_61
  exact fe_fX9_vCount_97 h
theorem fe_fX9_vCount_20 {σ0 : zSt} {σ : zSt} {x1 : Int32} {s0 : Int32} (h : (zQ [3, 5, 7, 9, 10, 15, 17, 19, 21, 23, 25, 27, 28, 29, 30, 32, 34, 36, 40, 42, 44, 45] [(11, 2, 3), (12, 2, 3)] [5, 38, 46, 48] []) σ0 σ) : zpc (fX9_vCount_20 σ x1 s0) (fun r => (zQ [3, 5, 7, 9, 10, 15, 17, 19, 21, 23, 25, 27, 28, 29, 30, 32, 34, 36, 40, 42, 44, 45] [(11, 2, 3), (12, 2, 3)] [5, 38, 46, 48] []) σ0 (r.1)) := by
  unfold fX9_vCount_20
  exact zpc_if (fun _ => zpc_if (fun _ => fe_fX9_vCount_61 h) (fun _ => fe_fX9_vCount_61 h)) (fun _ => zpc_if (fun _ => zpc_if (fun _ => fe_fX9_vCount_78 h) (fun _ => fe_fX9_vCount_78 h)) (fun _ => zpc_if (fun _ => fe_fX9_vCount_96 h) (fun _ => fe_fX9_vCount_96 h)))
theorem fe_fX9_vCount {σ0 : zSt} {σ : zSt} (h : (zQ [3, 5, 7, 9, 10, 15, 17, 19, 21, 23, 25, 27, 28, 29, 30, 32, 34, 36, 40, 42, 44, 45] [(11, 2, 3), (12, 2, 3)] [5, 38, 46, 48] []) σ0 σ) : zpc (fX9_vCount σ) (fun r => (zQ [3, 5, 7, 9, 10, 15, 17, 19, 21, 23, 25, 27, 28, 29, 30, 32, 34, 36, 40, 42, 44, 45] [(11, 2, 3), (12, 2, 3)] [5, 38, 46, 48] []) σ0 (r.1)) := by
  unfold fX9_vCount
  exact zpc_bi (fe_fX9_height h) (fun σ1 v2 hσ1 => zpc_if (fun _ => fe_fX9_vCount_20 hσ1) (fun _ => fe_fX9_vCount_20 hσ1))
theorem fe_fX4_readHandy_23 {σ0 : zSt} {σ : zSt} {s0 : Int32} (h : (zQ [3, 5, 7, 9, 10, 15, 17, 19, 21, 23, 25, 27, 28, 29, 30, 32, 34, 36, 40, 42, 44, 45] [(11, 2, 3), (12, 2, 3)] [5, 38, 46, 48] []) σ0 σ) : zpc (fX4_readHandy_23 σ s0) (fun r => (zQ [3, 5, 7, 9, 10, 15, 17, 19, 21, 23, 25, 27, 28, 29, 30, 32, 34, 36, 40, 42, 44, 45] [(11, 2, 3), (12, 2, 3)] [5, 38, 46, 48] []) σ0 (r.1)) := by
  unfold fX4_readHandy_23
  exact zpc_some h
theorem fe_fX4_readHandy_46 {σ0 : zSt} {σ : zSt} {s0 : Int32} (h : (zQ [3, 5, 7, 9, 10, 15, 17, 19, 21, 23, 25, 27, 28, 29, 30, 32, 34, 36, 40, 42, 44, 45] [(11, 2, 3), (12, 2, 3)] [5, 38, 46, 48] []) σ0 σ) : zpc (fX4_readHandy_46 σ s0) (fun r => (zQ [3, 5, 7, 9, 10, 15, 17, 19, 21, 23, 25, 27, 28, 29, 30, 32, 34, 36, 40, 42, 44, 45] [(11, 2, 3), (12, 2, 3)] [5, 38, 46, 48] []) σ0 (r.1)) := by
  unfold fX4_readHandy_46
  exact zpc_some h
theorem fe_fX4_readHandy_43 {σ0 : zSt} {σ : zSt} (h : (zQ [3, 5, 7, 9, 10, 15, 17, 19, 21, 23, 25, 27, 28, 29, 30, 32, 34, 36, 40, 42, 44, 45] [(11, 2, 3), (12, 2, 3)] [5, 38, 46, 48] []) σ0 σ) : zpc (fX4_readHandy_43 σ) (fun r => (zQ [3, 5, 7, 9, 10, 15, 17, 19, 21, 23, 25, 27, 28, 29, 30, 32, 34, 36, 40, 42, 44, 45] [(11, 2, 3), (12, 2, 3)] [5, 38, 46, 48] []) σ0 (r.1)) := by
  unfold fX4_readHandy_43
  exact fe_fX4_readHandy_46 h
theorem fe_fX4_readHandy {σ0 : zSt} {σ : zSt} {x1 : Int32} (h : (zQ [3, 5, 7, 9, 10, 15, 17, 19, 21, 23, 25, 27, 28, 29, 30, 32, 34, 36, 40, 42, 44, 45] [(11, 2, 3), (12, 2, 3)] [5, 38, 46, 48] []) σ0 σ) : zpc (fX4_readHandy σ x1) (fun r => (zQ [3, 5, 7, 9, 10, 15, 17, 19, 21, 23, 25, 27, 28, 29, 30, 32, 34, 36, 40, 42, 44, 45] [(11, 2, 3), (12, 2, 3)] [5, 38, 46, 48] []) σ0 (r.1)) := by
  unfold fX4_readHandy
  exact zpc_if (fun _ => zpc_ck (zpc_if (fun _ => fe_fX4_readHandy_23 h) (fun _ => fe_fX4_readHandy_23 h))) (fun _ => zpc_if (fun _ => fe_fX4_readHandy_43 h) (fun _ => zpc_if (fun _ => fe_fX4_readHandy_43 h) (fun _ => zpc_ck (fe_fX4_readHandy_46 h))))
theorem fe_fX4_read_146 {σ0 : zSt} {σ : zSt} {s0 : Int32} (h : (zQ [3, 5, 7, 9, 10, 15, 17, 19, 21, 23, 25, 27, 28, 29, 30, 32, 34, 36, 40, 42, 44, 45] [(11, 2, 3), (12, 2, 3)] [5, 38, 46, 48] []) σ0 σ) : zpc (fX4_read_146 σ s0) (fun r => (zQ [3, 5, 7, 9, 10, 15, 17, 19, 21, 23, 25, 27, 28, 29, 30, 32, 34, 36, 40, 42, 44, 45] [(11, 2, 3), (12, 2, 3)] [5, 38, 46, 48] []) σ0 (r.1)) := by
  unfold fX4_read_146
  exact zpc_some h
theorem fe_fX4_read_131 {σ0 : zSt} {σ : zSt} {x2 : Int32} (h : (zQ [3, 5, 7, 9, 10, 15, 17, 19, 21, 23, 25, 27, 28, 29, 30, 32, 34, 36, 40, 42, 44, 45] [(11, 2, 3), (12, 2, 3)] [5, 38, 46, 48] []) σ0 σ) : zpc (fX4_read_131 σ x2) (fun r => (zQ [3, 5, 7, 9, 10, 15, 17, 19, 21, 23, 25, 27, 28, 29, 30, 32, 34, 36, 40, 42, 44, 45] [(11, 2, 3), (12, 2, 3)] [5, 38, 46, 48] []) σ0 (r.1)) := by
  unfold fX4_read_131
  exact zpc_if (fun _ => zpc_bi (fe_fX4_readOddPads h) (fun σ1 v2 hσ1 => fe_fX4_read_146 hσ1)) (fun _ => zpc_bi (fe_fX4_readEvenPads h) (fun σ3 v4 hσ3 => fe_fX4_read_146 hσ3))
theorem fe_fX4_read_106 {σ0 : zSt} {σ : zSt} {s0 : Int32} (h : (zQ [3, 5, 7, 9, 10, 15, 17, 19, 21, 23, 25, 27, 28, 29, 30, 32, 34, 36, 40, 42, 44, 45] [(11, 2, 3), (12, 2, 3)] [5, 38, 46, 48] []) σ0 σ) : zpc (fX4_read_106 σ s0) (fun r => (zQ [3, 5, 7, 9, 10, 15, 17, 19, 21, 23, 25, 27, 28, 29, 30, 32, 34, 36, 40, 42, 44, 45] [(11, 2, 3), (12, 2, 3)] [5, 38, 46, 48] []) σ0 (r.1)) := by
  unfold fX4_read_106
  exact zpc_some h
theorem fe_fX4_read_84 {σ0 : zSt} {σ : zSt} {s0 : Int32} (h : (zQ [3, 5, 7, 9, 10, 15, 17, 19, 21, 23, 25, 27, 28, 29, 30, 32, 34, 36, 40, 42, 44, 45] [(11, 2, 3), (12, 2, 3)] [5, 38, 46, 48] []) σ0 σ) : zpc (fX4_read_84 σ s0) (fun r => (zQ [3, 5, 7, 9, 10, 15, 17, 19, 21, 23, 25, 27, 28, 29, 30, 32, 34, 36, 40, 42, 44, 45] [(11, 2, 3), (12, 2, 3)] [5, 38, 46, 48] []) σ0 (r.1)) := by
  unfold fX4_read_84
  exact zpc_some h
theorem fe_fX4_read_62 {σ0 : zSt} {σ : zSt} {s0 : Int32} (h : (zQ [3, 5, 7, 9, 10, 15, 17, 19, 21, 23, 25, 27, 28, 29, 30, 32, 34, 36, 40, 42, 44, 45] [(11, 2, 3), (12, 2, 3)] [5, 38, 46, 48] []) σ0 σ) : zpc (fX4_read_62 σ s0) (fun r => (zQ [3, 5, 7, 9, 10, 15, 17, 19, 21, 23, 25, 27, 28, 29, 30, 32, 34, 36, 40, 42, 44, 45] [(11, 2, 3), (12, 2, 3)] [5, 38, 46, 48] []) σ0 (r.1)) := by
  unfold fX4_read_62
  exact zpc_some h
theorem fe_fX4_read_11 {σ0 : zSt} {σ : zSt} {x1 : Int32} {s0 : Int32} (h : (zQ [3, 5, 7, 9, 10, 15, 17, 19, 21, 23, 25, 27, 28, 29, 30, 32, 34, 36, 40, 42, 44, 45] [(11, 2, 3), (12, 2, 3)] [5, 38, 46, 48] []) σ0 σ) : zpc (fX4_read_11 σ x1 s0) (fun r => (zQ [3, 5, 7, 9, 10, 15, 17, 19, 21, 23, 25, 27, 28, 29, 30, 32, 34, 36, 40, 42, 44, 45] [(11, 2, 3), (12, 2, 3)] [5, 38, 46, 48] []) σ0 (r.1)) := by
  unfold fX4_read_11
  exact zpc_if (fun _ => zpc_if (fun _ => fe_fX4_read_62 h) (fun _ => zpc_bi (fe_fX4_readHandy h) (fun σ5 v6 hσ5 => fe_fX4_read_62 hσ5))) (fun _ => zpc_if (fun _ => zpc_if (fun _ => zpc_ck (fe_fX4_read_84 h)) (fun _ => zpc_bi (fe_fX9_vCount h) (fun σ7 v8 hσ7 => fe_fX4_read_84 hσ7))) (fun _ => zpc_if (fun _ => zpc_if (fun _ => zpc_bi (fe_fX9_readStatus h) (fun σ9 v10 hσ9 => fe_fX4_read_106 hσ9)) (fun _ => zpc_bi (fe_fX9_readData h) (fun σ11 v12 hσ11 => fe_fX4_read_106 hσ11))) (fun _ => zpc_if (fun _ => zpc_if (fun _ => zpc_bi (fe_fX10_value h) (fun σ13 v14 hσ13 => zpc_some hσ13)) (fun _ => fe_fX4_read_131 h)) (fun _ => fe_fX4_read_131 h))))
theorem fe_fX4_read {σ0 : zSt} {σ : zSt} {x1 : Int32} (h : (zQ [3, 5, 7, 9, 10, 15, 17, 19, 21, 23, 25, 27, 28, 29, 30, 32, 34, 36, 40, 42, 44, 45] [(11, 2, 3), (12, 2, 3)] [5, 38, 46, 48] []) σ0 σ) : zpc (fX4_read σ x1) (fun r => (zQ [3, 5, 7, 9, 10, 15, 17, 19, 21, 23, 25, 27, 28, 29, 30, 32, 34, 36, 40, 42, 44, 45] [(11, 2, 3), (12, 2, 3)] [5, 38, 46, 48] []) σ0 (r.1)) := by
  unfold fX4_read
  exact zpc_if (fun _ => fe_fX4_read_11 h) (fun _ => fe_fX4_read_11 h)
theorem fe_fX10_take_57 {σ0 : zSt} {σ : zSt} (h : (zQ [3, 5, 7, 9, 10, 15, 17, 19, 21, 23, 25, 27, 28, 29, 30, 32, 34, 36, 40, 42, 44, 45] [(11, 2, 3), (12, 2, 3)] [5, 38, 46, 48] []) σ0 σ) : zpc (fX10_take_57 σ) (fun r => (zQ [3, 5, 7, 9, 10, 15, 17, 19, 21, 23, 25, 27, 28, 29, 30, 32, 34, 36, 40, 42, 44, 45] [(11, 2, 3), (12, 2, 3)] [5, 38, 46, 48] []) σ0 (r)) := by
  unfold fX10_take_57
  exact zpc_some h
theorem fe_fX10_take {σ0 : zSt} {σ : zSt} {x1 : Int32} {x2 : Int32} (h : (zQ [3, 5, 7, 9, 10, 15, 17, 19, 21, 23, 25, 27, 28, 29, 30, 32, 34, 36, 40, 42, 44, 45] [(11, 2, 3), (12, 2, 3)] [5, 38, 46, 48] []) σ0 σ) : zpc (fX10_take σ x1 x2) (fun r => (zQ [3, 5, 7, 9, 10, 15, 17, 19, 21, 23, 25, 27, 28, 29, 30, 32, 34, 36, 40, 42, 44, 45] [(11, 2, 3), (12, 2, 3)] [5, 38, 46, 48] []) σ0 (r)) := by
  unfold fX10_take
  exact zpc_if (fun _ => zpc_ck (zpc_bs (zQ.wi h rfl) (fun σ3 hσ3 => fe_fX10_take_57 hσ3))) (fun _ => zpc_if (fun _ => zpc_ck (zpc_ck (zpc_bs (zQ.wi h rfl) (fun σ2 hσ2 => fe_fX10_take_57 hσ2)))) (fun _ => zpc_ck (zpc_bs (zQ.wi h rfl) (fun σ1 hσ1 => fe_fX10_take_57 hσ1))))
theorem fe_fX9_writeColour_72 {σ0 : zSt} {σ : zSt} (h : (zQ [3, 5, 7, 9, 10, 15, 17, 19, 21, 23, 25, 27, 28, 29, 30, 32, 34, 36, 40, 42, 44, 45] [(11, 2, 3), (12, 2, 3)] [5, 38, 46, 48] []) σ0 σ) : zpc (fX9_writeColour_72 σ) (fun r => (zQ [3, 5, 7, 9, 10, 15, 17, 19, 21, 23, 25, 27, 28, 29, 30, 32, 34, 36, 40, 42, 44, 45] [(11, 2, 3), (12, 2, 3)] [5, 38, 46, 48] []) σ0 (r)) := by
  unfold fX9_writeColour_72
  exact zpc_some h
theorem fe_fX9_writeColour {σ0 : zSt} {σ : zSt} {x1 : Int32} {x2 : Int32} (h : (zQ [3, 5, 7, 9, 10, 15, 17, 19, 21, 23, 25, 27, 28, 29, 30, 32, 34, 36, 40, 42, 44, 45] [(11, 2, 3), (12, 2, 3)] [5, 38, 46, 48] []) σ0 σ) : zpc (fX9_writeColour σ x1 x2) (fun r => (zQ [3, 5, 7, 9, 10, 15, 17, 19, 21, 23, 25, 27, 28, 29, 30, 32, 34, 36, 40, 42, 44, 45] [(11, 2, 3), (12, 2, 3)] [5, 38, 46, 48] []) σ0 (r)) := by
  unfold fX9_writeColour
  exact zpc_if (fun _ => zpc_ck (zpc_bs (zQ.wi h rfl) (fun σ4 hσ4 => fe_fX9_writeColour_72 hσ4))) (fun _ => zpc_if (fun _ => zpc_ck (zpc_bs (zQ.wi h rfl) (fun σ3 hσ3 => fe_fX9_writeColour_72 hσ3))) (fun _ => zpc_ck (zpc_ck (zpc_bs (zQ.wi h rfl) (fun σ1 hσ1 => zpc_ck (zpc_bs (zQ.wi hσ1 rfl) (fun σ2 hσ2 => fe_fX9_writeColour_72 hσ2)))))))
theorem fe_fX9_writeData_69 {σ0 : zSt} {σ : zSt} (h : (zQ [3, 5, 7, 9, 10, 15, 17, 19, 21, 23, 25, 27, 28, 29, 30, 32, 34, 36, 40, 42, 44, 45] [(11, 2, 3), (12, 2, 3)] [5, 38, 46, 48] []) σ0 σ) : zpc (fX9_writeData_69 σ) (fun r => (zQ [3, 5, 7, 9, 10, 15, 17, 19, 21, 23, 25, 27, 28, 29, 30, 32, 34, 36, 40, 42, 44, 45] [(11, 2, 3), (12, 2, 3)] [5, 38, 46, 48] []) σ0 (r)) := by
  unfold fX9_writeData_69
  exact zpc_some h
theorem fe_fX9_writeData {σ0 : zSt} {σ : zSt} {x1 : Int32} (h : (zQ [3, 5, 7, 9, 10, 15, 17, 19, 21, 23, 25, 27, 28, 29, 30, 32, 34, 36, 40, 42, 44, 45] [(11, 2, 3), (12, 2, 3)] [5, 38, 46, 48] []) σ0 σ) : zpc (fX9_writeData σ x1) (fun r => (zQ [3, 5, 7, 9, 10, 15, 17, 19, 21, 23, 25, 27, 28, 29, 30, 32, 34, 36, 40, 42, 44, 45] [(11, 2, 3), (12, 2, 3)] [5, 38, 46, 48] []) σ0 (r)) := by
  unfold fX9_writeData
  exact zpc_ck (zpc_bv (fun v1 _ => zpc_ck (zpc_bs (zQ.wi h rfl) (fun σ2 hσ2 => zpc_ck (zpc_bs (zQ.wi hσ2 rfl) (fun σ3 hσ3 => zpc_ck (zpc_bs (zQ.wi hσ3 rfl) (fun σ4 hσ4 => zpc_ck (zpc_if (fun _ => zpc_bu (fe_fX9_writeColour hσ4) (fun σ6 hσ6 => fe_fX9_writeData_69 hσ6)) (fun _ => zpc_ck (zpc_bs (zQ.wi hσ4 rfl) (fun σ5 hσ5 => fe_fX9_writeData_69 hσ5))))))))))))
theorem fe_fX9_writeControl_141 {σ0 : zSt} {σ : zSt} (h : (zQ [3, 5, 7, 9, 10, 15, 17, 19, 21, 23, 25, 27, 28, 29, 30, 32, 34, 36, 40, 42, 44, 45] [(11, 2, 3), (12, 2, 3)] [5, 38, 46, 48] []) σ0 σ) : zpc (fX9_writeControl_141 σ) (fun r => (zQ [3, 5, 7, 9, 10, 15, 17, 19, 21, 23, 25, 27, 28, 29, 30, 32, 34, 36, 40, 42, 44, 45] [(11, 2, 3), (12, 2, 3)] [5, 38, 46, 48] []) σ0 (r)) := by
  unfold fX9_writeControl_141
  exact zpc_some h
theorem fe_fX9_writeControl {σ0 : zSt} {σ : zSt} {x1 : Int32} (h : (zQ [3, 5, 7, 9, 10, 15, 17, 19, 21, 23, 25, 27, 28, 29, 30, 32, 34, 36, 40, 42, 44, 45] [(11, 2, 3), (12, 2, 3)] [5, 38, 46, 48] []) σ0 σ) : zpc (fX9_writeControl σ x1) (fun r => (zQ [3, 5, 7, 9, 10, 15, 17, 19, 21, 23, 25, 27, 28, 29, 30, 32, 34, 36, 40, 42, 44, 45] [(11, 2, 3), (12, 2, 3)] [5, 38, 46, 48] []) σ0 (r)) := by
  unfold fX9_writeControl
  exact zpc_ck (zpc_if (fun _ => zpc_ck (zpc_ck (zpc_bs (zQ.wi h rfl) (fun σ6 hσ6 => zpc_ck (zpc_bs (zQ.wi hσ6 rfl) (fun σ7 hσ7 => zpc_some hσ7)))))) (fun _ => zpc_ck (zpc_bs (zQ.wi h rfl) (fun σ1 hσ1 => zpc_ck (zpc_ck (zpc_bs (zQ.wi hσ1 rfl) (fun σ2 hσ2 => zpc_ck (zpc_bs (zQ.wi hσ2 rfl) (fun σ3 hσ3 => zpc_ck (zpc_if (fun _ => zpc_bu (fe_fX9_readAhead hσ3) (fun σ5 hσ5 => fe_fX9_writeControl_141 hσ5)) (fun _ => zpc_ck (zpc_if (fun _ => zpc_if (fun _ => fe_fX9_writeControl_141 hσ3) (fun _ => zpc_ck (zpc_ck (zpc_bs (zQ.wi hσ3 rfl) (fun σ4 hσ4 => fe_fX9_writeControl_141 hσ4))))) (fun _ => fe_fX9_writeControl_141 hσ3)))))))))))))
theorem fe_fX7_take_155 {σ0 : zSt} {σ : zSt} (h : (zQ [3, 5, 7, 9, 10, 15, 17, 19, 21, 23, 25, 27, 28, 29, 30, 32, 34, 36, 40, 42, 44, 45] [(11, 2, 3), (12, 2, 3)] [5, 38, 46, 48] []) σ0 σ) : zpc (fX7_take_155 σ) (fun r => (zQ [3, 5, 7, 9, 10, 15, 17, 19, 21, 23, 25, 27, 28, 29, 30, 32, 34, 36, 40, 42, 44, 45] [(11, 2, 3), (12, 2, 3)] [5, 38, 46, 48] []) σ0 (r)) := by
  unfold fX7_take_155
  exact zpc_some h
theorem fe_fX7_take_30 {σ0 : zSt} {σ : zSt} {x1 : Int32} {x2 : Int32} (h : (zQ [3, 5, 7, 9, 10, 15, 17, 19, 21, 23, 25, 27, 28, 29, 30, 32, 34, 36, 40, 42, 44, 45] [(11, 2, 3), (12, 2, 3)] [5, 38, 46, 48] []) σ0 σ) : zpc (fX7_take_30 σ x1 x2) (fun r => (zQ [3, 5, 7, 9, 10, 15, 17, 19, 21, 23, 25, 27, 28, 29, 30, 32, 34, 36, 40, 42, 44, 45] [(11, 2, 3), (12, 2, 3)] [5, 38, 46, 48] []) σ0 (r)) := by
  unfold fX7_take_30
  exact zpc_ck (zpc_bv (fun v1 _ => zpc_ck (zpc_if (fun _ => zpc_ck (zpc_bs (zQ.wi h rfl) (fun σ6 hσ6 => fe_fX7_take_155 hσ6))) (fun _ => zpc_if (fun _ => zpc_ck (zpc_bs (zQ.wi h rfl) (fun σ4 hσ4 => zpc_ck (zpc_bs (zQ.wi hσ4 rfl) (fun σ5 hσ5 => fe_fX7_take_155 hσ5))))) (fun _ => zpc_if (fun _ => zpc_ck (zpc_ck (zpc_bs (zQ.wi h rfl) (fun σ2 hσ2 => fe_fX7_take_155 hσ2)))) (fun _ => zpc_ck (zpc_ck (zpc_bs (zQ.wi h rfl) (fun σ3 hσ3 => fe_fX7_take_155 hσ3)))))))))
theorem fe_fX7_take_12 {σ0 : zSt} {σ : zSt} {x1 : Int32} {s0 : Int32} (h : (zQ [3, 5, 7, 9, 10, 15, 17, 19, 21, 23, 25, 27, 28, 29, 30, 32, 34, 36, 40, 42, 44, 45] [(11, 2, 3), (12, 2, 3)] [5, 38, 46, 48] []) σ0 σ) : zpc (fX7_take_12 σ x1 s0) (fun r => (zQ [3, 5, 7, 9, 10, 15, 17, 19, 21, 23, 25, 27, 28, 29, 30, 32, 34, 36, 40, 42, 44, 45] [(11, 2, 3), (12, 2, 3)] [5, 38, 46, 48] []) σ0 (r)) := by
  unfold fX7_take_12
  exact zpc_if (fun _ => fe_fX7_take_30 h) (fun _ => zpc_ck (zpc_bs (zQ.wi h rfl) (fun σ7 hσ7 => fe_fX7_take_30 hσ7)))
theorem fe_fX7_take {σ0 : zSt} {σ : zSt} {x1 : Int32} (h : (zQ [3, 5, 7, 9, 10, 15, 17, 19, 21, 23, 25, 27, 28, 29, 30, 32, 34, 36, 40, 42, 44, 45] [(11, 2, 3), (12, 2, 3)] [5, 38, 46, 48] []) σ0 σ) : zpc (fX7_take σ x1) (fun r => (zQ [3, 5, 7, 9, 10, 15, 17, 19, 21, 23, 25, 27, 28, 29, 30, 32, 34, 36, 40, 42, 44, 45] [(11, 2, 3), (12, 2, 3)] [5, 38, 46, 48] []) σ0 (r)) := by
  unfold fX7_take
  exact zpc_if (fun _ => fe_fX7_take_12 h) (fun _ => fe_fX7_take_12 h)
theorem fe_fX7_takeStereo {σ0 : zSt} {σ : zSt} {x1 : Int32} (h : (zQ [3, 5, 7, 9, 10, 15, 17, 19, 21, 23, 25, 27, 28, 29, 30, 32, 34, 36, 40, 42, 44, 45] [(11, 2, 3), (12, 2, 3)] [5, 38, 46, 48] []) σ0 σ) : zpc (fX7_takeStereo σ x1) (fun r => (zQ [3, 5, 7, 9, 10, 15, 17, 19, 21, 23, 25, 27, 28, 29, 30, 32, 34, 36, 40, 42, 44, 45] [(11, 2, 3), (12, 2, 3)] [5, 38, 46, 48] []) σ0 (r)) := by
  unfold fX7_takeStereo
  exact zpc_ck (zpc_bs (zQ.wi h rfl) (fun σ1 hσ1 => zpc_some hσ1))
theorem fe_fX4_writeHandy_34 {σ0 : zSt} {σ : zSt} (h : (zQ [3, 5, 7, 9, 10, 15, 17, 19, 21, 23, 25, 27, 28, 29, 30, 32, 34, 36, 40, 42, 44, 45] [(11, 2, 3), (12, 2, 3)] [5, 38, 46, 48] []) σ0 σ) : zpc (fX4_writeHandy_34 σ) (fun r => (zQ [3, 5, 7, 9, 10, 15, 17, 19, 21, 23, 25, 27, 28, 29, 30, 32, 34, 36, 40, 42, 44, 45] [(11, 2, 3), (12, 2, 3)] [5, 38, 46, 48] []) σ0 (r)) := by
  unfold fX4_writeHandy_34
  exact zpc_some h
theorem fe_fX4_writeHandy {σ0 : zSt} {σ : zSt} {x1 : Int32} {x2 : Int32} (h : (zQ [3, 5, 7, 9, 10, 15, 17, 19, 21, 23, 25, 27, 28, 29, 30, 32, 34, 36, 40, 42, 44, 45] [(11, 2, 3), (12, 2, 3)] [5, 38, 46, 48] []) σ0 σ) : zpc (fX4_writeHandy σ x1 x2) (fun r => (zQ [3, 5, 7, 9, 10, 15, 17, 19, 21, 23, 25, 27, 28, 29, 30, 32, 34, 36, 40, 42, 44, 45] [(11, 2, 3), (12, 2, 3)] [5, 38, 46, 48] []) σ0 (r)) := by
  unfold fX4_writeHandy
  exact zpc_if (fun _ => zpc_bu (fe_fX7_takeStereo h) (fun σ2 hσ2 => fe_fX4_writeHandy_34 hσ2)) (fun _ => zpc_if (fun _ => fe_fX4_writeHandy_34 h) (fun _ => zpc_if (fun _ => fe_fX4_writeHandy_34 h) (fun _ => zpc_ck (zpc_bs (zQ.wi h rfl) (fun σ1 hσ1 => fe_fX4_writeHandy_34 hσ1)))))
theorem fe_fX4_write_151 {σ0 : zSt} {σ : zSt} (h : (zQ [3, 5, 7, 9, 10, 15, 17, 19, 21, 23, 25, 27, 28, 29, 30, 32, 34, 36, 40, 42, 44, 45] [(11, 2, 3), (12, 2, 3)] [5, 38, 46, 48] []) σ0 σ) : zpc (fX4_write_151 σ) (fun r => (zQ [3, 5, 7, 9, 10, 15, 17, 19, 21, 23, 25, 27, 28, 29, 30, 32, 34, 36, 40, 42, 44, 45] [(11, 2, 3), (12, 2, 3)] [5, 38, 46, 48] []) σ0 (r)) := by
  unfold fX4_write_151
  exact zpc_some h
theorem fe_fX4_write_71 {σ0 : zSt} {σ : zSt} {x2 : Int32} {x3 : Int32} (h : (zQ [3, 5, 7, 9, 10, 15, 17, 19, 21, 23, 25, 27, 28, 29, 30, 32, 34, 36, 40, 42, 44, 45] [(11, 2, 3), (12, 2, 3)] [5, 38, 46, 48] []) σ0 σ) : zpc (fX4_write_71 σ x2 x3) (fun r => (zQ [3, 5, 7, 9, 10, 15, 17, 19, 21, 23, 25, 27, 28, 29, 30, 32, 34, 36, 40, 42, 44, 45] [(11, 2, 3), (12, 2, 3)] [5, 38, 46, 48] []) σ0 (r)) := by
  unfold fX4_write_71
  exact zpc_if (fun _ => zpc_bu (fe_fX4_changeLines h) (fun σ1 hσ1 => fe_fX4_write_151 hσ1)) (fun _ => fe_fX4_write_151 h)
theorem fe_fX4_write_11 {σ0 : zSt} {σ : zSt} {x1 : Int32} {x2 : Int32} {s0 : Int32} (h : (zQ [3, 5, 7, 9, 10, 15, 17, 19, 21, 23, 25, 27, 28, 29, 30, 32, 34, 36, 40, 42, 44, 45] [(11, 2, 3), (12, 2, 3)] [5, 38, 46, 48] []) σ0 σ) : zpc (fX4_write_11 σ x1 x2 s0) (fun r => (zQ [3, 5, 7, 9, 10, 15, 17, 19, 21, 23, 25, 27, 28, 29, 30, 32, 34, 36, 40, 42, 44, 45] [(11, 2, 3), (12, 2, 3)] [5, 38, 46, 48] []) σ0 (r)) := by
  unfold fX4_write_11
  exact zpc_if (fun _ => zpc_if (fun _ => fe_fX4_write_71 h) (fun _ => zpc_if (fun _ => fe_fX4_write_71 h) (fun _ => zpc_if (fun _ => fe_fX4_write_71 h) (fun _ => zpc_bu (fe_fX4_writeHandy h) (fun σ2 hσ2 => fe_fX4_write_151 hσ2))))) (fun _ => zpc_if (fun _ => zpc_bu (fe_fX7_take h) (fun σ3 hσ3 => fe_fX4_write_151 hσ3)) (fun _ => zpc_if (fun _ => zpc_if (fun _ => zpc_bu (fe_fX9_writeControl h) (fun σ4 hσ4 => fe_fX4_write_151 hσ4)) (fun _ => zpc_bu (fe_fX9_writeData h) (fun σ5 hσ5 => fe_fX4_write_151 hσ5))) (fun _ => zpc_if (fun _ => zpc_if (fun _ => fe_fX4_write_151 h) (fun _ => zpc_if (fun _ => fe_fX4_write_151 h) (fun _ => zpc_bu (fe_fX10_take h) (fun σ6 hσ6 => fe_fX4_write_151 hσ6)))) (fun _ => fe_fX4_write_151 h))))
theorem fe_fX4_write {σ0 : zSt} {σ : zSt} {x1 : Int32} {x2 : Int32} (h : (zQ [3, 5, 7, 9, 10, 15, 17, 19, 21, 23, 25, 27, 28, 29, 30, 32, 34, 36, 40, 42, 44, 45] [(11, 2, 3), (12, 2, 3)] [5, 38, 46, 48] []) σ0 σ) : zpc (fX4_write σ x1 x2) (fun r => (zQ [3, 5, 7, 9, 10, 15, 17, 19, 21, 23, 25, 27, 28, 29, 30, 32, 34, 36, 40, 42, 44, 45] [(11, 2, 3), (12, 2, 3)] [5, 38, 46, 48] []) σ0 (r)) := by
  unfold fX4_write
  exact zpc_if (fun _ => fe_fX4_write_11 h) (fun _ => fe_fX4_write_11 h)
theorem fe_fJ7_fill_53178_k36_5_body {σ0 : zSt} {k5 : zSt → Int32 → Int32 → Int32 → Option (zSt)} (hk5 : ∀ (y0 : zSt) (y1 : Int32) (y2 : Int32) (y3 : Int32), (zQ [3, 5, 7, 9, 10, 15, 17, 19, 21, 23, 25, 27, 28, 29, 30, 32, 34, 36, 40, 42, 44, 45] [(11, 2, 3), (12, 2, 3)] [5, 38, 46, 48] []) σ0 y0 → zpc (k5 y0 y1 y2 y3) (fun r => (zQ [3, 5, 7, 9, 10, 15, 17, 19, 21, 23, 25, 27, 28, 29, 30, 32, 34, 36, 40, 42, 44, 45] [(11, 2, 3), (12, 2, 3)] [5, 38, 46, 48] []) σ0 (r))) {σ : zSt} {x1 : Int32} {x2 : Int32} {x3 : Int32} (h : (zQ [3, 5, 7, 9, 10, 15, 17, 19, 21, 23, 25, 27, 28, 29, 30, 32, 34, 36, 40, 42, 44, 45] [(11, 2, 3), (12, 2, 3)] [5, 38, 46, 48] []) σ0 σ) : zpc (fJ7_fill_53178_k36_5_body k5 σ x1 x2 x3) (fun r => (zQ [3, 5, 7, 9, 10, 15, 17, 19, 21, 23, 25, 27, 28, 29, 30, 32, 34, 36, 40, 42, 44, 45] [(11, 2, 3), (12, 2, 3)] [5, 38, 46, 48] []) σ0 (r)) := by
  unfold fJ7_fill_53178_k36_5_body
  exact zpc_if (fun _ => zpc_some h) (fun _ => zpc_ck (zpc_bs (zQ.wi h rfl) (fun σ1 hσ1 => zpc_bv (fun v2 _ => hk5 _ _ _ _ hσ1))))
theorem fe_fJ7_fill_53178_k36_5 {σ0 : zSt} : ∀ (n : Nat) (y0 : zSt) (y1 : Int32) (y2 : Int32) (y3 : Int32), (zQ [3, 5, 7, 9, 10, 15, 17, 19, 21, 23, 25, 27, 28, 29, 30, 32, 34, 36, 40, 42, 44, 45] [(11, 2, 3), (12, 2, 3)] [5, 38, 46, 48] []) σ0 y0 → zpc (fJ7_fill_53178_k36_5 n y0 y1 y2 y3) (fun r => (zQ [3, 5, 7, 9, 10, 15, 17, 19, 21, 23, 25, 27, 28, 29, 30, 32, 34, 36, 40, 42, 44, 45] [(11, 2, 3), (12, 2, 3)] [5, 38, 46, 48] []) σ0 (r)) := by
  intro n
  induction n with
  | zero => intro y0 y1 y2 y3 h; exact zpc_none
  | succ n ih => intro y0 y1 y2 y3 h; exact fe_fJ7_fill_53178_k36_5_body ih h
theorem fe_fJ7_fill_53178_k36 {σ0 : zSt} {σ : zSt} {x1 : Int32} (h : (zQ [3, 5, 7, 9, 10, 15, 17, 19, 21, 23, 25, 27, 28, 29, 30, 32, 34, 36, 40, 42, 44, 45] [(11, 2, 3), (12, 2, 3)] [5, 38, 46, 48] []) σ0 σ) : zpc (fJ7_fill_53178_k36 σ x1) (fun r => (zQ [3, 5, 7, 9, 10, 15, 17, 19, 21, 23, 25, 27, 28, 29, 30, 32, 34, 36, 40, 42, 44, 45] [(11, 2, 3), (12, 2, 3)] [5, 38, 46, 48] []) σ0 (r)) := by
  unfold fJ7_fill_53178_k36
  exact fe_fJ7_fill_53178_k36_5 _ _ _ _ _ h
theorem fe_fX5_clear {σ0 : zSt} {σ : zSt} (h : (zQ [3, 5, 7, 9, 10, 15, 17, 19, 21, 23, 25, 27, 28, 29, 30, 32, 34, 36, 40, 42, 44, 45] [(11, 2, 3), (12, 2, 3)] [5, 38, 46, 48] []) σ0 σ) : zpc (fX5_clear σ) (fun r => (zQ [3, 5, 7, 9, 10, 15, 17, 19, 21, 23, 25, 27, 28, 29, 30, 32, 34, 36, 40, 42, 44, 45] [(11, 2, 3), (12, 2, 3)] [5, 38, 46, 48] []) σ0 (r)) := by
  unfold fX5_clear
  exact zpc_bu (fe_fJ7_fill_53178_k36 h) (fun σ1 hσ1 => zpc_ck (zpc_bs (zQ.wi hσ1 rfl) (fun σ2 hσ2 => zpc_some hσ2)))
theorem fe_fX5_value_20 {σ0 : zSt} {σ : zSt} {s0 : Int32} (h : (zQ [3, 5, 7, 9, 10, 15, 17, 19, 21, 23, 25, 27, 28, 29, 30, 32, 34, 36, 40, 42, 44, 45] [(11, 2, 3), (12, 2, 3)] [5, 38, 46, 48] []) σ0 σ) : zpc (fX5_value_20 σ s0) (fun r => (zQ [3, 5, 7, 9, 10, 15, 17, 19, 21, 23, 25, 27, 28, 29, 30, 32, 34, 36, 40, 42, 44, 45] [(11, 2, 3), (12, 2, 3)] [5, 38, 46, 48] []) σ0 (r.1)) := by
  unfold fX5_value_20
  exact zpc_some h
theorem fe_fX5_value_19 {σ0 : zSt} {σ : zSt} (h : (zQ [3, 5, 7, 9, 10, 15, 17, 19, 21, 23, 25, 27, 28, 29, 30, 32, 34, 36, 40, 42, 44, 45] [(11, 2, 3), (12, 2, 3)] [5, 38, 46, 48] []) σ0 σ) : zpc (fX5_value_19 σ) (fun r => (zQ [3, 5, 7, 9, 10, 15, 17, 19, 21, 23, 25, 27, 28, 29, 30, 32, 34, 36, 40, 42, 44, 45] [(11, 2, 3), (12, 2, 3)] [5, 38, 46, 48] []) σ0 (r.1)) := by
  unfold fX5_value_19
  exact fe_fX5_value_20 h
theorem fe_fX5_value {σ0 : zSt} {σ : zSt} {x1 : Int32} (h : (zQ [3, 5, 7, 9, 10, 15, 17, 19, 21, 23, 25, 27, 28, 29, 30, 32, 34, 36, 40, 42, 44, 45] [(11, 2, 3), (12, 2, 3)] [5, 38, 46, 48] []) σ0 σ) : zpc (fX5_value σ x1) (fun r => (zQ [3, 5, 7, 9, 10, 15, 17, 19, 21, 23, 25, 27, 28, 29, 30, 32, 34, 36, 40, 42, 44, 45] [(11, 2, 3), (12, 2, 3)] [5, 38, 46, 48] []) σ0 (r.1)) := by
  unfold fX5_value
  exact zpc_if (fun _ => fe_fX5_value_19 h) (fun _ => zpc_if (fun _ => fe_fX5_value_19 h) (fun _ => zpc_ck (fe_fX5_value_20 h)))
theorem fe_fX5_change_10 {σ0 : zSt} {σ : zSt} (h : (zQ [3, 5, 7, 9, 10, 15, 17, 19, 21, 23, 25, 27, 28, 29, 30, 32, 34, 36, 40, 42, 44, 45] [(11, 2, 3), (12, 2, 3)] [5, 38, 46, 48] []) σ0 σ) : zpc (fX5_change_10 σ) (fun r => (zQ [3, 5, 7, 9, 10, 15, 17, 19, 21, 23, 25, 27, 28, 29, 30, 32, 34, 36, 40, 42, 44, 45] [(11, 2, 3), (12, 2, 3)] [5, 38, 46, 48] []) σ0 (r)) := by
  unfold fX5_change_10
  exact zpc_some h
theorem fe_fX5_change_81 {σ0 : zSt} {σ : zSt} (h : (zQ [3, 5, 7, 9, 10, 15, 17, 19, 21, 23, 25, 27, 28, 29, 30, 32, 34, 36, 40, 42, 44, 45] [(11, 2, 3), (12, 2, 3)] [5, 38, 46, 48] []) σ0 σ) : zpc (fX5_change_81 σ) (fun r => (zQ [3, 5, 7, 9, 10, 15, 17, 19, 21, 23, 25, 27, 28, 29, 30, 32, 34, 36, 40, 42, 44, 45] [(11, 2, 3), (12, 2, 3)] [5, 38, 46, 48] []) σ0 (r)) := by
  unfold fX5_change_81
  exact zpc_some h
theorem fe_fX5_change_80 {σ0 : zSt} {σ : zSt} {s0 : Int32} {s1 : Int32} (h : (zQ [3, 5, 7, 9, 10, 15, 17, 19, 21, 23, 25, 27, 28, 29, 30, 32, 34, 36, 40, 42, 44, 45] [(11, 2, 3), (12, 2, 3)] [5, 38, 46, 48] []) σ0 σ) : zpc (fX5_change_80 σ s0 s1) (fun r => (zQ [3, 5, 7, 9, 10, 15, 17, 19, 21, 23, 25, 27, 28, 29, 30, 32, 34, 36, 40, 42, 44, 45] [(11, 2, 3), (12, 2, 3)] [5, 38, 46, 48] []) σ0 (r)) := by
  unfold fX5_change_80
  exact zpc_ck (zpc_bs (zQ.wi h rfl) (fun σ1 hσ1 => fe_fX5_change_81 hσ1))
theorem fe_fX5_change_75 {σ0 : zSt} {σ : zSt} {x2 : Int32} {s0 : Int32} (h : (zQ [3, 5, 7, 9, 10, 15, 17, 19, 21, 23, 25, 27, 28, 29, 30, 32, 34, 36, 40, 42, 44, 45] [(11, 2, 3), (12, 2, 3)] [5, 38, 46, 48] []) σ0 σ) : zpc (fX5_change_75 σ x2 s0) (fun r => (zQ [3, 5, 7, 9, 10, 15, 17, 19, 21, 23, 25, 27, 28, 29, 30, 32, 34, 36, 40, 42, 44, 45] [(11, 2, 3), (12, 2, 3)] [5, 38, 46, 48] []) σ0 (r)) := by
  unfold fX5_change_75
  exact fe_fX5_change_80 h
theorem fe_fX5_change {σ0 : zSt} {σ : zSt} {x1 : Int32} {x2 : Int32} (h : (zQ [3, 5, 7, 9, 10, 15, 17, 19, 21, 23, 25, 27, 28, 29, 30, 32, 34, 36, 40, 42, 44, 45] [(11, 2, 3), (12, 2, 3)] [5, 38, 46, 48] []) σ0 σ) : zpc (fX5_change σ x1 x2) (fun r => (zQ [3, 5, 7, 9, 10, 15, 17, 19, 21, 23, 25, 27, 28, 29, 30, 32, 34, 36, 40, 42, 44, 45] [(11, 2, 3), (12, 2, 3)] [5, 38, 46, 48] []) σ0 (r)) := by
  unfold fX5_change
  exact zpc_if (fun _ => fe_fX5_change_10 h) (fun _ => zpc_if (fun _ => zpc_if (fun _ => zpc_ck (zpc_bs (zQ.wi h rfl) (fun σ3 hσ3 => fe_fX5_change_81 hσ3))) (fun _ => zpc_if (fun _ => zpc_if (fun _ => fe_fX5_change_75 h) (fun _ => zpc_if (fun _ => fe_fX5_change_75 h) (fun _ => fe_fX5_change_80 h))) (fun _ => zpc_ck (zpc_bs (zQ.wi h rfl) (fun σ2 hσ2 => fe_fX5_change_81 hσ2))))) (fun _ => fe_fX5_change_10 h))
theorem fe_fX5_askForPause {σ0 : zSt} {σ : zSt} (h : (zQ [3, 5, 7, 9, 10, 15, 17, 19, 21, 23, 25, 27, 28, 29, 30, 32, 34, 36, 40, 42, 44, 45] [(11, 2, 3), (12, 2, 3)] [5, 38, 46, 48] []) σ0 σ) : zpc (fX5_askForPause σ) (fun r => (zQ [3, 5, 7, 9, 10, 15, 17, 19, 21, 23, 25, 27, 28, 29, 30, 32, 34, 36, 40, 42, 44, 45] [(11, 2, 3), (12, 2, 3)] [5, 38, 46, 48] []) σ0 (r)) := by
  unfold fX5_askForPause
  exact zpc_ck (zpc_bs (zQ.wi h rfl) (fun σ1 hσ1 => zpc_some hσ1))
theorem fe_fX5_growR {σ0 : zSt} {σ : zSt} (h : (zQ [3, 5, 7, 9, 10, 15, 17, 19, 21, 23, 25, 27, 28, 29, 30, 32, 34, 36, 40, 42, 44, 45] [(11, 2, 3), (12, 2, 3)] [5, 38, 46, 48] []) σ0 σ) : zpc (fX5_growR σ) (fun r => (zQ [3, 5, 7, 9, 10, 15, 17, 19, 21, 23, 25, 27, 28, 29, 30, 32, 34, 36, 40, 42, 44, 45] [(11, 2, 3), (12, 2, 3)] [5, 38, 46, 48] []) σ0 (r)) := by
  unfold fX5_growR
  exact zpc_ck (zpc_ck (zpc_ck (zpc_bs (zQ.wi h rfl) (fun σ1 hσ1 => zpc_some hσ1))))
theorem fe_fX5_push {σ0 : zSt} {σ : zSt} {x1 : Int32} (h : (zQ [3, 5, 7, 9, 10, 15, 17, 19, 21, 23, 25, 27, 28, 29, 30, 32, 34, 36, 40, 42, 44, 45] [(11, 2, 3), (12, 2, 3)] [5, 38, 46, 48] []) σ0 σ) : zpc (fX5_push σ x1) (fun r => (zQ [3, 5, 7, 9, 10, 15, 17, 19, 21, 23, 25, 27, 28, 29, 30, 32, 34, 36, 40, 42, 44, 45] [(11, 2, 3), (12, 2, 3)] [5, 38, 46, 48] []) σ0 (r)) := by
  unfold fX5_push
  exact zpc_ck (zpc_bu (fe_fX2_write h) (fun σ1 hσ1 => zpc_ck (zpc_bu (fe_fX2_write hσ1) (fun σ2 hσ2 => zpc_ck (zpc_ck (zpc_bs (zQ.wi hσ2 rfl) (fun σ3 hσ3 => zpc_some hσ3)))))))
theorem fe_fX5_goTo {σ0 : zSt} {σ : zSt} {x1 : Int32} (h : (zQ [3, 5, 7, 9, 10, 15, 17, 19, 21, 23, 25, 27, 28, 29, 30, 32, 34, 36, 40, 42, 44, 45] [(11, 2, 3), (12, 2, 3)] [5, 38, 46, 48] []) σ0 σ) : zpc (fX5_goTo σ x1) (fun r => (zQ [3, 5, 7, 9, 10, 15, 17, 19, 21, 23, 25, 27, 28, 29, 30, 32, 34, 36, 40, 42, 44, 45] [(11, 2, 3), (12, 2, 3)] [5, 38, 46, 48] []) σ0 (r)) := by
  unfold fX5_goTo
  exact zpc_ck (zpc_bs (zQ.wi h rfl) (fun σ1 hσ1 => zpc_ck (zpc_bs (zQ.wi hσ1 rfl) (fun σ2 hσ2 => zpc_some hσ2))))
theorem fe_fX5_breakOff {σ0 : zSt} {σ : zSt} {x1 : Int32} (h : (zQ [3, 5, 7, 9, 10, 15, 17, 19, 21, 23, 25, 27, 28, 29, 30, 32, 34, 36, 40, 42, 44, 45] [(11, 2, 3), (12, 2, 3)] [5, 38, 46, 48] []) σ0 σ) : zpc (fX5_breakOff σ x1) (fun r => (zQ [3, 5, 7, 9, 10, 15, 17, 19, 21, 23, 25, 27, 28, 29, 30, 32, 34, 36, 40, 42, 44, 45] [(11, 2, 3), (12, 2, 3)] [5, 38, 46, 48] []) σ0 (r)) := by
  unfold fX5_breakOff
  exact zpc_bu (fe_fX5_growR h) (fun σ1 hσ1 => zpc_ck (zpc_bs (zQ.wi hσ1 rfl) (fun σ2 hσ2 => zpc_ck (zpc_bu (fe_fX5_push hσ2) (fun σ3 hσ3 => zpc_bu (fe_fX5_goTo hσ3) (fun σ4 hσ4 => zpc_some hσ4))))))
theorem fe_fX5_readWord {σ0 : zSt} {σ : zSt} {x1 : Int32} (h : (zQ [3, 5, 7, 9, 10, 15, 17, 19, 21, 23, 25, 27, 28, 29, 30, 32, 34, 36, 40, 42, 44, 45] [(11, 2, 3), (12, 2, 3)] [5, 38, 46, 48] []) σ0 σ) : zpc (fX5_readWord σ x1) (fun r => (zQ [3, 5, 7, 9, 10, 15, 17, 19, 21, 23, 25, 27, 28, 29, 30, 32, 34, 36, 40, 42, 44, 45] [(11, 2, 3), (12, 2, 3)] [5, 38, 46, 48] []) σ0 (r.1)) := by
  unfold fX5_readWord
  exact zpc_bi (fe_fX2_read h) (fun σ1 v2 hσ1 => zpc_bi (fe_fX2_read hσ1) (fun σ3 v4 hσ3 => zpc_some hσ3))
theorem fe_fX5_answerCalls_82 {σ0 : zSt} {σ : zSt} (h : (zQ [3, 5, 7, 9, 10, 15, 17, 19, 21, 23, 25, 27, 28, 29, 30, 32, 34, 36, 40, 42, 44, 45] [(11, 2, 3), (12, 2, 3)] [5, 38, 46, 48] []) σ0 σ) : zpc (fX5_answerCalls_82 σ) (fun r => (zQ [3, 5, 7, 9, 10, 15, 17, 19, 21, 23, 25, 27, 28, 29, 30, 32, 34, 36, 40, 42, 44, 45] [(11, 2, 3), (12, 2, 3)] [5, 38, 46, 48] []) σ0 (r.1)) := by
  unfold fX5_answerCalls_82
  exact zpc_some h
theorem fe_fX5_answerCalls_64 {σ0 : zSt} {σ : zSt} {x1 : Int32} {x2 : Int32} (h : (zQ [3, 5, 7, 9, 10, 15, 17, 19, 21, 23, 25, 27, 28, 29, 30, 32, 34, 36, 40, 42, 44, 45] [(11, 2, 3), (12, 2, 3)] [5, 38, 46, 48] []) σ0 σ) : zpc (fX5_answerCalls_64 σ x1 x2) (fun r => (zQ [3, 5, 7, 9, 10, 15, 17, 19, 21, 23, 25, 27, 28, 29, 30, 32, 34, 36, 40, 42, 44, 45] [(11, 2, 3), (12, 2, 3)] [5, 38, 46, 48] []) σ0 (r.1)) := by
  unfold fX5_answerCalls_64
  exact zpc_if (fun _ => fe_fX5_answerCalls_82 h) (fun _ => zpc_if (fun _ => fe_fX5_answerCalls_82 h) (fun _ => zpc_ck (zpc_if (fun _ => fe_fX5_answerCalls_82 h) (fun _ => zpc_ck (zpc_bs (zQ.wi h rfl) (fun σ1 hσ1 => zpc_ck (zpc_bs (zQ.wi hσ1 rfl) (fun σ2 hσ2 => zpc_ck (zpc_if (fun _ => zpc_ck (zpc_bi (fe_fX5_readWord hσ2) (fun σ4 v5 hσ4 => zpc_bu (fe_fX5_breakOff hσ4) (fun σ6 hσ6 => zpc_some hσ6)))) (fun _ => zpc_bu (fe_fX5_breakOff hσ2) (fun σ3 hσ3 => zpc_some hσ3)))))))))))
theorem fe_fX5_answerCalls_15 {σ0 : zSt} {σ : zSt} {x1 : Int32} {s0 : Int32} (h : (zQ [3, 5, 7, 9, 10, 15, 17, 19, 21, 23, 25, 27, 28, 29, 30, 32, 34, 36, 40, 42, 44, 45] [(11, 2, 3), (12, 2, 3)] [5, 38, 46, 48] []) σ0 σ) : zpc (fX5_answerCalls_15 σ x1 s0) (fun r => (zQ [3, 5, 7, 9, 10, 15, 17, 19, 21, 23, 25, 27, 28, 29, 30, 32, 34, 36, 40, 42, 44, 45] [(11, 2, 3), (12, 2, 3)] [5, 38, 46, 48] []) σ0 (r.1)) := by
  unfold fX5_answerCalls_15
  exact zpc_ck (zpc_bs (zQ.wi h rfl) (fun σ7 hσ7 => zpc_if (fun _ => fe_fX5_answerCalls_64 hσ7) (fun _ => zpc_ck (zpc_if (fun _ => zpc_ck (zpc_bs (zQ.wi hσ7 rfl) (fun σ8 hσ8 => zpc_ck (zpc_bs (zQ.wi hσ8 rfl) (fun σ9 hσ9 => zpc_bu (fe_fX5_breakOff hσ9) (fun σ10 hσ10 => zpc_some hσ10)))))) (fun _ => fe_fX5_answerCalls_64 hσ7)))))
theorem fe_fX5_answerCalls {σ0 : zSt} {σ : zSt} {x1 : Int32} (h : (zQ [3, 5, 7, 9, 10, 15, 17, 19, 21, 23, 25, 27, 28, 29, 30, 32, 34, 36, 40, 42, 44, 45] [(11, 2, 3), (12, 2, 3)] [5, 38, 46, 48] []) σ0 σ) : zpc (fX5_answerCalls σ x1) (fun r => (zQ [3, 5, 7, 9, 10, 15, 17, 19, 21, 23, 25, 27, 28, 29, 30, 32, 34, 36, 40, 42, 44, 45] [(11, 2, 3), (12, 2, 3)] [5, 38, 46, 48] []) σ0 (r.1)) := by
  unfold fX5_answerCalls
  exact zpc_ck (zpc_if (fun _ => fe_fX5_answerCalls_15 h) (fun _ => fe_fX5_answerCalls_15 h))
theorem fe_fX5_pairAt {σ0 : zSt} {σ : zSt} {x1 : Int32} (h : (zQ [3, 5, 7, 9, 10, 15, 17, 19, 21, 23, 25, 27, 28, 29, 30, 32, 34, 36, 40, 42, 44, 45] [(11, 2, 3), (12, 2, 3)] [5, 38, 46, 48] []) σ0 σ) : zpc (fX5_pairAt σ x1) (fun r => (zQ [3, 5, 7, 9, 10, 15, 17, 19, 21, 23, 25, 27, 28, 29, 30, 32, 34, 36, 40, 42, 44, 45] [(11, 2, 3), (12, 2, 3)] [5, 38, 46, 48] []) σ0 (r.1)) := by
  unfold fX5_pairAt
  exact zpc_ck (zpc_ck (zpc_some h))
theorem fe_fX5_fetch {σ0 : zSt} {σ : zSt} (h : (zQ [3, 5, 7, 9, 10, 15, 17, 19, 21, 23, 25, 27, 28, 29, 30, 32, 34, 36, 40, 42, 44, 45] [(11, 2, 3), (12, 2, 3)] [5, 38, 46, 48] []) σ0 σ) : zpc (fX5_fetch σ) (fun r => (zQ [3, 5, 7, 9, 10, 15, 17, 19, 21, 23, 25, 27, 28, 29, 30, 32, 34, 36, 40, 42, 44, 45] [(11, 2, 3), (12, 2, 3)] [5, 38, 46, 48] []) σ0 (r.1)) := by
  unfold fX5_fetch
  exact zpc_ck (zpc_bi (fe_fX2_read h) (fun σ1 v2 hσ1 => zpc_ck (zpc_ck (zpc_bs (zQ.wi hσ1 rfl) (fun σ3 hσ3 => zpc_some hσ3)))))
theorem fe_fX5_fetchOp {σ0 : zSt} {σ : zSt} (h : (zQ [3, 5, 7, 9, 10, 15, 17, 19, 21, 23, 25, 27, 28, 29, 30, 32, 34, 36, 40, 42, 44, 45] [(11, 2, 3), (12, 2, 3)] [5, 38, 46, 48] []) σ0 σ) : zpc (fX5_fetchOp σ) (fun r => (zQ [3, 5, 7, 9, 10, 15, 17, 19, 21, 23, 25, 27, 28, 29, 30, 32, 34, 36, 40, 42, 44, 45] [(11, 2, 3), (12, 2, 3)] [5, 38, 46, 48] []) σ0 (r.1)) := by
  unfold fX5_fetchOp
  exact zpc_bu (fe_fX5_growR h) (fun σ1 hσ1 => zpc_bi (fe_fX5_fetch hσ1) (fun σ2 v3 hσ2 => zpc_some hσ2))
theorem fe_fX5_askBit_38 {σ0 : zSt} {σ : zSt} {x3 : Int32} {s0 : Int32} {s1 : Int32} {s2 : Int32} (h : (zQ [3, 5, 7, 9, 10, 15, 17, 19, 21, 23, 25, 27, 28, 29, 30, 32, 34, 36, 40, 42, 44, 45] [(11, 2, 3), (12, 2, 3)] [5, 38, 46, 48] []) σ0 σ) : zpc (fX5_askBit_38 σ x3 s0 s1 s2) (fun r => (zQ [3, 5, 7, 9, 10, 15, 17, 19, 21, 23, 25, 27, 28, 29, 30, 32, 34, 36, 40, 42, 44, 45] [(11, 2, 3), (12, 2, 3)] [5, 38, 46, 48] []) σ0 (r)) := by
  unfold fX5_askBit_38
  exact zpc_ck (zpc_bs (zQ.wi h rfl) (fun σ1 hσ1 => zpc_some hσ1))
theorem fe_fX5_askBit {σ0 : zSt} {σ : zSt} {x1 : Int32} {x2 : Int32} {x3 : Int32} (h : (zQ [3, 5, 7, 9, 10, 15, 17, 19, 21, 23, 25, 27, 28, 29, 30, 32, 34, 36, 40, 42, 44, 45] [(11, 2, 3), (12, 2, 3)] [5, 38, 46, 48] []) σ0 σ) : zpc (fX5_askBit σ x1 x2 x3) (fun r => (zQ [3, 5, 7, 9, 10, 15, 17, 19, 21, 23, 25, 27, 28, 29, 30, 32, 34, 36, 40, 42, 44, 45] [(11, 2, 3), (12, 2, 3)] [5, 38, 46, 48] []) σ0 (r)) := by
  unfold fX5_askBit
  exact zpc_bv (fun v2 _ => zpc_ck (zpc_if (fun _ => fe_fX5_askBit_38 h) (fun _ => fe_fX5_askBit_38 h)))
theorem fe_fX5_by_15 {σ0 : zSt} {σ : zSt} {s0 : Int32} {s1 : Int32} (h : (zQ [3, 5, 7, 9, 10, 15, 17, 19, 21, 23, 25, 27, 28, 29, 30, 32, 34, 36, 40, 42, 44, 45] [(11, 2, 3), (12, 2, 3)] [5, 38, 46, 48] []) σ0 σ) : zpc (fX5_by_15 σ s0 s1) (fun r => (zQ [3, 5, 7, 9, 10, 15, 17, 19, 21, 23, 25, 27, 28, 29, 30, 32, 34, 36, 40, 42, 44, 45] [(11, 2, 3), (12, 2, 3)] [5, 38, 46, 48] []) σ0 (r.1)) := by
  unfold fX5_by_15
  exact zpc_some h
theorem fe_fX5_by {σ0 : zSt} {σ : zSt} {x0 : Int32} (h : (zQ [3, 5, 7, 9, 10, 15, 17, 19, 21, 23, 25, 27, 28, 29, 30, 32, 34, 36, 40, 42, 44, 45] [(11, 2, 3), (12, 2, 3)] [5, 38, 46, 48] []) σ0 σ) : zpc (fX5_by σ x0) (fun r => (zQ [3, 5, 7, 9, 10, 15, 17, 19, 21, 23, 25, 27, 28, 29, 30, 32, 34, 36, 40, 42, 44, 45] [(11, 2, 3), (12, 2, 3)] [5, 38, 46, 48] []) σ0 (r.1)) := by
  unfold fX5_by
  exact zpc_if (fun _ => fe_fX5_by_15 h) (fun _ => fe_fX5_by_15 h)
theorem fe_fJ6_bitCount_0f7a4 {σ0 : zSt} {σ : zSt} {x0 : Int32} (h : (zQ [3, 5, 7, 9, 10, 15, 17, 19, 21, 23, 25, 27, 28, 29, 30, 32, 34, 36, 40, 42, 44, 45] [(11, 2, 3), (12, 2, 3)] [5, 38, 46, 48] []) σ0 σ) : zpc (fJ6_bitCount_0f7a4 σ x0) (fun r => (zQ [3, 5, 7, 9, 10, 15, 17, 19, 21, 23, 25, 27, 28, 29, 30, 32, 34, 36, 40, 42, 44, 45] [(11, 2, 3), (12, 2, 3)] [5, 38, 46, 48] []) σ0 (r.1)) := by
  unfold fJ6_bitCount_0f7a4
  exact zpc_bv (fun v1 _ => zpc_bv (fun v2 _ => zpc_bv (fun v3 _ => zpc_bv (fun v4 _ => zpc_bv (fun v5 _ => zpc_some h)))))
theorem fe_fX5_parity_14 {σ0 : zSt} {σ : zSt} {s0 : Int32} (h : (zQ [3, 5, 7, 9, 10, 15, 17, 19, 21, 23, 25, 27, 28, 29, 30, 32, 34, 36, 40, 42, 44, 45] [(11, 2, 3), (12, 2, 3)] [5, 38, 46, 48] []) σ0 σ) : zpc (fX5_parity_14 σ s0) (fun r => (zQ [3, 5, 7, 9, 10, 15, 17, 19, 21, 23, 25, 27, 28, 29, 30, 32, 34, 36, 40, 42, 44, 45] [(11, 2, 3), (12, 2, 3)] [5, 38, 46, 48] []) σ0 (r.1)) := by
  unfold fX5_parity_14
  exact zpc_some h
theorem fe_fX5_parity {σ0 : zSt} {σ : zSt} {x0 : Int32} (h : (zQ [3, 5, 7, 9, 10, 15, 17, 19, 21, 23, 25, 27, 28, 29, 30, 32, 34, 36, 40, 42, 44, 45] [(11, 2, 3), (12, 2, 3)] [5, 38, 46, 48] []) σ0 σ) : zpc (fX5_parity σ x0) (fun r => (zQ [3, 5, 7, 9, 10, 15, 17, 19, 21, 23, 25, 27, 28, 29, 30, 32, 34, 36, 40, 42, 44, 45] [(11, 2, 3), (12, 2, 3)] [5, 38, 46, 48] []) σ0 (r.1)) := by
  unfold fX5_parity
  exact zpc_bi (fe_fJ6_bitCount_0f7a4 h) (fun σ1 v2 hσ1 => zpc_if (fun _ => fe_fX5_parity_14 hσ1) (fun _ => fe_fX5_parity_14 hσ1))
theorem fe_fX5_turn_136 {σ0 : zSt} {σ : zSt} {x4 : Int32} {s0 : Int32} (h : (zQ [3, 5, 7, 9, 10, 15, 17, 19, 21, 23, 25, 27, 28, 29, 30, 32, 34, 36, 40, 42, 44, 45] [(11, 2, 3), (12, 2, 3)] [5, 38, 46, 48] []) σ0 σ) : zpc (fX5_turn_136 σ x4 s0) (fun r => (zQ [3, 5, 7, 9, 10, 15, 17, 19, 21, 23, 25, 27, 28, 29, 30, 32, 34, 36, 40, 42, 44, 45] [(11, 2, 3), (12, 2, 3)] [5, 38, 46, 48] []) σ0 (r.1)) := by
  unfold fX5_turn_136
  exact zpc_bi (fe_fX5_by h) (fun σ1 v2 hσ1 => zpc_bi (fe_fX5_parity hσ1) (fun σ3 v4 hσ3 => zpc_ck (zpc_bs (zQ.wi hσ3 rfl) (fun σ5 hσ5 => zpc_some hσ5))))
theorem fe_fX5_turn_110 {σ0 : zSt} {σ : zSt} {x2 : Int32} {x3 : Int32} {x4 : Int32} {x5 : Int32} (h : (zQ [3, 5, 7, 9, 10, 15, 17, 19, 21, 23, 25, 27, 28, 29, 30, 32, 34, 36, 40, 42, 44, 45] [(11, 2, 3), (12, 2, 3)] [5, 38, 46, 48] []) σ0 σ) : zpc (fX5_turn_110 σ x2 x3 x4 x5) (fun r => (zQ [3, 5, 7, 9, 10, 15, 17, 19, 21, 23, 25, 27, 28, 29, 30, 32, 34, 36, 40, 42, 44, 45] [(11, 2, 3), (12, 2, 3)] [5, 38, 46, 48] []) σ0 (r.1)) := by
  unfold fX5_turn_110
  exact zpc_if (fun _ => fe_fX5_turn_136 h) (fun _ => fe_fX5_turn_136 h)
theorem fe_fX5_turn_72 {σ0 : zSt} {σ : zSt} {x2 : Int32} {x3 : Int32} {x4 : Int32} (h : (zQ [3, 5, 7, 9, 10, 15, 17, 19, 21, 23, 25, 27, 28, 29, 30, 32, 34, 36, 40, 42, 44, 45] [(11, 2, 3), (12, 2, 3)] [5, 38, 46, 48] []) σ0 σ) : zpc (fX5_turn_72 σ x2 x3 x4) (fun r => (zQ [3, 5, 7, 9, 10, 15, 17, 19, 21, 23, 25, 27, 28, 29, 30, 32, 34, 36, 40, 42, 44, 45] [(11, 2, 3), (12, 2, 3)] [5, 38, 46, 48] []) σ0 (r.1)) := by
  unfold fX5_turn_72
  exact fe_fX5_turn_110 h
theorem fe_fX5_turn_79 {σ0 : zSt} {σ : zSt} {x2 : Int32} {x3 : Int32} {x4 : Int32} (h : (zQ [3, 5, 7, 9, 10, 15, 17, 19, 21, 23, 25, 27, 28, 29, 30, 32, 34, 36, 40, 42, 44, 45] [(11, 2, 3), (12, 2, 3)] [5, 38, 46, 48] []) σ0 σ) : zpc (fX5_turn_79 σ x2 x3 x4) (fun r => (zQ [3, 5, 7, 9, 10, 15, 17, 19, 21, 23, 25, 27, 28, 29, 30, 32, 34, 36, 40, 42, 44, 45] [(11, 2, 3), (12, 2, 3)] [5, 38, 46, 48] []) σ0 (r.1)) := by
  unfold fX5_turn_79
  exact zpc_ck (zpc_bv (fun v6 _ => fe_fX5_turn_110 h))
theorem fe_fX5_turn_107 {σ0 : zSt} {σ : zSt} {x2 : Int32} {x3 : Int32} {x4 : Int32} (h : (zQ [3, 5, 7, 9, 10, 15, 17, 19, 21, 23, 25, 27, 28, 29, 30, 32, 34, 36, 40, 42, 44, 45] [(11, 2, 3), (12, 2, 3)] [5, 38, 46, 48] []) σ0 σ) : zpc (fX5_turn_107 σ x2 x3 x4) (fun r => (zQ [3, 5, 7, 9, 10, 15, 17, 19, 21, 23, 25, 27, 28, 29, 30, 32, 34, 36, 40, 42, 44, 45] [(11, 2, 3), (12, 2, 3)] [5, 38, 46, 48] []) σ0 (r.1)) := by
  unfold fX5_turn_107
  exact fe_fX5_turn_110 h
theorem fe_fX5_turn_26 {σ0 : zSt} {σ : zSt} {x1 : Int32} {x2 : Int32} {x3 : Int32} {s0 : Int32} (h : (zQ [3, 5, 7, 9, 10, 15, 17, 19, 21, 23, 25, 27, 28, 29, 30, 32, 34, 36, 40, 42, 44, 45] [(11, 2, 3), (12, 2, 3)] [5, 38, 46, 48] []) σ0 σ) : zpc (fX5_turn_26 σ x1 x2 x3 s0) (fun r => (zQ [3, 5, 7, 9, 10, 15, 17, 19, 21, 23, 25, 27, 28, 29, 30, 32, 34, 36, 40, 42, 44, 45] [(11, 2, 3), (12, 2, 3)] [5, 38, 46, 48] []) σ0 (r.1)) := by
  unfold fX5_turn_26
  exact zpc_if (fun _ => fe_fX5_turn_72 h) (fun _ => zpc_if (fun _ => fe_fX5_turn_72 h) (fun _ => zpc_if (fun _ => fe_fX5_turn_79 h) (fun _ => zpc_if (fun _ => fe_fX5_turn_79 h) (fun _ => zpc_if (fun _ => fe_fX5_turn_107 h) (fun _ => zpc_if (fun _ => zpc_bv (fun v7 _ => fe_fX5_turn_110 h)) (fun _ => zpc_if (fun _ => fe_fX5_turn_110 h) (fun _ => fe_fX5_turn_107 h)))))))
theorem fe_fX5_turn_11 {σ0 : zSt} {σ : zSt} {x1 : Int32} {x2 : Int32} {s0 : Int32} (h : (zQ [3, 5, 7, 9, 10, 15, 17, 19, 21, 23, 25, 27, 28, 29, 30, 32, 34, 36, 40, 42, 44, 45] [(11, 2, 3), (12, 2, 3)] [5, 38, 46, 48] []) σ0 σ) : zpc (fX5_turn_11 σ x1 x2 s0) (fun r => (zQ [3, 5, 7, 9, 10, 15, 17, 19, 21, 23, 25, 27, 28, 29, 30, 32, 34, 36, 40, 42, 44, 45] [(11, 2, 3), (12, 2, 3)] [5, 38, 46, 48] []) σ0 (r.1)) := by
  unfold fX5_turn_11
  exact zpc_if (fun _ => fe_fX5_turn_26 h) (fun _ => fe_fX5_turn_26 h)
theorem fe_fX5_turn {σ0 : zSt} {σ : zSt} {x1 : Int32} {x2 : Int32} (h : (zQ [3, 5, 7, 9, 10, 15, 17, 19, 21, 23, 25, 27, 28, 29, 30, 32, 34, 36, 40, 42, 44, 45] [(11, 2, 3), (12, 2, 3)] [5, 38, 46, 48] []) σ0 σ) : zpc (fX5_turn σ x1 x2) (fun r => (zQ [3, 5, 7, 9, 10, 15, 17, 19, 21, 23, 25, 27, 28, 29, 30, 32, 34, 36, 40, 42, 44, 45] [(11, 2, 3), (12, 2, 3)] [5, 38, 46, 48] []) σ0 (r.1)) := by
  unfold fX5_turn
  exact zpc_if (fun _ => fe_fX5_turn_11 h) (fun _ => fe_fX5_turn_11 h)
theorem fe_fX5_turned {σ0 : zSt} {σ : zSt} {x1 : Int32} {x2 : Int32} (h : (zQ [3, 5, 7, 9, 10, 15, 17, 19, 21, 23, 25, 27, 28, 29, 30, 32, 34, 36, 40, 42, 44, 45] [(11, 2, 3), (12, 2, 3)] [5, 38, 46, 48] []) σ0 σ) : zpc (fX5_turned σ x1 x2) (fun r => (zQ [3, 5, 7, 9, 10, 15, 17, 19, 21, 23, 25, 27, 28, 29, 30, 32, 34, 36, 40, 42, 44, 45] [(11, 2, 3), (12, 2, 3)] [5, 38, 46, 48] []) σ0 (r.1)) := by
  unfold fX5_turned
  exact zpc_bv (fun v1 _ => zpc_if (fun _ => zpc_bi (fe_fX5_turn h) (fun σ2 v3 hσ2 => zpc_some hσ2)) (fun _ => zpc_if (fun _ => zpc_some h) (fun _ => zpc_some h)))
theorem fe_fX5_putPairHalf_69 {σ0 : zSt} {σ : zSt} (h : (zQ [3, 5, 7, 9, 10, 15, 17, 19, 21, 23, 25, 27, 28, 29, 30, 32, 34, 36, 40, 42, 44, 45] [(11, 2, 3), (12, 2, 3)] [5, 38, 46, 48] []) σ0 σ) : zpc (fX5_putPairHalf_69 σ) (fun r => (zQ [3, 5, 7, 9, 10, 15, 17, 19, 21, 23, 25, 27, 28, 29, 30, 32, 34, 36, 40, 42, 44, 45] [(11, 2, 3), (12, 2, 3)] [5, 38, 46, 48] []) σ0 (r)) := by
  unfold fX5_putPairHalf_69
  exact zpc_some h
theorem fe_fX5_putPairHalf_68 {σ0 : zSt} {σ : zSt} {s0 : Int32} {s1 : Int32} (h : (zQ [3, 5, 7, 9, 10, 15, 17, 19, 21, 23, 25, 27, 28, 29, 30, 32, 34, 36, 40, 42, 44, 45] [(11, 2, 3), (12, 2, 3)] [5, 38, 46, 48] []) σ0 σ) : zpc (fX5_putPairHalf_68 σ s0 s1) (fun r => (zQ [3, 5, 7, 9, 10, 15, 17, 19, 21, 23, 25, 27, 28, 29, 30, 32, 34, 36, 40, 42, 44, 45] [(11, 2, 3), (12, 2, 3)] [5, 38, 46, 48] []) σ0 (r)) := by
  unfold fX5_putPairHalf_68
  exact zpc_ck (zpc_bs (zQ.wi h rfl) (fun σ1 hσ1 => fe_fX5_putPairHalf_69 hσ1))
theorem fe_fX5_putPairHalf {σ0 : zSt} {σ : zSt} {x1 : Int32} {x2 : Int32} (h : (zQ [3, 5, 7, 9, 10, 15, 17, 19, 21, 23, 25, 27, 28, 29, 30, 32, 34, 36, 40, 42, 44, 45] [(11, 2, 3), (12, 2, 3)] [5, 38, 46, 48] []) σ0 σ) : zpc (fX5_putPairHalf σ x1 x2) (fun r => (zQ [3, 5, 7, 9, 10, 15, 17, 19, 21, 23, 25, 27, 28, 29, 30, 32, 34, 36, 40, 42, 44, 45] [(11, 2, 3), (12, 2, 3)] [5, 38, 46, 48] []) σ0 (r)) := by
  unfold fX5_putPairHalf
  exact zpc_if (fun _ => zpc_ck (zpc_bs (zQ.wi h rfl) (fun σ2 hσ2 => fe_fX5_putPairHalf_69 hσ2))) (fun _ => zpc_if (fun _ => zpc_ck (fe_fX5_putPairHalf_68 h)) (fun _ => zpc_ck (fe_fX5_putPairHalf_68 h)))
theorem fe_fX5_putOne_88 {σ0 : zSt} {σ : zSt} (h : (zQ [3, 5, 7, 9, 10, 15, 17, 19, 21, 23, 25, 27, 28, 29, 30, 32, 34, 36, 40, 42, 44, 45] [(11, 2, 3), (12, 2, 3)] [5, 38, 46, 48] []) σ0 σ) : zpc (fX5_putOne_88 σ) (fun r => (zQ [3, 5, 7, 9, 10, 15, 17, 19, 21, 23, 25, 27, 28, 29, 30, 32, 34, 36, 40, 42, 44, 45] [(11, 2, 3), (12, 2, 3)] [5, 38, 46, 48] []) σ0 (r)) := by
  unfold fX5_putOne_88
  exact zpc_some h
theorem fe_fX5_putOne {σ0 : zSt} {σ : zSt} {x1 : Int32} {x2 : Int32} (h : (zQ [3, 5, 7, 9, 10, 15, 17, 19, 21, 23, 25, 27, 28, 29, 30, 32, 34, 36, 40, 42, 44, 45] [(11, 2, 3), (12, 2, 3)] [5, 38, 46, 48] []) σ0 σ) : zpc (fX5_putOne σ x1 x2) (fun r => (zQ [3, 5, 7, 9, 10, 15, 17, 19, 21, 23, 25, 27, 28, 29, 30, 32, 34, 36, 40, 42, 44, 45] [(11, 2, 3), (12, 2, 3)] [5, 38, 46, 48] []) σ0 (r)) := by
  unfold fX5_putOne
  exact zpc_if (fun _ => zpc_bu (fe_fX5_putPairHalf h) (fun σ1 hσ1 => fe_fX5_putOne_88 hσ1)) (fun _ => zpc_if (fun _ => zpc_bu (fe_fX5_putPairHalf h) (fun σ2 hσ2 => fe_fX5_putOne_88 hσ2)) (fun _ => zpc_if (fun _ => zpc_bu (fe_fX2_write h) (fun σ3 hσ3 => fe_fX5_putOne_88 hσ3)) (fun _ => zpc_if (fun _ => zpc_ck (zpc_bs (zQ.wi h rfl) (fun σ4 hσ4 => fe_fX5_putOne_88 hσ4))) (fun _ => zpc_ck (zpc_bs (zQ.wi h rfl) (fun σ5 hσ5 => fe_fX5_putOne_88 hσ5))))))
theorem fe_fX5_turnBeside_128 {σ0 : zSt} {σ : zSt} (h : (zQ [3, 5, 7, 9, 10, 15, 17, 19, 21, 23, 25, 27, 28, 29, 30, 32, 34, 36, 40, 42, 44, 45] [(11, 2, 3), (12, 2, 3)] [5, 38, 46, 48] []) σ0 σ) : zpc (fX5_turnBeside_128 σ) (fun r => (zQ [3, 5, 7, 9, 10, 15, 17, 19, 21, 23, 25, 27, 28, 29, 30, 32, 34, 36, 40, 42, 44, 45] [(11, 2, 3), (12, 2, 3)] [5, 38, 46, 48] []) σ0 (r.1)) := by
  unfold fX5_turnBeside_128
  exact zpc_some h
theorem fe_fX5_turnBeside {σ0 : zSt} {σ : zSt} (h : (zQ [3, 5, 7, 9, 10, 15, 17, 19, 21, 23, 25, 27, 28, 29, 30, 32, 34, 36, 40, 42, 44, 45] [(11, 2, 3), (12, 2, 3)] [5, 38, 46, 48] []) σ0 σ) : zpc (fX5_turnBeside σ) (fun r => (zQ [3, 5, 7, 9, 10, 15, 17, 19, 21, 23, 25, 27, 28, 29, 30, 32, 34, 36, 40, 42, 44, 45] [(11, 2, 3), (12, 2, 3)] [5, 38, 46, 48] []) σ0 (r.1)) := by
  unfold fX5_turnBeside
  exact zpc_ck (zpc_bi (fe_fX5_fetch h) (fun σ1 v2 hσ1 => zpc_ck (zpc_bs (zQ.wi hσ1 rfl) (fun σ3 hσ3 => zpc_ck (zpc_bs (zQ.wi hσ3 rfl) (fun σ4 hσ4 => zpc_bs (zQ.wi hσ4 rfl) (fun σ5 hσ5 => zpc_bi (fe_fX5_fetch hσ5) (fun σ6 v7 hσ6 => zpc_bi (fe_fX2_read hσ6) (fun σ8 v9 hσ8 => zpc_if (fun _ => zpc_ck (zpc_bu (fe_fX5_askBit hσ8) (fun σ14 hσ14 => zpc_some hσ14))) (fun _ => zpc_bi (fe_fX5_turned hσ8) (fun σ10 v11 hσ10 => zpc_bu (fe_fX2_write hσ10) (fun σ12 hσ12 => zpc_if (fun _ => fe_fX5_turnBeside_128 hσ12) (fun _ => zpc_bu (fe_fX5_putOne hσ12) (fun σ13 hσ13 => fe_fX5_turnBeside_128 hσ13))))))))))))))
theorem fe_fX5_meansPlace_97 {σ0 : zSt} {σ : zSt} {s0 : Int32} (h : (zQ [3, 5, 7, 9, 10, 15, 17, 19, 21, 23, 25, 27, 28, 29, 30, 32, 34, 36, 40, 42, 44, 45] [(11, 2, 3), (12, 2, 3)] [5, 38, 46, 48] []) σ0 σ) : zpc (fX5_meansPlace_97 σ s0) (fun r => (zQ [3, 5, 7, 9, 10, 15, 17, 19, 21, 23, 25, 27, 28, 29, 30, 32, 34, 36, 40, 42, 44, 45] [(11, 2, 3), (12, 2, 3)] [5, 38, 46, 48] []) σ0 (r.1)) := by
  unfold fX5_meansPlace_97
  exact zpc_ck (zpc_some h)
theorem fe_fX5_meansPlace_86 {σ0 : zSt} {σ : zSt} {s0 : Int32} (h : (zQ [3, 5, 7, 9, 10, 15, 17, 19, 21, 23, 25, 27, 28, 29, 30, 32, 34, 36, 40, 42, 44, 45] [(11, 2, 3), (12, 2, 3)] [5, 38, 46, 48] []) σ0 σ) : zpc (fX5_meansPlace_86 σ s0) (fun r => (zQ [3, 5, 7, 9, 10, 15, 17, 19, 21, 23, 25, 27, 28, 29, 30, 32, 34, 36, 40, 42, 44, 45] [(11, 2, 3), (12, 2, 3)] [5, 38, 46, 48] []) σ0 (r.1)) := by
  unfold fX5_meansPlace_86
  exact zpc_ck (zpc_some h)
theorem fe_fX5_meansPlace_85 {σ0 : zSt} {σ : zSt} (h : (zQ [3, 5, 7, 9, 10, 15, 17, 19, 21, 23, 25, 27, 28, 29, 30, 32, 34, 36, 40, 42, 44, 45] [(11, 2, 3), (12, 2, 3)] [5, 38, 46, 48] []) σ0 σ) : zpc (fX5_meansPlace_85 σ) (fun r => (zQ [3, 5, 7, 9, 10, 15, 17, 19, 21, 23, 25, 27, 28, 29, 30, 32, 34, 36, 40, 42, 44, 45] [(11, 2, 3), (12, 2, 3)] [5, 38, 46, 48] []) σ0 (r.1)) := by
  unfold fX5_meansPlace_85
  exact fe_fX5_meansPlace_86 h
theorem fe_fX5_meansPlace_29 {σ0 : zSt} {σ : zSt} {x0 : Int32} {x1 : Int32} {s0 : Int32} (h : (zQ [3, 5, 7, 9, 10, 15, 17, 19, 21, 23, 25, 27, 28, 29, 30, 32, 34, 36, 40, 42, 44, 45] [(11, 2, 3), (12, 2, 3)] [5, 38, 46, 48] []) σ0 σ) : zpc (fX5_meansPlace_29 σ x0 x1 s0) (fun r => (zQ [3, 5, 7, 9, 10, 15, 17, 19, 21, 23, 25, 27, 28, 29, 30, 32, 34, 36, 40, 42, 44, 45] [(11, 2, 3), (12, 2, 3)] [5, 38, 46, 48] []) σ0 (r.1)) := by
  unfold fX5_meansPlace_29
  exact zpc_if (fun _ => zpc_if (fun _ => fe_fX5_meansPlace_85 h) (fun _ => zpc_if (fun _ => fe_fX5_meansPlace_85 h) (fun _ => zpc_if (fun _ => fe_fX5_meansPlace_85 h) (fun _ => fe_fX5_meansPlace_86 h)))) (fun _ => zpc_if (fun _ => zpc_if (fun _ => fe_fX5_meansPlace_97 h) (fun _ => fe_fX5_meansPlace_97 h)) (fun _ => zpc_if (fun _ => zpc_ck (zpc_some h)) (fun _ => zpc_ck (zpc_some h))))
theorem fe_fX5_meansPlace_14 {σ0 : zSt} {σ : zSt} {x0 : Int32} {s0 : Int32} (h : (zQ [3, 5, 7, 9, 10, 15, 17, 19, 21, 23, 25, 27, 28, 29, 30, 32, 34, 36, 40, 42, 44, 45] [(11, 2, 3), (12, 2, 3)] [5, 38, 46, 48] []) σ0 σ) : zpc (fX5_meansPlace_14 σ x0 s0) (fun r => (zQ [3, 5, 7, 9, 10, 15, 17, 19, 21, 23, 25, 27, 28, 29, 30, 32, 34, 36, 40, 42, 44, 45] [(11, 2, 3), (12, 2, 3)] [5, 38, 46, 48] []) σ0 (r.1)) := by
  unfold fX5_meansPlace_14
  exact zpc_if (fun _ => fe_fX5_meansPlace_29 h) (fun _ => fe_fX5_meansPlace_29 h)
theorem fe_fX5_meansPlace {σ0 : zSt} {σ : zSt} {x0 : Int32} (h : (zQ [3, 5, 7, 9, 10, 15, 17, 19, 21, 23, 25, 27, 28, 29, 30, 32, 34, 36, 40, 42, 44, 45] [(11, 2, 3), (12, 2, 3)] [5, 38, 46, 48] []) σ0 σ) : zpc (fX5_meansPlace σ x0) (fun r => (zQ [3, 5, 7, 9, 10, 15, 17, 19, 21, 23, 25, 27, 28, 29, 30, 32, 34, 36, 40, 42, 44, 45] [(11, 2, 3), (12, 2, 3)] [5, 38, 46, 48] []) σ0 (r.1)) := by
  unfold fX5_meansPlace
  exact zpc_if (fun _ => fe_fX5_meansPlace_14 h) (fun _ => fe_fX5_meansPlace_14 h)
theorem fe_fX5_takePlace_64 {σ0 : zSt} {σ : zSt} {s0 : Int32} (h : (zQ [3, 5, 7, 9, 10, 15, 17, 19, 21, 23, 25, 27, 28, 29, 30, 32, 34, 36, 40, 42, 44, 45] [(11, 2, 3), (12, 2, 3)] [5, 38, 46, 48] []) σ0 σ) : zpc (fX5_takePlace_64 σ s0) (fun r => (zQ [3, 5, 7, 9, 10, 15, 17, 19, 21, 23, 25, 27, 28, 29, 30, 32, 34, 36, 40, 42, 44, 45] [(11, 2, 3), (12, 2, 3)] [5, 38, 46, 48] []) σ0 (r.1)) := by
  unfold fX5_takePlace_64
  exact zpc_some h
theorem fe_fX5_takePlace {σ0 : zSt} {σ : zSt} {x1 : Int32} (h : (zQ [3, 5, 7, 9, 10, 15, 17, 19, 21, 23, 25, 27, 28, 29, 30, 32, 34, 36, 40, 42, 44, 45] [(11, 2, 3), (12, 2, 3)] [5, 38, 46, 48] []) σ0 σ) : zpc (fX5_takePlace σ x1) (fun r => (zQ [3, 5, 7, 9, 10, 15, 17, 19, 21, 23, 25, 27, 28, 29, 30, 32, 34, 36, 40, 42, 44, 45] [(11, 2, 3), (12, 2, 3)] [5, 38, 46, 48] []) σ0 (r.1)) := by
  unfold fX5_takePlace
  exact zpc_bi (fe_fX5_meansPlace h) (fun σ1 v2 hσ1 => zpc_if (fun _ => zpc_some hσ1) (fun _ => zpc_ck (zpc_bi (fe_fX5_fetch hσ1) (fun σ3 v4 hσ3 => zpc_ck (zpc_bs (zQ.wi hσ3 rfl) (fun σ5 hσ5 => zpc_ck (zpc_bs (zQ.wi hσ5 rfl) (fun σ6 hσ6 => zpc_bs (zQ.wi hσ6 rfl) (fun σ7 hσ7 => zpc_if (fun _ => fe_fX5_takePlace_64 hσ7) (fun _ => fe_fX5_takePlace_64 hσ7))))))))))
theorem fe_fX5_one_96 {σ0 : zSt} {σ : zSt} {s0 : Int32} (h : (zQ [3, 5, 7, 9, 10, 15, 17, 19, 21, 23, 25, 27, 28, 29, 30, 32, 34, 36, 40, 42, 44, 45] [(11, 2, 3), (12, 2, 3)] [5, 38, 46, 48] []) σ0 σ) : zpc (fX5_one_96 σ s0) (fun r => (zQ [3, 5, 7, 9, 10, 15, 17, 19, 21, 23, 25, 27, 28, 29, 30, 32, 34, 36, 40, 42, 44, 45] [(11, 2, 3), (12, 2, 3)] [5, 38, 46, 48] []) σ0 (r.1)) := by
  unfold fX5_one_96
  exact zpc_some h
theorem fe_fX5_one_63 {σ0 : zSt} {σ : zSt} {s0 : Int32} (h : (zQ [3, 5, 7, 9, 10, 15, 17, 19, 21, 23, 25, 27, 28, 29, 30, 32, 34, 36, 40, 42, 44, 45] [(11, 2, 3), (12, 2, 3)] [5, 38, 46, 48] []) σ0 σ) : zpc (fX5_one_63 σ s0) (fun r => (zQ [3, 5, 7, 9, 10, 15, 17, 19, 21, 23, 25, 27, 28, 29, 30, 32, 34, 36, 40, 42, 44, 45] [(11, 2, 3), (12, 2, 3)] [5, 38, 46, 48] []) σ0 (r.1)) := by
  unfold fX5_one_63
  exact zpc_some h
theorem fe_fX5_one {σ0 : zSt} {σ : zSt} {x1 : Int32} (h : (zQ [3, 5, 7, 9, 10, 15, 17, 19, 21, 23, 25, 27, 28, 29, 30, 32, 34, 36, 40, 42, 44, 45] [(11, 2, 3), (12, 2, 3)] [5, 38, 46, 48] []) σ0 σ) : zpc (fX5_one σ x1) (fun r => (zQ [3, 5, 7, 9, 10, 15, 17, 19, 21, 23, 25, 27, 28, 29, 30, 32, 34, 36, 40, 42, 44, 45] [(11, 2, 3), (12, 2, 3)] [5, 38, 46, 48] []) σ0 (r.1)) := by
  unfold fX5_one
  exact zpc_if (fun _ => zpc_if (fun _ => zpc_ck (fe_fX5_one_63 h)) (fun _ => zpc_ck (fe_fX5_one_63 h))) (fun _ => zpc_if (fun _ => zpc_if (fun _ => zpc_ck (fe_fX5_one_96 h)) (fun _ => zpc_ck (fe_fX5_one_96 h))) (fun _ => zpc_if (fun _ => zpc_bi (fe_fX2_read h) (fun σ1 v2 hσ1 => zpc_some hσ1)) (fun _ => zpc_if (fun _ => zpc_ck (zpc_some h)) (fun _ => zpc_ck (zpc_some h)))))
theorem fe_fX5_turns_63 {σ0 : zSt} {σ : zSt} {s0 : Int32} (h : (zQ [3, 5, 7, 9, 10, 15, 17, 19, 21, 23, 25, 27, 28, 29, 30, 32, 34, 36, 40, 42, 44, 45] [(11, 2, 3), (12, 2, 3)] [5, 38, 46, 48] []) σ0 σ) : zpc (fX5_turns_63 σ s0) (fun r => (zQ [3, 5, 7, 9, 10, 15, 17, 19, 21, 23, 25, 27, 28, 29, 30, 32, 34, 36, 40, 42, 44, 45] [(11, 2, 3), (12, 2, 3)] [5, 38, 46, 48] []) σ0 (r.1)) := by
  unfold fX5_turns_63
  exact zpc_some h
theorem fe_fX5_turns_47 {σ0 : zSt} {σ : zSt} {x2 : Int32} {s0 : Int32} {s1 : Int32} {s2 : Int32} (h : (zQ [3, 5, 7, 9, 10, 15, 17, 19, 21, 23, 25, 27, 28, 29, 30, 32, 34, 36, 40, 42, 44, 45] [(11, 2, 3), (12, 2, 3)] [5, 38, 46, 48] []) σ0 σ) : zpc (fX5_turns_47 σ x2 s0 s1 s2) (fun r => (zQ [3, 5, 7, 9, 10, 15, 17, 19, 21, 23, 25, 27, 28, 29, 30, 32, 34, 36, 40, 42, 44, 45] [(11, 2, 3), (12, 2, 3)] [5, 38, 46, 48] []) σ0 (r.1)) := by
  unfold fX5_turns_47
  exact zpc_bu (fe_fX5_askBit h) (fun σ1 hσ1 => zpc_if (fun _ => fe_fX5_turns_63 hσ1) (fun _ => fe_fX5_turns_63 hσ1))
theorem fe_fX5_turns_88 {σ0 : zSt} {σ : zSt} {s0 : Int32} (h : (zQ [3, 5, 7, 9, 10, 15, 17, 19, 21, 23, 25, 27, 28, 29, 30, 32, 34, 36, 40, 42, 44, 45] [(11, 2, 3), (12, 2, 3)] [5, 38, 46, 48] []) σ0 σ) : zpc (fX5_turns_88 σ s0) (fun r => (zQ [3, 5, 7, 9, 10, 15, 17, 19, 21, 23, 25, 27, 28, 29, 30, 32, 34, 36, 40, 42, 44, 45] [(11, 2, 3), (12, 2, 3)] [5, 38, 46, 48] []) σ0 (r.1)) := by
  unfold fX5_turns_88
  exact zpc_some h
theorem fe_fX5_turns {σ0 : zSt} {σ : zSt} {x1 : Int32} (h : (zQ [3, 5, 7, 9, 10, 15, 17, 19, 21, 23, 25, 27, 28, 29, 30, 32, 34, 36, 40, 42, 44, 45] [(11, 2, 3), (12, 2, 3)] [5, 38, 46, 48] []) σ0 σ) : zpc (fX5_turns σ x1) (fun r => (zQ [3, 5, 7, 9, 10, 15, 17, 19, 21, 23, 25, 27, 28, 29, 30, 32, 34, 36, 40, 42, 44, 45] [(11, 2, 3), (12, 2, 3)] [5, 38, 46, 48] []) σ0 (r.1)) := by
  unfold fX5_turns
  exact zpc_bv (fun v2 _ => zpc_bi (fe_fX5_one h) (fun σ3 v4 hσ3 => zpc_if (fun _ => zpc_if (fun _ => zpc_ck (fe_fX5_turns_47 hσ3)) (fun _ => fe_fX5_turns_47 hσ3)) (fun _ => zpc_bi (fe_fX5_turned hσ3) (fun σ5 v6 hσ5 => zpc_bu (fe_fX5_putOne hσ5) (fun σ7 hσ7 => zpc_if (fun _ => fe_fX5_turns_88 hσ7) (fun _ => fe_fX5_turns_88 hσ7))))))
theorem fe_fX5_putPairAt {σ0 : zSt} {σ : zSt} {x1 : Int32} {x2 : Int32} (h : (zQ [3, 5, 7, 9, 10, 15, 17, 19, 21, 23, 25, 27, 28, 29, 30, 32, 34, 36, 40, 42, 44, 45] [(11, 2, 3), (12, 2, 3)] [5, 38, 46, 48] []) σ0 σ) : zpc (fX5_putPairAt σ x1 x2) (fun r => (zQ [3, 5, 7, 9, 10, 15, 17, 19, 21, 23, 25, 27, 28, 29, 30, 32, 34, 36, 40, 42, 44, 45] [(11, 2, 3), (12, 2, 3)] [5, 38, 46, 48] []) σ0 (r)) := by
  unfold fX5_putPairAt
  exact zpc_ck (zpc_bs (zQ.wi h rfl) (fun σ1 hσ1 => zpc_ck (zpc_bs (zQ.wi hσ1 rfl) (fun σ2 hσ2 => zpc_some hσ2))))
theorem fe_fX5_tellOfPort_34 {σ0 : zSt} {σ : zSt} {x2 : Int32} {s0 : Int32} {s1 : Int32} {s2 : Int32} (h : (zQ [3, 5, 7, 9, 10, 15, 17, 19, 21, 23, 25, 27, 28, 29, 30, 32, 34, 36, 40, 42, 44, 45] [(11, 2, 3), (12, 2, 3)] [5, 38, 46, 48] []) σ0 σ) : zpc (fX5_tellOfPort_34 σ x2 s0 s1 s2) (fun r => (zQ [3, 5, 7, 9, 10, 15, 17, 19, 21, 23, 25, 27, 28, 29, 30, 32, 34, 36, 40, 42, 44, 45] [(11, 2, 3), (12, 2, 3)] [5, 38, 46, 48] []) σ0 (r)) := by
  unfold fX5_tellOfPort_34
  exact zpc_ck (zpc_bi (fe_fX5_parity h) (fun σ1 v2 hσ1 => zpc_ck (zpc_bs (zQ.wi hσ1 rfl) (fun σ3 hσ3 => zpc_some hσ3))))
theorem fe_fX5_tellOfPort {σ0 : zSt} {σ : zSt} {x1 : Int32} {x2 : Int32} (h : (zQ [3, 5, 7, 9, 10, 15, 17, 19, 21, 23, 25, 27, 28, 29, 30, 32, 34, 36, 40, 42, 44, 45] [(11, 2, 3), (12, 2, 3)] [5, 38, 46, 48] []) σ0 σ) : zpc (fX5_tellOfPort σ x1 x2) (fun r => (zQ [3, 5, 7, 9, 10, 15, 17, 19, 21, 23, 25, 27, 28, 29, 30, 32, 34, 36, 40, 42, 44, 45] [(11, 2, 3), (12, 2, 3)] [5, 38, 46, 48] []) σ0 (r)) := by
  unfold fX5_tellOfPort
  exact zpc_ck (zpc_bi (fe_fX5_by h) (fun σ4 v5 hσ4 => zpc_if (fun _ => fe_fX5_tellOfPort_34 hσ4) (fun _ => fe_fX5_tellOfPort_34 hσ4)))
theorem fe_fX5_giveOne_105 {σ0 : zSt} {σ : zSt} {s0 : Int32} (h : (zQ [3, 5, 7, 9, 10, 15, 17, 19, 21, 23, 25, 27, 28, 29, 30, 32, 34, 36, 40, 42, 44, 45] [(11, 2, 3), (12, 2, 3)] [5, 38, 46, 48] []) σ0 σ) : zpc (fX5_giveOne_105 σ s0) (fun r => (zQ [3, 5, 7, 9, 10, 15, 17, 19, 21, 23, 25, 27, 28, 29, 30, 32, 34, 36, 40, 42, 44, 45] [(11, 2, 3), (12, 2, 3)] [5, 38, 46, 48] []) σ0 (r.1)) := by
  unfold fX5_giveOne_105
  exact zpc_ck (zpc_some h)
theorem fe_fX5_giveOne {σ0 : zSt} {σ : zSt} {x1 : Int32} (h : (zQ [3, 5, 7, 9, 10, 15, 17, 19, 21, 23, 25, 27, 28, 29, 30, 32, 34, 36, 40, 42, 44, 45] [(11, 2, 3), (12, 2, 3)] [5, 38, 46, 48] []) σ0 σ) : zpc (fX5_giveOne σ x1) (fun r => (zQ [3, 5, 7, 9, 10, 15, 17, 19, 21, 23, 25, 27, 28, 29, 30, 32, 34, 36, 40, 42, 44, 45] [(11, 2, 3), (12, 2, 3)] [5, 38, 46, 48] []) σ0 (r.1)) := by
  unfold fX5_giveOne
  exact zpc_bi (fe_fX5_pairAt h) (fun σ1 v2 hσ1 => zpc_bi (fe_fX2_read hσ1) (fun σ3 v4 hσ3 => zpc_ck (zpc_ck (zpc_bs (zQ.wi hσ3 rfl) (fun σ5 hσ5 => zpc_ck (zpc_bu (fe_fX4_write hσ5) (fun σ6 hσ6 => zpc_bi (fe_fX5_pairAt hσ6) (fun σ7 v8 hσ7 => zpc_bu (fe_fX5_putPairAt hσ7) (fun σ9 hσ9 => zpc_bi (fe_fX5_pairAt hσ9) (fun σ10 v11 hσ10 => zpc_ck (zpc_bs (zQ.wi hσ10 rfl) (fun σ12 hσ12 => zpc_ck (zpc_bu (fe_fX5_tellOfPort hσ12) (fun σ13 hσ13 => zpc_ck (zpc_if (fun _ => fe_fX5_giveOne_105 hσ13) (fun _ => fe_fX5_giveOne_105 hσ13))))))))))))))))
theorem fe_fX5_takeOne_110 {σ0 : zSt} {σ : zSt} {s0 : Int32} (h : (zQ [3, 5, 7, 9, 10, 15, 17, 19, 21, 23, 25, 27, 28, 29, 30, 32, 34, 36, 40, 42, 44, 45] [(11, 2, 3), (12, 2, 3)] [5, 38, 46, 48] []) σ0 σ) : zpc (fX5_takeOne_110 σ s0) (fun r => (zQ [3, 5, 7, 9, 10, 15, 17, 19, 21, 23, 25, 27, 28, 29, 30, 32, 34, 36, 40, 42, 44, 45] [(11, 2, 3), (12, 2, 3)] [5, 38, 46, 48] []) σ0 (r.1)) := by
  unfold fX5_takeOne_110
  exact zpc_ck (zpc_some h)
theorem fe_fX5_takeOne {σ0 : zSt} {σ : zSt} {x1 : Int32} (h : (zQ [3, 5, 7, 9, 10, 15, 17, 19, 21, 23, 25, 27, 28, 29, 30, 32, 34, 36, 40, 42, 44, 45] [(11, 2, 3), (12, 2, 3)] [5, 38, 46, 48] []) σ0 σ) : zpc (fX5_takeOne σ x1) (fun r => (zQ [3, 5, 7, 9, 10, 15, 17, 19, 21, 23, 25, 27, 28, 29, 30, 32, 34, 36, 40, 42, 44, 45] [(11, 2, 3), (12, 2, 3)] [5, 38, 46, 48] []) σ0 (r.1)) := by
  unfold fX5_takeOne
  exact zpc_bi (fe_fX5_pairAt h) (fun σ1 v2 hσ1 => zpc_ck (zpc_bs (zQ.wi hσ1 rfl) (fun σ3 hσ3 => zpc_ck (zpc_bi (fe_fX4_read hσ3) (fun σ4 v5 hσ4 => zpc_ck (zpc_ck (zpc_bs (zQ.wi hσ4 rfl) (fun σ6 hσ6 => zpc_bi (fe_fX5_pairAt hσ6) (fun σ7 v8 hσ7 => zpc_bu (fe_fX2_write hσ7) (fun σ9 hσ9 => zpc_bi (fe_fX5_pairAt hσ9) (fun σ10 v11 hσ10 => zpc_bu (fe_fX5_putPairAt hσ10) (fun σ12 hσ12 => zpc_ck (zpc_bu (fe_fX5_tellOfPort hσ12) (fun σ13 hσ13 => zpc_ck (zpc_if (fun _ => fe_fX5_takeOne_110 hσ13) (fun _ => fe_fX5_takeOne_110 hσ13))))))))))))))))
theorem fe_fX5_compareOne_184 {σ0 : zSt} {σ : zSt} {s0 : Int32} (h : (zQ [3, 5, 7, 9, 10, 15, 17, 19, 21, 23, 25, 27, 28, 29, 30, 32, 34, 36, 40, 42, 44, 45] [(11, 2, 3), (12, 2, 3)] [5, 38, 46, 48] []) σ0 σ) : zpc (fX5_compareOne_184 σ s0) (fun r => (zQ [3, 5, 7, 9, 10, 15, 17, 19, 21, 23, 25, 27, 28, 29, 30, 32, 34, 36, 40, 42, 44, 45] [(11, 2, 3), (12, 2, 3)] [5, 38, 46, 48] []) σ0 (r.1)) := by
  unfold fX5_compareOne_184
  exact zpc_ck (zpc_some h)
theorem fe_fX5_compareOne_183 {σ0 : zSt} {σ : zSt} (h : (zQ [3, 5, 7, 9, 10, 15, 17, 19, 21, 23, 25, 27, 28, 29, 30, 32, 34, 36, 40, 42, 44, 45] [(11, 2, 3), (12, 2, 3)] [5, 38, 46, 48] []) σ0 σ) : zpc (fX5_compareOne_183 σ) (fun r => (zQ [3, 5, 7, 9, 10, 15, 17, 19, 21, 23, 25, 27, 28, 29, 30, 32, 34, 36, 40, 42, 44, 45] [(11, 2, 3), (12, 2, 3)] [5, 38, 46, 48] []) σ0 (r.1)) := by
  unfold fX5_compareOne_183
  exact fe_fX5_compareOne_184 h
theorem fe_fX5_compareOne_166 {σ0 : zSt} {σ : zSt} {x3 : Int32} {x5 : Int32} {s0 : Int32} {s1 : Int32} {s2 : Int32} (h : (zQ [3, 5, 7, 9, 10, 15, 17, 19, 21, 23, 25, 27, 28, 29, 30, 32, 34, 36, 40, 42, 44, 45] [(11, 2, 3), (12, 2, 3)] [5, 38, 46, 48] []) σ0 σ) : zpc (fX5_compareOne_166 σ x3 x5 s0 s1 s2) (fun r => (zQ [3, 5, 7, 9, 10, 15, 17, 19, 21, 23, 25, 27, 28, 29, 30, 32, 34, 36, 40, 42, 44, 45] [(11, 2, 3), (12, 2, 3)] [5, 38, 46, 48] []) σ0 (r.1)) := by
  unfold fX5_compareOne_166
  exact zpc_ck (zpc_bs (zQ.wi h rfl) (fun σ1 hσ1 => zpc_if (fun _ => fe_fX5_compareOne_183 hσ1) (fun _ => zpc_if (fun _ => fe_fX5_compareOne_183 hσ1) (fun _ => fe_fX5_compareOne_184 hσ1))))
theorem fe_fX5_compareOne_139 {σ0 : zSt} {σ : zSt} {x3 : Int32} {x4 : Int32} {x5 : Int32} {x6 : Int32} {s0 : Int32} {s1 : Int32} {s2 : Int32} (h : (zQ [3, 5, 7, 9, 10, 15, 17, 19, 21, 23, 25, 27, 28, 29, 30, 32, 34, 36, 40, 42, 44, 45] [(11, 2, 3), (12, 2, 3)] [5, 38, 46, 48] []) σ0 σ) : zpc (fX5_compareOne_139 σ x3 x4 x5 x6 s0 s1 s2) (fun r => (zQ [3, 5, 7, 9, 10, 15, 17, 19, 21, 23, 25, 27, 28, 29, 30, 32, 34, 36, 40, 42, 44, 45] [(11, 2, 3), (12, 2, 3)] [5, 38, 46, 48] []) σ0 (r.1)) := by
  unfold fX5_compareOne_139
  exact zpc_if (fun _ => fe_fX5_compareOne_166 h) (fun _ => fe_fX5_compareOne_166 h)
theorem fe_fX5_compareOne_100 {σ0 : zSt} {σ : zSt} {x3 : Int32} {x4 : Int32} {s0 : Int32} (h : (zQ [3, 5, 7, 9, 10, 15, 17, 19, 21, 23, 25, 27, 28, 29, 30, 32, 34, 36, 40, 42, 44, 45] [(11, 2, 3), (12, 2, 3)] [5, 38, 46, 48] []) σ0 σ) : zpc (fX5_compareOne_100 σ x3 x4 s0) (fun r => (zQ [3, 5, 7, 9, 10, 15, 17, 19, 21, 23, 25, 27, 28, 29, 30, 32, 34, 36, 40, 42, 44, 45] [(11, 2, 3), (12, 2, 3)] [5, 38, 46, 48] []) σ0 (r.1)) := by
  unfold fX5_compareOne_100
  exact zpc_bv (fun v2 _ => zpc_ck (zpc_if (fun _ => fe_fX5_compareOne_139 h) (fun _ => fe_fX5_compareOne_139 h)))
theorem fe_fX5_compareOne {σ0 : zSt} {σ : zSt} {x1 : Int32} (h : (zQ [3, 5, 7, 9, 10, 15, 17, 19, 21, 23, 25, 27, 28, 29, 30, 32, 34, 36, 40, 42, 44, 45] [(11, 2, 3), (12, 2, 3)] [5, 38, 46, 48] []) σ0 σ) : zpc (fX5_compareOne σ x1) (fun r => (zQ [3, 5, 7, 9, 10, 15, 17, 19, 21, 23, 25, 27, 28, 29, 30, 32, 34, 36, 40, 42, 44, 45] [(11, 2, 3), (12, 2, 3)] [5, 38, 46, 48] []) σ0 (r.1)) := by
  unfold fX5_compareOne
  exact zpc_bi (fe_fX5_pairAt h) (fun σ3 v4 hσ3 => zpc_bi (fe_fX2_read hσ3) (fun σ5 v6 hσ5 => zpc_ck (zpc_bv (fun v7 _ => zpc_ck (zpc_bv (fun v8 _ => zpc_bi (fe_fX5_pairAt hσ5) (fun σ9 v10 hσ9 => zpc_bu (fe_fX5_putPairAt hσ9) (fun σ11 hσ11 => zpc_bi (fe_fX5_pairAt hσ11) (fun σ12 v13 hσ12 => zpc_bu (fe_fX5_putPairAt hσ12) (fun σ14 hσ14 => zpc_ck (zpc_ck (zpc_bs (zQ.wi hσ14 rfl) (fun σ15 hσ15 => zpc_bi (fe_fX5_pairAt hσ15) (fun σ16 v17 hσ16 => zpc_if (fun _ => fe_fX5_compareOne_100 hσ16) (fun _ => fe_fX5_compareOne_100 hσ16)))))))))))))))
theorem fe_fX5_copyOne_126 {σ0 : zSt} {σ : zSt} {x3 : Int32} {s0 : Int32} {s1 : Int32} {s2 : Int32} (h : (zQ [3, 5, 7, 9, 10, 15, 17, 19, 21, 23, 25, 27, 28, 29, 30, 32, 34, 36, 40, 42, 44, 45] [(11, 2, 3), (12, 2, 3)] [5, 38, 46, 48] []) σ0 σ) : zpc (fX5_copyOne_126 σ x3 s0 s1 s2) (fun r => (zQ [3, 5, 7, 9, 10, 15, 17, 19, 21, 23, 25, 27, 28, 29, 30, 32, 34, 36, 40, 42, 44, 45] [(11, 2, 3), (12, 2, 3)] [5, 38, 46, 48] []) σ0 (r.1)) := by
  unfold fX5_copyOne_126
  exact zpc_ck (zpc_bs (zQ.wi h rfl) (fun σ1 hσ1 => zpc_ck (zpc_some hσ1)))
theorem fe_fX5_copyOne_78 {σ0 : zSt} {σ : zSt} {x2 : Int32} {s0 : Int32} (h : (zQ [3, 5, 7, 9, 10, 15, 17, 19, 21, 23, 25, 27, 28, 29, 30, 32, 34, 36, 40, 42, 44, 45] [(11, 2, 3), (12, 2, 3)] [5, 38, 46, 48] []) σ0 σ) : zpc (fX5_copyOne_78 σ x2 s0) (fun r => (zQ [3, 5, 7, 9, 10, 15, 17, 19, 21, 23, 25, 27, 28, 29, 30, 32, 34, 36, 40, 42, 44, 45] [(11, 2, 3), (12, 2, 3)] [5, 38, 46, 48] []) σ0 (r.1)) := by
  unfold fX5_copyOne_78
  exact zpc_ck (zpc_bv (fun v2 _ => zpc_ck (zpc_if (fun _ => fe_fX5_copyOne_126 h) (fun _ => fe_fX5_copyOne_126 h))))
theorem fe_fX5_copyOne {σ0 : zSt} {σ : zSt} {x1 : Int32} (h : (zQ [3, 5, 7, 9, 10, 15, 17, 19, 21, 23, 25, 27, 28, 29, 30, 32, 34, 36, 40, 42, 44, 45] [(11, 2, 3), (12, 2, 3)] [5, 38, 46, 48] []) σ0 σ) : zpc (fX5_copyOne σ x1) (fun r => (zQ [3, 5, 7, 9, 10, 15, 17, 19, 21, 23, 25, 27, 28, 29, 30, 32, 34, 36, 40, 42, 44, 45] [(11, 2, 3), (12, 2, 3)] [5, 38, 46, 48] []) σ0 (r.1)) := by
  unfold fX5_copyOne
  exact zpc_bi (fe_fX5_pairAt h) (fun σ3 v4 hσ3 => zpc_bi (fe_fX2_read hσ3) (fun σ5 v6 hσ5 => zpc_bi (fe_fX5_pairAt hσ5) (fun σ7 v8 hσ7 => zpc_bu (fe_fX2_write hσ7) (fun σ9 hσ9 => zpc_bi (fe_fX5_pairAt hσ9) (fun σ10 v11 hσ10 => zpc_bu (fe_fX5_putPairAt hσ10) (fun σ12 hσ12 => zpc_bi (fe_fX5_pairAt hσ12) (fun σ13 v14 hσ13 => zpc_bu (fe_fX5_putPairAt hσ13) (fun σ15 hσ15 => zpc_bi (fe_fX5_pairAt hσ15) (fun σ16 v17 hσ16 => zpc_bu (fe_fX5_putPairAt hσ16) (fun σ18 hσ18 => zpc_bi (fe_fX5_pairAt hσ18) (fun σ19 v20 hσ19 => zpc_if (fun _ => fe_fX5_copyOne_78 hσ19) (fun _ => fe_fX5_copyOne_78 hσ19))))))))))))
theorem fe_fX5_block_88 {σ0 : zSt} {σ : zSt} (h : (zQ [3, 5, 7, 9, 10, 15, 17, 19, 21, 23, 25, 27, 28, 29, 30, 32, 34, 36, 40, 42, 44, 45] [(11, 2, 3), (12, 2, 3)] [5, 38, 46, 48] []) σ0 σ) : zpc (fX5_block_88 σ) (fun r => (zQ [3, 5, 7, 9, 10, 15, 17, 19, 21, 23, 25, 27, 28, 29, 30, 32, 34, 36, 40, 42, 44, 45] [(11, 2, 3), (12, 2, 3)] [5, 38, 46, 48] []) σ0 (r.1)) := by
  unfold fX5_block_88
  exact zpc_some h
theorem fe_fX5_block_135 {σ0 : zSt} {σ : zSt} (h : (zQ [3, 5, 7, 9, 10, 15, 17, 19, 21, 23, 25, 27, 28, 29, 30, 32, 34, 36, 40, 42, 44, 45] [(11, 2, 3), (12, 2, 3)] [5, 38, 46, 48] []) σ0 σ) : zpc (fX5_block_135 σ) (fun r => (zQ [3, 5, 7, 9, 10, 15, 17, 19, 21, 23, 25, 27, 28, 29, 30, 32, 34, 36, 40, 42, 44, 45] [(11, 2, 3), (12, 2, 3)] [5, 38, 46, 48] []) σ0 (r.1)) := by
  unfold fX5_block_135
  exact zpc_some h
theorem fe_fX5_block_77 {σ0 : zSt} {σ : zSt} {x1 : Int32} {x3 : Int32} (h : (zQ [3, 5, 7, 9, 10, 15, 17, 19, 21, 23, 25, 27, 28, 29, 30, 32, 34, 36, 40, 42, 44, 45] [(11, 2, 3), (12, 2, 3)] [5, 38, 46, 48] []) σ0 σ) : zpc (fX5_block_77 σ x1 x3) (fun r => (zQ [3, 5, 7, 9, 10, 15, 17, 19, 21, 23, 25, 27, 28, 29, 30, 32, 34, 36, 40, 42, 44, 45] [(11, 2, 3), (12, 2, 3)] [5, 38, 46, 48] []) σ0 (r.1)) := by
  unfold fX5_block_77
  exact zpc_if (fun _ => fe_fX5_block_88 h) (fun _ => zpc_if (fun _ => fe_fX5_block_88 h) (fun _ => zpc_ck (zpc_ck (zpc_bs (zQ.wi h rfl) (fun σ1 hσ1 => zpc_if (fun _ => zpc_ck (zpc_ck (zpc_bs (zQ.wi hσ1 rfl) (fun σ2 hσ2 => fe_fX5_block_135 hσ2)))) (fun _ => fe_fX5_block_135 hσ1))))))
theorem fe_fX5_block_12 {σ0 : zSt} {σ : zSt} {x1 : Int32} {s0 : Int32} (h : (zQ [3, 5, 7, 9, 10, 15, 17, 19, 21, 23, 25, 27, 28, 29, 30, 32, 34, 36, 40, 42, 44, 45] [(11, 2, 3), (12, 2, 3)] [5, 38, 46, 48] []) σ0 σ) : zpc (fX5_block_12 σ x1 s0) (fun r => (zQ [3, 5, 7, 9, 10, 15, 17, 19, 21, 23, 25, 27, 28, 29, 30, 32, 34, 36, 40, 42, 44, 45] [(11, 2, 3), (12, 2, 3)] [5, 38, 46, 48] []) σ0 (r.1)) := by
  unfold fX5_block_12
  exact zpc_if (fun _ => zpc_bi (fe_fX5_copyOne h) (fun σ3 v4 hσ3 => fe_fX5_block_77 hσ3)) (fun _ => zpc_if (fun _ => zpc_bi (fe_fX5_compareOne h) (fun σ5 v6 hσ5 => fe_fX5_block_77 hσ5)) (fun _ => zpc_if (fun _ => zpc_bi (fe_fX5_takeOne h) (fun σ7 v8 hσ7 => fe_fX5_block_77 hσ7)) (fun _ => zpc_bi (fe_fX5_giveOne h) (fun σ9 v10 hσ9 => fe_fX5_block_77 hσ9))))
theorem fe_fX5_block {σ0 : zSt} {σ : zSt} {x1 : Int32} (h : (zQ [3, 5, 7, 9, 10, 15, 17, 19, 21, 23, 25, 27, 28, 29, 30, 32, 34, 36, 40, 42, 44, 45] [(11, 2, 3), (12, 2, 3)] [5, 38, 46, 48] []) σ0 σ) : zpc (fX5_block σ x1) (fun r => (zQ [3, 5, 7, 9, 10, 15, 17, 19, 21, 23, 25, 27, 28, 29, 30, 32, 34, 36, 40, 42, 44, 45] [(11, 2, 3), (12, 2, 3)] [5, 38, 46, 48] []) σ0 (r.1)) := by
  unfold fX5_block
  exact zpc_if (fun _ => fe_fX5_block_12 h) (fun _ => fe_fX5_block_12 h)
theorem fe_fX5_turnDigits_102 {σ0 : zSt} {σ : zSt} {s0 : Int32} {s1 : Int32} {s2 : Int32} (h : (zQ [3, 5, 7, 9, 10, 15, 17, 19, 21, 23, 25, 27, 28, 29, 30, 32, 34, 36, 40, 42, 44, 45] [(11, 2, 3), (12, 2, 3)] [5, 38, 46, 48] []) σ0 σ) : zpc (fX5_turnDigits_102 σ s0 s1 s2) (fun r => (zQ [3, 5, 7, 9, 10, 15, 17, 19, 21, 23, 25, 27, 28, 29, 30, 32, 34, 36, 40, 42, 44, 45] [(11, 2, 3), (12, 2, 3)] [5, 38, 46, 48] []) σ0 (r)) := by
  unfold fX5_turnDigits_102
  exact zpc_ck (zpc_bs (zQ.wi h rfl) (fun σ1 hσ1 => zpc_ck (zpc_ck (zpc_bi (fe_fX5_by hσ1) (fun σ2 v3 hσ2 => zpc_ck (zpc_bi (fe_fX5_parity hσ2) (fun σ4 v5 hσ4 => zpc_ck (zpc_bs (zQ.wi hσ4 rfl) (fun σ6 hσ6 => zpc_some hσ6)))))))))
theorem fe_fX5_turnDigits_70 {σ0 : zSt} {σ : zSt} {x1 : Int32} {x3 : Int32} {s0 : Int32} {s1 : Int32} (h : (zQ [3, 5, 7, 9, 10, 15, 17, 19, 21, 23, 25, 27, 28, 29, 30, 32, 34, 36, 40, 42, 44, 45] [(11, 2, 3), (12, 2, 3)] [5, 38, 46, 48] []) σ0 σ) : zpc (fX5_turnDigits_70 σ x1 x3 s0 s1) (fun r => (zQ [3, 5, 7, 9, 10, 15, 17, 19, 21, 23, 25, 27, 28, 29, 30, 32, 34, 36, 40, 42, 44, 45] [(11, 2, 3), (12, 2, 3)] [5, 38, 46, 48] []) σ0 (r)) := by
  unfold fX5_turnDigits_70
  exact zpc_bu (fe_fX2_write h) (fun σ7 hσ7 => zpc_ck (zpc_if (fun _ => fe_fX5_turnDigits_102 hσ7) (fun _ => fe_fX5_turnDigits_102 hσ7)))
theorem fe_fX5_turnDigits {σ0 : zSt} {σ : zSt} {x1 : Int32} (h : (zQ [3, 5, 7, 9, 10, 15, 17, 19, 21, 23, 25, 27, 28, 29, 30, 32, 34, 36, 40, 42, 44, 45] [(11, 2, 3), (12, 2, 3)] [5, 38, 46, 48] []) σ0 σ) : zpc (fX5_turnDigits σ x1) (fun r => (zQ [3, 5, 7, 9, 10, 15, 17, 19, 21, 23, 25, 27, 28, 29, 30, 32, 34, 36, 40, 42, 44, 45] [(11, 2, 3), (12, 2, 3)] [5, 38, 46, 48] []) σ0 (r)) := by
  unfold fX5_turnDigits
  exact zpc_bi (fe_fX5_pairAt h) (fun σ8 v9 hσ8 => zpc_bi (fe_fX2_read hσ8) (fun σ10 v11 hσ10 => zpc_ck (zpc_bv (fun v12 _ => zpc_ck (zpc_bs (zQ.wi hσ10 rfl) (fun σ13 hσ13 => zpc_if (fun _ => fe_fX5_turnDigits_70 hσ13) (fun _ => fe_fX5_turnDigits_70 hσ13)))))))
theorem fe_fX5_moreOfA_139 {σ0 : zSt} {σ : zSt} {s0 : Int32} {s1 : Int32} {s2 : Int32} (h : (zQ [3, 5, 7, 9, 10, 15, 17, 19, 21, 23, 25, 27, 28, 29, 30, 32, 34, 36, 40, 42, 44, 45] [(11, 2, 3), (12, 2, 3)] [5, 38, 46, 48] []) σ0 σ) : zpc (fX5_moreOfA_139 σ s0 s1 s2) (fun r => (zQ [3, 5, 7, 9, 10, 15, 17, 19, 21, 23, 25, 27, 28, 29, 30, 32, 34, 36, 40, 42, 44, 45] [(11, 2, 3), (12, 2, 3)] [5, 38, 46, 48] []) σ0 (r.1)) := by
  unfold fX5_moreOfA_139
  exact zpc_ck (zpc_bs (zQ.wi h rfl) (fun σ1 hσ1 => zpc_some hσ1))
theorem fe_fX5_moreOfA_99 {σ0 : zSt} {σ : zSt} {s0 : Int32} {s1 : Int32} (h : (zQ [3, 5, 7, 9, 10, 15, 17, 19, 21, 23, 25, 27, 28, 29, 30, 32, 34, 36, 40, 42, 44, 45] [(11, 2, 3), (12, 2, 3)] [5, 38, 46, 48] []) σ0 σ) : zpc (fX5_moreOfA_99 σ s0 s1) (fun r => (zQ [3, 5, 7, 9, 10, 15, 17, 19, 21, 23, 25, 27, 28, 29, 30, 32, 34, 36, 40, 42, 44, 45] [(11, 2, 3), (12, 2, 3)] [5, 38, 46, 48] []) σ0 (r.1)) := by
  unfold fX5_moreOfA_99
  exact zpc_ck (zpc_bs (zQ.wi h rfl) (fun σ2 hσ2 => zpc_ck (zpc_ck (zpc_bi (fe_fX5_by hσ2) (fun σ3 v4 hσ3 => zpc_ck (zpc_if (fun _ => fe_fX5_moreOfA_139 hσ3) (fun _ => fe_fX5_moreOfA_139 hσ3)))))))
theorem fe_fX5_moreOfA_72 {σ0 : zSt} {σ : zSt} {x1 : Int32} (h : (zQ [3, 5, 7, 9, 10, 15, 17, 19, 21, 23, 25, 27, 28, 29, 30, 32, 34, 36, 40, 42, 44, 45] [(11, 2, 3), (12, 2, 3)] [5, 38, 46, 48] []) σ0 σ) : zpc (fX5_moreOfA_72 σ x1) (fun r => (zQ [3, 5, 7, 9, 10, 15, 17, 19, 21, 23, 25, 27, 28, 29, 30, 32, 34, 36, 40, 42, 44, 45] [(11, 2, 3), (12, 2, 3)] [5, 38, 46, 48] []) σ0 (r.1)) := by
  unfold fX5_moreOfA_72
  exact zpc_if (fun _ => zpc_ck (fe_fX5_moreOfA_99 h)) (fun _ => zpc_ck (fe_fX5_moreOfA_99 h))
theorem fe_fX5_moreOfA_155 {σ0 : zSt} {σ : zSt} {s0 : Int32} (h : (zQ [3, 5, 7, 9, 10, 15, 17, 19, 21, 23, 25, 27, 28, 29, 30, 32, 34, 36, 40, 42, 44, 45] [(11, 2, 3), (12, 2, 3)] [5, 38, 46, 48] []) σ0 σ) : zpc (fX5_moreOfA_155 σ s0) (fun r => (zQ [3, 5, 7, 9, 10, 15, 17, 19, 21, 23, 25, 27, 28, 29, 30, 32, 34, 36, 40, 42, 44, 45] [(11, 2, 3), (12, 2, 3)] [5, 38, 46, 48] []) σ0 (r.1)) := by
  unfold fX5_moreOfA_155
  exact zpc_bu (fe_fX5_turnDigits h) (fun σ5 hσ5 => zpc_some hσ5)
theorem fe_fX5_moreOfA_144 {σ0 : zSt} {σ : zSt} {x1 : Int32} (h : (zQ [3, 5, 7, 9, 10, 15, 17, 19, 21, 23, 25, 27, 28, 29, 30, 32, 34, 36, 40, 42, 44, 45] [(11, 2, 3), (12, 2, 3)] [5, 38, 46, 48] []) σ0 σ) : zpc (fX5_moreOfA_144 σ x1) (fun r => (zQ [3, 5, 7, 9, 10, 15, 17, 19, 21, 23, 25, 27, 28, 29, 30, 32, 34, 36, 40, 42, 44, 45] [(11, 2, 3), (12, 2, 3)] [5, 38, 46, 48] []) σ0 (r.1)) := by
  unfold fX5_moreOfA_144
  exact zpc_if (fun _ => fe_fX5_moreOfA_155 h) (fun _ => fe_fX5_moreOfA_155 h)
theorem fe_fX5_moreOfA {σ0 : zSt} {σ : zSt} {x1 : Int32} (h : (zQ [3, 5, 7, 9, 10, 15, 17, 19, 21, 23, 25, 27, 28, 29, 30, 32, 34, 36, 40, 42, 44, 45] [(11, 2, 3), (12, 2, 3)] [5, 38, 46, 48] []) σ0 σ) : zpc (fX5_moreOfA σ x1) (fun r => (zQ [3, 5, 7, 9, 10, 15, 17, 19, 21, 23, 25, 27, 28, 29, 30, 32, 34, 36, 40, 42, 44, 45] [(11, 2, 3), (12, 2, 3)] [5, 38, 46, 48] []) σ0 (r.1)) := by
  unfold fX5_moreOfA
  exact zpc_if (fun _ => zpc_ck (zpc_ck (zpc_bs (zQ.wi h rfl) (fun σ6 hσ6 => zpc_some hσ6)))) (fun _ => zpc_if (fun _ => zpc_ck (zpc_ck (zpc_bs (zQ.wi h rfl) (fun σ7 hσ7 => zpc_some hσ7)))) (fun _ => zpc_if (fun _ => fe_fX5_moreOfA_72 h) (fun _ => zpc_if (fun _ => fe_fX5_moreOfA_72 h) (fun _ => zpc_if (fun _ => fe_fX5_moreOfA_144 h) (fun _ => zpc_if (fun _ => fe_fX5_moreOfA_144 h) (fun _ => zpc_some h))))))
theorem fe_fX5_pop {σ0 : zSt} {σ : zSt} (h : (zQ [3, 5, 7, 9, 10, 15, 17, 19, 21, 23, 25, 27, 28, 29, 30, 32, 34, 36, 40, 42, 44, 45] [(11, 2, 3), (12, 2, 3)] [5, 38, 46, 48] []) σ0 σ) : zpc (fX5_pop σ) (fun r => (zQ [3, 5, 7, 9, 10, 15, 17, 19, 21, 23, 25, 27, 28, 29, 30, 32, 34, 36, 40, 42, 44, 45] [(11, 2, 3), (12, 2, 3)] [5, 38, 46, 48] []) σ0 (r.1)) := by
  unfold fX5_pop
  exact zpc_ck (zpc_bi (fe_fX2_read h) (fun σ1 v2 hσ1 => zpc_ck (zpc_bi (fe_fX2_read hσ1) (fun σ3 v4 hσ3 => zpc_bv (fun v5 _ => zpc_ck (zpc_ck (zpc_bs (zQ.wi hσ3 rfl) (fun σ6 hσ6 => zpc_some hσ6))))))))
theorem fe_fX5_difference_72 {σ0 : zSt} {σ : zSt} {x5 : Int32} {s0 : Int32} {s1 : Int32} {s2 : Int32} (h : (zQ [3, 5, 7, 9, 10, 15, 17, 19, 21, 23, 25, 27, 28, 29, 30, 32, 34, 36, 40, 42, 44, 45] [(11, 2, 3), (12, 2, 3)] [5, 38, 46, 48] []) σ0 σ) : zpc (fX5_difference_72 σ x5 s0 s1 s2) (fun r => (zQ [3, 5, 7, 9, 10, 15, 17, 19, 21, 23, 25, 27, 28, 29, 30, 32, 34, 36, 40, 42, 44, 45] [(11, 2, 3), (12, 2, 3)] [5, 38, 46, 48] []) σ0 (r.1)) := by
  unfold fX5_difference_72
  exact zpc_ck (zpc_bs (zQ.wi h rfl) (fun σ1 hσ1 => zpc_some hσ1))
theorem fe_fX5_difference_59 {σ0 : zSt} {σ : zSt} {x4 : Int32} {x5 : Int32} {s0 : Int32} {s1 : Int32} {s2 : Int32} (h : (zQ [3, 5, 7, 9, 10, 15, 17, 19, 21, 23, 25, 27, 28, 29, 30, 32, 34, 36, 40, 42, 44, 45] [(11, 2, 3), (12, 2, 3)] [5, 38, 46, 48] []) σ0 σ) : zpc (fX5_difference_59 σ x4 x5 s0 s1 s2) (fun r => (zQ [3, 5, 7, 9, 10, 15, 17, 19, 21, 23, 25, 27, 28, 29, 30, 32, 34, 36, 40, 42, 44, 45] [(11, 2, 3), (12, 2, 3)] [5, 38, 46, 48] []) σ0 (r.1)) := by
  unfold fX5_difference_59
  exact zpc_if (fun _ => fe_fX5_difference_72 h) (fun _ => fe_fX5_difference_72 h)
theorem fe_fX5_difference {σ0 : zSt} {σ : zSt} {x1 : Int32} {x2 : Int32} {x3 : Int32} (h : (zQ [3, 5, 7, 9, 10, 15, 17, 19, 21, 23, 25, 27, 28, 29, 30, 32, 34, 36, 40, 42, 44, 45] [(11, 2, 3), (12, 2, 3)] [5, 38, 46, 48] []) σ0 σ) : zpc (fX5_difference σ x1 x2 x3) (fun r => (zQ [3, 5, 7, 9, 10, 15, 17, 19, 21, 23, 25, 27, 28, 29, 30, 32, 34, 36, 40, 42, 44, 45] [(11, 2, 3), (12, 2, 3)] [5, 38, 46, 48] []) σ0 (r.1)) := by
  unfold fX5_difference
  exact zpc_bv (fun v2 _ => zpc_bv (fun v3 _ => zpc_bv (fun v4 _ => zpc_bi (fe_fX5_by h) (fun σ5 v6 hσ5 => zpc_if (fun _ => fe_fX5_difference_59 hσ5) (fun _ => fe_fX5_difference_59 hσ5)))))
theorem fe_fX5_fetchWord {σ0 : zSt} {σ : zSt} (h : (zQ [3, 5, 7, 9, 10, 15, 17, 19, 21, 23, 25, 27, 28, 29, 30, 32, 34, 36, 40, 42, 44, 45] [(11, 2, 3), (12, 2, 3)] [5, 38, 46, 48] []) σ0 σ) : zpc (fX5_fetchWord σ) (fun r => (zQ [3, 5, 7, 9, 10, 15, 17, 19, 21, 23, 25, 27, 28, 29, 30, 32, 34, 36, 40, 42, 44, 45] [(11, 2, 3), (12, 2, 3)] [5, 38, 46, 48] []) σ0 (r.1)) := by
  unfold fX5_fetchWord
  exact zpc_ck (zpc_bi (fe_fX2_read h) (fun σ1 v2 hσ1 => zpc_ck (zpc_bi (fe_fX2_read hσ1) (fun σ3 v4 hσ3 => zpc_bv (fun v5 _ => zpc_ck (zpc_ck (zpc_bs (zQ.wi hσ3 rfl) (fun σ6 hσ6 => zpc_some hσ6))))))))
theorem fe_fX5_hl_27 {σ0 : zSt} {σ : zSt} {s0 : Int32} (h : (zQ [3, 5, 7, 9, 10, 15, 17, 19, 21, 23, 25, 27, 28, 29, 30, 32, 34, 36, 40, 42, 44, 45] [(11, 2, 3), (12, 2, 3)] [5, 38, 46, 48] []) σ0 σ) : zpc (fX5_hl_27 σ s0) (fun r => (zQ [3, 5, 7, 9, 10, 15, 17, 19, 21, 23, 25, 27, 28, 29, 30, 32, 34, 36, 40, 42, 44, 45] [(11, 2, 3), (12, 2, 3)] [5, 38, 46, 48] []) σ0 (r.1)) := by
  unfold fX5_hl_27
  exact zpc_some h
theorem fe_fX5_hl {σ0 : zSt} {σ : zSt} (h : (zQ [3, 5, 7, 9, 10, 15, 17, 19, 21, 23, 25, 27, 28, 29, 30, 32, 34, 36, 40, 42, 44, 45] [(11, 2, 3), (12, 2, 3)] [5, 38, 46, 48] []) σ0 σ) : zpc (fX5_hl σ) (fun r => (zQ [3, 5, 7, 9, 10, 15, 17, 19, 21, 23, 25, 27, 28, 29, 30, 32, 34, 36, 40, 42, 44, 45] [(11, 2, 3), (12, 2, 3)] [5, 38, 46, 48] []) σ0 (r.1)) := by
  unfold fX5_hl
  exact zpc_if (fun _ => zpc_bi (fe_fX5_pairAt h) (fun σ1 v2 hσ1 => fe_fX5_hl_27 hσ1)) (fun _ => zpc_ck (fe_fX5_hl_27 h))
theorem fe_fX5_pair {σ0 : zSt} {σ : zSt} {x1 : Int32} (h : (zQ [3, 5, 7, 9, 10, 15, 17, 19, 21, 23, 25, 27, 28, 29, 30, 32, 34, 36, 40, 42, 44, 45] [(11, 2, 3), (12, 2, 3)] [5, 38, 46, 48] []) σ0 σ) : zpc (fX5_pair σ x1) (fun r => (zQ [3, 5, 7, 9, 10, 15, 17, 19, 21, 23, 25, 27, 28, 29, 30, 32, 34, 36, 40, 42, 44, 45] [(11, 2, 3), (12, 2, 3)] [5, 38, 46, 48] []) σ0 (r.1)) := by
  unfold fX5_pair
  exact zpc_if (fun _ => zpc_bi (fe_fX5_pairAt h) (fun σ1 v2 hσ1 => zpc_some hσ1)) (fun _ => zpc_if (fun _ => zpc_bi (fe_fX5_pairAt h) (fun σ3 v4 hσ3 => zpc_some hσ3)) (fun _ => zpc_if (fun _ => zpc_bi (fe_fX5_hl h) (fun σ5 v6 hσ5 => zpc_some hσ5)) (fun _ => zpc_ck (zpc_some h))))
theorem fe_fX5_writeWord {σ0 : zSt} {σ : zSt} {x1 : Int32} {x2 : Int32} (h : (zQ [3, 5, 7, 9, 10, 15, 17, 19, 21, 23, 25, 27, 28, 29, 30, 32, 34, 36, 40, 42, 44, 45] [(11, 2, 3), (12, 2, 3)] [5, 38, 46, 48] []) σ0 σ) : zpc (fX5_writeWord σ x1 x2) (fun r => (zQ [3, 5, 7, 9, 10, 15, 17, 19, 21, 23, 25, 27, 28, 29, 30, 32, 34, 36, 40, 42, 44, 45] [(11, 2, 3), (12, 2, 3)] [5, 38, 46, 48] []) σ0 (r)) := by
  unfold fX5_writeWord
  exact zpc_bu (fe_fX2_write h) (fun σ1 hσ1 => zpc_bu (fe_fX2_write hσ1) (fun σ2 hσ2 => zpc_some hσ2))
theorem fe_fX5_putHl_32 {σ0 : zSt} {σ : zSt} (h : (zQ [3, 5, 7, 9, 10, 15, 17, 19, 21, 23, 25, 27, 28, 29, 30, 32, 34, 36, 40, 42, 44, 45] [(11, 2, 3), (12, 2, 3)] [5, 38, 46, 48] []) σ0 σ) : zpc (fX5_putHl_32 σ) (fun r => (zQ [3, 5, 7, 9, 10, 15, 17, 19, 21, 23, 25, 27, 28, 29, 30, 32, 34, 36, 40, 42, 44, 45] [(11, 2, 3), (12, 2, 3)] [5, 38, 46, 48] []) σ0 (r)) := by
  unfold fX5_putHl_32
  exact zpc_some h
theorem fe_fX5_putHl {σ0 : zSt} {σ : zSt} {x1 : Int32} (h : (zQ [3, 5, 7, 9, 10, 15, 17, 19, 21, 23, 25, 27, 28, 29, 30, 32, 34, 36, 40, 42, 44, 45] [(11, 2, 3), (12, 2, 3)] [5, 38, 46, 48] []) σ0 σ) : zpc (fX5_putHl σ x1) (fun r => (zQ [3, 5, 7, 9, 10, 15, 17, 19, 21, 23, 25, 27, 28, 29, 30, 32, 34, 36, 40, 42, 44, 45] [(11, 2, 3), (12, 2, 3)] [5, 38, 46, 48] []) σ0 (r)) := by
  unfold fX5_putHl
  exact zpc_if (fun _ => zpc_bu (fe_fX5_putPairAt h) (fun σ2 hσ2 => fe_fX5_putHl_32 hσ2)) (fun _ => zpc_ck (zpc_bs (zQ.wi h rfl) (fun σ1 hσ1 => fe_fX5_putHl_32 hσ1)))
theorem fe_fX5_putPair_65 {σ0 : zSt} {σ : zSt} (h : (zQ [3, 5, 7, 9, 10, 15, 17, 19, 21, 23, 25, 27, 28, 29, 30, 32, 34, 36, 40, 42, 44, 45] [(11, 2, 3), (12, 2, 3)] [5, 38, 46, 48] []) σ0 σ) : zpc (fX5_putPair_65 σ) (fun r => (zQ [3, 5, 7, 9, 10, 15, 17, 19, 21, 23, 25, 27, 28, 29, 30, 32, 34, 36, 40, 42, 44, 45] [(11, 2, 3), (12, 2, 3)] [5, 38, 46, 48] []) σ0 (r)) := by
  unfold fX5_putPair_65
  exact zpc_some h
theorem fe_fX5_putPair {σ0 : zSt} {σ : zSt} {x1 : Int32} {x2 : Int32} (h : (zQ [3, 5, 7, 9, 10, 15, 17, 19, 21, 23, 25, 27, 28, 29, 30, 32, 34, 36, 40, 42, 44, 45] [(11, 2, 3), (12, 2, 3)] [5, 38, 46, 48] []) σ0 σ) : zpc (fX5_putPair σ x1 x2) (fun r => (zQ [3, 5, 7, 9, 10, 15, 17, 19, 21, 23, 25, 27, 28, 29, 30, 32, 34, 36, 40, 42, 44, 45] [(11, 2, 3), (12, 2, 3)] [5, 38, 46, 48] []) σ0 (r)) := by
  unfold fX5_putPair
  exact zpc_if (fun _ => zpc_bu (fe_fX5_putPairAt h) (fun σ1 hσ1 => fe_fX5_putPair_65 hσ1)) (fun _ => zpc_if (fun _ => zpc_bu (fe_fX5_putPairAt h) (fun σ2 hσ2 => fe_fX5_putPair_65 hσ2)) (fun _ => zpc_if (fun _ => zpc_bu (fe_fX5_putHl h) (fun σ3 hσ3 => fe_fX5_putPair_65 hσ3)) (fun _ => zpc_ck (zpc_bs (zQ.wi h rfl) (fun σ4 hσ4 => fe_fX5_putPair_65 hσ4)))))
theorem fe_fX5_farPair_51 {σ0 : zSt} {σ : zSt} (h : (zQ [3, 5, 7, 9, 10, 15, 17, 19, 21, 23, 25, 27, 28, 29, 30, 32, 34, 36, 40, 42, 44, 45] [(11, 2, 3), (12, 2, 3)] [5, 38, 46, 48] []) σ0 σ) : zpc (fX5_farPair_51 σ) (fun r => (zQ [3, 5, 7, 9, 10, 15, 17, 19, 21, 23, 25, 27, 28, 29, 30, 32, 34, 36, 40, 42, 44, 45] [(11, 2, 3), (12, 2, 3)] [5, 38, 46, 48] []) σ0 (r.1)) := by
  unfold fX5_farPair_51
  exact zpc_some h
theorem fe_fX5_farPair {σ0 : zSt} {σ : zSt} {x1 : Int32} (h : (zQ [3, 5, 7, 9, 10, 15, 17, 19, 21, 23, 25, 27, 28, 29, 30, 32, 34, 36, 40, 42, 44, 45] [(11, 2, 3), (12, 2, 3)] [5, 38, 46, 48] []) σ0 σ) : zpc (fX5_farPair σ x1) (fun r => (zQ [3, 5, 7, 9, 10, 15, 17, 19, 21, 23, 25, 27, 28, 29, 30, 32, 34, 36, 40, 42, 44, 45] [(11, 2, 3), (12, 2, 3)] [5, 38, 46, 48] []) σ0 (r.1)) := by
  unfold fX5_farPair
  exact zpc_bi (fe_fX5_fetchWord h) (fun σ1 v2 hσ1 => zpc_ck (zpc_bs (zQ.wi hσ1 rfl) (fun σ3 hσ3 => zpc_if (fun _ => zpc_bi (fe_fX5_pair hσ3) (fun σ7 v8 hσ7 => zpc_bu (fe_fX5_writeWord hσ7) (fun σ9 hσ9 => fe_fX5_farPair_51 hσ9))) (fun _ => zpc_bi (fe_fX5_readWord hσ3) (fun σ4 v5 hσ4 => zpc_bu (fe_fX5_putPair hσ4) (fun σ6 hσ6 => fe_fX5_farPair_51 hσ6))))))
theorem fe_fX5_putWide_44 {σ0 : zSt} {σ : zSt} {x1 : Int32} {x2 : Int32} {x3 : Int32} {s0 : Int32} {s1 : Int32} {s2 : Int32} (h : (zQ [3, 5, 7, 9, 10, 15, 17, 19, 21, 23, 25, 27, 28, 29, 30, 32, 34, 36, 40, 42, 44, 45] [(11, 2, 3), (12, 2, 3)] [5, 38, 46, 48] []) σ0 σ) : zpc (fX5_putWide_44 σ x1 x2 x3 s0 s1 s2) (fun r => (zQ [3, 5, 7, 9, 10, 15, 17, 19, 21, 23, 25, 27, 28, 29, 30, 32, 34, 36, 40, 42, 44, 45] [(11, 2, 3), (12, 2, 3)] [5, 38, 46, 48] []) σ0 (r)) := by
  unfold fX5_putWide_44
  exact zpc_ck (zpc_bs (zQ.wi h rfl) (fun σ1 hσ1 => zpc_some hσ1))
theorem fe_fX5_putWide {σ0 : zSt} {σ : zSt} {x1 : Int32} {x2 : Int32} {x3 : Int32} (h : (zQ [3, 5, 7, 9, 10, 15, 17, 19, 21, 23, 25, 27, 28, 29, 30, 32, 34, 36, 40, 42, 44, 45] [(11, 2, 3), (12, 2, 3)] [5, 38, 46, 48] []) σ0 σ) : zpc (fX5_putWide σ x1 x2 x3) (fun r => (zQ [3, 5, 7, 9, 10, 15, 17, 19, 21, 23, 25, 27, 28, 29, 30, 32, 34, 36, 40, 42, 44, 45] [(11, 2, 3), (12, 2, 3)] [5, 38, 46, 48] []) σ0 (r)) := by
  unfold fX5_putWide
  exact zpc_ck (zpc_bs (zQ.wi h rfl) (fun σ2 hσ2 => zpc_bu (fe_fX5_putHl hσ2) (fun σ3 hσ3 => zpc_if (fun _ => fe_fX5_putWide_44 hσ3) (fun _ => fe_fX5_putWide_44 hσ3))))
theorem fe_fX5_takePair_63 {σ0 : zSt} {σ : zSt} {s0 : Int32} {s1 : Int32} {s2 : Int32} (h : (zQ [3, 5, 7, 9, 10, 15, 17, 19, 21, 23, 25, 27, 28, 29, 30, 32, 34, 36, 40, 42, 44, 45] [(11, 2, 3), (12, 2, 3)] [5, 38, 46, 48] []) σ0 σ) : zpc (fX5_takePair_63 σ s0 s1 s2) (fun r => (zQ [3, 5, 7, 9, 10, 15, 17, 19, 21, 23, 25, 27, 28, 29, 30, 32, 34, 36, 40, 42, 44, 45] [(11, 2, 3), (12, 2, 3)] [5, 38, 46, 48] []) σ0 (r.1)) := by
  unfold fX5_takePair_63
  exact zpc_ck (zpc_bs (zQ.wi h rfl) (fun σ1 hσ1 => zpc_some hσ1))
theorem fe_fX5_takePair {σ0 : zSt} {σ : zSt} {x1 : Int32} (h : (zQ [3, 5, 7, 9, 10, 15, 17, 19, 21, 23, 25, 27, 28, 29, 30, 32, 34, 36, 40, 42, 44, 45] [(11, 2, 3), (12, 2, 3)] [5, 38, 46, 48] []) σ0 σ) : zpc (fX5_takePair σ x1) (fun r => (zQ [3, 5, 7, 9, 10, 15, 17, 19, 21, 23, 25, 27, 28, 29, 30, 32, 34, 36, 40, 42, 44, 45] [(11, 2, 3), (12, 2, 3)] [5, 38, 46, 48] []) σ0 (r.1)) := by
  unfold fX5_takePair
  exact zpc_bi (fe_fX5_hl h) (fun σ2 v3 hσ2 => zpc_bi (fe_fX5_pair hσ2) (fun σ4 v5 hσ4 => zpc_ck (zpc_bv (fun v6 _ => zpc_bu (fe_fX5_putWide hσ4) (fun σ7 hσ7 => zpc_bv (fun v8 _ => zpc_ck (zpc_if (fun _ => fe_fX5_takePair_63 hσ7) (fun _ => fe_fX5_takePair_63 hσ7))))))))
theorem fe_fX5_addPairAndCarry_65 {σ0 : zSt} {σ : zSt} {s0 : Int32} {s1 : Int32} {s2 : Int32} (h : (zQ [3, 5, 7, 9, 10, 15, 17, 19, 21, 23, 25, 27, 28, 29, 30, 32, 34, 36, 40, 42, 44, 45] [(11, 2, 3), (12, 2, 3)] [5, 38, 46, 48] []) σ0 σ) : zpc (fX5_addPairAndCarry_65 σ s0 s1 s2) (fun r => (zQ [3, 5, 7, 9, 10, 15, 17, 19, 21, 23, 25, 27, 28, 29, 30, 32, 34, 36, 40, 42, 44, 45] [(11, 2, 3), (12, 2, 3)] [5, 38, 46, 48] []) σ0 (r.1)) := by
  unfold fX5_addPairAndCarry_65
  exact zpc_ck (zpc_bs (zQ.wi h rfl) (fun σ1 hσ1 => zpc_some hσ1))
theorem fe_fX5_addPairAndCarry {σ0 : zSt} {σ : zSt} {x1 : Int32} (h : (zQ [3, 5, 7, 9, 10, 15, 17, 19, 21, 23, 25, 27, 28, 29, 30, 32, 34, 36, 40, 42, 44, 45] [(11, 2, 3), (12, 2, 3)] [5, 38, 46, 48] []) σ0 σ) : zpc (fX5_addPairAndCarry σ x1) (fun r => (zQ [3, 5, 7, 9, 10, 15, 17, 19, 21, 23, 25, 27, 28, 29, 30, 32, 34, 36, 40, 42, 44, 45] [(11, 2, 3), (12, 2, 3)] [5, 38, 46, 48] []) σ0 (r.1)) := by
  unfold fX5_addPairAndCarry
  exact zpc_bi (fe_fX5_hl h) (fun σ2 v3 hσ2 => zpc_bi (fe_fX5_pair hσ2) (fun σ4 v5 hσ4 => zpc_ck (zpc_bv (fun v6 _ => zpc_bu (fe_fX5_putWide hσ4) (fun σ7 hσ7 => zpc_bv (fun v8 _ => zpc_ck (zpc_if (fun _ => fe_fX5_addPairAndCarry_65 hσ7) (fun _ => fe_fX5_addPairAndCarry_65 hσ7))))))))
theorem fe_fX5_takeFromPort_26 {σ0 : zSt} {σ : zSt} {x2 : Int32} (h : (zQ [3, 5, 7, 9, 10, 15, 17, 19, 21, 23, 25, 27, 28, 29, 30, 32, 34, 36, 40, 42, 44, 45] [(11, 2, 3), (12, 2, 3)] [5, 38, 46, 48] []) σ0 σ) : zpc (fX5_takeFromPort_26 σ x2) (fun r => (zQ [3, 5, 7, 9, 10, 15, 17, 19, 21, 23, 25, 27, 28, 29, 30, 32, 34, 36, 40, 42, 44, 45] [(11, 2, 3), (12, 2, 3)] [5, 38, 46, 48] []) σ0 (r)) := by
  unfold fX5_takeFromPort_26
  exact zpc_ck (zpc_bi (fe_fX5_by h) (fun σ1 v2 hσ1 => zpc_bi (fe_fX5_parity hσ1) (fun σ3 v4 hσ3 => zpc_ck (zpc_bs (zQ.wi hσ3 rfl) (fun σ5 hσ5 => zpc_some hσ5)))))
theorem fe_fX5_takeFromPort {σ0 : zSt} {σ : zSt} {x1 : Int32} (h : (zQ [3, 5, 7, 9, 10, 15, 17, 19, 21, 23, 25, 27, 28, 29, 30, 32, 34, 36, 40, 42, 44, 45] [(11, 2, 3), (12, 2, 3)] [5, 38, 46, 48] []) σ0 σ) : zpc (fX5_takeFromPort σ x1) (fun r => (zQ [3, 5, 7, 9, 10, 15, 17, 19, 21, 23, 25, 27, 28, 29, 30, 32, 34, 36, 40, 42, 44, 45] [(11, 2, 3), (12, 2, 3)] [5, 38, 46, 48] []) σ0 (r)) := by
  unfold fX5_takeFromPort
  exact zpc_ck (zpc_bi (fe_fX4_read h) (fun σ6 v7 hσ6 => zpc_if (fun _ => fe_fX5_takeFromPort_26 hσ6) (fun _ => zpc_bu (fe_fX5_putOne hσ6) (fun σ8 hσ8 => fe_fX5_takeFromPort_26 hσ8))))
theorem fe_fX5_behindEd_160 {σ0 : zSt} {σ : zSt} {s0 : Int32} (h : (zQ [3, 5, 7, 9, 10, 15, 17, 19, 21, 23, 25, 27, 28, 29, 30, 32, 34, 36, 40, 42, 44, 45] [(11, 2, 3), (12, 2, 3)] [5, 38, 46, 48] []) σ0 σ) : zpc (fX5_behindEd_160 σ s0) (fun r => (zQ [3, 5, 7, 9, 10, 15, 17, 19, 21, 23, 25, 27, 28, 29, 30, 32, 34, 36, 40, 42, 44, 45] [(11, 2, 3), (12, 2, 3)] [5, 38, 46, 48] []) σ0 (r.1)) := by
  unfold fX5_behindEd_160
  exact zpc_some h
theorem fe_fX5_behindEd_131 {σ0 : zSt} {σ : zSt} {s0 : Int32} {s1 : Int32} (h : (zQ [3, 5, 7, 9, 10, 15, 17, 19, 21, 23, 25, 27, 28, 29, 30, 32, 34, 36, 40, 42, 44, 45] [(11, 2, 3), (12, 2, 3)] [5, 38, 46, 48] []) σ0 σ) : zpc (fX5_behindEd_131 σ s0 s1) (fun r => (zQ [3, 5, 7, 9, 10, 15, 17, 19, 21, 23, 25, 27, 28, 29, 30, 32, 34, 36, 40, 42, 44, 45] [(11, 2, 3), (12, 2, 3)] [5, 38, 46, 48] []) σ0 (r.1)) := by
  unfold fX5_behindEd_131
  exact zpc_bu (fe_fX4_write h) (fun σ1 hσ1 => zpc_some hσ1)
theorem fe_fX5_behindEd {σ0 : zSt} {σ : zSt} {x1 : Int32} (h : (zQ [3, 5, 7, 9, 10, 15, 17, 19, 21, 23, 25, 27, 28, 29, 30, 32, 34, 36, 40, 42, 44, 45] [(11, 2, 3), (12, 2, 3)] [5, 38, 46, 48] []) σ0 σ) : zpc (fX5_behindEd σ x1) (fun r => (zQ [3, 5, 7, 9, 10, 15, 17, 19, 21, 23, 25, 27, 28, 29, 30, 32, 34, 36, 40, 42, 44, 45] [(11, 2, 3), (12, 2, 3)] [5, 38, 46, 48] []) σ0 (r.1)) := by
  unfold fX5_behindEd
  exact zpc_if (fun _ => zpc_bv (fun v2 _ => zpc_if (fun _ => zpc_bi (fe_fX5_pairAt h) (fun σ3 v4 hσ3 => zpc_ck (zpc_bs (zQ.wi hσ3 rfl) (fun σ5 hσ5 => zpc_bu (fe_fX5_takeFromPort hσ5) (fun σ6 hσ6 => zpc_some hσ6))))) (fun _ => zpc_if (fun _ => zpc_bi (fe_fX5_pairAt h) (fun σ7 v8 hσ7 => zpc_ck (zpc_bs (zQ.wi hσ7 rfl) (fun σ9 hσ9 => zpc_ck (zpc_if (fun _ => fe_fX5_behindEd_131 hσ9) (fun _ => zpc_bi (fe_fX5_one hσ9) (fun σ10 v11 hσ10 => fe_fX5_behindEd_131 hσ10))))))) (fun _ => zpc_if (fun _ => zpc_if (fun _ => zpc_bi (fe_fX5_takePair h) (fun σ14 v15 hσ14 => fe_fX5_behindEd_160 hσ14)) (fun _ => zpc_bi (fe_fX5_addPairAndCarry h) (fun σ12 v13 hσ12 => fe_fX5_behindEd_160 hσ12))) (fun _ => zpc_if (fun _ => zpc_bi (fe_fX5_farPair h) (fun σ16 v17 hσ16 => zpc_some hσ16)) (fun _ => zpc_if (fun _ => zpc_ck (zpc_bi (fe_fX5_difference h) (fun σ18 v19 hσ18 => zpc_ck (zpc_bs (zQ.wi hσ18 rfl) (fun σ20 hσ20 => zpc_some hσ20))))) (fun _ => zpc_if (fun _ => zpc_bi (fe_fX5_pop h) (fun σ21 v22 hσ21 => zpc_bu (fe_fX5_goTo hσ21) (fun σ23 hσ23 => zpc_ck (zpc_ck (zpc_bs (zQ.wi hσ23 rfl) (fun σ24 hσ24 => zpc_some hσ24)))))) (fun _ => zpc_if (fun _ => zpc_ck (zpc_bs (zQ.wi h rfl) (fun σ25 hσ25 => zpc_some hσ25))) (fun _ => zpc_bi (fe_fX5_moreOfA h) (fun σ26 v27 hσ26 => zpc_some hσ26)))))))))) (fun _ => zpc_some h)
theorem fe_fX5_exchange_211 {σ0 : zSt} {σ : zSt} {x1 : Int32} (h : (zQ [3, 5, 7, 9, 10, 15, 17, 19, 21, 23, 25, 27, 28, 29, 30, 32, 34, 36, 40, 42, 44, 45] [(11, 2, 3), (12, 2, 3)] [5, 38, 46, 48] []) σ0 σ) : zpc (fX5_exchange_211 σ x1) (fun r => (zQ [3, 5, 7, 9, 10, 15, 17, 19, 21, 23, 25, 27, 28, 29, 30, 32, 34, 36, 40, 42, 44, 45] [(11, 2, 3), (12, 2, 3)] [5, 38, 46, 48] []) σ0 (r.1)) := by
  unfold fX5_exchange_211
  exact zpc_ck (zpc_bs (zQ.wi h rfl) (fun σ1 hσ1 => zpc_ck (zpc_bs (zQ.wi hσ1 rfl) (fun σ2 hσ2 => zpc_ck (zpc_bs (zQ.wi hσ2 rfl) (fun σ3 hσ3 => zpc_some hσ3))))))
theorem fe_fX5_exchange {σ0 : zSt} {σ : zSt} {x1 : Int32} (h : (zQ [3, 5, 7, 9, 10, 15, 17, 19, 21, 23, 25, 27, 28, 29, 30, 32, 34, 36, 40, 42, 44, 45] [(11, 2, 3), (12, 2, 3)] [5, 38, 46, 48] []) σ0 σ) : zpc (fX5_exchange σ x1) (fun r => (zQ [3, 5, 7, 9, 10, 15, 17, 19, 21, 23, 25, 27, 28, 29, 30, 32, 34, 36, 40, 42, 44, 45] [(11, 2, 3), (12, 2, 3)] [5, 38, 46, 48] []) σ0 (r.1)) := by
  unfold fX5_exchange
  exact zpc_if (fun _ => zpc_bi (fe_fX5_fetchWord h) (fun σ4 v5 hσ4 => zpc_bu (fe_fX5_goTo hσ4) (fun σ6 hσ6 => zpc_some hσ6))) (fun _ => zpc_if (fun _ => fe_fX5_exchange_211 h) (fun _ => zpc_if (fun _ => zpc_bi (fe_fX5_fetch h) (fun σ7 v8 hσ7 => zpc_ck (zpc_bu (fe_fX4_write hσ7) (fun σ9 hσ9 => zpc_ck (zpc_ck (zpc_bs (zQ.wi hσ9 rfl) (fun σ10 hσ10 => zpc_some hσ10))))))) (fun _ => zpc_if (fun _ => zpc_bi (fe_fX5_fetch h) (fun σ11 v12 hσ11 => zpc_ck (zpc_ck (zpc_bs (zQ.wi hσ11 rfl) (fun σ13 hσ13 => zpc_bi (fe_fX4_read hσ13) (fun σ14 v15 hσ14 => zpc_ck (zpc_bs (zQ.wi hσ14 rfl) (fun σ16 hσ16 => zpc_some hσ16)))))))) (fun _ => zpc_if (fun _ => zpc_ck (zpc_bi (fe_fX5_readWord h) (fun σ17 v18 hσ17 => zpc_ck (zpc_bi (fe_fX5_hl hσ17) (fun σ19 v20 hσ19 => zpc_bu (fe_fX5_writeWord hσ19) (fun σ21 hσ21 => zpc_bu (fe_fX5_putHl hσ21) (fun σ22 hσ22 => zpc_ck (zpc_bs (zQ.wi hσ22 rfl) (fun σ23 hσ23 => zpc_some hσ23))))))))) (fun _ => zpc_if (fun _ => zpc_bi (fe_fX5_pairAt h) (fun σ24 v25 hσ24 => zpc_bi (fe_fX5_pairAt hσ24) (fun σ26 v27 hσ26 => zpc_bu (fe_fX5_putPairAt hσ26) (fun σ28 hσ28 => zpc_bu (fe_fX5_putPairAt hσ28) (fun σ29 hσ29 => zpc_some hσ29))))) (fun _ => fe_fX5_exchange_211 h))))))
theorem fe_fX5_sum_61 {σ0 : zSt} {σ : zSt} {x4 : Int32} {x5 : Int32} {s0 : Int32} {s1 : Int32} {s2 : Int32} (h : (zQ [3, 5, 7, 9, 10, 15, 17, 19, 21, 23, 25, 27, 28, 29, 30, 32, 34, 36, 40, 42, 44, 45] [(11, 2, 3), (12, 2, 3)] [5, 38, 46, 48] []) σ0 σ) : zpc (fX5_sum_61 σ x4 x5 s0 s1 s2) (fun r => (zQ [3, 5, 7, 9, 10, 15, 17, 19, 21, 23, 25, 27, 28, 29, 30, 32, 34, 36, 40, 42, 44, 45] [(11, 2, 3), (12, 2, 3)] [5, 38, 46, 48] []) σ0 (r.1)) := by
  unfold fX5_sum_61
  exact zpc_ck (zpc_bs (zQ.wi h rfl) (fun σ1 hσ1 => zpc_some hσ1))
theorem fe_fX5_sum {σ0 : zSt} {σ : zSt} {x1 : Int32} {x2 : Int32} {x3 : Int32} (h : (zQ [3, 5, 7, 9, 10, 15, 17, 19, 21, 23, 25, 27, 28, 29, 30, 32, 34, 36, 40, 42, 44, 45] [(11, 2, 3), (12, 2, 3)] [5, 38, 46, 48] []) σ0 σ) : zpc (fX5_sum σ x1 x2 x3) (fun r => (zQ [3, 5, 7, 9, 10, 15, 17, 19, 21, 23, 25, 27, 28, 29, 30, 32, 34, 36, 40, 42, 44, 45] [(11, 2, 3), (12, 2, 3)] [5, 38, 46, 48] []) σ0 (r.1)) := by
  unfold fX5_sum
  exact zpc_bv (fun v2 _ => zpc_bv (fun v3 _ => zpc_bv (fun v4 _ => zpc_bi (fe_fX5_by h) (fun σ5 v6 hσ5 => zpc_if (fun _ => fe_fX5_sum_61 hσ5) (fun _ => fe_fX5_sum_61 hσ5)))))
theorem fe_fX5_doWith_292 {σ0 : zSt} {σ : zSt} (h : (zQ [3, 5, 7, 9, 10, 15, 17, 19, 21, 23, 25, 27, 28, 29, 30, 32, 34, 36, 40, 42, 44, 45] [(11, 2, 3), (12, 2, 3)] [5, 38, 46, 48] []) σ0 σ) : zpc (fX5_doWith_292 σ) (fun r => (zQ [3, 5, 7, 9, 10, 15, 17, 19, 21, 23, 25, 27, 28, 29, 30, 32, 34, 36, 40, 42, 44, 45] [(11, 2, 3), (12, 2, 3)] [5, 38, 46, 48] []) σ0 (r)) := by
  unfold fX5_doWith_292
  exact zpc_some h
theorem fe_fX5_doWith {σ0 : zSt} {σ : zSt} {x1 : Int32} {x2 : Int32} (h : (zQ [3, 5, 7, 9, 10, 15, 17, 19, 21, 23, 25, 27, 28, 29, 30, 32, 34, 36, 40, 42, 44, 45] [(11, 2, 3), (12, 2, 3)] [5, 38, 46, 48] []) σ0 σ) : zpc (fX5_doWith σ x1 x2) (fun r => (zQ [3, 5, 7, 9, 10, 15, 17, 19, 21, 23, 25, 27, 28, 29, 30, 32, 34, 36, 40, 42, 44, 45] [(11, 2, 3), (12, 2, 3)] [5, 38, 46, 48] []) σ0 (r)) := by
  unfold fX5_doWith
  exact zpc_if (fun _ => zpc_ck (zpc_bi (fe_fX5_sum h) (fun σ1 v2 hσ1 => zpc_ck (zpc_bs (zQ.wi hσ1 rfl) (fun σ3 hσ3 => fe_fX5_doWith_292 hσ3))))) (fun _ => zpc_if (fun _ => zpc_ck (zpc_ck (zpc_bi (fe_fX5_sum h) (fun σ4 v5 hσ4 => zpc_ck (zpc_bs (zQ.wi hσ4 rfl) (fun σ6 hσ6 => fe_fX5_doWith_292 hσ6)))))) (fun _ => zpc_if (fun _ => zpc_ck (zpc_bi (fe_fX5_difference h) (fun σ7 v8 hσ7 => zpc_ck (zpc_bs (zQ.wi hσ7 rfl) (fun σ9 hσ9 => fe_fX5_doWith_292 hσ9))))) (fun _ => zpc_if (fun _ => zpc_ck (zpc_ck (zpc_bi (fe_fX5_difference h) (fun σ10 v11 hσ10 => zpc_ck (zpc_bs (zQ.wi hσ10 rfl) (fun σ12 hσ12 => fe_fX5_doWith_292 hσ12)))))) (fun _ => zpc_if (fun _ => zpc_ck (zpc_ck (zpc_bs (zQ.wi h rfl) (fun σ13 hσ13 => zpc_ck (zpc_bi (fe_fX5_by hσ13) (fun σ14 v15 hσ14 => zpc_ck (zpc_bi (fe_fX5_parity hσ14) (fun σ16 v17 hσ16 => zpc_ck (zpc_bs (zQ.wi hσ16 rfl) (fun σ18 hσ18 => fe_fX5_doWith_292 hσ18)))))))))) (fun _ => zpc_if (fun _ => zpc_ck (zpc_ck (zpc_bs (zQ.wi h rfl) (fun σ19 hσ19 => zpc_ck (zpc_bi (fe_fX5_by hσ19) (fun σ20 v21 hσ20 => zpc_ck (zpc_bi (fe_fX5_parity hσ20) (fun σ22 v23 hσ22 => zpc_ck (zpc_bs (zQ.wi hσ22 rfl) (fun σ24 hσ24 => fe_fX5_doWith_292 hσ24)))))))))) (fun _ => zpc_if (fun _ => zpc_ck (zpc_ck (zpc_bs (zQ.wi h rfl) (fun σ25 hσ25 => zpc_ck (zpc_bi (fe_fX5_by hσ25) (fun σ26 v27 hσ26 => zpc_ck (zpc_bi (fe_fX5_parity hσ26) (fun σ28 v29 hσ28 => zpc_ck (zpc_bs (zQ.wi hσ28 rfl) (fun σ30 hσ30 => fe_fX5_doWith_292 hσ30)))))))))) (fun _ => zpc_ck (zpc_bi (fe_fX5_difference h) (fun σ31 v32 hσ31 => zpc_ck (zpc_ck (zpc_bs (zQ.wi hσ31 rfl) (fun σ33 hσ33 => fe_fX5_doWith_292 hσ33))))))))))))
theorem fe_fX5_callIf {σ0 : zSt} {σ : zSt} {x1 : Int32} (h : (zQ [3, 5, 7, 9, 10, 15, 17, 19, 21, 23, 25, 27, 28, 29, 30, 32, 34, 36, 40, 42, 44, 45] [(11, 2, 3), (12, 2, 3)] [5, 38, 46, 48] []) σ0 σ) : zpc (fX5_callIf σ x1) (fun r => (zQ [3, 5, 7, 9, 10, 15, 17, 19, 21, 23, 25, 27, 28, 29, 30, 32, 34, 36, 40, 42, 44, 45] [(11, 2, 3), (12, 2, 3)] [5, 38, 46, 48] []) σ0 (r.1)) := by
  unfold fX5_callIf
  exact zpc_bi (fe_fX5_fetchWord h) (fun σ1 v2 hσ1 => zpc_ck (zpc_bs (zQ.wi hσ1 rfl) (fun σ3 hσ3 => zpc_if (fun _ => zpc_some hσ3) (fun _ => zpc_ck (zpc_bu (fe_fX5_push hσ3) (fun σ4 hσ4 => zpc_ck (zpc_bs (zQ.wi hσ4 rfl) (fun σ5 hσ5 => zpc_some hσ5))))))))
theorem fe_fX5_holds_44 {σ0 : zSt} {σ : zSt} {s0 : Int32} (h : (zQ [3, 5, 7, 9, 10, 15, 17, 19, 21, 23, 25, 27, 28, 29, 30, 32, 34, 36, 40, 42, 44, 45] [(11, 2, 3), (12, 2, 3)] [5, 38, 46, 48] []) σ0 σ) : zpc (fX5_holds_44 σ s0) (fun r => (zQ [3, 5, 7, 9, 10, 15, 17, 19, 21, 23, 25, 27, 28, 29, 30, 32, 34, 36, 40, 42, 44, 45] [(11, 2, 3), (12, 2, 3)] [5, 38, 46, 48] []) σ0 (r.1)) := by
  unfold fX5_holds_44
  exact zpc_ck (zpc_some h)
theorem fe_fX5_holds_36 {σ0 : zSt} {σ : zSt} {s0 : Int32} {s1 : Int32} (h : (zQ [3, 5, 7, 9, 10, 15, 17, 19, 21, 23, 25, 27, 28, 29, 30, 32, 34, 36, 40, 42, 44, 45] [(11, 2, 3), (12, 2, 3)] [5, 38, 46, 48] []) σ0 σ) : zpc (fX5_holds_36 σ s0 s1) (fun r => (zQ [3, 5, 7, 9, 10, 15, 17, 19, 21, 23, 25, 27, 28, 29, 30, 32, 34, 36, 40, 42, 44, 45] [(11, 2, 3), (12, 2, 3)] [5, 38, 46, 48] []) σ0 (r.1)) := by
  unfold fX5_holds_36
  exact zpc_if (fun _ => fe_fX5_holds_44 h) (fun _ => fe_fX5_holds_44 h)
theorem fe_fX5_holds_24 {σ0 : zSt} {σ : zSt} {x1 : Int32} {s0 : Int32} (h : (zQ [3, 5, 7, 9, 10, 15, 17, 19, 21, 23, 25, 27, 28, 29, 30, 32, 34, 36, 40, 42, 44, 45] [(11, 2, 3), (12, 2, 3)] [5, 38, 46, 48] []) σ0 σ) : zpc (fX5_holds_24 σ x1 s0) (fun r => (zQ [3, 5, 7, 9, 10, 15, 17, 19, 21, 23, 25, 27, 28, 29, 30, 32, 34, 36, 40, 42, 44, 45] [(11, 2, 3), (12, 2, 3)] [5, 38, 46, 48] []) σ0 (r.1)) := by
  unfold fX5_holds_24
  exact zpc_if (fun _ => fe_fX5_holds_36 h) (fun _ => fe_fX5_holds_36 h)
theorem fe_fX5_holds {σ0 : zSt} {σ : zSt} {x1 : Int32} (h : (zQ [3, 5, 7, 9, 10, 15, 17, 19, 21, 23, 25, 27, 28, 29, 30, 32, 34, 36, 40, 42, 44, 45] [(11, 2, 3), (12, 2, 3)] [5, 38, 46, 48] []) σ0 σ) : zpc (fX5_holds σ x1) (fun r => (zQ [3, 5, 7, 9, 10, 15, 17, 19, 21, 23, 25, 27, 28, 29, 30, 32, 34, 36, 40, 42, 44, 45] [(11, 2, 3), (12, 2, 3)] [5, 38, 46, 48] []) σ0 (r.1)) := by
  unfold fX5_holds
  exact zpc_ck (zpc_ck (zpc_if (fun _ => fe_fX5_holds_24 h) (fun _ => fe_fX5_holds_24 h)))
theorem fe_fX5_popPair_25 {σ0 : zSt} {σ : zSt} (h : (zQ [3, 5, 7, 9, 10, 15, 17, 19, 21, 23, 25, 27, 28, 29, 30, 32, 34, 36, 40, 42, 44, 45] [(11, 2, 3), (12, 2, 3)] [5, 38, 46, 48] []) σ0 σ) : zpc (fX5_popPair_25 σ) (fun r => (zQ [3, 5, 7, 9, 10, 15, 17, 19, 21, 23, 25, 27, 28, 29, 30, 32, 34, 36, 40, 42, 44, 45] [(11, 2, 3), (12, 2, 3)] [5, 38, 46, 48] []) σ0 (r.1)) := by
  unfold fX5_popPair_25
  exact zpc_some h
theorem fe_fX5_popPair {σ0 : zSt} {σ : zSt} {x1 : Int32} (h : (zQ [3, 5, 7, 9, 10, 15, 17, 19, 21, 23, 25, 27, 28, 29, 30, 32, 34, 36, 40, 42, 44, 45] [(11, 2, 3), (12, 2, 3)] [5, 38, 46, 48] []) σ0 σ) : zpc (fX5_popPair σ x1) (fun r => (zQ [3, 5, 7, 9, 10, 15, 17, 19, 21, 23, 25, 27, 28, 29, 30, 32, 34, 36, 40, 42, 44, 45] [(11, 2, 3), (12, 2, 3)] [5, 38, 46, 48] []) σ0 (r.1)) := by
  unfold fX5_popPair
  exact zpc_bi (fe_fX5_pop h) (fun σ1 v2 hσ1 => zpc_if (fun _ => zpc_bu (fe_fX5_putPairAt hσ1) (fun σ4 hσ4 => fe_fX5_popPair_25 hσ4)) (fun _ => zpc_bu (fe_fX5_putPair hσ1) (fun σ3 hσ3 => fe_fX5_popPair_25 hσ3)))
theorem fe_fX5_changeWithOther {σ0 : zSt} {σ : zSt} {x1 : Int32} (h : (zQ [3, 5, 7, 9, 10, 15, 17, 19, 21, 23, 25, 27, 28, 29, 30, 32, 34, 36, 40, 42, 44, 45] [(11, 2, 3), (12, 2, 3)] [5, 38, 46, 48] []) σ0 σ) : zpc (fX5_changeWithOther σ x1) (fun r => (zQ [3, 5, 7, 9, 10, 15, 17, 19, 21, 23, 25, 27, 28, 29, 30, 32, 34, 36, 40, 42, 44, 45] [(11, 2, 3), (12, 2, 3)] [5, 38, 46, 48] []) σ0 (r)) := by
  unfold fX5_changeWithOther
  exact zpc_ck (zpc_bv (fun v1 _ => zpc_ck (zpc_ck (zpc_bs (zQ.wi h rfl) (fun σ2 hσ2 => zpc_ck (zpc_bs (zQ.wi hσ2 rfl) (fun σ3 hσ3 => zpc_some hσ3)))))))
theorem fe_fX5_leave_41_body {σ0 : zSt} {k41 : zSt → Int32 → Option (zSt × Int32)} (hk41 : ∀ (y0 : zSt) (y1 : Int32), (zQ [3, 5, 7, 9, 10, 15, 17, 19, 21, 23, 25, 27, 28, 29, 30, 32, 34, 36, 40, 42, 44, 45] [(11, 2, 3), (12, 2, 3)] [5, 38, 46, 48] []) σ0 y0 → zpc (k41 y0 y1) (fun r => (zQ [3, 5, 7, 9, 10, 15, 17, 19, 21, 23, 25, 27, 28, 29, 30, 32, 34, 36, 40, 42, 44, 45] [(11, 2, 3), (12, 2, 3)] [5, 38, 46, 48] []) σ0 (r.1))) {σ : zSt} {x2 : Int32} (h : (zQ [3, 5, 7, 9, 10, 15, 17, 19, 21, 23, 25, 27, 28, 29, 30, 32, 34, 36, 40, 42, 44, 45] [(11, 2, 3), (12, 2, 3)] [5, 38, 46, 48] []) σ0 σ) : zpc (fX5_leave_41_body k41 σ x2) (fun r => (zQ [3, 5, 7, 9, 10, 15, 17, 19, 21, 23, 25, 27, 28, 29, 30, 32, 34, 36, 40, 42, 44, 45] [(11, 2, 3), (12, 2, 3)] [5, 38, 46, 48] []) σ0 (r.1)) := by
  unfold fX5_leave_41_body
  exact zpc_if (fun _ => zpc_some h) (fun _ => zpc_bu (fe_fX5_changeWithOther h) (fun σ1 hσ1 => zpc_bv (fun v2 _ => hk41 _ _ hσ1)))
theorem fe_fX5_leave_41 {σ0 : zSt} : ∀ (n : Nat) (y0 : zSt) (y1 : Int32), (zQ [3, 5, 7, 9, 10, 15, 17, 19, 21, 23, 25, 27, 28, 29, 30, 32, 34, 36, 40, 42, 44, 45] [(11, 2, 3), (12, 2, 3)] [5, 38, 46, 48] []) σ0 y0 → zpc (fX5_leave_41 n y0 y1) (fun r => (zQ [3, 5, 7, 9, 10, 15, 17, 19, 21, 23, 25, 27, 28, 29, 30, 32, 34, 36, 40, 42, 44, 45] [(11, 2, 3), (12, 2, 3)] [5, 38, 46, 48] []) σ0 (r.1)) := by
  intro n
  induction n with
  | zero => intro y0 y1 h; exact zpc_none
  | succ n ih => intro y0 y1 h; exact fe_fX5_leave_41_body ih h
theorem fe_fX5_leave {σ0 : zSt} {σ : zSt} {x1 : Int32} (h : (zQ [3, 5, 7, 9, 10, 15, 17, 19, 21, 23, 25, 27, 28, 29, 30, 32, 34, 36, 40, 42, 44, 45] [(11, 2, 3), (12, 2, 3)] [5, 38, 46, 48] []) σ0 σ) : zpc (fX5_leave σ x1) (fun r => (zQ [3, 5, 7, 9, 10, 15, 17, 19, 21, 23, 25, 27, 28, 29, 30, 32, 34, 36, 40, 42, 44, 45] [(11, 2, 3), (12, 2, 3)] [5, 38, 46, 48] []) σ0 (r.1)) := by
  unfold fX5_leave
  exact zpc_if (fun _ => zpc_bi (fe_fX5_pop h) (fun σ3 v4 hσ3 => zpc_bu (fe_fX5_goTo hσ3) (fun σ5 hσ5 => zpc_some hσ5))) (fun _ => zpc_if (fun _ => fe_fX5_leave_41 _ _ _ h) (fun _ => zpc_if (fun _ => zpc_bi (fe_fX5_hl h) (fun σ6 v7 hσ6 => zpc_ck (zpc_bs (zQ.wi hσ6 rfl) (fun σ8 hσ8 => zpc_some hσ8)))) (fun _ => zpc_bi (fe_fX5_hl h) (fun σ9 v10 hσ9 => zpc_ck (zpc_bs (zQ.wi hσ9 rfl) (fun σ11 hσ11 => zpc_some hσ11))))))
theorem fe_fX5_lastQuarter_196 {σ0 : zSt} {σ : zSt} {x2 : Int32} (h : (zQ [3, 5, 7, 9, 10, 15, 17, 19, 21, 23, 25, 27, 28, 29, 30, 32, 34, 36, 40, 42, 44, 45] [(11, 2, 3), (12, 2, 3)] [5, 38, 46, 48] []) σ0 σ) : zpc (fX5_lastQuarter_196 σ x2) (fun r => (zQ [3, 5, 7, 9, 10, 15, 17, 19, 21, 23, 25, 27, 28, 29, 30, 32, 34, 36, 40, 42, 44, 45] [(11, 2, 3), (12, 2, 3)] [5, 38, 46, 48] []) σ0 (r.1)) := by
  unfold fX5_lastQuarter_196
  exact zpc_ck (zpc_bu (fe_fX5_push h) (fun σ1 hσ1 => zpc_bu (fe_fX5_goTo hσ1) (fun σ2 hσ2 => zpc_some hσ2)))
theorem fe_fX5_lastQuarter_178 {σ0 : zSt} {σ : zSt} {s0 : Int32} (h : (zQ [3, 5, 7, 9, 10, 15, 17, 19, 21, 23, 25, 27, 28, 29, 30, 32, 34, 36, 40, 42, 44, 45] [(11, 2, 3), (12, 2, 3)] [5, 38, 46, 48] []) σ0 σ) : zpc (fX5_lastQuarter_178 σ s0) (fun r => (zQ [3, 5, 7, 9, 10, 15, 17, 19, 21, 23, 25, 27, 28, 29, 30, 32, 34, 36, 40, 42, 44, 45] [(11, 2, 3), (12, 2, 3)] [5, 38, 46, 48] []) σ0 (r.1)) := by
  unfold fX5_lastQuarter_178
  exact zpc_bu (fe_fX5_push h) (fun σ3 hσ3 => zpc_some hσ3)
theorem fe_fX5_lastQuarter_130 {σ0 : zSt} {σ : zSt} (h : (zQ [3, 5, 7, 9, 10, 15, 17, 19, 21, 23, 25, 27, 28, 29, 30, 32, 34, 36, 40, 42, 44, 45] [(11, 2, 3), (12, 2, 3)] [5, 38, 46, 48] []) σ0 σ) : zpc (fX5_lastQuarter_130 σ) (fun r => (zQ [3, 5, 7, 9, 10, 15, 17, 19, 21, 23, 25, 27, 28, 29, 30, 32, 34, 36, 40, 42, 44, 45] [(11, 2, 3), (12, 2, 3)] [5, 38, 46, 48] []) σ0 (r.1)) := by
  unfold fX5_lastQuarter_130
  exact zpc_some h
theorem fe_fX5_lastQuarter_96 {σ0 : zSt} {σ : zSt} {s0 : Int32} (h : (zQ [3, 5, 7, 9, 10, 15, 17, 19, 21, 23, 25, 27, 28, 29, 30, 32, 34, 36, 40, 42, 44, 45] [(11, 2, 3), (12, 2, 3)] [5, 38, 46, 48] []) σ0 σ) : zpc (fX5_lastQuarter_96 σ s0) (fun r => (zQ [3, 5, 7, 9, 10, 15, 17, 19, 21, 23, 25, 27, 28, 29, 30, 32, 34, 36, 40, 42, 44, 45] [(11, 2, 3), (12, 2, 3)] [5, 38, 46, 48] []) σ0 (r.1)) := by
  unfold fX5_lastQuarter_96
  exact zpc_some h
theorem fe_fX5_lastQuarter {σ0 : zSt} {σ : zSt} {x1 : Int32} (h : (zQ [3, 5, 7, 9, 10, 15, 17, 19, 21, 23, 25, 27, 28, 29, 30, 32, 34, 36, 40, 42, 44, 45] [(11, 2, 3), (12, 2, 3)] [5, 38, 46, 48] []) σ0 σ) : zpc (fX5_lastQuarter σ x1) (fun r => (zQ [3, 5, 7, 9, 10, 15, 17, 19, 21, 23, 25, 27, 28, 29, 30, 32, 34, 36, 40, 42, 44, 45] [(11, 2, 3), (12, 2, 3)] [5, 38, 46, 48] []) σ0 (r.1)) := by
  unfold fX5_lastQuarter
  exact zpc_bv (fun v4 _ => zpc_if (fun _ => zpc_bi (fe_fX5_holds h) (fun σ5 v6 hσ5 => zpc_if (fun _ => zpc_some hσ5) (fun _ => zpc_bi (fe_fX5_pop hσ5) (fun σ7 v8 hσ7 => zpc_bu (fe_fX5_goTo hσ7) (fun σ9 hσ9 => zpc_some hσ9))))) (fun _ => zpc_if (fun _ => zpc_if (fun _ => zpc_bi (fe_fX5_popPair h) (fun σ12 v13 hσ12 => fe_fX5_lastQuarter_96 hσ12)) (fun _ => zpc_bi (fe_fX5_leave h) (fun σ10 v11 hσ10 => fe_fX5_lastQuarter_96 hσ10))) (fun _ => zpc_if (fun _ => zpc_bi (fe_fX5_fetchWord h) (fun σ14 v15 hσ14 => zpc_ck (zpc_bs (zQ.wi hσ14 rfl) (fun σ16 hσ16 => zpc_bi (fe_fX5_holds hσ16) (fun σ17 v18 hσ17 => zpc_if (fun _ => fe_fX5_lastQuarter_130 hσ17) (fun _ => zpc_ck (zpc_ck (zpc_bs (zQ.wi hσ17 rfl) (fun σ19 hσ19 => fe_fX5_lastQuarter_130 hσ19))))))))) (fun _ => zpc_if (fun _ => fe_fX5_lastQuarter_196 h) (fun _ => zpc_if (fun _ => zpc_bi (fe_fX5_holds h) (fun σ20 v21 hσ20 => zpc_bi (fe_fX5_callIf hσ20) (fun σ22 v23 hσ22 => zpc_some hσ22))) (fun _ => zpc_if (fun _ => zpc_if (fun _ => zpc_bi (fe_fX5_callIf h) (fun σ28 v29 hσ28 => zpc_some hσ28)) (fun _ => zpc_if (fun _ => zpc_bi (fe_fX5_pairAt h) (fun σ26 v27 hσ26 => fe_fX5_lastQuarter_178 hσ26)) (fun _ => zpc_bi (fe_fX5_pair h) (fun σ24 v25 hσ24 => fe_fX5_lastQuarter_178 hσ24)))) (fun _ => zpc_if (fun _ => zpc_bi (fe_fX5_fetch h) (fun σ30 v31 hσ30 => zpc_bu (fe_fX5_doWith hσ30) (fun σ32 hσ32 => zpc_some hσ32))) (fun _ => fe_fX5_lastQuarter_196 h))))))))
theorem fe_fX5_doWithRegister_33 {σ0 : zSt} {σ : zSt} {s0 : Int32} (h : (zQ [3, 5, 7, 9, 10, 15, 17, 19, 21, 23, 25, 27, 28, 29, 30, 32, 34, 36, 40, 42, 44, 45] [(11, 2, 3), (12, 2, 3)] [5, 38, 46, 48] []) σ0 σ) : zpc (fX5_doWithRegister_33 σ s0) (fun r => (zQ [3, 5, 7, 9, 10, 15, 17, 19, 21, 23, 25, 27, 28, 29, 30, 32, 34, 36, 40, 42, 44, 45] [(11, 2, 3), (12, 2, 3)] [5, 38, 46, 48] []) σ0 (r.1)) := by
  unfold fX5_doWithRegister_33
  exact zpc_some h
theorem fe_fX5_doWithRegister {σ0 : zSt} {σ : zSt} {x1 : Int32} (h : (zQ [3, 5, 7, 9, 10, 15, 17, 19, 21, 23, 25, 27, 28, 29, 30, 32, 34, 36, 40, 42, 44, 45] [(11, 2, 3), (12, 2, 3)] [5, 38, 46, 48] []) σ0 σ) : zpc (fX5_doWithRegister σ x1) (fun r => (zQ [3, 5, 7, 9, 10, 15, 17, 19, 21, 23, 25, 27, 28, 29, 30, 32, 34, 36, 40, 42, 44, 45] [(11, 2, 3), (12, 2, 3)] [5, 38, 46, 48] []) σ0 (r.1)) := by
  unfold fX5_doWithRegister
  exact zpc_bi (fe_fX5_one h) (fun σ1 v2 hσ1 => zpc_bu (fe_fX5_doWith hσ1) (fun σ3 hσ3 => zpc_if (fun _ => fe_fX5_doWithRegister_33 hσ3) (fun _ => fe_fX5_doWithRegister_33 hσ3)))
theorem fe_fX5_move_56 {σ0 : zSt} {σ : zSt} {s0 : Int32} (h : (zQ [3, 5, 7, 9, 10, 15, 17, 19, 21, 23, 25, 27, 28, 29, 30, 32, 34, 36, 40, 42, 44, 45] [(11, 2, 3), (12, 2, 3)] [5, 38, 46, 48] []) σ0 σ) : zpc (fX5_move_56 σ s0) (fun r => (zQ [3, 5, 7, 9, 10, 15, 17, 19, 21, 23, 25, 27, 28, 29, 30, 32, 34, 36, 40, 42, 44, 45] [(11, 2, 3), (12, 2, 3)] [5, 38, 46, 48] []) σ0 (r.1)) := by
  unfold fX5_move_56
  exact zpc_some h
theorem fe_fX5_move_50 {σ0 : zSt} {σ : zSt} (h : (zQ [3, 5, 7, 9, 10, 15, 17, 19, 21, 23, 25, 27, 28, 29, 30, 32, 34, 36, 40, 42, 44, 45] [(11, 2, 3), (12, 2, 3)] [5, 38, 46, 48] []) σ0 σ) : zpc (fX5_move_50 σ) (fun r => (zQ [3, 5, 7, 9, 10, 15, 17, 19, 21, 23, 25, 27, 28, 29, 30, 32, 34, 36, 40, 42, 44, 45] [(11, 2, 3), (12, 2, 3)] [5, 38, 46, 48] []) σ0 (r.1)) := by
  unfold fX5_move_50
  exact fe_fX5_move_56 h
theorem fe_fX5_move {σ0 : zSt} {σ : zSt} {x1 : Int32} (h : (zQ [3, 5, 7, 9, 10, 15, 17, 19, 21, 23, 25, 27, 28, 29, 30, 32, 34, 36, 40, 42, 44, 45] [(11, 2, 3), (12, 2, 3)] [5, 38, 46, 48] []) σ0 σ) : zpc (fX5_move σ x1) (fun r => (zQ [3, 5, 7, 9, 10, 15, 17, 19, 21, 23, 25, 27, 28, 29, 30, 32, 34, 36, 40, 42, 44, 45] [(11, 2, 3), (12, 2, 3)] [5, 38, 46, 48] []) σ0 (r.1)) := by
  unfold fX5_move
  exact zpc_if (fun _ => zpc_ck (zpc_bs (zQ.wi h rfl) (fun σ6 hσ6 => zpc_some hσ6))) (fun _ => zpc_bv (fun v1 _ => zpc_bv (fun v2 _ => zpc_bi (fe_fX5_one h) (fun σ3 v4 hσ3 => zpc_bu (fe_fX5_putOne hσ3) (fun σ5 hσ5 => zpc_if (fun _ => fe_fX5_move_50 hσ5) (fun _ => zpc_if (fun _ => fe_fX5_move_50 hσ5) (fun _ => fe_fX5_move_56 hσ5)))))))
theorem fe_fX5_adjustA_202 {σ0 : zSt} {σ : zSt} {x4 : Int32} {s0 : Int32} {s1 : Int32} {s2 : Int32} (h : (zQ [3, 5, 7, 9, 10, 15, 17, 19, 21, 23, 25, 27, 28, 29, 30, 32, 34, 36, 40, 42, 44, 45] [(11, 2, 3), (12, 2, 3)] [5, 38, 46, 48] []) σ0 σ) : zpc (fX5_adjustA_202 σ x4 s0 s1 s2) (fun r => (zQ [3, 5, 7, 9, 10, 15, 17, 19, 21, 23, 25, 27, 28, 29, 30, 32, 34, 36, 40, 42, 44, 45] [(11, 2, 3), (12, 2, 3)] [5, 38, 46, 48] []) σ0 (r)) := by
  unfold fX5_adjustA_202
  exact zpc_ck (zpc_ck (zpc_bs (zQ.wi h rfl) (fun σ1 hσ1 => zpc_some hσ1)))
theorem fe_fX5_adjustA_161 {σ0 : zSt} {σ : zSt} {x4 : Int32} {x6 : Int32} {s0 : Int32} (h : (zQ [3, 5, 7, 9, 10, 15, 17, 19, 21, 23, 25, 27, 28, 29, 30, 32, 34, 36, 40, 42, 44, 45] [(11, 2, 3), (12, 2, 3)] [5, 38, 46, 48] []) σ0 σ) : zpc (fX5_adjustA_161 σ x4 x6 s0) (fun r => (zQ [3, 5, 7, 9, 10, 15, 17, 19, 21, 23, 25, 27, 28, 29, 30, 32, 34, 36, 40, 42, 44, 45] [(11, 2, 3), (12, 2, 3)] [5, 38, 46, 48] []) σ0 (r)) := by
  unfold fX5_adjustA_161
  exact zpc_bv (fun v2 _ => zpc_ck (zpc_bs (zQ.wi h rfl) (fun σ3 hσ3 => zpc_bi (fe_fX5_by hσ3) (fun σ4 v5 hσ4 => zpc_bi (fe_fX5_parity hσ4) (fun σ6 v7 hσ6 => zpc_if (fun _ => fe_fX5_adjustA_202 hσ6) (fun _ => fe_fX5_adjustA_202 hσ6))))))
theorem fe_fX5_adjustA_134 {σ0 : zSt} {σ : zSt} {x3 : Int32} {x4 : Int32} {x5 : Int32} {s0 : Int32} (h : (zQ [3, 5, 7, 9, 10, 15, 17, 19, 21, 23, 25, 27, 28, 29, 30, 32, 34, 36, 40, 42, 44, 45] [(11, 2, 3), (12, 2, 3)] [5, 38, 46, 48] []) σ0 σ) : zpc (fX5_adjustA_134 σ x3 x4 x5 s0) (fun r => (zQ [3, 5, 7, 9, 10, 15, 17, 19, 21, 23, 25, 27, 28, 29, 30, 32, 34, 36, 40, 42, 44, 45] [(11, 2, 3), (12, 2, 3)] [5, 38, 46, 48] []) σ0 (r)) := by
  unfold fX5_adjustA_134
  exact zpc_if (fun _ => zpc_ck (fe_fX5_adjustA_161 h)) (fun _ => zpc_ck (fe_fX5_adjustA_161 h))
theorem fe_fX5_adjustA_119 {σ0 : zSt} {σ : zSt} {x3 : Int32} {x4 : Int32} {x5 : Int32} (h : (zQ [3, 5, 7, 9, 10, 15, 17, 19, 21, 23, 25, 27, 28, 29, 30, 32, 34, 36, 40, 42, 44, 45] [(11, 2, 3), (12, 2, 3)] [5, 38, 46, 48] []) σ0 σ) : zpc (fX5_adjustA_119 σ x3 x4 x5) (fun r => (zQ [3, 5, 7, 9, 10, 15, 17, 19, 21, 23, 25, 27, 28, 29, 30, 32, 34, 36, 40, 42, 44, 45] [(11, 2, 3), (12, 2, 3)] [5, 38, 46, 48] []) σ0 (r)) := by
  unfold fX5_adjustA_119
  exact fe_fX5_adjustA_134 h
theorem fe_fX5_adjustA_98 {σ0 : zSt} {σ : zSt} {x1 : Int32} {x2 : Int32} {x3 : Int32} {x4 : Int32} {s0 : Int32} {s1 : Int32} (h : (zQ [3, 5, 7, 9, 10, 15, 17, 19, 21, 23, 25, 27, 28, 29, 30, 32, 34, 36, 40, 42, 44, 45] [(11, 2, 3), (12, 2, 3)] [5, 38, 46, 48] []) σ0 σ) : zpc (fX5_adjustA_98 σ x1 x2 x3 x4 s0 s1) (fun r => (zQ [3, 5, 7, 9, 10, 15, 17, 19, 21, 23, 25, 27, 28, 29, 30, 32, 34, 36, 40, 42, 44, 45] [(11, 2, 3), (12, 2, 3)] [5, 38, 46, 48] []) σ0 (r)) := by
  unfold fX5_adjustA_98
  exact zpc_bv (fun v8 _ => zpc_if (fun _ => zpc_if (fun _ => fe_fX5_adjustA_134 h) (fun _ => fe_fX5_adjustA_134 h)) (fun _ => zpc_if (fun _ => fe_fX5_adjustA_119 h) (fun _ => zpc_if (fun _ => fe_fX5_adjustA_119 h) (fun _ => fe_fX5_adjustA_134 h))))
theorem fe_fX5_adjustA_87 {σ0 : zSt} {σ : zSt} {x1 : Int32} {x2 : Int32} {x3 : Int32} {x4 : Int32} {s0 : Int32} (h : (zQ [3, 5, 7, 9, 10, 15, 17, 19, 21, 23, 25, 27, 28, 29, 30, 32, 34, 36, 40, 42, 44, 45] [(11, 2, 3), (12, 2, 3)] [5, 38, 46, 48] []) σ0 σ) : zpc (fX5_adjustA_87 σ x1 x2 x3 x4 s0) (fun r => (zQ [3, 5, 7, 9, 10, 15, 17, 19, 21, 23, 25, 27, 28, 29, 30, 32, 34, 36, 40, 42, 44, 45] [(11, 2, 3), (12, 2, 3)] [5, 38, 46, 48] []) σ0 (r)) := by
  unfold fX5_adjustA_87
  exact zpc_if (fun _ => fe_fX5_adjustA_98 h) (fun _ => fe_fX5_adjustA_98 h)
theorem fe_fX5_adjustA_81 {σ0 : zSt} {σ : zSt} {x1 : Int32} {x2 : Int32} {x3 : Int32} {x4 : Int32} (h : (zQ [3, 5, 7, 9, 10, 15, 17, 19, 21, 23, 25, 27, 28, 29, 30, 32, 34, 36, 40, 42, 44, 45] [(11, 2, 3), (12, 2, 3)] [5, 38, 46, 48] []) σ0 σ) : zpc (fX5_adjustA_81 σ x1 x2 x3 x4) (fun r => (zQ [3, 5, 7, 9, 10, 15, 17, 19, 21, 23, 25, 27, 28, 29, 30, 32, 34, 36, 40, 42, 44, 45] [(11, 2, 3), (12, 2, 3)] [5, 38, 46, 48] []) σ0 (r)) := by
  unfold fX5_adjustA_81
  exact fe_fX5_adjustA_87 h
theorem fe_fX5_adjustA_69 {σ0 : zSt} {σ : zSt} {x1 : Int32} {x2 : Int32} {x3 : Int32} {s0 : Int32} (h : (zQ [3, 5, 7, 9, 10, 15, 17, 19, 21, 23, 25, 27, 28, 29, 30, 32, 34, 36, 40, 42, 44, 45] [(11, 2, 3), (12, 2, 3)] [5, 38, 46, 48] []) σ0 σ) : zpc (fX5_adjustA_69 σ x1 x2 x3 s0) (fun r => (zQ [3, 5, 7, 9, 10, 15, 17, 19, 21, 23, 25, 27, 28, 29, 30, 32, 34, 36, 40, 42, 44, 45] [(11, 2, 3), (12, 2, 3)] [5, 38, 46, 48] []) σ0 (r)) := by
  unfold fX5_adjustA_69
  exact zpc_if (fun _ => fe_fX5_adjustA_81 h) (fun _ => zpc_if (fun _ => fe_fX5_adjustA_87 h) (fun _ => fe_fX5_adjustA_81 h))
theorem fe_fX5_adjustA_44 {σ0 : zSt} {σ : zSt} {x1 : Int32} {x2 : Int32} {s0 : Int32} (h : (zQ [3, 5, 7, 9, 10, 15, 17, 19, 21, 23, 25, 27, 28, 29, 30, 32, 34, 36, 40, 42, 44, 45] [(11, 2, 3), (12, 2, 3)] [5, 38, 46, 48] []) σ0 σ) : zpc (fX5_adjustA_44 σ x1 x2 s0) (fun r => (zQ [3, 5, 7, 9, 10, 15, 17, 19, 21, 23, 25, 27, 28, 29, 30, 32, 34, 36, 40, 42, 44, 45] [(11, 2, 3), (12, 2, 3)] [5, 38, 46, 48] []) σ0 (r)) := by
  unfold fX5_adjustA_44
  exact zpc_ck (zpc_if (fun _ => zpc_ck (fe_fX5_adjustA_69 h)) (fun _ => fe_fX5_adjustA_69 h))
theorem fe_fX5_adjustA_27 {σ0 : zSt} {σ : zSt} {x1 : Int32} {s0 : Int32} (h : (zQ [3, 5, 7, 9, 10, 15, 17, 19, 21, 23, 25, 27, 28, 29, 30, 32, 34, 36, 40, 42, 44, 45] [(11, 2, 3), (12, 2, 3)] [5, 38, 46, 48] []) σ0 σ) : zpc (fX5_adjustA_27 σ x1 s0) (fun r => (zQ [3, 5, 7, 9, 10, 15, 17, 19, 21, 23, 25, 27, 28, 29, 30, 32, 34, 36, 40, 42, 44, 45] [(11, 2, 3), (12, 2, 3)] [5, 38, 46, 48] []) σ0 (r)) := by
  unfold fX5_adjustA_27
  exact zpc_ck (zpc_if (fun _ => fe_fX5_adjustA_44 h) (fun _ => fe_fX5_adjustA_44 h))
theorem fe_fX5_adjustA {σ0 : zSt} {σ : zSt} (h : (zQ [3, 5, 7, 9, 10, 15, 17, 19, 21, 23, 25, 27, 28, 29, 30, 32, 34, 36, 40, 42, 44, 45] [(11, 2, 3), (12, 2, 3)] [5, 38, 46, 48] []) σ0 σ) : zpc (fX5_adjustA σ) (fun r => (zQ [3, 5, 7, 9, 10, 15, 17, 19, 21, 23, 25, 27, 28, 29, 30, 32, 34, 36, 40, 42, 44, 45] [(11, 2, 3), (12, 2, 3)] [5, 38, 46, 48] []) σ0 (r)) := by
  unfold fX5_adjustA
  exact zpc_ck (zpc_bv (fun v9 _ => zpc_ck (zpc_if (fun _ => fe_fX5_adjustA_27 h) (fun _ => fe_fX5_adjustA_27 h))))
theorem fe_fX5_changeA_130 {σ0 : zSt} {σ : zSt} {s0 : Int32} {s1 : Int32} {s2 : Int32} (h : (zQ [3, 5, 7, 9, 10, 15, 17, 19, 21, 23, 25, 27, 28, 29, 30, 32, 34, 36, 40, 42, 44, 45] [(11, 2, 3), (12, 2, 3)] [5, 38, 46, 48] []) σ0 σ) : zpc (fX5_changeA_130 σ s0 s1 s2) (fun r => (zQ [3, 5, 7, 9, 10, 15, 17, 19, 21, 23, 25, 27, 28, 29, 30, 32, 34, 36, 40, 42, 44, 45] [(11, 2, 3), (12, 2, 3)] [5, 38, 46, 48] []) σ0 (r)) := by
  unfold fX5_changeA_130
  exact zpc_ck (zpc_ck (zpc_bs (zQ.wi h rfl) (fun σ1 hσ1 => zpc_some hσ1)))
theorem fe_fX5_changeA {σ0 : zSt} {σ : zSt} {x1 : Int32} (h : (zQ [3, 5, 7, 9, 10, 15, 17, 19, 21, 23, 25, 27, 28, 29, 30, 32, 34, 36, 40, 42, 44, 45] [(11, 2, 3), (12, 2, 3)] [5, 38, 46, 48] []) σ0 σ) : zpc (fX5_changeA σ x1) (fun r => (zQ [3, 5, 7, 9, 10, 15, 17, 19, 21, 23, 25, 27, 28, 29, 30, 32, 34, 36, 40, 42, 44, 45] [(11, 2, 3), (12, 2, 3)] [5, 38, 46, 48] []) σ0 (r)) := by
  unfold fX5_changeA
  exact zpc_ck (zpc_bv (fun v2 _ => zpc_ck (zpc_bv (fun v3 _ => zpc_if (fun _ => zpc_bu (fe_fX5_adjustA h) (fun σ4 hσ4 => zpc_some hσ4)) (fun _ => zpc_if (fun _ => zpc_ck (zpc_ck (zpc_bs (zQ.wi h rfl) (fun σ5 hσ5 => zpc_ck (zpc_ck (zpc_bs (zQ.wi hσ5 rfl) (fun σ6 hσ6 => zpc_some hσ6))))))) (fun _ => zpc_if (fun _ => zpc_ck (zpc_ck (zpc_bs (zQ.wi h rfl) (fun σ7 hσ7 => zpc_some hσ7)))) (fun _ => zpc_if (fun _ => zpc_if (fun _ => fe_fX5_changeA_130 h) (fun _ => fe_fX5_changeA_130 h)) (fun _ => zpc_ck (zpc_bi (fe_fX5_turn h) (fun σ8 v9 hσ8 => zpc_ck (zpc_bs (zQ.wi hσ8 rfl) (fun σ10 hσ10 => zpc_ck (zpc_ck (zpc_bs (zQ.wi hσ10 rfl) (fun σ11 hσ11 => zpc_some hσ11)))))))))))))))
theorem fe_fX5_oneLess_53 {σ0 : zSt} {σ : zSt} {x2 : Int32} {s0 : Int32} {s1 : Int32} {s2 : Int32} (h : (zQ [3, 5, 7, 9, 10, 15, 17, 19, 21, 23, 25, 27, 28, 29, 30, 32, 34, 36, 40, 42, 44, 45] [(11, 2, 3), (12, 2, 3)] [5, 38, 46, 48] []) σ0 σ) : zpc (fX5_oneLess_53 σ x2 s0 s1 s2) (fun r => (zQ [3, 5, 7, 9, 10, 15, 17, 19, 21, 23, 25, 27, 28, 29, 30, 32, 34, 36, 40, 42, 44, 45] [(11, 2, 3), (12, 2, 3)] [5, 38, 46, 48] []) σ0 (r.1)) := by
  unfold fX5_oneLess_53
  exact zpc_ck (zpc_bs (zQ.wi h rfl) (fun σ1 hσ1 => zpc_some hσ1))
theorem fe_fX5_oneLess_41 {σ0 : zSt} {σ : zSt} {x2 : Int32} {s0 : Int32} {s1 : Int32} {s2 : Int32} (h : (zQ [3, 5, 7, 9, 10, 15, 17, 19, 21, 23, 25, 27, 28, 29, 30, 32, 34, 36, 40, 42, 44, 45] [(11, 2, 3), (12, 2, 3)] [5, 38, 46, 48] []) σ0 σ) : zpc (fX5_oneLess_41 σ x2 s0 s1 s2) (fun r => (zQ [3, 5, 7, 9, 10, 15, 17, 19, 21, 23, 25, 27, 28, 29, 30, 32, 34, 36, 40, 42, 44, 45] [(11, 2, 3), (12, 2, 3)] [5, 38, 46, 48] []) σ0 (r.1)) := by
  unfold fX5_oneLess_41
  exact zpc_if (fun _ => fe_fX5_oneLess_53 h) (fun _ => fe_fX5_oneLess_53 h)
theorem fe_fX5_oneLess {σ0 : zSt} {σ : zSt} {x1 : Int32} (h : (zQ [3, 5, 7, 9, 10, 15, 17, 19, 21, 23, 25, 27, 28, 29, 30, 32, 34, 36, 40, 42, 44, 45] [(11, 2, 3), (12, 2, 3)] [5, 38, 46, 48] []) σ0 σ) : zpc (fX5_oneLess σ x1) (fun r => (zQ [3, 5, 7, 9, 10, 15, 17, 19, 21, 23, 25, 27, 28, 29, 30, 32, 34, 36, 40, 42, 44, 45] [(11, 2, 3), (12, 2, 3)] [5, 38, 46, 48] []) σ0 (r.1)) := by
  unfold fX5_oneLess
  exact zpc_bv (fun v2 _ => zpc_ck (zpc_bi (fe_fX5_by h) (fun σ3 v4 hσ3 => zpc_if (fun _ => fe_fX5_oneLess_41 hσ3) (fun _ => fe_fX5_oneLess_41 hσ3))))
theorem fe_fX5_oneMore_52 {σ0 : zSt} {σ : zSt} {x2 : Int32} {s0 : Int32} {s1 : Int32} {s2 : Int32} (h : (zQ [3, 5, 7, 9, 10, 15, 17, 19, 21, 23, 25, 27, 28, 29, 30, 32, 34, 36, 40, 42, 44, 45] [(11, 2, 3), (12, 2, 3)] [5, 38, 46, 48] []) σ0 σ) : zpc (fX5_oneMore_52 σ x2 s0 s1 s2) (fun r => (zQ [3, 5, 7, 9, 10, 15, 17, 19, 21, 23, 25, 27, 28, 29, 30, 32, 34, 36, 40, 42, 44, 45] [(11, 2, 3), (12, 2, 3)] [5, 38, 46, 48] []) σ0 (r.1)) := by
  unfold fX5_oneMore_52
  exact zpc_ck (zpc_bs (zQ.wi h rfl) (fun σ1 hσ1 => zpc_some hσ1))
theorem fe_fX5_oneMore_39 {σ0 : zSt} {σ : zSt} {x2 : Int32} {s0 : Int32} {s1 : Int32} {s2 : Int32} (h : (zQ [3, 5, 7, 9, 10, 15, 17, 19, 21, 23, 25, 27, 28, 29, 30, 32, 34, 36, 40, 42, 44, 45] [(11, 2, 3), (12, 2, 3)] [5, 38, 46, 48] []) σ0 σ) : zpc (fX5_oneMore_39 σ x2 s0 s1 s2) (fun r => (zQ [3, 5, 7, 9, 10, 15, 17, 19, 21, 23, 25, 27, 28, 29, 30, 32, 34, 36, 40, 42, 44, 45] [(11, 2, 3), (12, 2, 3)] [5, 38, 46, 48] []) σ0 (r.1)) := by
  unfold fX5_oneMore_39
  exact zpc_if (fun _ => fe_fX5_oneMore_52 h) (fun _ => fe_fX5_oneMore_52 h)
theorem fe_fX5_oneMore {σ0 : zSt} {σ : zSt} {x1 : Int32} (h : (zQ [3, 5, 7, 9, 10, 15, 17, 19, 21, 23, 25, 27, 28, 29, 30, 32, 34, 36, 40, 42, 44, 45] [(11, 2, 3), (12, 2, 3)] [5, 38, 46, 48] []) σ0 σ) : zpc (fX5_oneMore σ x1) (fun r => (zQ [3, 5, 7, 9, 10, 15, 17, 19, 21, 23, 25, 27, 28, 29, 30, 32, 34, 36, 40, 42, 44, 45] [(11, 2, 3), (12, 2, 3)] [5, 38, 46, 48] []) σ0 (r.1)) := by
  unfold fX5_oneMore
  exact zpc_bv (fun v2 _ => zpc_ck (zpc_bi (fe_fX5_by h) (fun σ3 v4 hσ3 => zpc_if (fun _ => fe_fX5_oneMore_39 hσ3) (fun _ => fe_fX5_oneMore_39 hσ3))))
theorem fe_fX5_far_78 {σ0 : zSt} {σ : zSt} (h : (zQ [3, 5, 7, 9, 10, 15, 17, 19, 21, 23, 25, 27, 28, 29, 30, 32, 34, 36, 40, 42, 44, 45] [(11, 2, 3), (12, 2, 3)] [5, 38, 46, 48] []) σ0 σ) : zpc (fX5_far_78 σ) (fun r => (zQ [3, 5, 7, 9, 10, 15, 17, 19, 21, 23, 25, 27, 28, 29, 30, 32, 34, 36, 40, 42, 44, 45] [(11, 2, 3), (12, 2, 3)] [5, 38, 46, 48] []) σ0 (r.1)) := by
  unfold fX5_far_78
  exact zpc_some h
theorem fe_fX5_far_152 {σ0 : zSt} {σ : zSt} {s0 : Int32} (h : (zQ [3, 5, 7, 9, 10, 15, 17, 19, 21, 23, 25, 27, 28, 29, 30, 32, 34, 36, 40, 42, 44, 45] [(11, 2, 3), (12, 2, 3)] [5, 38, 46, 48] []) σ0 σ) : zpc (fX5_far_152 σ s0) (fun r => (zQ [3, 5, 7, 9, 10, 15, 17, 19, 21, 23, 25, 27, 28, 29, 30, 32, 34, 36, 40, 42, 44, 45] [(11, 2, 3), (12, 2, 3)] [5, 38, 46, 48] []) σ0 (r.1)) := by
  unfold fX5_far_152
  exact zpc_some h
theorem fe_fX5_far_140 {σ0 : zSt} {σ : zSt} {x1 : Int32} (h : (zQ [3, 5, 7, 9, 10, 15, 17, 19, 21, 23, 25, 27, 28, 29, 30, 32, 34, 36, 40, 42, 44, 45] [(11, 2, 3), (12, 2, 3)] [5, 38, 46, 48] []) σ0 σ) : zpc (fX5_far_140 σ x1) (fun r => (zQ [3, 5, 7, 9, 10, 15, 17, 19, 21, 23, 25, 27, 28, 29, 30, 32, 34, 36, 40, 42, 44, 45] [(11, 2, 3), (12, 2, 3)] [5, 38, 46, 48] []) σ0 (r.1)) := by
  unfold fX5_far_140
  exact zpc_if (fun _ => fe_fX5_far_152 h) (fun _ => fe_fX5_far_152 h)
theorem fe_fX5_far_32 {σ0 : zSt} {σ : zSt} {x1 : Int32} {x2 : Int32} {s0 : Int32} (h : (zQ [3, 5, 7, 9, 10, 15, 17, 19, 21, 23, 25, 27, 28, 29, 30, 32, 34, 36, 40, 42, 44, 45] [(11, 2, 3), (12, 2, 3)] [5, 38, 46, 48] []) σ0 σ) : zpc (fX5_far_32 σ x1 x2 s0) (fun r => (zQ [3, 5, 7, 9, 10, 15, 17, 19, 21, 23, 25, 27, 28, 29, 30, 32, 34, 36, 40, 42, 44, 45] [(11, 2, 3), (12, 2, 3)] [5, 38, 46, 48] []) σ0 (r.1)) := by
  unfold fX5_far_32
  exact zpc_ck (zpc_bs (zQ.wi h rfl) (fun σ1 hσ1 => zpc_if (fun _ => zpc_if (fun _ => zpc_bi (fe_fX5_hl hσ1) (fun σ7 v8 hσ7 => zpc_bu (fe_fX5_writeWord hσ7) (fun σ9 hσ9 => fe_fX5_far_78 hσ9))) (fun _ => zpc_bi (fe_fX5_readWord hσ1) (fun σ10 v11 hσ10 => zpc_bu (fe_fX5_putHl hσ10) (fun σ12 hσ12 => fe_fX5_far_78 hσ12)))) (fun _ => zpc_if (fun _ => zpc_ck (zpc_bu (fe_fX2_write hσ1) (fun σ2 hσ2 => zpc_ck (zpc_ck (zpc_bs (zQ.wi hσ2 rfl) (fun σ3 hσ3 => fe_fX5_far_140 hσ3)))))) (fun _ => zpc_bi (fe_fX2_read hσ1) (fun σ4 v5 hσ4 => zpc_ck (zpc_bs (zQ.wi hσ4 rfl) (fun σ6 hσ6 => fe_fX5_far_140 hσ6)))))))
theorem fe_fX5_far_12 {σ0 : zSt} {σ : zSt} {x1 : Int32} {s0 : Int32} (h : (zQ [3, 5, 7, 9, 10, 15, 17, 19, 21, 23, 25, 27, 28, 29, 30, 32, 34, 36, 40, 42, 44, 45] [(11, 2, 3), (12, 2, 3)] [5, 38, 46, 48] []) σ0 σ) : zpc (fX5_far_12 σ x1 s0) (fun r => (zQ [3, 5, 7, 9, 10, 15, 17, 19, 21, 23, 25, 27, 28, 29, 30, 32, 34, 36, 40, 42, 44, 45] [(11, 2, 3), (12, 2, 3)] [5, 38, 46, 48] []) σ0 (r.1)) := by
  unfold fX5_far_12
  exact zpc_if (fun _ => zpc_bi (fe_fX5_fetchWord h) (fun σ13 v14 hσ13 => fe_fX5_far_32 hσ13)) (fun _ => zpc_bi (fe_fX5_pair h) (fun σ15 v16 hσ15 => fe_fX5_far_32 hσ15))
theorem fe_fX5_far {σ0 : zSt} {σ : zSt} {x1 : Int32} (h : (zQ [3, 5, 7, 9, 10, 15, 17, 19, 21, 23, 25, 27, 28, 29, 30, 32, 34, 36, 40, 42, 44, 45] [(11, 2, 3), (12, 2, 3)] [5, 38, 46, 48] []) σ0 σ) : zpc (fX5_far σ x1) (fun r => (zQ [3, 5, 7, 9, 10, 15, 17, 19, 21, 23, 25, 27, 28, 29, 30, 32, 34, 36, 40, 42, 44, 45] [(11, 2, 3), (12, 2, 3)] [5, 38, 46, 48] []) σ0 (r.1)) := by
  unfold fX5_far
  exact zpc_if (fun _ => fe_fX5_far_12 h) (fun _ => fe_fX5_far_12 h)
theorem fe_fX5_loadPair {σ0 : zSt} {σ : zSt} {x1 : Int32} (h : (zQ [3, 5, 7, 9, 10, 15, 17, 19, 21, 23, 25, 27, 28, 29, 30, 32, 34, 36, 40, 42, 44, 45] [(11, 2, 3), (12, 2, 3)] [5, 38, 46, 48] []) σ0 σ) : zpc (fX5_loadPair σ x1) (fun r => (zQ [3, 5, 7, 9, 10, 15, 17, 19, 21, 23, 25, 27, 28, 29, 30, 32, 34, 36, 40, 42, 44, 45] [(11, 2, 3), (12, 2, 3)] [5, 38, 46, 48] []) σ0 (r.1)) := by
  unfold fX5_loadPair
  exact zpc_bi (fe_fX5_fetchWord h) (fun σ1 v2 hσ1 => zpc_bu (fe_fX5_putPair hσ1) (fun σ3 hσ3 => zpc_some hσ3))
theorem fe_fX5_addPair {σ0 : zSt} {σ : zSt} {x1 : Int32} (h : (zQ [3, 5, 7, 9, 10, 15, 17, 19, 21, 23, 25, 27, 28, 29, 30, 32, 34, 36, 40, 42, 44, 45] [(11, 2, 3), (12, 2, 3)] [5, 38, 46, 48] []) σ0 σ) : zpc (fX5_addPair σ x1) (fun r => (zQ [3, 5, 7, 9, 10, 15, 17, 19, 21, 23, 25, 27, 28, 29, 30, 32, 34, 36, 40, 42, 44, 45] [(11, 2, 3), (12, 2, 3)] [5, 38, 46, 48] []) σ0 (r.1)) := by
  unfold fX5_addPair
  exact zpc_bi (fe_fX5_hl h) (fun σ1 v2 hσ1 => zpc_bi (fe_fX5_pair hσ1) (fun σ3 v4 hσ3 => zpc_bv (fun v5 _ => zpc_ck (zpc_bs (zQ.wi hσ3 rfl) (fun σ6 hσ6 => zpc_bu (fe_fX5_putHl hσ6) (fun σ7 hσ7 => zpc_ck (zpc_ck (zpc_bs (zQ.wi hσ7 rfl) (fun σ8 hσ8 => zpc_some hσ8)))))))))
theorem fe_fX5_near_20 {σ0 : zSt} {σ : zSt} (h : (zQ [3, 5, 7, 9, 10, 15, 17, 19, 21, 23, 25, 27, 28, 29, 30, 32, 34, 36, 40, 42, 44, 45] [(11, 2, 3), (12, 2, 3)] [5, 38, 46, 48] []) σ0 σ) : zpc (fX5_near_20 σ) (fun r => (zQ [3, 5, 7, 9, 10, 15, 17, 19, 21, 23, 25, 27, 28, 29, 30, 32, 34, 36, 40, 42, 44, 45] [(11, 2, 3), (12, 2, 3)] [5, 38, 46, 48] []) σ0 (r.1)) := by
  unfold fX5_near_20
  exact zpc_some h
theorem fe_fX5_near_133 {σ0 : zSt} {σ : zSt} {s0 : Int32} {s1 : Int32} (h : (zQ [3, 5, 7, 9, 10, 15, 17, 19, 21, 23, 25, 27, 28, 29, 30, 32, 34, 36, 40, 42, 44, 45] [(11, 2, 3), (12, 2, 3)] [5, 38, 46, 48] []) σ0 σ) : zpc (fX5_near_133 σ s0 s1) (fun r => (zQ [3, 5, 7, 9, 10, 15, 17, 19, 21, 23, 25, 27, 28, 29, 30, 32, 34, 36, 40, 42, 44, 45] [(11, 2, 3), (12, 2, 3)] [5, 38, 46, 48] []) σ0 (r.1)) := by
  unfold fX5_near_133
  exact zpc_some h
theorem fe_fX5_near_123 {σ0 : zSt} {σ : zSt} {x1 : Int32} {s0 : Int32} (h : (zQ [3, 5, 7, 9, 10, 15, 17, 19, 21, 23, 25, 27, 28, 29, 30, 32, 34, 36, 40, 42, 44, 45] [(11, 2, 3), (12, 2, 3)] [5, 38, 46, 48] []) σ0 σ) : zpc (fX5_near_123 σ x1 s0) (fun r => (zQ [3, 5, 7, 9, 10, 15, 17, 19, 21, 23, 25, 27, 28, 29, 30, 32, 34, 36, 40, 42, 44, 45] [(11, 2, 3), (12, 2, 3)] [5, 38, 46, 48] []) σ0 (r.1)) := by
  unfold fX5_near_123
  exact zpc_if (fun _ => fe_fX5_near_133 h) (fun _ => fe_fX5_near_133 h)
theorem fe_fX5_near_112 {σ0 : zSt} {σ : zSt} {x1 : Int32} {x3 : Int32} (h : (zQ [3, 5, 7, 9, 10, 15, 17, 19, 21, 23, 25, 27, 28, 29, 30, 32, 34, 36, 40, 42, 44, 45] [(11, 2, 3), (12, 2, 3)] [5, 38, 46, 48] []) σ0 σ) : zpc (fX5_near_112 σ x1 x3) (fun r => (zQ [3, 5, 7, 9, 10, 15, 17, 19, 21, 23, 25, 27, 28, 29, 30, 32, 34, 36, 40, 42, 44, 45] [(11, 2, 3), (12, 2, 3)] [5, 38, 46, 48] []) σ0 (r.1)) := by
  unfold fX5_near_112
  exact zpc_if (fun _ => fe_fX5_near_123 h) (fun _ => fe_fX5_near_123 h)
theorem fe_fX5_near_92 {σ0 : zSt} {σ : zSt} {x1 : Int32} {x2 : Int32} {x3 : Int32} (h : (zQ [3, 5, 7, 9, 10, 15, 17, 19, 21, 23, 25, 27, 28, 29, 30, 32, 34, 36, 40, 42, 44, 45] [(11, 2, 3), (12, 2, 3)] [5, 38, 46, 48] []) σ0 σ) : zpc (fX5_near_92 σ x1 x2 x3) (fun r => (zQ [3, 5, 7, 9, 10, 15, 17, 19, 21, 23, 25, 27, 28, 29, 30, 32, 34, 36, 40, 42, 44, 45] [(11, 2, 3), (12, 2, 3)] [5, 38, 46, 48] []) σ0 (r.1)) := by
  unfold fX5_near_92
  exact zpc_if (fun _ => fe_fX5_near_112 h) (fun _ => zpc_ck (zpc_bu (fe_fX5_goTo h) (fun σ1 hσ1 => fe_fX5_near_112 hσ1)))
theorem fe_fX5_near_91 {σ0 : zSt} {σ : zSt} {x1 : Int32} {x2 : Int32} {s0 : Int32} (h : (zQ [3, 5, 7, 9, 10, 15, 17, 19, 21, 23, 25, 27, 28, 29, 30, 32, 34, 36, 40, 42, 44, 45] [(11, 2, 3), (12, 2, 3)] [5, 38, 46, 48] []) σ0 σ) : zpc (fX5_near_91 σ x1 x2 s0) (fun r => (zQ [3, 5, 7, 9, 10, 15, 17, 19, 21, 23, 25, 27, 28, 29, 30, 32, 34, 36, 40, 42, 44, 45] [(11, 2, 3), (12, 2, 3)] [5, 38, 46, 48] []) σ0 (r.1)) := by
  unfold fX5_near_91
  exact fe_fX5_near_92 h
theorem fe_fX5_near_53 {σ0 : zSt} {σ : zSt} {x1 : Int32} {x2 : Int32} {s0 : Int32} (h : (zQ [3, 5, 7, 9, 10, 15, 17, 19, 21, 23, 25, 27, 28, 29, 30, 32, 34, 36, 40, 42, 44, 45] [(11, 2, 3), (12, 2, 3)] [5, 38, 46, 48] []) σ0 σ) : zpc (fX5_near_53 σ x1 x2 s0) (fun r => (zQ [3, 5, 7, 9, 10, 15, 17, 19, 21, 23, 25, 27, 28, 29, 30, 32, 34, 36, 40, 42, 44, 45] [(11, 2, 3), (12, 2, 3)] [5, 38, 46, 48] []) σ0 (r.1)) := by
  unfold fX5_near_53
  exact zpc_if (fun _ => zpc_ck (zpc_ck (zpc_bs (zQ.wi h rfl) (fun σ2 hσ2 => zpc_ck (zpc_if (fun _ => fe_fX5_near_91 hσ2) (fun _ => fe_fX5_near_91 hσ2)))))) (fun _ => fe_fX5_near_92 h)
theorem fe_fX5_near_48 {σ0 : zSt} {σ : zSt} {x1 : Int32} {x2 : Int32} (h : (zQ [3, 5, 7, 9, 10, 15, 17, 19, 21, 23, 25, 27, 28, 29, 30, 32, 34, 36, 40, 42, 44, 45] [(11, 2, 3), (12, 2, 3)] [5, 38, 46, 48] []) σ0 σ) : zpc (fX5_near_48 σ x1 x2) (fun r => (zQ [3, 5, 7, 9, 10, 15, 17, 19, 21, 23, 25, 27, 28, 29, 30, 32, 34, 36, 40, 42, 44, 45] [(11, 2, 3), (12, 2, 3)] [5, 38, 46, 48] []) σ0 (r.1)) := by
  unfold fX5_near_48
  exact fe_fX5_near_53 h
theorem fe_fX5_near_52 {σ0 : zSt} {σ : zSt} {x1 : Int32} {x2 : Int32} (h : (zQ [3, 5, 7, 9, 10, 15, 17, 19, 21, 23, 25, 27, 28, 29, 30, 32, 34, 36, 40, 42, 44, 45] [(11, 2, 3), (12, 2, 3)] [5, 38, 46, 48] []) σ0 σ) : zpc (fX5_near_52 σ x1 x2) (fun r => (zQ [3, 5, 7, 9, 10, 15, 17, 19, 21, 23, 25, 27, 28, 29, 30, 32, 34, 36, 40, 42, 44, 45] [(11, 2, 3), (12, 2, 3)] [5, 38, 46, 48] []) σ0 (r.1)) := by
  unfold fX5_near_52
  exact fe_fX5_near_53 h
theorem fe_fX5_near {σ0 : zSt} {σ : zSt} {x1 : Int32} (h : (zQ [3, 5, 7, 9, 10, 15, 17, 19, 21, 23, 25, 27, 28, 29, 30, 32, 34, 36, 40, 42, 44, 45] [(11, 2, 3), (12, 2, 3)] [5, 38, 46, 48] []) σ0 σ) : zpc (fX5_near σ x1) (fun r => (zQ [3, 5, 7, 9, 10, 15, 17, 19, 21, 23, 25, 27, 28, 29, 30, 32, 34, 36, 40, 42, 44, 45] [(11, 2, 3), (12, 2, 3)] [5, 38, 46, 48] []) σ0 (r.1)) := by
  unfold fX5_near
  exact zpc_if (fun _ => zpc_bi (fe_fX5_fetch h) (fun σ3 v4 hσ3 => zpc_bv (fun v5 _ => zpc_if (fun _ => fe_fX5_near_48 hσ3) (fun _ => zpc_if (fun _ => fe_fX5_near_52 hσ3) (fun _ => zpc_bi (fe_fX5_holds hσ3) (fun σ6 v7 hσ6 => zpc_if (fun _ => fe_fX5_near_52 hσ6) (fun _ => fe_fX5_near_48 hσ6))))))) (fun _ => zpc_if (fun _ => zpc_bu (fe_fX5_changeWithOther h) (fun σ8 hσ8 => zpc_bu (fe_fX5_changeWithOther hσ8) (fun σ9 hσ9 => fe_fX5_near_20 hσ9))) (fun _ => fe_fX5_near_20 h))
theorem fe_fX5_firstQuarter_193 {σ0 : zSt} {σ : zSt} {s0 : Int32} (h : (zQ [3, 5, 7, 9, 10, 15, 17, 19, 21, 23, 25, 27, 28, 29, 30, 32, 34, 36, 40, 42, 44, 45] [(11, 2, 3), (12, 2, 3)] [5, 38, 46, 48] []) σ0 σ) : zpc (fX5_firstQuarter_193 σ s0) (fun r => (zQ [3, 5, 7, 9, 10, 15, 17, 19, 21, 23, 25, 27, 28, 29, 30, 32, 34, 36, 40, 42, 44, 45] [(11, 2, 3), (12, 2, 3)] [5, 38, 46, 48] []) σ0 (r.1)) := by
  unfold fX5_firstQuarter_193
  exact zpc_some h
theorem fe_fX5_firstQuarter_170 {σ0 : zSt} {σ : zSt} {s0 : Int32} (h : (zQ [3, 5, 7, 9, 10, 15, 17, 19, 21, 23, 25, 27, 28, 29, 30, 32, 34, 36, 40, 42, 44, 45] [(11, 2, 3), (12, 2, 3)] [5, 38, 46, 48] []) σ0 σ) : zpc (fX5_firstQuarter_170 σ s0) (fun r => (zQ [3, 5, 7, 9, 10, 15, 17, 19, 21, 23, 25, 27, 28, 29, 30, 32, 34, 36, 40, 42, 44, 45] [(11, 2, 3), (12, 2, 3)] [5, 38, 46, 48] []) σ0 (r.1)) := by
  unfold fX5_firstQuarter_170
  exact zpc_some h
theorem fe_fX5_firstQuarter_143 {σ0 : zSt} {σ : zSt} {s0 : Int32} (h : (zQ [3, 5, 7, 9, 10, 15, 17, 19, 21, 23, 25, 27, 28, 29, 30, 32, 34, 36, 40, 42, 44, 45] [(11, 2, 3), (12, 2, 3)] [5, 38, 46, 48] []) σ0 σ) : zpc (fX5_firstQuarter_143 σ s0) (fun r => (zQ [3, 5, 7, 9, 10, 15, 17, 19, 21, 23, 25, 27, 28, 29, 30, 32, 34, 36, 40, 42, 44, 45] [(11, 2, 3), (12, 2, 3)] [5, 38, 46, 48] []) σ0 (r.1)) := by
  unfold fX5_firstQuarter_143
  exact zpc_some h
theorem fe_fX5_firstQuarter_110 {σ0 : zSt} {σ : zSt} {s0 : Int32} {s1 : Int32} {s2 : Int32} (h : (zQ [3, 5, 7, 9, 10, 15, 17, 19, 21, 23, 25, 27, 28, 29, 30, 32, 34, 36, 40, 42, 44, 45] [(11, 2, 3), (12, 2, 3)] [5, 38, 46, 48] []) σ0 σ) : zpc (fX5_firstQuarter_110 σ s0 s1 s2) (fun r => (zQ [3, 5, 7, 9, 10, 15, 17, 19, 21, 23, 25, 27, 28, 29, 30, 32, 34, 36, 40, 42, 44, 45] [(11, 2, 3), (12, 2, 3)] [5, 38, 46, 48] []) σ0 (r.1)) := by
  unfold fX5_firstQuarter_110
  exact zpc_bu (fe_fX5_putPair h) (fun σ1 hσ1 => zpc_some hσ1)
theorem fe_fX5_firstQuarter_81 {σ0 : zSt} {σ : zSt} {s0 : Int32} (h : (zQ [3, 5, 7, 9, 10, 15, 17, 19, 21, 23, 25, 27, 28, 29, 30, 32, 34, 36, 40, 42, 44, 45] [(11, 2, 3), (12, 2, 3)] [5, 38, 46, 48] []) σ0 σ) : zpc (fX5_firstQuarter_81 σ s0) (fun r => (zQ [3, 5, 7, 9, 10, 15, 17, 19, 21, 23, 25, 27, 28, 29, 30, 32, 34, 36, 40, 42, 44, 45] [(11, 2, 3), (12, 2, 3)] [5, 38, 46, 48] []) σ0 (r.1)) := by
  unfold fX5_firstQuarter_81
  exact zpc_some h
theorem fe_fX5_firstQuarter {σ0 : zSt} {σ : zSt} {x1 : Int32} (h : (zQ [3, 5, 7, 9, 10, 15, 17, 19, 21, 23, 25, 27, 28, 29, 30, 32, 34, 36, 40, 42, 44, 45] [(11, 2, 3), (12, 2, 3)] [5, 38, 46, 48] []) σ0 σ) : zpc (fX5_firstQuarter σ x1) (fun r => (zQ [3, 5, 7, 9, 10, 15, 17, 19, 21, 23, 25, 27, 28, 29, 30, 32, 34, 36, 40, 42, 44, 45] [(11, 2, 3), (12, 2, 3)] [5, 38, 46, 48] []) σ0 (r.1)) := by
  unfold fX5_firstQuarter
  exact zpc_bv (fun v2 _ => zpc_if (fun _ => zpc_bi (fe_fX5_near h) (fun σ3 v4 hσ3 => zpc_some hσ3)) (fun _ => zpc_if (fun _ => zpc_if (fun _ => zpc_bi (fe_fX5_loadPair h) (fun σ7 v8 hσ7 => fe_fX5_firstQuarter_81 hσ7)) (fun _ => zpc_bi (fe_fX5_addPair h) (fun σ5 v6 hσ5 => fe_fX5_firstQuarter_81 hσ5))) (fun _ => zpc_if (fun _ => zpc_bi (fe_fX5_far h) (fun σ9 v10 hσ9 => zpc_some hσ9)) (fun _ => zpc_if (fun _ => zpc_bi (fe_fX5_pair h) (fun σ11 v12 hσ11 => zpc_if (fun _ => fe_fX5_firstQuarter_110 hσ11) (fun _ => fe_fX5_firstQuarter_110 hσ11))) (fun _ => zpc_if (fun _ => zpc_bi (fe_fX5_one h) (fun σ13 v14 hσ13 => zpc_bi (fe_fX5_oneMore hσ13) (fun σ15 v16 hσ15 => zpc_bu (fe_fX5_putOne hσ15) (fun σ17 hσ17 => zpc_if (fun _ => fe_fX5_firstQuarter_143 hσ17) (fun _ => fe_fX5_firstQuarter_143 hσ17))))) (fun _ => zpc_if (fun _ => zpc_bi (fe_fX5_one h) (fun σ18 v19 hσ18 => zpc_bi (fe_fX5_oneLess hσ18) (fun σ20 v21 hσ20 => zpc_bu (fe_fX5_putOne hσ20) (fun σ22 hσ22 => zpc_if (fun _ => fe_fX5_firstQuarter_170 hσ22) (fun _ => fe_fX5_firstQuarter_170 hσ22))))) (fun _ => zpc_if (fun _ => zpc_bi (fe_fX5_fetch h) (fun σ23 v24 hσ23 => zpc_bu (fe_fX5_putOne hσ23) (fun σ25 hσ25 => zpc_if (fun _ => fe_fX5_firstQuarter_193 hσ25) (fun _ => fe_fX5_firstQuarter_193 hσ25)))) (fun _ => zpc_bu (fe_fX5_changeA h) (fun σ26 hσ26 => zpc_some hσ26)))))))))
theorem fe_fX5_carryOn_90 {σ0 : zSt} {σ : zSt} (h : (zQ [3, 5, 7, 9, 10, 15, 17, 19, 21, 23, 25, 27, 28, 29, 30, 32, 34, 36, 40, 42, 44, 45] [(11, 2, 3), (12, 2, 3)] [5, 38, 46, 48] []) σ0 σ) : zpc (fX5_carryOn_90 σ) (fun r => (zQ [3, 5, 7, 9, 10, 15, 17, 19, 21, 23, 25, 27, 28, 29, 30, 32, 34, 36, 40, 42, 44, 45] [(11, 2, 3), (12, 2, 3)] [5, 38, 46, 48] []) σ0 (r.1)) := by
  unfold fX5_carryOn_90
  exact zpc_ck (zpc_bs (zQ.wi h rfl) (fun σ1 hσ1 => zpc_some hσ1))
theorem fe_fX5_carryOn_193 {σ0 : zSt} {σ : zSt} {s0 : Int32} (h : (zQ [3, 5, 7, 9, 10, 15, 17, 19, 21, 23, 25, 27, 28, 29, 30, 32, 34, 36, 40, 42, 44, 45] [(11, 2, 3), (12, 2, 3)] [5, 38, 46, 48] []) σ0 σ) : zpc (fX5_carryOn_193 σ s0) (fun r => (zQ [3, 5, 7, 9, 10, 15, 17, 19, 21, 23, 25, 27, 28, 29, 30, 32, 34, 36, 40, 42, 44, 45] [(11, 2, 3), (12, 2, 3)] [5, 38, 46, 48] []) σ0 (r.1)) := by
  unfold fX5_carryOn_193
  exact zpc_some h
theorem fe_fX5_carryOn_275 {σ0 : zSt} {σ : zSt} {s0 : Int32} {s1 : Int32} (h : (zQ [3, 5, 7, 9, 10, 15, 17, 19, 21, 23, 25, 27, 28, 29, 30, 32, 34, 36, 40, 42, 44, 45] [(11, 2, 3), (12, 2, 3)] [5, 38, 46, 48] []) σ0 σ) : zpc (fX5_carryOn_275 σ s0 s1) (fun r => (zQ [3, 5, 7, 9, 10, 15, 17, 19, 21, 23, 25, 27, 28, 29, 30, 32, 34, 36, 40, 42, 44, 45] [(11, 2, 3), (12, 2, 3)] [5, 38, 46, 48] []) σ0 (r.1)) := by
  unfold fX5_carryOn_275
  exact zpc_some h
theorem fe_fX5_carryOn_141 {σ0 : zSt} {σ : zSt} {x1 : Int32} {x2 : Int32} (h : (zQ [3, 5, 7, 9, 10, 15, 17, 19, 21, 23, 25, 27, 28, 29, 30, 32, 34, 36, 40, 42, 44, 45] [(11, 2, 3), (12, 2, 3)] [5, 38, 46, 48] []) σ0 σ) : zpc (fX5_carryOn_141 σ x1 x2) (fun r => (zQ [3, 5, 7, 9, 10, 15, 17, 19, 21, 23, 25, 27, 28, 29, 30, 32, 34, 36, 40, 42, 44, 45] [(11, 2, 3), (12, 2, 3)] [5, 38, 46, 48] []) σ0 (r.1)) := by
  unfold fX5_carryOn_141
  exact zpc_if (fun _ => zpc_bi (fe_fX5_fetchOp h) (fun σ18 v19 hσ18 => zpc_bi (fe_fX5_turns hσ18) (fun σ20 v21 hσ20 => zpc_some hσ20))) (fun _ => zpc_if (fun _ => zpc_bi (fe_fX5_fetchOp h) (fun σ12 v13 hσ12 => zpc_if (fun _ => zpc_bi (fe_fX5_block hσ12) (fun σ16 v17 hσ16 => fe_fX5_carryOn_193 hσ16)) (fun _ => zpc_bi (fe_fX5_behindEd hσ12) (fun σ14 v15 hσ14 => fe_fX5_carryOn_193 hσ14)))) (fun _ => zpc_if (fun _ => zpc_bi (fe_fX5_firstQuarter h) (fun σ2 v3 hσ2 => zpc_some hσ2)) (fun _ => zpc_if (fun _ => zpc_bi (fe_fX5_move h) (fun σ4 v5 hσ4 => zpc_some hσ4)) (fun _ => zpc_if (fun _ => zpc_bi (fe_fX5_doWithRegister h) (fun σ6 v7 hσ6 => zpc_some hσ6)) (fun _ => zpc_if (fun _ => zpc_bi (fe_fX5_exchange h) (fun σ10 v11 hσ10 => fe_fX5_carryOn_275 hσ10)) (fun _ => zpc_bi (fe_fX5_lastQuarter h) (fun σ8 v9 hσ8 => fe_fX5_carryOn_275 hσ8)))))))
theorem fe_fX5_carryOn_115 {σ0 : zSt} {σ : zSt} {s0 : Int32} (h : (zQ [3, 5, 7, 9, 10, 15, 17, 19, 21, 23, 25, 27, 28, 29, 30, 32, 34, 36, 40, 42, 44, 45] [(11, 2, 3), (12, 2, 3)] [5, 38, 46, 48] []) σ0 σ) : zpc (fX5_carryOn_115 σ s0) (fun r => (zQ [3, 5, 7, 9, 10, 15, 17, 19, 21, 23, 25, 27, 28, 29, 30, 32, 34, 36, 40, 42, 44, 45] [(11, 2, 3), (12, 2, 3)] [5, 38, 46, 48] []) σ0 (r.1)) := by
  unfold fX5_carryOn_115
  exact zpc_bs (zQ.wi h rfl) (fun σ22 hσ22 => zpc_bi (fe_fX5_fetchOp hσ22) (fun σ23 v24 hσ23 => zpc_if (fun _ => zpc_bi (fe_fX5_turnBeside hσ23) (fun σ27 v28 hσ27 => zpc_some hσ27)) (fun _ => zpc_bi (fe_fX5_takePlace hσ23) (fun σ25 v26 hσ25 => fe_fX5_carryOn_141 hσ25))))
theorem fe_fX5_carryOn_54 {σ0 : zSt} {σ : zSt} {x1 : Int32} (h : (zQ [3, 5, 7, 9, 10, 15, 17, 19, 21, 23, 25, 27, 28, 29, 30, 32, 34, 36, 40, 42, 44, 45] [(11, 2, 3), (12, 2, 3)] [5, 38, 46, 48] []) σ0 σ) : zpc (fX5_carryOn_54 σ x1) (fun r => (zQ [3, 5, 7, 9, 10, 15, 17, 19, 21, 23, 25, 27, 28, 29, 30, 32, 34, 36, 40, 42, 44, 45] [(11, 2, 3), (12, 2, 3)] [5, 38, 46, 48] []) σ0 (r.1)) := by
  unfold fX5_carryOn_54
  exact zpc_ck (zpc_bi (fe_fX2_read h) (fun σ29 v30 hσ29 => zpc_if (fun _ => fe_fX5_carryOn_90 hσ29) (fun _ => zpc_if (fun _ => fe_fX5_carryOn_90 hσ29) (fun _ => zpc_if (fun _ => fe_fX5_carryOn_90 hσ29) (fun _ => zpc_if (fun _ => fe_fX5_carryOn_115 hσ29) (fun _ => fe_fX5_carryOn_115 hσ29))))))
theorem fe_fX5_carryOn {σ0 : zSt} {σ : zSt} (h : (zQ [3, 5, 7, 9, 10, 15, 17, 19, 21, 23, 25, 27, 28, 29, 30, 32, 34, 36, 40, 42, 44, 45] [(11, 2, 3), (12, 2, 3)] [5, 38, 46, 48] []) σ0 σ) : zpc (fX5_carryOn σ) (fun r => (zQ [3, 5, 7, 9, 10, 15, 17, 19, 21, 23, 25, 27, 28, 29, 30, 32, 34, 36, 40, 42, 44, 45] [(11, 2, 3), (12, 2, 3)] [5, 38, 46, 48] []) σ0 (r.1)) := by
  unfold fX5_carryOn
  exact zpc_ck (zpc_if (fun _ => zpc_bu (fe_fX5_growR h) (fun σ37 hσ37 => zpc_some hσ37)) (fun _ => zpc_bs (zQ.wi h rfl) (fun σ31 hσ31 => zpc_bi (fe_fX5_pairAt hσ31) (fun σ32 v33 hσ32 => zpc_bs (zQ.wi hσ32 rfl) (fun σ34 hσ34 => zpc_bi (fe_fX5_fetchOp hσ34) (fun σ35 v36 hσ35 => zpc_if (fun _ => fe_fX5_carryOn_54 hσ35) (fun _ => zpc_if (fun _ => fe_fX5_carryOn_54 hσ35) (fun _ => fe_fX5_carryOn_141 hσ35))))))))
theorem fe_fX6_size_k11 {σ0 : zSt} {σ : zSt} (h : (zQ [3, 5, 7, 9, 10, 15, 17, 19, 21, 23, 25, 27, 28, 29, 30, 32, 34, 36, 40, 42, 44, 45] [(11, 2, 3), (12, 2, 3)] [5, 38, 46, 48] []) σ0 σ) : zpc (fX6_size_k11 σ) (fun r => (zQ [3, 5, 7, 9, 10, 15, 17, 19, 21, 23, 25, 27, 28, 29, 30, 32, 34, 36, 40, 42, 44, 45] [(11, 2, 3), (12, 2, 3)] [5, 38, 46, 48] []) σ0 (r.1)) := by
  unfold fX6_size_k11
  exact zpc_some h
theorem fe_fX6_size_k12 {σ0 : zSt} {σ : zSt} (h : (zQ [3, 5, 7, 9, 10, 15, 17, 19, 21, 23, 25, 27, 28, 29, 30, 32, 34, 36, 40, 42, 44, 45] [(11, 2, 3), (12, 2, 3)] [5, 38, 46, 48] []) σ0 σ) : zpc (fX6_size_k12 σ) (fun r => (zQ [3, 5, 7, 9, 10, 15, 17, 19, 21, 23, 25, 27, 28, 29, 30, 32, 34, 36, 40, 42, 44, 45] [(11, 2, 3), (12, 2, 3)] [5, 38, 46, 48] []) σ0 (r.1)) := by
  unfold fX6_size_k12
  exact zpc_some h
theorem fe_fX6_takeFirst_k11 {σ0 : zSt} {σ : zSt} (h : (zQ [3, 5, 7, 9, 10, 15, 17, 19, 21, 23, 25, 27, 28, 29, 30, 32, 34, 36, 40, 42, 44, 45] [(11, 2, 3), (12, 2, 3)] [5, 38, 46, 48] []) σ0 σ) : zpc (fX6_takeFirst_k11 σ) (fun r => (zQ [3, 5, 7, 9, 10, 15, 17, 19, 21, 23, 25, 27, 28, 29, 30, 32, 34, 36, 40, 42, 44, 45] [(11, 2, 3), (12, 2, 3)] [5, 38, 46, 48] []) σ0 (r.1)) := by
  unfold fX6_takeFirst_k11
  exact zpc_if (fun _ => zpc_some h) (fun _ => zpc_ck (zpc_bv (fun v1 _ => zpc_bs (zQ.wi h rfl) (fun σ2 hσ2 => zpc_bs (zQ.wi hσ2 rfl) (fun σ3 hσ3 => zpc_some hσ3)))))
theorem fe_fX6_takeFirst_k12 {σ0 : zSt} {σ : zSt} (h : (zQ [3, 5, 7, 9, 10, 15, 17, 19, 21, 23, 25, 27, 28, 29, 30, 32, 34, 36, 40, 42, 44, 45] [(11, 2, 3), (12, 2, 3)] [5, 38, 46, 48] []) σ0 σ) : zpc (fX6_takeFirst_k12 σ) (fun r => (zQ [3, 5, 7, 9, 10, 15, 17, 19, 21, 23, 25, 27, 28, 29, 30, 32, 34, 36, 40, 42, 44, 45] [(11, 2, 3), (12, 2, 3)] [5, 38, 46, 48] []) σ0 (r.1)) := by
  unfold fX6_takeFirst_k12
  exact zpc_if (fun _ => zpc_some h) (fun _ => zpc_ck (zpc_bv (fun v1 _ => zpc_bs (zQ.wi h rfl) (fun σ2 hσ2 => zpc_bs (zQ.wi hσ2 rfl) (fun σ3 hσ3 => zpc_some hσ3)))))
theorem fe_fJ7_fill_53178_k30_5_body {σ0 : zSt} {k5 : zSt → Int32 → Int32 → Int32 → Option (zSt)} (hk5 : ∀ (y0 : zSt) (y1 : Int32) (y2 : Int32) (y3 : Int32), (zQ [3, 5, 7, 9, 10, 15, 17, 19, 21, 23, 25, 27, 28, 29, 30, 32, 34, 36, 40, 42, 44, 45] [(11, 2, 3), (12, 2, 3)] [5, 38, 46, 48] []) σ0 y0 → zpc (k5 y0 y1 y2 y3) (fun r => (zQ [3, 5, 7, 9, 10, 15, 17, 19, 21, 23, 25, 27, 28, 29, 30, 32, 34, 36, 40, 42, 44, 45] [(11, 2, 3), (12, 2, 3)] [5, 38, 46, 48] []) σ0 (r))) {σ : zSt} {x1 : Int32} {x2 : Int32} {x3 : Int32} (h : (zQ [3, 5, 7, 9, 10, 15, 17, 19, 21, 23, 25, 27, 28, 29, 30, 32, 34, 36, 40, 42, 44, 45] [(11, 2, 3), (12, 2, 3)] [5, 38, 46, 48] []) σ0 σ) : zpc (fJ7_fill_53178_k30_5_body k5 σ x1 x2 x3) (fun r => (zQ [3, 5, 7, 9, 10, 15, 17, 19, 21, 23, 25, 27, 28, 29, 30, 32, 34, 36, 40, 42, 44, 45] [(11, 2, 3), (12, 2, 3)] [5, 38, 46, 48] []) σ0 (r)) := by
  unfold fJ7_fill_53178_k30_5_body
  exact zpc_if (fun _ => zpc_some h) (fun _ => zpc_ck (zpc_bs (zQ.wi h rfl) (fun σ1 hσ1 => zpc_bv (fun v2 _ => hk5 _ _ _ _ hσ1))))
theorem fe_fJ7_fill_53178_k30_5 {σ0 : zSt} : ∀ (n : Nat) (y0 : zSt) (y1 : Int32) (y2 : Int32) (y3 : Int32), (zQ [3, 5, 7, 9, 10, 15, 17, 19, 21, 23, 25, 27, 28, 29, 30, 32, 34, 36, 40, 42, 44, 45] [(11, 2, 3), (12, 2, 3)] [5, 38, 46, 48] []) σ0 y0 → zpc (fJ7_fill_53178_k30_5 n y0 y1 y2 y3) (fun r => (zQ [3, 5, 7, 9, 10, 15, 17, 19, 21, 23, 25, 27, 28, 29, 30, 32, 34, 36, 40, 42, 44, 45] [(11, 2, 3), (12, 2, 3)] [5, 38, 46, 48] []) σ0 (r)) := by
  intro n
  induction n with
  | zero => intro y0 y1 y2 y3 h; exact zpc_none
  | succ n ih => intro y0 y1 y2 y3 h; exact fe_fJ7_fill_53178_k30_5_body ih h
theorem fe_fJ7_fill_53178_k30 {σ0 : zSt} {σ : zSt} {x1 : Int32} (h : (zQ [3, 5, 7, 9, 10, 15, 17, 19, 21, 23, 25, 27, 28, 29, 30, 32, 34, 36, 40, 42, 44, 45] [(11, 2, 3), (12, 2, 3)] [5, 38, 46, 48] []) σ0 σ) : zpc (fJ7_fill_53178_k30 σ x1) (fun r => (zQ [3, 5, 7, 9, 10, 15, 17, 19, 21, 23, 25, 27, 28, 29, 30, 32, 34, 36, 40, 42, 44, 45] [(11, 2, 3), (12, 2, 3)] [5, 38, 46, 48] []) σ0 (r)) := by
  unfold fJ7_fill_53178_k30
  exact fe_fJ7_fill_53178_k30_5 _ _ _ _ _ h
theorem fe_fJ7_fill_fda19_k30_10_body {σ0 : zSt} {k10 : zSt → Int32 → Int32 → Int32 → Option (zSt)} (hk10 : ∀ (y0 : zSt) (y1 : Int32) (y2 : Int32) (y3 : Int32), (zQ [3, 5, 7, 9, 10, 15, 17, 19, 21, 23, 25, 27, 28, 29, 30, 32, 34, 36, 40, 42, 44, 45] [(11, 2, 3), (12, 2, 3)] [5, 38, 46, 48] []) σ0 y0 → zpc (k10 y0 y1 y2 y3) (fun r => (zQ [3, 5, 7, 9, 10, 15, 17, 19, 21, 23, 25, 27, 28, 29, 30, 32, 34, 36, 40, 42, 44, 45] [(11, 2, 3), (12, 2, 3)] [5, 38, 46, 48] []) σ0 (r))) {σ : zSt} {x2 : Int32} {x3 : Int32} {x4 : Int32} (h : (zQ [3, 5, 7, 9, 10, 15, 17, 19, 21, 23, 25, 27, 28, 29, 30, 32, 34, 36, 40, 42, 44, 45] [(11, 2, 3), (12, 2, 3)] [5, 38, 46, 48] []) σ0 σ) : zpc (fJ7_fill_fda19_k30_10_body k10 σ x2 x3 x4) (fun r => (zQ [3, 5, 7, 9, 10, 15, 17, 19, 21, 23, 25, 27, 28, 29, 30, 32, 34, 36, 40, 42, 44, 45] [(11, 2, 3), (12, 2, 3)] [5, 38, 46, 48] []) σ0 (r)) := by
  unfold fJ7_fill_fda19_k30_10_body
  exact zpc_if (fun _ => zpc_some h) (fun _ => zpc_ck (zpc_bs (zQ.wi h rfl) (fun σ1 hσ1 => zpc_bv (fun v2 _ => hk10 _ _ _ _ hσ1))))
theorem fe_fJ7_fill_fda19_k30_10 {σ0 : zSt} : ∀ (n : Nat) (y0 : zSt) (y1 : Int32) (y2 : Int32) (y3 : Int32), (zQ [3, 5, 7, 9, 10, 15, 17, 19, 21, 23, 25, 27, 28, 29, 30, 32, 34, 36, 40, 42, 44, 45] [(11, 2, 3), (12, 2, 3)] [5, 38, 46, 48] []) σ0 y0 → zpc (fJ7_fill_fda19_k30_10 n y0 y1 y2 y3) (fun r => (zQ [3, 5, 7, 9, 10, 15, 17, 19, 21, 23, 25, 27, 28, 29, 30, 32, 34, 36, 40, 42, 44, 45] [(11, 2, 3), (12, 2, 3)] [5, 38, 46, 48] []) σ0 (r)) := by
  intro n
  induction n with
  | zero => intro y0 y1 y2 y3 h; exact zpc_none
  | succ n ih => intro y0 y1 y2 y3 h; exact fe_fJ7_fill_fda19_k30_10_body ih h
theorem fe_fJ7_fill_fda19_k30 {σ0 : zSt} {σ : zSt} {x1 : Int32} {x2 : Int32} {x3 : Int32} (h : (zQ [3, 5, 7, 9, 10, 15, 17, 19, 21, 23, 25, 27, 28, 29, 30, 32, 34, 36, 40, 42, 44, 45] [(11, 2, 3), (12, 2, 3)] [5, 38, 46, 48] []) σ0 σ) : zpc (fJ7_fill_fda19_k30 σ x1 x2 x3) (fun r => (zQ [3, 5, 7, 9, 10, 15, 17, 19, 21, 23, 25, 27, 28, 29, 30, 32, 34, 36, 40, 42, 44, 45] [(11, 2, 3), (12, 2, 3)] [5, 38, 46, 48] []) σ0 (r)) := by
  unfold fJ7_fill_fda19_k30
  exact zpc_bu (fe_fJ7_rangeCheck_23922 h) (fun σ3 hσ3 => fe_fJ7_fill_fda19_k30_10 _ _ _ _ _ hσ3)
theorem fe_fX7_clear {σ0 : zSt} {σ : zSt} (h : (zQ [3, 5, 7, 9, 10, 15, 17, 19, 21, 23, 25, 27, 28, 29, 30, 32, 34, 36, 40, 42, 44, 45] [(11, 2, 3), (12, 2, 3)] [5, 38, 46, 48] []) σ0 σ) : zpc (fX7_clear σ) (fun r => (zQ [3, 5, 7, 9, 10, 15, 17, 19, 21, 23, 25, 27, 28, 29, 30, 32, 34, 36, 40, 42, 44, 45] [(11, 2, 3), (12, 2, 3)] [5, 38, 46, 48] []) σ0 (r)) := by
  unfold fX7_clear
  exact zpc_bu (fe_fJ7_fill_53178_k30 h) (fun σ1 hσ1 => zpc_bu (fe_fJ7_fill_fda19_k30 hσ1) (fun σ2 hσ2 => zpc_ck (zpc_bs (zQ.wi hσ2 rfl) (fun σ3 hσ3 => zpc_ck (zpc_bs (zQ.wi hσ3 rfl) (fun σ4 hσ4 => zpc_some hσ4))))))
theorem fe_fJ7_fill_53178_k21_5_body {σ0 : zSt} {k5 : zSt → Int32 → Int32 → Int32 → Option (zSt)} (hk5 : ∀ (y0 : zSt) (y1 : Int32) (y2 : Int32) (y3 : Int32), (zQ [3, 5, 7, 9, 10, 15, 17, 19, 21, 23, 25, 27, 28, 29, 30, 32, 34, 36, 40, 42, 44, 45] [(11, 2, 3), (12, 2, 3)] [5, 38, 46, 48] []) σ0 y0 → zpc (k5 y0 y1 y2 y3) (fun r => (zQ [3, 5, 7, 9, 10, 15, 17, 19, 21, 23, 25, 27, 28, 29, 30, 32, 34, 36, 40, 42, 44, 45] [(11, 2, 3), (12, 2, 3)] [5, 38, 46, 48] []) σ0 (r))) {σ : zSt} {x1 : Int32} {x2 : Int32} {x3 : Int32} (h : (zQ [3, 5, 7, 9, 10, 15, 17, 19, 21, 23, 25, 27, 28, 29, 30, 32, 34, 36, 40, 42, 44, 45] [(11, 2, 3), (12, 2, 3)] [5, 38, 46, 48] []) σ0 σ) : zpc (fJ7_fill_53178_k21_5_body k5 σ x1 x2 x3) (fun r => (zQ [3, 5, 7, 9, 10, 15, 17, 19, 21, 23, 25, 27, 28, 29, 30, 32, 34, 36, 40, 42, 44, 45] [(11, 2, 3), (12, 2, 3)] [5, 38, 46, 48] []) σ0 (r)) := by
  unfold fJ7_fill_53178_k21_5_body
  exact zpc_if (fun _ => zpc_some h) (fun _ => zpc_ck (zpc_bs (zQ.wi h rfl) (fun σ1 hσ1 => zpc_bv (fun v2 _ => hk5 _ _ _ _ hσ1))))
theorem fe_fJ7_fill_53178_k21_5 {σ0 : zSt} : ∀ (n : Nat) (y0 : zSt) (y1 : Int32) (y2 : Int32) (y3 : Int32), (zQ [3, 5, 7, 9, 10, 15, 17, 19, 21, 23, 25, 27, 28, 29, 30, 32, 34, 36, 40, 42, 44, 45] [(11, 2, 3), (12, 2, 3)] [5, 38, 46, 48] []) σ0 y0 → zpc (fJ7_fill_53178_k21_5 n y0 y1 y2 y3) (fun r => (zQ [3, 5, 7, 9, 10, 15, 17, 19, 21, 23, 25, 27, 28, 29, 30, 32, 34, 36, 40, 42, 44, 45] [(11, 2, 3), (12, 2, 3)] [5, 38, 46, 48] []) σ0 (r)) := by
  intro n
  induction n with
  | zero => intro y0 y1 y2 y3 h; exact zpc_none
  | succ n ih => intro y0 y1 y2 y3 h; exact fe_fJ7_fill_53178_k21_5_body ih h
theorem fe_fJ7_fill_53178_k21 {σ0 : zSt} {σ : zSt} {x1 : Int32} (h : (zQ [3, 5, 7, 9, 10, 15, 17, 19, 21, 23, 25, 27, 28, 29, 30, 32, 34, 36, 40, 42, 44, 45] [(11, 2, 3), (12, 2, 3)] [5, 38, 46, 48] []) σ0 σ) : zpc (fJ7_fill_53178_k21 σ x1) (fun r => (zQ [3, 5, 7, 9, 10, 15, 17, 19, 21, 23, 25, 27, 28, 29, 30, 32, 34, 36, 40, 42, 44, 45] [(11, 2, 3), (12, 2, 3)] [5, 38, 46, 48] []) σ0 (r)) := by
  unfold fJ7_fill_53178_k21
  exact fe_fJ7_fill_53178_k21_5 _ _ _ _ _ h
theorem fe_fJ7_fill_53178_k23_5_body {σ0 : zSt} {k5 : zSt → Int32 → Int32 → Int32 → Option (zSt)} (hk5 : ∀ (y0 : zSt) (y1 : Int32) (y2 : Int32) (y3 : Int32), (zQ [3, 5, 7, 9, 10, 15, 17, 19, 21, 23, 25, 27, 28, 29, 30, 32, 34, 36, 40, 42, 44, 45] [(11, 2, 3), (12, 2, 3)] [5, 38, 46, 48] []) σ0 y0 → zpc (k5 y0 y1 y2 y3) (fun r => (zQ [3, 5, 7, 9, 10, 15, 17, 19, 21, 23, 25, 27, 28, 29, 30, 32, 34, 36, 40, 42, 44, 45] [(11, 2, 3), (12, 2, 3)] [5, 38, 46, 48] []) σ0 (r))) {σ : zSt} {x1 : Int32} {x2 : Int32} {x3 : Int32} (h : (zQ [3, 5, 7, 9, 10, 15, 17, 19, 21, 23, 25, 27, 28, 29, 30, 32, 34, 36, 40, 42, 44, 45] [(11, 2, 3), (12, 2, 3)] [5, 38, 46, 48] []) σ0 σ) : zpc (fJ7_fill_53178_k23_5_body k5 σ x1 x2 x3) (fun r => (zQ [3, 5, 7, 9, 10, 15, 17, 19, 21, 23, 25, 27, 28, 29, 30, 32, 34, 36, 40, 42, 44, 45] [(11, 2, 3), (12, 2, 3)] [5, 38, 46, 48] []) σ0 (r)) := by
  unfold fJ7_fill_53178_k23_5_body
  exact zpc_if (fun _ => zpc_some h) (fun _ => zpc_ck (zpc_bs (zQ.wi h rfl) (fun σ1 hσ1 => zpc_bv (fun v2 _ => hk5 _ _ _ _ hσ1))))
theorem fe_fJ7_fill_53178_k23_5 {σ0 : zSt} : ∀ (n : Nat) (y0 : zSt) (y1 : Int32) (y2 : Int32) (y3 : Int32), (zQ [3, 5, 7, 9, 10, 15, 17, 19, 21, 23, 25, 27, 28, 29, 30, 32, 34, 36, 40, 42, 44, 45] [(11, 2, 3), (12, 2, 3)] [5, 38, 46, 48] []) σ0 y0 → zpc (fJ7_fill_53178_k23_5 n y0 y1 y2 y3) (fun r => (zQ [3, 5, 7, 9, 10, 15, 17, 19, 21, 23, 25, 27, 28, 29, 30, 32, 34, 36, 40, 42, 44, 45] [(11, 2, 3), (12, 2, 3)] [5, 38, 46, 48] []) σ0 (r)) := by
  intro n
  induction n with
  | zero => intro y0 y1 y2 y3 h; exact zpc_none
  | succ n ih => intro y0 y1 y2 y3 h; exact fe_fJ7_fill_53178_k23_5_body ih h
theorem fe_fJ7_fill_53178_k23 {σ0 : zSt} {σ : zSt} {x1 : Int32} (h : (zQ [3, 5, 7, 9, 10, 15, 17, 19, 21, 23, 25, 27, 28, 29, 30, 32, 34, 36, 40, 42, 44, 45] [(11, 2, 3), (12, 2, 3)] [5, 38, 46, 48] []) σ0 σ) : zpc (fJ7_fill_53178_k23 σ x1) (fun r => (zQ [3, 5, 7, 9, 10, 15, 17, 19, 21, 23, 25, 27, 28, 29, 30, 32, 34, 36, 40, 42, 44, 45] [(11, 2, 3), (12, 2, 3)] [5, 38, 46, 48] []) σ0 (r)) := by
  unfold fJ7_fill_53178_k23
  exact fe_fJ7_fill_53178_k23_5 _ _ _ _ _ h
theorem fe_fX9_clear {σ0 : zSt} {σ : zSt} (h : (zQ [3, 5, 7, 9, 10, 15, 17, 19, 21, 23, 25, 27, 28, 29, 30, 32, 34, 36, 40, 42, 44, 45] [(11, 2, 3), (12, 2, 3)] [5, 38, 46, 48] []) σ0 σ) : zpc (fX9_clear σ) (fun r => (zQ [3, 5, 7, 9, 10, 15, 17, 19, 21, 23, 25, 27, 28, 29, 30, 32, 34, 36, 40, 42, 44, 45] [(11, 2, 3), (12, 2, 3)] [5, 38, 46, 48] []) σ0 (r)) := by
  unfold fX9_clear
  exact zpc_bu (fe_fJ7_fill_53178_k21 h) (fun σ1 hσ1 => zpc_bu (fe_fJ7_fill_53178_k23 hσ1) (fun σ2 hσ2 => zpc_some hσ2))
theorem fe_fX9_asks_54 {σ0 : zSt} {σ : zSt} {s0 : Int32} (h : (zQ [3, 5, 7, 9, 10, 15, 17, 19, 21, 23, 25, 27, 28, 29, 30, 32, 34, 36, 40, 42, 44, 45] [(11, 2, 3), (12, 2, 3)] [5, 38, 46, 48] []) σ0 σ) : zpc (fX9_asks_54 σ s0) (fun r => (zQ [3, 5, 7, 9, 10, 15, 17, 19, 21, 23, 25, 27, 28, 29, 30, 32, 34, 36, 40, 42, 44, 45] [(11, 2, 3), (12, 2, 3)] [5, 38, 46, 48] []) σ0 (r.1)) := by
  unfold fX9_asks_54
  exact zpc_ck (zpc_some h)
theorem fe_fX9_asks_53 {σ0 : zSt} {σ : zSt} (h : (zQ [3, 5, 7, 9, 10, 15, 17, 19, 21, 23, 25, 27, 28, 29, 30, 32, 34, 36, 40, 42, 44, 45] [(11, 2, 3), (12, 2, 3)] [5, 38, 46, 48] []) σ0 σ) : zpc (fX9_asks_53 σ) (fun r => (zQ [3, 5, 7, 9, 10, 15, 17, 19, 21, 23, 25, 27, 28, 29, 30, 32, 34, 36, 40, 42, 44, 45] [(11, 2, 3), (12, 2, 3)] [5, 38, 46, 48] []) σ0 (r.1)) := by
  unfold fX9_asks_53
  exact fe_fX9_asks_54 h
theorem fe_fX9_asks_49 {σ0 : zSt} {σ : zSt} (h : (zQ [3, 5, 7, 9, 10, 15, 17, 19, 21, 23, 25, 27, 28, 29, 30, 32, 34, 36, 40, 42, 44, 45] [(11, 2, 3), (12, 2, 3)] [5, 38, 46, 48] []) σ0 σ) : zpc (fX9_asks_49 σ) (fun r => (zQ [3, 5, 7, 9, 10, 15, 17, 19, 21, 23, 25, 27, 28, 29, 30, 32, 34, 36, 40, 42, 44, 45] [(11, 2, 3), (12, 2, 3)] [5, 38, 46, 48] []) σ0 (r.1)) := by
  unfold fX9_asks_49
  exact fe_fX9_asks_54 h
theorem fe_fX9_asks_26 {σ0 : zSt} {σ : zSt} (h : (zQ [3, 5, 7, 9, 10, 15, 17, 19, 21, 23, 25, 27, 28, 29, 30, 32, 34, 36, 40, 42, 44, 45] [(11, 2, 3), (12, 2, 3)] [5, 38, 46, 48] []) σ0 σ) : zpc (fX9_asks_26 σ) (fun r => (zQ [3, 5, 7, 9, 10, 15, 17, 19, 21, 23, 25, 27, 28, 29, 30, 32, 34, 36, 40, 42, 44, 45] [(11, 2, 3), (12, 2, 3)] [5, 38, 46, 48] []) σ0 (r.1)) := by
  unfold fX9_asks_26
  exact zpc_ck (zpc_if (fun _ => fe_fX9_asks_53 h) (fun _ => zpc_ck (zpc_if (fun _ => fe_fX9_asks_49 h) (fun _ => fe_fX9_asks_53 h))))
theorem fe_fX9_asks {σ0 : zSt} {σ : zSt} (h : (zQ [3, 5, 7, 9, 10, 15, 17, 19, 21, 23, 25, 27, 28, 29, 30, 32, 34, 36, 40, 42, 44, 45] [(11, 2, 3), (12, 2, 3)] [5, 38, 46, 48] []) σ0 σ) : zpc (fX9_asks σ) (fun r => (zQ [3, 5, 7, 9, 10, 15, 17, 19, 21, 23, 25, 27, 28, 29, 30, 32, 34, 36, 40, 42, 44, 45] [(11, 2, 3), (12, 2, 3)] [5, 38, 46, 48] []) σ0 (r.1)) := by
  unfold fX9_asks
  exact zpc_ck (zpc_if (fun _ => fe_fX9_asks_26 h) (fun _ => zpc_ck (zpc_if (fun _ => fe_fX9_asks_26 h) (fun _ => fe_fX9_asks_49 h))))
theorem fe_fX9_passes {σ0 : zSt} {σ : zSt} {x1 : Int32} (h : (zQ [3, 5, 7, 9, 10, 15, 17, 19, 21, 23, 25, 27, 28, 29, 30, 32, 34, 36, 40, 42, 44, 45] [(11, 2, 3), (12, 2, 3)] [5, 38, 46, 48] []) σ0 σ) : zpc (fX9_passes σ x1) (fun r => (zQ [3, 5, 7, 9, 10, 15, 17, 19, 21, 23, 25, 27, 28, 29, 30, 32, 34, 36, 40, 42, 44, 45] [(11, 2, 3), (12, 2, 3)] [5, 38, 46, 48] []) σ0 (r.1)) := by
  unfold fX9_passes
  exact zpc_ck (zpc_ck (zpc_bs (zQ.wi h rfl) (fun σ1 hσ1 => zpc_ck (zpc_if (fun _ => zpc_ck (zpc_ck (zpc_bs (zQ.wi hσ1 rfl) (fun σ2 hσ2 => zpc_ck (zpc_some hσ2))))) (fun _ => zpc_ck (zpc_some hσ1))))))
theorem fe_fX9_goesToNextLine_159 {σ0 : zSt} {σ : zSt} {x2 : Int32} (h : (zQ [3, 5, 7, 9, 10, 15, 17, 19, 21, 23, 25, 27, 28, 29, 30, 32, 34, 36, 40, 42, 44, 45] [(11, 2, 3), (12, 2, 3)] [5, 38, 46, 48] []) σ0 σ) : zpc (fX9_goesToNextLine_159 σ x2) (fun r => (zQ [3, 5, 7, 9, 10, 15, 17, 19, 21, 23, 25, 27, 28, 29, 30, 32, 34, 36, 40, 42, 44, 45] [(11, 2, 3), (12, 2, 3)] [5, 38, 46, 48] []) σ0 (r.1)) := by
  unfold fX9_goesToNextLine_159
  exact zpc_ck (zpc_some h)
theorem fe_fX9_goesToNextLine_133 {σ0 : zSt} {σ : zSt} {x1 : Int32} {x2 : Int32} (h : (zQ [3, 5, 7, 9, 10, 15, 17, 19, 21, 23, 25, 27, 28, 29, 30, 32, 34, 36, 40, 42, 44, 45] [(11, 2, 3), (12, 2, 3)] [5, 38, 46, 48] []) σ0 σ) : zpc (fX9_goesToNextLine_133 σ x1 x2) (fun r => (zQ [3, 5, 7, 9, 10, 15, 17, 19, 21, 23, 25, 27, 28, 29, 30, 32, 34, 36, 40, 42, 44, 45] [(11, 2, 3), (12, 2, 3)] [5, 38, 46, 48] []) σ0 (r.1)) := by
  unfold fX9_goesToNextLine_133
  exact zpc_ck (zpc_if (fun _ => zpc_ck (zpc_ck (zpc_bs (zQ.wi h rfl) (fun σ1 hσ1 => fe_fX9_goesToNextLine_159 hσ1)))) (fun _ => fe_fX9_goesToNextLine_159 h))
theorem fe_fX9_goesToNextLine_106 {σ0 : zSt} {σ : zSt} {x1 : Int32} {s0 : Int32} (h : (zQ [3, 5, 7, 9, 10, 15, 17, 19, 21, 23, 25, 27, 28, 29, 30, 32, 34, 36, 40, 42, 44, 45] [(11, 2, 3), (12, 2, 3)] [5, 38, 46, 48] []) σ0 σ) : zpc (fX9_goesToNextLine_106 σ x1 s0) (fun r => (zQ [3, 5, 7, 9, 10, 15, 17, 19, 21, 23, 25, 27, 28, 29, 30, 32, 34, 36, 40, 42, 44, 45] [(11, 2, 3), (12, 2, 3)] [5, 38, 46, 48] []) σ0 (r.1)) := by
  unfold fX9_goesToNextLine_106
  exact zpc_if (fun _ => fe_fX9_goesToNextLine_133 h) (fun _ => zpc_ck (zpc_bs (zQ.wi h rfl) (fun σ2 hσ2 => zpc_ck (zpc_ck (zpc_bs (zQ.wi hσ2 rfl) (fun σ3 hσ3 => fe_fX9_goesToNextLine_133 hσ3))))))
theorem fe_fX9_goesToNextLine_76 {σ0 : zSt} {σ : zSt} {x1 : Int32} (h : (zQ [3, 5, 7, 9, 10, 15, 17, 19, 21, 23, 25, 27, 28, 29, 30, 32, 34, 36, 40, 42, 44, 45] [(11, 2, 3), (12, 2, 3)] [5, 38, 46, 48] []) σ0 σ) : zpc (fX9_goesToNextLine_76 σ x1) (fun r => (zQ [3, 5, 7, 9, 10, 15, 17, 19, 21, 23, 25, 27, 28, 29, 30, 32, 34, 36, 40, 42, 44, 45] [(11, 2, 3), (12, 2, 3)] [5, 38, 46, 48] []) σ0 (r.1)) := by
  unfold fX9_goesToNextLine_76
  exact zpc_ck (zpc_ck (zpc_bs (zQ.wi h rfl) (fun σ4 hσ4 => zpc_ck (zpc_if (fun _ => fe_fX9_goesToNextLine_106 hσ4) (fun _ => fe_fX9_goesToNextLine_106 hσ4)))))
theorem fe_fX9_goesToNextLine {σ0 : zSt} {σ : zSt} (h : (zQ [3, 5, 7, 9, 10, 15, 17, 19, 21, 23, 25, 27, 28, 29, 30, 32, 34, 36, 40, 42, 44, 45] [(11, 2, 3), (12, 2, 3)] [5, 38, 46, 48] []) σ0 σ) : zpc (fX9_goesToNextLine σ) (fun r => (zQ [3, 5, 7, 9, 10, 15, 17, 19, 21, 23, 25, 27, 28, 29, 30, 32, 34, 36, 40, 42, 44, 45] [(11, 2, 3), (12, 2, 3)] [5, 38, 46, 48] []) σ0 (r.1)) := by
  unfold fX9_goesToNextLine
  exact zpc_bi (fe_fX9_height h) (fun σ5 v6 hσ5 => zpc_ck (zpc_if (fun _ => zpc_ck (zpc_ck (zpc_bs (zQ.wi hσ5 rfl) (fun σ7 hσ7 => zpc_ck (zpc_if (fun _ => fe_fX9_goesToNextLine_76 hσ7) (fun _ => zpc_ck (zpc_ck (zpc_bs (zQ.wi hσ7 rfl) (fun σ8 hσ8 => zpc_ck (zpc_bs (zQ.wi hσ8 rfl) (fun σ9 hσ9 => fe_fX9_goesToNextLine_76 hσ9))))))))))) (fun _ => zpc_ck (zpc_ck (zpc_bs (zQ.wi hσ5 rfl) (fun σ10 hσ10 => fe_fX9_goesToNextLine_76 hσ10))))))
theorem fe_fJ7_fill_53178_k32_5_body {σ0 : zSt} {k5 : zSt → Int32 → Int32 → Int32 → Option (zSt)} (hk5 : ∀ (y0 : zSt) (y1 : Int32) (y2 : Int32) (y3 : Int32), (zQ [3, 5, 7, 9, 10, 15, 17, 19, 21, 23, 25, 27, 28, 29, 30, 32, 34, 36, 40, 42, 44, 45] [(11, 2, 3), (12, 2, 3)] [5, 38, 46, 48] []) σ0 y0 → zpc (k5 y0 y1 y2 y3) (fun r => (zQ [3, 5, 7, 9, 10, 15, 17, 19, 21, 23, 25, 27, 28, 29, 30, 32, 34, 36, 40, 42, 44, 45] [(11, 2, 3), (12, 2, 3)] [5, 38, 46, 48] []) σ0 (r))) {σ : zSt} {x1 : Int32} {x2 : Int32} {x3 : Int32} (h : (zQ [3, 5, 7, 9, 10, 15, 17, 19, 21, 23, 25, 27, 28, 29, 30, 32, 34, 36, 40, 42, 44, 45] [(11, 2, 3), (12, 2, 3)] [5, 38, 46, 48] []) σ0 σ) : zpc (fJ7_fill_53178_k32_5_body k5 σ x1 x2 x3) (fun r => (zQ [3, 5, 7, 9, 10, 15, 17, 19, 21, 23, 25, 27, 28, 29, 30, 32, 34, 36, 40, 42, 44, 45] [(11, 2, 3), (12, 2, 3)] [5, 38, 46, 48] []) σ0 (r)) := by
  unfold fJ7_fill_53178_k32_5_body
  exact zpc_if (fun _ => zpc_some h) (fun _ => zpc_ck (zpc_bs (zQ.wi h rfl) (fun σ1 hσ1 => zpc_bv (fun v2 _ => hk5 _ _ _ _ hσ1))))
theorem fe_fJ7_fill_53178_k32_5 {σ0 : zSt} : ∀ (n : Nat) (y0 : zSt) (y1 : Int32) (y2 : Int32) (y3 : Int32), (zQ [3, 5, 7, 9, 10, 15, 17, 19, 21, 23, 25, 27, 28, 29, 30, 32, 34, 36, 40, 42, 44, 45] [(11, 2, 3), (12, 2, 3)] [5, 38, 46, 48] []) σ0 y0 → zpc (fJ7_fill_53178_k32_5 n y0 y1 y2 y3) (fun r => (zQ [3, 5, 7, 9, 10, 15, 17, 19, 21, 23, 25, 27, 28, 29, 30, 32, 34, 36, 40, 42, 44, 45] [(11, 2, 3), (12, 2, 3)] [5, 38, 46, 48] []) σ0 (r)) := by
  intro n
  induction n with
  | zero => intro y0 y1 y2 y3 h; exact zpc_none
  | succ n ih => intro y0 y1 y2 y3 h; exact fe_fJ7_fill_53178_k32_5_body ih h
theorem fe_fJ7_fill_53178_k32 {σ0 : zSt} {σ : zSt} {x1 : Int32} (h : (zQ [3, 5, 7, 9, 10, 15, 17, 19, 21, 23, 25, 27, 28, 29, 30, 32, 34, 36, 40, 42, 44, 45] [(11, 2, 3), (12, 2, 3)] [5, 38, 46, 48] []) σ0 σ) : zpc (fJ7_fill_53178_k32 σ x1) (fun r => (zQ [3, 5, 7, 9, 10, 15, 17, 19, 21, 23, 25, 27, 28, 29, 30, 32, 34, 36, 40, 42, 44, 45] [(11, 2, 3), (12, 2, 3)] [5, 38, 46, 48] []) σ0 (r)) := by
  unfold fJ7_fill_53178_k32
  exact fe_fJ7_fill_53178_k32_5 _ _ _ _ _ h
theorem fe_fX10_clear_36_body {σ0 : zSt} {k36 : zSt → Int32 → Option (zSt)} (hk36 : ∀ (y0 : zSt) (y1 : Int32), (zQ [3, 5, 7, 9, 10, 15, 17, 19, 21, 23, 25, 27, 28, 29, 30, 32, 34, 36, 40, 42, 44, 45] [(11, 2, 3), (12, 2, 3)] [5, 38, 46, 48] []) σ0 y0 → zpc (k36 y0 y1) (fun r => (zQ [3, 5, 7, 9, 10, 15, 17, 19, 21, 23, 25, 27, 28, 29, 30, 32, 34, 36, 40, 42, 44, 45] [(11, 2, 3), (12, 2, 3)] [5, 38, 46, 48] []) σ0 (r))) {σ : zSt} {x2 : Int32} (h : (zQ [3, 5, 7, 9, 10, 15, 17, 19, 21, 23, 25, 27, 28, 29, 30, 32, 34, 36, 40, 42, 44, 45] [(11, 2, 3), (12, 2, 3)] [5, 38, 46, 48] []) σ0 σ) : zpc (fX10_clear_36_body k36 σ x2) (fun r => (zQ [3, 5, 7, 9, 10, 15, 17, 19, 21, 23, 25, 27, 28, 29, 30, 32, 34, 36, 40, 42, 44, 45] [(11, 2, 3), (12, 2, 3)] [5, 38, 46, 48] []) σ0 (r)) := by
  unfold fX10_clear_36_body
  exact zpc_if (fun _ => zpc_some h) (fun _ => zpc_ck (zpc_bs (zQ.wi h rfl) (fun σ1 hσ1 => zpc_ck (zpc_bs (zQ.wi hσ1 rfl) (fun σ2 hσ2 => zpc_bv (fun v3 _ => hk36 _ _ hσ2))))))
theorem fe_fX10_clear_36 {σ0 : zSt} : ∀ (n : Nat) (y0 : zSt) (y1 : Int32), (zQ [3, 5, 7, 9, 10, 15, 17, 19, 21, 23, 25, 27, 28, 29, 30, 32, 34, 36, 40, 42, 44, 45] [(11, 2, 3), (12, 2, 3)] [5, 38, 46, 48] []) σ0 y0 → zpc (fX10_clear_36 n y0 y1) (fun r => (zQ [3, 5, 7, 9, 10, 15, 17, 19, 21, 23, 25, 27, 28, 29, 30, 32, 34, 36, 40, 42, 44, 45] [(11, 2, 3), (12, 2, 3)] [5, 38, 46, 48] []) σ0 (r)) := by
  intro n
  induction n with
  | zero => intro y0 y1 h; exact zpc_none
  | succ n ih => intro y0 y1 h; exact fe_fX10_clear_36_body ih h
theorem fe_fX10_clear {σ0 : zSt} {σ : zSt} (h : (zQ [3, 5, 7, 9, 10, 15, 17, 19, 21, 23, 25, 27, 28, 29, 30, 32, 34, 36, 40, 42, 44, 45] [(11, 2, 3), (12, 2, 3)] [5, 38, 46, 48] []) σ0 σ) : zpc (fX10_clear σ) (fun r => (zQ [3, 5, 7, 9, 10, 15, 17, 19, 21, 23, 25, 27, 28, 29, 30, 32, 34, 36, 40, 42, 44, 45] [(11, 2, 3), (12, 2, 3)] [5, 38, 46, 48] []) σ0 (r)) := by
  unfold fX10_clear
  exact zpc_ck (zpc_bv (fun v4 _ => zpc_bu (fe_fJ7_fill_53178_k32 h) (fun σ5 hσ5 => zpc_ck (zpc_bs (zQ.wi hσ5 rfl) (fun σ6 hσ6 => zpc_ck (zpc_bs (zQ.wi hσ6 rfl) (fun σ7 hσ7 => fe_fX10_clear_36 _ _ _ hσ7)))))))
theorem fe_fX11_clearAll {σ0 : zSt} {σ : zSt} (h : (zQ [3, 5, 7, 9, 10, 15, 17, 19, 21, 23, 25, 27, 28, 29, 30, 32, 34, 36, 40, 42, 44, 45] [(11, 2, 3), (12, 2, 3)] [5, 38, 46, 48] []) σ0 σ) : zpc (fX11_clearAll σ) (fun r => (zQ [3, 5, 7, 9, 10, 15, 17, 19, 21, 23, 25, 27, 28, 29, 30, 32, 34, 36, 40, 42, 44, 45] [(11, 2, 3), (12, 2, 3)] [5, 38, 46, 48] []) σ0 (r)) := by
  unfold fX11_clearAll
  exact zpc_bu (fe_fX2_clearPages h) (fun σ1 hσ1 => zpc_bu (fe_fX9_clear hσ1) (fun σ2 hσ2 => zpc_bu (fe_fX7_clear hσ2) (fun σ3 hσ3 => zpc_bu (fe_fX10_clear hσ3) (fun σ4 hσ4 => zpc_bu (fe_fX4_clear hσ4) (fun σ5 hσ5 => zpc_bu (fe_fX5_clear hσ5) (fun σ6 hσ6 => zpc_some hσ6))))))
theorem fe_fX11_endLine_62 {σ0 : zSt} {σ : zSt} (h : (zQ [3, 5, 7, 9, 10, 15, 17, 19, 21, 23, 25, 27, 28, 29, 30, 32, 34, 36, 40, 42, 44, 45] [(11, 2, 3), (12, 2, 3)] [5, 38, 46, 48] []) σ0 σ) : zpc (fX11_endLine_62 σ) (fun r => (zQ [3, 5, 7, 9, 10, 15, 17, 19, 21, 23, 25, 27, 28, 29, 30, 32, 34, 36, 40, 42, 44, 45] [(11, 2, 3), (12, 2, 3)] [5, 38, 46, 48] []) σ0 (r)) := by
  unfold fX11_endLine_62
  exact zpc_some h
theorem fe_fX11_endLine_26 {σ0 : zSt} {σ : zSt} (h : (zQ [3, 5, 7, 9, 10, 15, 17, 19, 21, 23, 25, 27, 28, 29, 30, 32, 34, 36, 40, 42, 44, 45] [(11, 2, 3), (12, 2, 3)] [5, 38, 46, 48] []) σ0 σ) : zpc (fX11_endLine_26 σ) (fun r => (zQ [3, 5, 7, 9, 10, 15, 17, 19, 21, 23, 25, 27, 28, 29, 30, 32, 34, 36, 40, 42, 44, 45] [(11, 2, 3), (12, 2, 3)] [5, 38, 46, 48] []) σ0 (r)) := by
  unfold fX11_endLine_26
  exact zpc_bi (fe_fX9_goesToNextLine h) (fun σ1 v2 hσ1 => zpc_if (fun _ => fe_fX11_endLine_62 hσ1) (fun _ => zpc_bu (fe_fX0_countPicture hσ1) (fun σ3 hσ3 => zpc_bll (fe_fX0_count hσ3) (fun σ4 v5 hσ4 => zpc_bu (fe_fX1_carryOutPlans hσ4) (fun σ6 hσ6 => fe_fX11_endLine_62 hσ6)))))
theorem fe_fX11_endLine {σ0 : zSt} {σ : zSt} (h : (zQ [3, 5, 7, 9, 10, 15, 17, 19, 21, 23, 25, 27, 28, 29, 30, 32, 34, 36, 40, 42, 44, 45] [(11, 2, 3), (12, 2, 3)] [5, 38, 46, 48] []) σ0 σ) : zpc (fX11_endLine σ) (fun r => (zQ [3, 5, 7, 9, 10, 15, 17, 19, 21, 23, 25, 27, 28, 29, 30, 32, 34, 36, 40, 42, 44, 45] [(11, 2, 3), (12, 2, 3)] [5, 38, 46, 48] []) σ0 (r)) := by
  unfold fX11_endLine
  exact zpc_bi (fe_fX9_held h) (fun σ7 v8 hσ7 => zpc_bi (fe_fX9_height hσ7) (fun σ9 v10 hσ9 => zpc_if (fun _ => fe_fX11_endLine_26 hσ9) (fun _ => zpc_bu (fe_fX3_draw hσ9) (fun σ11 hσ11 => fe_fX11_endLine_26 hσ11))))
theorem fe_fX11_run_135 {σ0 : zSt} {σ : zSt} {x5 : Int32} (h : (zQ [3, 5, 7, 9, 10, 15, 17, 19, 21, 23, 25, 27, 28, 29, 30, 32, 34, 36, 40, 42, 44, 45] [(11, 2, 3), (12, 2, 3)] [5, 38, 46, 48] []) σ0 σ) : zpc (fX11_run_135 σ x5) (fun r => (zQ [3, 5, 7, 9, 10, 15, 17, 19, 21, 23, 25, 27, 28, 29, 30, 32, 34, 36, 40, 42, 44, 45] [(11, 2, 3), (12, 2, 3)] [5, 38, 46, 48] []) σ0 (r.1)) := by
  unfold fX11_run_135
  exact zpc_some h
theorem fe_fX11_run_120 {σ0 : zSt} {k15 : zSt → Int32 → Int64 → Int32 → Option (zSt × Int32)} (hk15 : ∀ (y0 : zSt) (y1 : Int32) (y2 : Int64) (y3 : Int32), (zQ [3, 5, 7, 9, 10, 15, 17, 19, 21, 23, 25, 27, 28, 29, 30, 32, 34, 36, 40, 42, 44, 45] [(11, 2, 3), (12, 2, 3)] [5, 38, 46, 48] []) σ0 y0 → zpc (k15 y0 y1 y2 y3) (fun r => (zQ [3, 5, 7, 9, 10, 15, 17, 19, 21, 23, 25, 27, 28, 29, 30, 32, 34, 36, 40, 42, 44, 45] [(11, 2, 3), (12, 2, 3)] [5, 38, 46, 48] []) σ0 (r.1))) {σ : zSt} {x1 : Int32} {x3 : Int64} {x5 : Int32} {x7 : Int32} (h : (zQ [3, 5, 7, 9, 10, 15, 17, 19, 21, 23, 25, 27, 28, 29, 30, 32, 34, 36, 40, 42, 44, 45] [(11, 2, 3), (12, 2, 3)] [5, 38, 46, 48] []) σ0 σ) : zpc (fX11_run_120 k15 σ x1 x3 x5 x7) (fun r => (zQ [3, 5, 7, 9, 10, 15, 17, 19, 21, 23, 25, 27, 28, 29, 30, 32, 34, 36, 40, 42, 44, 45] [(11, 2, 3), (12, 2, 3)] [5, 38, 46, 48] []) σ0 (r.1)) := by
  unfold fX11_run_120
  exact zpc_bu (fe_fX0_pass h) (fun σ1 hσ1 => zpc_bv (fun v2 _ => hk15 _ _ _ _ hσ1))
theorem fe_fX11_run_104 {σ0 : zSt} {k15 : zSt → Int32 → Int64 → Int32 → Option (zSt × Int32)} (hk15 : ∀ (y0 : zSt) (y1 : Int32) (y2 : Int64) (y3 : Int32), (zQ [3, 5, 7, 9, 10, 15, 17, 19, 21, 23, 25, 27, 28, 29, 30, 32, 34, 36, 40, 42, 44, 45] [(11, 2, 3), (12, 2, 3)] [5, 38, 46, 48] []) σ0 y0 → zpc (k15 y0 y1 y2 y3) (fun r => (zQ [3, 5, 7, 9, 10, 15, 17, 19, 21, 23, 25, 27, 28, 29, 30, 32, 34, 36, 40, 42, 44, 45] [(11, 2, 3), (12, 2, 3)] [5, 38, 46, 48] []) σ0 (r.1))) {σ : zSt} {x1 : Int32} {x3 : Int64} {x5 : Int32} {x7 : Int32} (h : (zQ [3, 5, 7, 9, 10, 15, 17, 19, 21, 23, 25, 27, 28, 29, 30, 32, 34, 36, 40, 42, 44, 45] [(11, 2, 3), (12, 2, 3)] [5, 38, 46, 48] []) σ0 σ) : zpc (fX11_run_104 k15 σ x1 x3 x5 x7) (fun r => (zQ [3, 5, 7, 9, 10, 15, 17, 19, 21, 23, 25, 27, 28, 29, 30, 32, 34, 36, 40, 42, 44, 45] [(11, 2, 3), (12, 2, 3)] [5, 38, 46, 48] []) σ0 (r.1)) := by
  unfold fX11_run_104
  exact zpc_bi (fe_fX9_passes h) (fun σ3 v4 hσ3 => zpc_if (fun _ => fe_fX11_run_120 hk15 hσ3) (fun _ => zpc_bu (fe_fX11_endLine hσ3) (fun σ5 hσ5 => fe_fX11_run_120 hk15 hσ5)))
theorem fe_fX11_run_65 {σ0 : zSt} {k15 : zSt → Int32 → Int64 → Int32 → Option (zSt × Int32)} (hk15 : ∀ (y0 : zSt) (y1 : Int32) (y2 : Int64) (y3 : Int32), (zQ [3, 5, 7, 9, 10, 15, 17, 19, 21, 23, 25, 27, 28, 29, 30, 32, 34, 36, 40, 42, 44, 45] [(11, 2, 3), (12, 2, 3)] [5, 38, 46, 48] []) σ0 y0 → zpc (k15 y0 y1 y2 y3) (fun r => (zQ [3, 5, 7, 9, 10, 15, 17, 19, 21, 23, 25, 27, 28, 29, 30, 32, 34, 36, 40, 42, 44, 45] [(11, 2, 3), (12, 2, 3)] [5, 38, 46, 48] []) σ0 (r.1))) {σ : zSt} {x1 : Int32} {x3 : Int64} {x5 : Int32} {x6 : Int32} (h : (zQ [3, 5, 7, 9, 10, 15, 17, 19, 21, 23, 25, 27, 28, 29, 30, 32, 34, 36, 40, 42, 44, 45] [(11, 2, 3), (12, 2, 3)] [5, 38, 46, 48] []) σ0 σ) : zpc (fX11_run_65 k15 σ x1 x3 x5 x6) (fun r => (zQ [3, 5, 7, 9, 10, 15, 17, 19, 21, 23, 25, 27, 28, 29, 30, 32, 34, 36, 40, 42, 44, 45] [(11, 2, 3), (12, 2, 3)] [5, 38, 46, 48] []) σ0 (r.1)) := by
  unfold fX11_run_65
  exact zpc_bu (fe_fX1_noteStep h) (fun σ6 hσ6 => zpc_bi (fe_fX9_asks hσ6) (fun σ7 v8 hσ7 => zpc_bi (fe_fX5_answerCalls hσ7) (fun σ9 v10 hσ9 => zpc_if (fun _ => zpc_bi (fe_fX5_carryOn hσ9) (fun σ11 v12 hσ11 => fe_fX11_run_104 hk15 hσ11)) (fun _ => fe_fX11_run_104 hk15 hσ9))))
theorem fe_fX11_run_15_body {σ0 : zSt} {k15 : zSt → Int32 → Int64 → Int32 → Option (zSt × Int32)} (hk15 : ∀ (y0 : zSt) (y1 : Int32) (y2 : Int64) (y3 : Int32), (zQ [3, 5, 7, 9, 10, 15, 17, 19, 21, 23, 25, 27, 28, 29, 30, 32, 34, 36, 40, 42, 44, 45] [(11, 2, 3), (12, 2, 3)] [5, 38, 46, 48] []) σ0 y0 → zpc (k15 y0 y1 y2 y3) (fun r => (zQ [3, 5, 7, 9, 10, 15, 17, 19, 21, 23, 25, 27, 28, 29, 30, 32, 34, 36, 40, 42, 44, 45] [(11, 2, 3), (12, 2, 3)] [5, 38, 46, 48] []) σ0 (r.1))) {σ : zSt} {x1 : Int32} {x3 : Int64} {x5 : Int32} (h : (zQ [3, 5, 7, 9, 10, 15, 17, 19, 21, 23, 25, 27, 28, 29, 30, 32, 34, 36, 40, 42, 44, 45] [(11, 2, 3), (12, 2, 3)] [5, 38, 46, 48] []) σ0 σ) : zpc (fX11_run_15_body k15 σ x1 x3 x5) (fun r => (zQ [3, 5, 7, 9, 10, 15, 17, 19, 21, 23, 25, 27, 28, 29, 30, 32, 34, 36, 40, 42, 44, 45] [(11, 2, 3), (12, 2, 3)] [5, 38, 46, 48] []) σ0 (r.1)) := by
  unfold fX11_run_15_body
  exact zpc_if (fun _ => fe_fX11_run_135 h) (fun _ => zpc_bll (fe_fX0_count h) (fun σ13 v14 hσ13 => zpc_if (fun _ => fe_fX11_run_135 hσ13) (fun _ => zpc_bi (fe_fX5_value hσ13) (fun σ15 v16 hσ15 => zpc_if (fun _ => fe_fX11_run_65 hk15 hσ15) (fun _ => zpc_bi (fe_fX1_isStop hσ15) (fun σ17 v18 hσ17 => zpc_if (fun _ => fe_fX11_run_65 hk15 hσ17) (fun _ => fe_fX11_run_135 hσ17)))))))
theorem fe_fX11_run_15 {σ0 : zSt} : ∀ (n : Nat) (y0 : zSt) (y1 : Int32) (y2 : Int64) (y3 : Int32), (zQ [3, 5, 7, 9, 10, 15, 17, 19, 21, 23, 25, 27, 28, 29, 30, 32, 34, 36, 40, 42, 44, 45] [(11, 2, 3), (12, 2, 3)] [5, 38, 46, 48] []) σ0 y0 → zpc (fX11_run_15 n y0 y1 y2 y3) (fun r => (zQ [3, 5, 7, 9, 10, 15, 17, 19, 21, 23, 25, 27, 28, 29, 30, 32, 34, 36, 40, 42, 44, 45] [(11, 2, 3), (12, 2, 3)] [5, 38, 46, 48] []) σ0 (r.1)) := by
  intro n
  induction n with
  | zero => intro y0 y1 y2 y3 h; exact zpc_none
  | succ n ih => intro y0 y1 y2 y3 h; exact fe_fX11_run_15_body ih h
theorem fe_fX11_run {σ0 : zSt} {σ : zSt} {x1 : Int32} {x2 : Int32} (h : (zQ [3, 5, 7, 9, 10, 15, 17, 19, 21, 23, 25, 27, 28, 29, 30, 32, 34, 36, 40, 42, 44, 45] [(11, 2, 3), (12, 2, 3)] [5, 38, 46, 48] []) σ0 σ) : zpc (fX11_run σ x1 x2) (fun r => (zQ [3, 5, 7, 9, 10, 15, 17, 19, 21, 23, 25, 27, 28, 29, 30, 32, 34, 36, 40, 42, 44, 45] [(11, 2, 3), (12, 2, 3)] [5, 38, 46, 48] []) σ0 (r.1)) := by
  unfold fX11_run
  exact zpc_bll (fe_fX0_count h) (fun σ19 v20 hσ19 => zpc_bv (fun v21 _ => fe_fX11_run_15 _ _ _ _ _ hσ19))
theorem fe_fX11_reset {σ0 : zSt} {σ : zSt} (h : (zQ [3, 5, 7, 9, 10, 15, 17, 19, 21, 23, 25, 27, 28, 29, 30, 32, 34, 36, 40, 42, 44, 45] [(11, 2, 3), (12, 2, 3)] [5, 38, 46, 48] []) σ0 σ) : zpc (fX11_reset σ) (fun r => (zQ [3, 5, 7, 9, 10, 15, 17, 19, 21, 23, 25, 27, 28, 29, 30, 32, 34, 36, 40, 42, 44, 45] [(11, 2, 3), (12, 2, 3)] [5, 38, 46, 48] []) σ0 (r)) := by
  unfold fX11_reset
  exact zpc_bu (fe_fX11_clearAll h) (fun σ1 hσ1 => zpc_some hσ1)
theorem fe_fX11_pause_26 {σ0 : zSt} {σ : zSt} {s0 : Int32} (h : (zQ [3, 5, 7, 9, 10, 15, 17, 19, 21, 23, 25, 27, 28, 29, 30, 32, 34, 36, 40, 42, 44, 45] [(11, 2, 3), (12, 2, 3)] [5, 38, 46, 48] []) σ0 σ) : zpc (fX11_pause_26 σ s0) (fun r => (zQ [3, 5, 7, 9, 10, 15, 17, 19, 21, 23, 25, 27, 28, 29, 30, 32, 34, 36, 40, 42, 44, 45] [(11, 2, 3), (12, 2, 3)] [5, 38, 46, 48] []) σ0 (r.1)) := by
  unfold fX11_pause_26
  exact zpc_ck (zpc_some h)
theorem fe_fX11_pause_14 {σ0 : zSt} {σ : zSt} (h : (zQ [3, 5, 7, 9, 10, 15, 17, 19, 21, 23, 25, 27, 28, 29, 30, 32, 34, 36, 40, 42, 44, 45] [(11, 2, 3), (12, 2, 3)] [5, 38, 46, 48] []) σ0 σ) : zpc (fX11_pause_14 σ) (fun r => (zQ [3, 5, 7, 9, 10, 15, 17, 19, 21, 23, 25, 27, 28, 29, 30, 32, 34, 36, 40, 42, 44, 45] [(11, 2, 3), (12, 2, 3)] [5, 38, 46, 48] []) σ0 (r.1)) := by
  unfold fX11_pause_14
  exact zpc_if (fun _ => fe_fX11_pause_26 h) (fun _ => fe_fX11_pause_26 h)
theorem fe_fX11_pause {σ0 : zSt} {σ : zSt} (h : (zQ [3, 5, 7, 9, 10, 15, 17, 19, 21, 23, 25, 27, 28, 29, 30, 32, 34, 36, 40, 42, 44, 45] [(11, 2, 3), (12, 2, 3)] [5, 38, 46, 48] []) σ0 σ) : zpc (fX11_pause σ) (fun r => (zQ [3, 5, 7, 9, 10, 15, 17, 19, 21, 23, 25, 27, 28, 29, 30, 32, 34, 36, 40, 42, 44, 45] [(11, 2, 3), (12, 2, 3)] [5, 38, 46, 48] []) σ0 (r.1)) := by
  unfold fX11_pause
  exact zpc_if (fun _ => zpc_bu (fe_fX5_askForPause h) (fun σ1 hσ1 => fe_fX11_pause_14 hσ1)) (fun _ => fe_fX11_pause_14 h)
theorem fe_fX11_start {σ0 : zSt} {σ : zSt} {x1 : Int32} (h : (zQ [3, 5, 7, 9, 10, 15, 17, 19, 21, 23, 25, 27, 28, 29, 30, 32, 34, 36, 40, 42, 44, 45] [(11, 2, 3), (12, 2, 3)] [5, 38, 46, 48] []) σ0 σ) : zpc (fX11_start σ x1) (fun r => (zQ [3, 5, 7, 9, 10, 15, 17, 19, 21, 23, 25, 27, 28, 29, 30, 32, 34, 36, 40, 42, 44, 45] [(11, 2, 3), (12, 2, 3)] [5, 38, 46, 48] []) σ0 (r)) := by
  unfold fX11_start
  exact zpc_bu (fe_fX4_holdStart h) (fun σ1 hσ1 => zpc_some hσ1)
theorem fe_fX11_poke {σ0 : zSt} {σ : zSt} {x1 : Int32} {x2 : Int32} (h : (zQ [3, 5, 7, 9, 10, 15, 17, 19, 21, 23, 25, 27, 28, 29, 30, 32, 34, 36, 40, 42, 44, 45] [(11, 2, 3), (12, 2, 3)] [5, 38, 46, 48] []) σ0 σ) : zpc (fX11_poke σ x1 x2) (fun r => (zQ [3, 5, 7, 9, 10, 15, 17, 19, 21, 23, 25, 27, 28, 29, 30, 32, 34, 36, 40, 42, 44, 45] [(11, 2, 3), (12, 2, 3)] [5, 38, 46, 48] []) σ0 (r)) := by
  unfold fX11_poke
  exact zpc_bu (fe_fX2_write h) (fun σ1 hσ1 => zpc_some hσ1)
theorem fe_fX11_in {σ0 : zSt} {σ : zSt} {x1 : Int32} (h : (zQ [3, 5, 7, 9, 10, 15, 17, 19, 21, 23, 25, 27, 28, 29, 30, 32, 34, 36, 40, 42, 44, 45] [(11, 2, 3), (12, 2, 3)] [5, 38, 46, 48] []) σ0 σ) : zpc (fX11_in σ x1) (fun r => (zQ [3, 5, 7, 9, 10, 15, 17, 19, 21, 23, 25, 27, 28, 29, 30, 32, 34, 36, 40, 42, 44, 45] [(11, 2, 3), (12, 2, 3)] [5, 38, 46, 48] []) σ0 (r.1)) := by
  unfold fX11_in
  exact zpc_bi (fe_fX4_read h) (fun σ1 v2 hσ1 => zpc_some hσ1)
theorem fe_fX11_out {σ0 : zSt} {σ : zSt} {x1 : Int32} {x2 : Int32} (h : (zQ [3, 5, 7, 9, 10, 15, 17, 19, 21, 23, 25, 27, 28, 29, 30, 32, 34, 36, 40, 42, 44, 45] [(11, 2, 3), (12, 2, 3)] [5, 38, 46, 48] []) σ0 σ) : zpc (fX11_out σ x1 x2) (fun r => (zQ [3, 5, 7, 9, 10, 15, 17, 19, 21, 23, 25, 27, 28, 29, 30, 32, 34, 36, 40, 42, 44, 45] [(11, 2, 3), (12, 2, 3)] [5, 38, 46, 48] []) σ0 (r)) := by
  unfold fX11_out
  exact zpc_bu (fe_fX4_write h) (fun σ1 hσ1 => zpc_some hσ1)
theorem fe_fX11_wipe {σ0 : zSt} {σ : zSt} (h : (zQ [3, 5, 7, 9, 10, 15, 17, 19, 21, 23, 25, 27, 28, 29, 30, 32, 34, 36, 40, 42, 44, 45] [(11, 2, 3), (12, 2, 3)] [5, 38, 46, 48] []) σ0 σ) : zpc (fX11_wipe σ) (fun r => (zQ [3, 5, 7, 9, 10, 15, 17, 19, 21, 23, 25, 27, 28, 29, 30, 32, 34, 36, 40, 42, 44, 45] [(11, 2, 3), (12, 2, 3)] [5, 38, 46, 48] []) σ0 (r)) := by
  unfold fX11_wipe
  exact zpc_bu (fe_fX2_clearBattery h) (fun σ1 hσ1 => zpc_some hσ1)
theorem fe_fX11_step_12 {σ0 : zSt} {σ : zSt} (h : (zQ [3, 5, 7, 9, 10, 15, 17, 19, 21, 23, 25, 27, 28, 29, 30, 32, 34, 36, 40, 42, 44, 45] [(11, 2, 3), (12, 2, 3)] [5, 38, 46, 48] []) σ0 σ) : zpc (fX11_step_12 σ) (fun r => (zQ [3, 5, 7, 9, 10, 15, 17, 19, 21, 23, 25, 27, 28, 29, 30, 32, 34, 36, 40, 42, 44, 45] [(11, 2, 3), (12, 2, 3)] [5, 38, 46, 48] []) σ0 (zRis r)) := by
  unfold fX11_step_12
  exact zpc_some h
theorem fe_fX11_step {σ0 : zSt} {σ : zSt} {x1 : Int32} (h : (zQ [3, 5, 7, 9, 10, 15, 17, 19, 21, 23, 25, 27, 28, 29, 30, 32, 34, 36, 40, 42, 44, 45] [(11, 2, 3), (12, 2, 3)] [5, 38, 46, 48] []) σ0 σ) : zpc (fX11_step σ x1) (fun r => (zQ [3, 5, 7, 9, 10, 15, 17, 19, 21, 23, 25, 27, 28, 29, 30, 32, 34, 36, 40, 42, 44, 45] [(11, 2, 3), (12, 2, 3)] [5, 38, 46, 48] []) σ0 (zRis r)) := by
  unfold fX11_step
  exact zpc_if (fun _ => fe_fX11_step_12 h) (fun _ => zpc_if (fun _ => zpc_bi (fe_fX11_run h) (fun σ1 v2 hσ1 => zpc_some hσ1)) (fun _ => fe_fX11_step_12 h))
theorem fe_fX11_picture_10 {σ0 : zSt} {σ : zSt} (h : (zQ [3, 5, 7, 9, 10, 15, 17, 19, 21, 23, 25, 27, 28, 29, 30, 32, 34, 36, 40, 42, 44, 45] [(11, 2, 3), (12, 2, 3)] [5, 38, 46, 48] []) σ0 σ) : zpc (fX11_picture_10 σ) (fun r => (zQ [3, 5, 7, 9, 10, 15, 17, 19, 21, 23, 25, 27, 28, 29, 30, 32, 34, 36, 40, 42, 44, 45] [(11, 2, 3), (12, 2, 3)] [5, 38, 46, 48] []) σ0 (zRis r)) := by
  unfold fX11_picture_10
  exact zpc_some h
theorem fe_fX11_picture {σ0 : zSt} {σ : zSt} {x1 : Int32} (h : (zQ [3, 5, 7, 9, 10, 15, 17, 19, 21, 23, 25, 27, 28, 29, 30, 32, 34, 36, 40, 42, 44, 45] [(11, 2, 3), (12, 2, 3)] [5, 38, 46, 48] []) σ0 σ) : zpc (fX11_picture σ x1) (fun r => (zQ [3, 5, 7, 9, 10, 15, 17, 19, 21, 23, 25, 27, 28, 29, 30, 32, 34, 36, 40, 42, 44, 45] [(11, 2, 3), (12, 2, 3)] [5, 38, 46, 48] []) σ0 (zRis r)) := by
  unfold fX11_picture
  exact zpc_if (fun _ => fe_fX11_picture_10 h) (fun _ => zpc_if (fun _ => zpc_bi (fe_fX11_run h) (fun σ1 v2 hσ1 => zpc_some hσ1)) (fun _ => fe_fX11_picture_10 h))
theorem fe_fX11_press {σ0 : zSt} {σ : zSt} {x1 : Int32} {x2 : Int32} (h : (zQ [3, 5, 7, 9, 10, 15, 17, 19, 21, 23, 25, 27, 28, 29, 30, 32, 34, 36, 40, 42, 44, 45] [(11, 2, 3), (12, 2, 3)] [5, 38, 46, 48] []) σ0 σ) : zpc (fX11_press σ x1 x2) (fun r => (zQ [3, 5, 7, 9, 10, 15, 17, 19, 21, 23, 25, 27, 28, 29, 30, 32, 34, 36, 40, 42, 44, 45] [(11, 2, 3), (12, 2, 3)] [5, 38, 46, 48] []) σ0 (zRus r)) := by
  unfold fX11_press
  exact zpc_bi (fe_fX4_canPress h) (fun σ1 v2 hσ1 => zpc_if (fun _ => zpc_some hσ1) (fun _ => zpc_bu (fe_fX4_holdButtons hσ1) (fun σ3 hσ3 => zpc_some hσ3)))
theorem fe_fX11_line_9 {σ0 : zSt} {σ : zSt} (h : (zQ [3, 5, 7, 9, 10, 15, 17, 19, 21, 23, 25, 27, 28, 29, 30, 32, 34, 36, 40, 42, 44, 45] [(11, 2, 3), (12, 2, 3)] [5, 38, 46, 48] []) σ0 σ) : zpc (fX11_line_9 σ) (fun r => (zQ [3, 5, 7, 9, 10, 15, 17, 19, 21, 23, 25, 27, 28, 29, 30, 32, 34, 36, 40, 42, 44, 45] [(11, 2, 3), (12, 2, 3)] [5, 38, 46, 48] []) σ0 (zRus r)) := by
  unfold fX11_line_9
  exact zpc_some h
theorem fe_fX11_line {σ0 : zSt} {σ : zSt} {x1 : Int32} {x2 : Int32} (h : (zQ [3, 5, 7, 9, 10, 15, 17, 19, 21, 23, 25, 27, 28, 29, 30, 32, 34, 36, 40, 42, 44, 45] [(11, 2, 3), (12, 2, 3)] [5, 38, 46, 48] []) σ0 σ) : zpc (fX11_line σ x1 x2) (fun r => (zQ [3, 5, 7, 9, 10, 15, 17, 19, 21, 23, 25, 27, 28, 29, 30, 32, 34, 36, 40, 42, 44, 45] [(11, 2, 3), (12, 2, 3)] [5, 38, 46, 48] []) σ0 (zRus r)) := by
  unfold fX11_line
  exact zpc_if (fun _ => fe_fX11_line_9 h) (fun _ => zpc_if (fun _ => zpc_bu (fe_fX4_moveLine h) (fun σ1 hσ1 => zpc_some hσ1)) (fun _ => fe_fX11_line_9 h))
theorem fe_fX11_plan_19 {σ0 : zSt} {σ : zSt} (h : (zQ [3, 5, 7, 9, 10, 15, 17, 19, 21, 23, 25, 27, 28, 29, 30, 32, 34, 36, 40, 42, 44, 45] [(11, 2, 3), (12, 2, 3)] [5, 38, 46, 48] []) σ0 σ) : zpc (fX11_plan_19 σ) (fun r => (zQ [3, 5, 7, 9, 10, 15, 17, 19, 21, 23, 25, 27, 28, 29, 30, 32, 34, 36, 40, 42, 44, 45] [(11, 2, 3), (12, 2, 3)] [5, 38, 46, 48] []) σ0 (zRis r)) := by
  unfold fX11_plan_19
  exact zpc_some h
theorem fe_fX11_plan {σ0 : zSt} {σ : zSt} {x1 : Int32} {x2 : Int32} {x3 : Int32} (h : (zQ [3, 5, 7, 9, 10, 15, 17, 19, 21, 23, 25, 27, 28, 29, 30, 32, 34, 36, 40, 42, 44, 45] [(11, 2, 3), (12, 2, 3)] [5, 38, 46, 48] []) σ0 σ) : zpc (fX11_plan σ x1 x2 x3) (fun r => (zQ [3, 5, 7, 9, 10, 15, 17, 19, 21, 23, 25, 27, 28, 29, 30, 32, 34, 36, 40, 42, 44, 45] [(11, 2, 3), (12, 2, 3)] [5, 38, 46, 48] []) σ0 (zRis r)) := by
  unfold fX11_plan
  exact zpc_bi (fe_fX1_leastPlan h) (fun σ1 v2 hσ1 => zpc_if (fun _ => fe_fX11_plan_19 hσ1) (fun _ => zpc_bi (fe_fX4_canPress hσ1) (fun σ3 v4 hσ3 => zpc_if (fun _ => fe_fX11_plan_19 hσ3) (fun _ => zpc_bi (fe_fX1_plansWaiting hσ3) (fun σ5 v6 hσ5 => zpc_if (fun _ => zpc_bi (fe_fX1_addPlan hσ5) (fun σ7 v8 hσ7 => zpc_some hσ7)) (fun _ => zpc_some hσ5))))))
theorem fe_fX11_stop_10 {σ0 : zSt} {σ : zSt} (h : (zQ [3, 5, 7, 9, 10, 15, 17, 19, 21, 23, 25, 27, 28, 29, 30, 32, 34, 36, 40, 42, 44, 45] [(11, 2, 3), (12, 2, 3)] [5, 38, 46, 48] []) σ0 σ) : zpc (fX11_stop_10 σ) (fun r => (zQ [3, 5, 7, 9, 10, 15, 17, 19, 21, 23, 25, 27, 28, 29, 30, 32, 34, 36, 40, 42, 44, 45] [(11, 2, 3), (12, 2, 3)] [5, 38, 46, 48] []) σ0 (zRis r)) := by
  unfold fX11_stop_10
  exact zpc_some h
theorem fe_fX11_stop {σ0 : zSt} {σ : zSt} {x1 : Int32} {x2 : Int32} (h : (zQ [3, 5, 7, 9, 10, 15, 17, 19, 21, 23, 25, 27, 28, 29, 30, 32, 34, 36, 40, 42, 44, 45] [(11, 2, 3), (12, 2, 3)] [5, 38, 46, 48] []) σ0 σ) : zpc (fX11_stop σ x1 x2) (fun r => (zQ [3, 5, 7, 9, 10, 15, 17, 19, 21, 23, 25, 27, 28, 29, 30, 32, 34, 36, 40, 42, 44, 45] [(11, 2, 3), (12, 2, 3)] [5, 38, 46, 48] []) σ0 (zRis r)) := by
  unfold fX11_stop
  exact zpc_if (fun _ => fe_fX11_stop_10 h) (fun _ => zpc_if (fun _ => zpc_bi (fe_fX1_stopsBeside h) (fun σ1 v2 hσ1 => zpc_if (fun _ => zpc_bi (fe_fX1_changeStop hσ1) (fun σ3 v4 hσ3 => zpc_some hσ3)) (fun _ => zpc_some hσ1))) (fun _ => fe_fX11_stop_10 h))
theorem fe_fX11_set_10 {σ0 : zSt} {σ : zSt} (h : (zQ [3, 5, 7, 9, 10, 15, 17, 19, 21, 23, 25, 27, 28, 29, 30, 32, 34, 36, 40, 42, 44, 45] [(11, 2, 3), (12, 2, 3)] [5, 38, 46, 48] []) σ0 σ) : zpc (fX11_set_10 σ) (fun r => (zQ [3, 5, 7, 9, 10, 15, 17, 19, 21, 23, 25, 27, 28, 29, 30, 32, 34, 36, 40, 42, 44, 45] [(11, 2, 3), (12, 2, 3)] [5, 38, 46, 48] []) σ0 (zRus r)) := by
  unfold fX11_set_10
  exact zpc_some h
theorem fe_fX11_set {σ0 : zSt} {σ : zSt} {x1 : Int32} {x2 : Int32} (h : (zQ [3, 5, 7, 9, 10, 15, 17, 19, 21, 23, 25, 27, 28, 29, 30, 32, 34, 36, 40, 42, 44, 45] [(11, 2, 3), (12, 2, 3)] [5, 38, 46, 48] []) σ0 σ) : zpc (fX11_set σ x1 x2) (fun r => (zQ [3, 5, 7, 9, 10, 15, 17, 19, 21, 23, 25, 27, 28, 29, 30, 32, 34, 36, 40, 42, 44, 45] [(11, 2, 3), (12, 2, 3)] [5, 38, 46, 48] []) σ0 (zRus r)) := by
  unfold fX11_set
  exact zpc_if (fun _ => fe_fX11_set_10 h) (fun _ => zpc_if (fun _ => zpc_bu (fe_fX5_change h) (fun σ1 hσ1 => zpc_some hσ1)) (fun _ => fe_fX11_set_10 h))
theorem fe_fX11_hear {σ0 : zSt} {σ : zSt} (h : (zQ [3, 5, 7, 9, 10, 15, 17, 19, 21, 23, 25, 27, 28, 29, 30, 32, 34, 36, 40, 42, 44, 45] [(11, 2, 3), (12, 2, 3)] [5, 38, 46, 48] []) σ0 σ) : zpc (fX11_hear σ) (fun r => (zQ [3, 5, 7, 9, 10, 15, 17, 19, 21, 23, 25, 27, 28, 29, 30, 32, 34, 36, 40, 42, 44, 45] [(11, 2, 3), (12, 2, 3)] [5, 38, 46, 48] []) σ0 (zRls r)) := by
  unfold fX11_hear
  exact zpc_bi (fe_fX6_size_k11 h) (fun σ1 v2 hσ1 => zpc_if (fun _ => zpc_some hσ1) (fun _ => zpc_bll (fe_fX6_takeFirst_k11 hσ1) (fun σ3 v4 hσ3 => zpc_some hσ3)))
theorem fe_fX11_mix {σ0 : zSt} {σ : zSt} (h : (zQ [3, 5, 7, 9, 10, 15, 17, 19, 21, 23, 25, 27, 28, 29, 30, 32, 34, 36, 40, 42, 44, 45] [(11, 2, 3), (12, 2, 3)] [5, 38, 46, 48] []) σ0 σ) : zpc (fX11_mix σ) (fun r => (zQ [3, 5, 7, 9, 10, 15, 17, 19, 21, 23, 25, 27, 28, 29, 30, 32, 34, 36, 40, 42, 44, 45] [(11, 2, 3), (12, 2, 3)] [5, 38, 46, 48] []) σ0 (zRls r)) := by
  unfold fX11_mix
  exact zpc_bi (fe_fX6_size_k12 h) (fun σ1 v2 hσ1 => zpc_if (fun _ => zpc_some hσ1) (fun _ => zpc_bll (fe_fX6_takeFirst_k12 hσ1) (fun σ3 v4 hσ3 => zpc_some hσ3)))
theorem fg_fX0_count_20 {σ0 : zSt} {σ : zSt} {s0 : Int64} (h : (zQ [10, 45] [] [] []) σ0 σ) : zpc (fX0_count_20 σ s0) (fun r => (zQ [10, 45] [] [] []) σ0 (r.1)) := by
  unfold fX0_count_20
  exact zpc_some h
theorem fg_fX0_count_19 {σ0 : zSt} {σ : zSt} (h : (zQ [10, 45] [] [] []) σ0 σ) : zpc (fX0_count_19 σ) (fun r => (zQ [10, 45] [] [] []) σ0 (r.1)) := by
  unfold fX0_count_19
  exact fg_fX0_count_20 h
theorem fg_fX0_count {σ0 : zSt} {σ : zSt} {x1 : Int32} (h : (zQ [10, 45] [] [] []) σ0 σ) : zpc (fX0_count σ x1) (fun r => (zQ [10, 45] [] [] []) σ0 (r.1)) := by
  unfold fX0_count
  exact zpc_if (fun _ => fg_fX0_count_19 h) (fun _ => zpc_if (fun _ => fg_fX0_count_19 h) (fun _ => zpc_ck (fg_fX0_count_20 h)))
theorem fg_fX1_stepBack_30 {σ0 : zSt} {σ : zSt} {s0 : Int32} (h : (zQ [10, 45] [] [] []) σ0 σ) : zpc (fX1_stepBack_30 σ s0) (fun r => (zQ [10, 45] [] [] []) σ0 (r.1)) := by
  unfold fX1_stepBack_30
  exact zpc_some h
theorem fg_fX1_stepBack_10 {σ0 : zSt} {σ : zSt} (h : (zQ [10, 45] [] [] []) σ0 σ) : zpc (fX1_stepBack_10 σ) (fun r => (zQ [10, 45] [] [] []) σ0 (r.1)) := by
  unfold fX1_stepBack_10
  exact fg_fX1_stepBack_30 h
theorem fg_fX1_stepBack {σ0 : zSt} {σ : zSt} {x1 : Int32} (h : (zQ [10, 45] [] [] []) σ0 σ) : zpc (fX1_stepBack σ x1) (fun r => (zQ [10, 45] [] [] []) σ0 (r.1)) := by
  unfold fX1_stepBack
  exact zpc_if (fun _ => fg_fX1_stepBack_10 h) (fun _ => zpc_if (fun _ => zpc_ck (fg_fX1_stepBack_30 h)) (fun _ => fg_fX1_stepBack_10 h))
theorem fg_fX1_stopCount {σ0 : zSt} {σ : zSt} (h : (zQ [10, 45] [] [] []) σ0 σ) : zpc (fX1_stopCount σ) (fun r => (zQ [10, 45] [] [] []) σ0 (r.1)) := by
  unfold fX1_stopCount
  exact zpc_ck (zpc_some h)
theorem fg_fX1_plansWaiting {σ0 : zSt} {σ : zSt} (h : (zQ [10, 45] [] [] []) σ0 σ) : zpc (fX1_plansWaiting σ) (fun r => (zQ [10, 45] [] [] []) σ0 (r.1)) := by
  unfold fX1_plansWaiting
  exact zpc_ck (zpc_some h)
theorem fg_fX2_romByte_29 {σ0 : zSt} {σ : zSt} {s0 : Int32} (h : (zQ [10, 45] [] [] []) σ0 σ) : zpc (fX2_romByte_29 σ s0) (fun r => (zQ [10, 45] [] [] []) σ0 (r.1)) := by
  unfold fX2_romByte_29
  exact zpc_some h
theorem fg_fX2_romByte_26 {σ0 : zSt} {σ : zSt} (h : (zQ [10, 45] [] [] []) σ0 σ) : zpc (fX2_romByte_26 σ) (fun r => (zQ [10, 45] [] [] []) σ0 (r.1)) := by
  unfold fX2_romByte_26
  exact fg_fX2_romByte_29 h
theorem fg_fX2_romByte {σ0 : zSt} {σ : zSt} {x1 : Int32} (h : (zQ [10, 45] [] [] []) σ0 σ) : zpc (fX2_romByte σ x1) (fun r => (zQ [10, 45] [] [] []) σ0 (r.1)) := by
  unfold fX2_romByte
  exact zpc_if (fun _ => fg_fX2_romByte_26 h) (fun _ => zpc_if (fun _ => fg_fX2_romByte_26 h) (fun _ => zpc_ck (fg_fX2_romByte_29 h)))
theorem fg_fX2_romWord {σ0 : zSt} {σ : zSt} {x1 : Int32} (h : (zQ [10, 45] [] [] []) σ0 σ) : zpc (fX2_romWord σ x1) (fun r => (zQ [10, 45] [] [] []) σ0 (r.1)) := by
  unfold fX2_romWord
  exact zpc_bi (fg_fX2_romByte h) (fun σ1 v2 hσ1 => zpc_bi (fg_fX2_romByte hσ1) (fun σ3 v4 hσ3 => zpc_some hσ3))
theorem fg_fX2_sumOfCard_77 {σ0 : zSt} {σ : zSt} {x2 : Int32} (h : (zQ [10, 45] [] [] []) σ0 σ) : zpc (fX2_sumOfCard_77 σ x2) (fun r => (zQ [10, 45] [] [] []) σ0 (r.1)) := by
  unfold fX2_sumOfCard_77
  exact zpc_some h
theorem fg_fX2_sumOfCard_55_body {σ0 : zSt} {k55 : zSt → Int32 → Int32 → Option (zSt × Int32)} (hk55 : ∀ (y0 : zSt) (y1 : Int32) (y2 : Int32), (zQ [10, 45] [] [] []) σ0 y0 → zpc (k55 y0 y1 y2) (fun r => (zQ [10, 45] [] [] []) σ0 (r.1))) {σ : zSt} {x2 : Int32} {x3 : Int32} (h : (zQ [10, 45] [] [] []) σ0 σ) : zpc (fX2_sumOfCard_55_body k55 σ x2 x3) (fun r => (zQ [10, 45] [] [] []) σ0 (r.1)) := by
  unfold fX2_sumOfCard_55_body
  exact zpc_if (fun _ => fg_fX2_sumOfCard_77 h) (fun _ => zpc_bi (fg_fX2_romByte h) (fun σ1 v2 hσ1 => zpc_bv (fun v3 _ => zpc_bv (fun v4 _ => hk55 _ _ _ hσ1))))
theorem fg_fX2_sumOfCard_55 {σ0 : zSt} : ∀ (n : Nat) (y0 : zSt) (y1 : Int32) (y2 : Int32), (zQ [10, 45] [] [] []) σ0 y0 → zpc (fX2_sumOfCard_55 n y0 y1 y2) (fun r => (zQ [10, 45] [] [] []) σ0 (r.1)) := by
  intro n
  induction n with
  | zero => intro y0 y1 y2 h; exact zpc_none
  | succ n ih => intro y0 y1 y2 h; exact fg_fX2_sumOfCard_55_body ih h
theorem fg_fX2_sumOfCard_52 {σ0 : zSt} {σ : zSt} {x2 : Int32} (h : (zQ [10, 45] [] [] []) σ0 σ) : zpc (fX2_sumOfCard_52 σ x2) (fun r => (zQ [10, 45] [] [] []) σ0 (r.1)) := by
  unfold fX2_sumOfCard_52
  exact fg_fX2_sumOfCard_55 _ _ _ _ h
theorem fg_fX2_sumOfCard_19_body {σ0 : zSt} {k19 : zSt → Int32 → Int32 → Int32 → Option (zSt × Int32)} (hk19 : ∀ (y0 : zSt) (y1 : Int32) (y2 : Int32) (y3 : Int32), (zQ [10, 45] [] [] []) σ0 y0 → zpc (k19 y0 y1 y2 y3) (fun r => (zQ [10, 45] [] [] []) σ0 (r.1))) {σ : zSt} {x1 : Int32} {x2 : Int32} {x3 : Int32} (h : (zQ [10, 45] [] [] []) σ0 σ) : zpc (fX2_sumOfCard_19_body k19 σ x1 x2 x3) (fun r => (zQ [10, 45] [] [] []) σ0 (r.1)) := by
  unfold fX2_sumOfCard_19_body
  exact zpc_if (fun _ => zpc_if (fun _ => fg_fX2_sumOfCard_52 h) (fun _ => zpc_if (fun _ => fg_fX2_sumOfCard_77 h) (fun _ => fg_fX2_sumOfCard_52 h))) (fun _ => zpc_bi (fg_fX2_romByte h) (fun σ5 v6 hσ5 => zpc_bv (fun v7 _ => zpc_bv (fun v8 _ => hk19 _ _ _ _ hσ5))))
theorem fg_fX2_sumOfCard_19 {σ0 : zSt} : ∀ (n : Nat) (y0 : zSt) (y1 : Int32) (y2 : Int32) (y3 : Int32), (zQ [10, 45] [] [] []) σ0 y0 → zpc (fX2_sumOfCard_19 n y0 y1 y2 y3) (fun r => (zQ [10, 45] [] [] []) σ0 (r.1)) := by
  intro n
  induction n with
  | zero => intro y0 y1 y2 y3 h; exact zpc_none
  | succ n ih => intro y0 y1 y2 y3 h; exact fg_fX2_sumOfCard_19_body ih h
theorem fg_fX2_sumOfCard {σ0 : zSt} {σ : zSt} (h : (zQ [10, 45] [] [] []) σ0 σ) : zpc (fX2_sumOfCard σ) (fun r => (zQ [10, 45] [] [] []) σ0 (r.1)) := by
  unfold fX2_sumOfCard
  exact zpc_bi (fg_fX2_romByte h) (fun σ9 v10 hσ9 => zpc_bv (fun v11 _ => fg_fX2_sumOfCard_19 _ _ _ _ _ hσ9))
theorem fg_fX2_decimal {σ0 : zSt} {σ : zSt} {x1 : Int32} (h : (zQ [10, 45] [] [] []) σ0 σ) : zpc (fX2_decimal σ x1) (fun r => (zQ [10, 45] [] [] []) σ0 (r.1)) := by
  unfold fX2_decimal
  exact zpc_bi (fg_fX2_romByte h) (fun σ1 v2 hσ1 => zpc_some hσ1)
theorem fg_fX2_aboutCard_14 {σ0 : zSt} {σ : zSt} {x1 : Int32} (h : (zQ [10, 45] [] [] []) σ0 σ) : zpc (fX2_aboutCard_14 σ x1) (fun r => (zQ [10, 45] [] [] []) σ0 (r.1)) := by
  unfold fX2_aboutCard_14
  exact zpc_if (fun _ => zpc_some h) (fun _ => zpc_if (fun _ => zpc_some h) (fun _ => zpc_if (fun _ => zpc_some h) (fun _ => zpc_if (fun _ => zpc_bi (fg_fX2_decimal h) (fun σ1 v2 hσ1 => zpc_bi (fg_fX2_decimal hσ1) (fun σ3 v4 hσ3 => zpc_bi (fg_fX2_romByte hσ3) (fun σ5 v6 hσ5 => zpc_some hσ5)))) (fun _ => zpc_if (fun _ => zpc_bi (fg_fX2_romByte h) (fun σ7 v8 hσ7 => zpc_some hσ7)) (fun _ => zpc_if (fun _ => zpc_bi (fg_fX2_romByte h) (fun σ9 v10 hσ9 => zpc_some hσ9)) (fun _ => zpc_if (fun _ => zpc_bi (fg_fX2_romWord h) (fun σ11 v12 hσ11 => zpc_some hσ11)) (fun _ => zpc_bi (fg_fX2_sumOfCard h) (fun σ13 v14 hσ13 => zpc_some hσ13))))))))
theorem fg_fX2_aboutCard {σ0 : zSt} {σ : zSt} {x1 : Int32} (h : (zQ [10, 45] [] [] []) σ0 σ) : zpc (fX2_aboutCard σ x1) (fun r => (zQ [10, 45] [] [] []) σ0 (r.1)) := by
  unfold fX2_aboutCard
  exact zpc_if (fun _ => fg_fX2_aboutCard_14 h) (fun _ => zpc_if (fun _ => fg_fX2_aboutCard_14 h) (fun _ => zpc_some h))
theorem fg_fX2_cardSize {σ0 : zSt} {σ : zSt} (h : (zQ [10, 45] [] [] []) σ0 σ) : zpc (fX2_cardSize σ) (fun r => (zQ [10, 45] [] [] []) σ0 (r.1)) := by
  unfold fX2_cardSize
  exact zpc_some h
theorem fg_fX2_page {σ0 : zSt} {σ : zSt} {x1 : Int32} (h : (zQ [10, 45] [] [] []) σ0 σ) : zpc (fX2_page σ x1) (fun r => (zQ [10, 45] [] [] []) σ0 (r.1)) := by
  unfold fX2_page
  exact zpc_ck (zpc_some h)
theorem fg_fX2_batteryIsIn_25 {σ0 : zSt} {σ : zSt} {s0 : Int32} (h : (zQ [10, 45] [] [] []) σ0 σ) : zpc (fX2_batteryIsIn_25 σ s0) (fun r => (zQ [10, 45] [] [] []) σ0 (r.1)) := by
  unfold fX2_batteryIsIn_25
  exact zpc_ck (zpc_some h)
theorem fg_fX2_batteryIsIn_24 {σ0 : zSt} {σ : zSt} (h : (zQ [10, 45] [] [] []) σ0 σ) : zpc (fX2_batteryIsIn_24 σ) (fun r => (zQ [10, 45] [] [] []) σ0 (r.1)) := by
  unfold fX2_batteryIsIn_24
  exact fg_fX2_batteryIsIn_25 h
theorem fg_fX2_batteryIsIn {σ0 : zSt} {σ : zSt} (h : (zQ [10, 45] [] [] []) σ0 σ) : zpc (fX2_batteryIsIn σ) (fun r => (zQ [10, 45] [] [] []) σ0 (r.1)) := by
  unfold fX2_batteryIsIn
  exact zpc_if (fun _ => zpc_ck (zpc_if (fun _ => fg_fX2_batteryIsIn_24 h) (fun _ => fg_fX2_batteryIsIn_25 h))) (fun _ => fg_fX2_batteryIsIn_24 h)
theorem fg_fX2_batteryPlace {σ0 : zSt} {σ : zSt} {x1 : Int32} (h : (zQ [10, 45] [] [] []) σ0 σ) : zpc (fX2_batteryPlace σ x1) (fun r => (zQ [10, 45] [] [] []) σ0 (r.1)) := by
  unfold fX2_batteryPlace
  exact zpc_ck (zpc_some h)
theorem fg_fX2_read_169 {σ0 : zSt} {σ : zSt} {s0 : Int32} (h : (zQ [10, 45] [] [] []) σ0 σ) : zpc (fX2_read_169 σ s0) (fun r => (zQ [10, 45] [] [] []) σ0 (r.1)) := by
  unfold fX2_read_169
  exact zpc_some h
theorem fg_fX2_read_144 {σ0 : zSt} {σ : zSt} {x3 : Int32} (h : (zQ [10, 45] [] [] []) σ0 σ) : zpc (fX2_read_144 σ x3) (fun r => (zQ [10, 45] [] [] []) σ0 (r.1)) := by
  unfold fX2_read_144
  exact zpc_if (fun _ => fg_fX2_read_169 h) (fun _ => zpc_ck (fg_fX2_read_169 h))
theorem fg_fX2_read_126 {σ0 : zSt} {σ : zSt} {x2 : Int32} {x6 : Int32} (h : (zQ [10, 45] [] [] []) σ0 σ) : zpc (fX2_read_126 σ x2 x6) (fun r => (zQ [10, 45] [] [] []) σ0 (r.1)) := by
  unfold fX2_read_126
  exact zpc_ck (zpc_bv (fun v1 _ => fg_fX2_read_144 h))
theorem fg_fX2_read_106 {σ0 : zSt} {σ : zSt} {x2 : Int32} {s0 : Int32} (h : (zQ [10, 45] [] [] []) σ0 σ) : zpc (fX2_read_106 σ x2 s0) (fun r => (zQ [10, 45] [] [] []) σ0 (r.1)) := by
  unfold fX2_read_106
  exact zpc_if (fun _ => zpc_if (fun _ => fg_fX2_read_126 h) (fun _ => fg_fX2_read_126 h)) (fun _ => fg_fX2_read_126 h)
theorem fg_fX2_read_87 {σ0 : zSt} {σ : zSt} {x2 : Int32} {x4 : Int32} {s0 : Int32} (h : (zQ [10, 45] [] [] []) σ0 σ) : zpc (fX2_read_87 σ x2 x4 s0) (fun r => (zQ [10, 45] [] [] []) σ0 (r.1)) := by
  unfold fX2_read_87
  exact zpc_if (fun _ => zpc_ck (fg_fX2_read_106 h)) (fun _ => fg_fX2_read_106 h)
theorem fg_fX2_read_86 {σ0 : zSt} {σ : zSt} {x2 : Int32} {x4 : Int32} (h : (zQ [10, 45] [] [] []) σ0 σ) : zpc (fX2_read_86 σ x2 x4) (fun r => (zQ [10, 45] [] [] []) σ0 (r.1)) := by
  unfold fX2_read_86
  exact fg_fX2_read_87 h
theorem fg_fX2_read_62 {σ0 : zSt} {σ : zSt} {x2 : Int32} (h : (zQ [10, 45] [] [] []) σ0 σ) : zpc (fX2_read_62 σ x2) (fun r => (zQ [10, 45] [] [] []) σ0 (r.1)) := by
  unfold fX2_read_62
  exact zpc_bv (fun v2 _ => zpc_if (fun _ => zpc_if (fun _ => fg_fX2_read_86 h) (fun _ => fg_fX2_read_87 h)) (fun _ => fg_fX2_read_86 h))
theorem fg_fX2_read {σ0 : zSt} {σ : zSt} {x1 : Int32} (h : (zQ [10, 45] [] [] []) σ0 σ) : zpc (fX2_read σ x1) (fun r => (zQ [10, 45] [] [] []) σ0 (r.1)) := by
  unfold fX2_read
  exact zpc_bv (fun v3 _ => zpc_if (fun _ => zpc_if (fun _ => fg_fX2_read_144 h) (fun _ => zpc_if (fun _ => fg_fX2_read_144 h) (fun _ => zpc_if (fun _ => fg_fX2_read_62 h) (fun _ => zpc_bi (fg_fX2_batteryIsIn h) (fun σ4 v5 hσ4 => zpc_if (fun _ => fg_fX2_read_62 hσ4) (fun _ => zpc_bi (fg_fX2_batteryPlace hσ4) (fun σ6 v7 hσ6 => zpc_ck (zpc_some hσ6)))))))) (fun _ => zpc_ck (zpc_some h)))
theorem fg_fX2_batteryByte {σ0 : zSt} {σ : zSt} {x1 : Int32} (h : (zQ [10, 45] [] [] []) σ0 σ) : zpc (fX2_batteryByte σ x1) (fun r => (zQ [10, 45] [] [] []) σ0 (r.1)) := by
  unfold fX2_batteryByte
  exact zpc_ck (zpc_some h)
theorem fg_fX3_width_16 {σ0 : zSt} {σ : zSt} {s0 : Int32} (h : (zQ [10, 45] [] [] []) σ0 σ) : zpc (fX3_width_16 σ s0) (fun r => (zQ [10, 45] [] [] []) σ0 (r.1)) := by
  unfold fX3_width_16
  exact zpc_some h
theorem fg_fX3_width {σ0 : zSt} {σ : zSt} (h : (zQ [10, 45] [] [] []) σ0 σ) : zpc (fX3_width σ) (fun r => (zQ [10, 45] [] [] []) σ0 (r.1)) := by
  unfold fX3_width
  exact zpc_if (fun _ => fg_fX3_width_16 h) (fun _ => fg_fX3_width_16 h)
theorem fg_fX9_height {σ0 : zSt} {σ : zSt} (h : (zQ [10, 45] [] [] []) σ0 σ) : zpc (fX9_height σ) (fun r => (zQ [10, 45] [] [] []) σ0 (r.1)) := by
  unfold fX9_height
  exact zpc_ck (zpc_if (fun _ => zpc_ck (zpc_if (fun _ => zpc_some h) (fun _ => zpc_if (fun _ => zpc_some h) (fun _ => zpc_some h)))) (fun _ => zpc_some h))
theorem fg_fX3_height_20 {σ0 : zSt} {σ : zSt} {s0 : Int32} (h : (zQ [10, 45] [] [] []) σ0 σ) : zpc (fX3_height_20 σ s0) (fun r => (zQ [10, 45] [] [] []) σ0 (r.1)) := by
  unfold fX3_height_20
  exact zpc_some h
theorem fg_fX3_height {σ0 : zSt} {σ : zSt} (h : (zQ [10, 45] [] [] []) σ0 σ) : zpc (fX3_height σ) (fun r => (zQ [10, 45] [] [] []) σ0 (r.1)) := by
  unfold fX3_height
  exact zpc_if (fun _ => zpc_bi (fg_fX9_height h) (fun σ1 v2 hσ1 => fg_fX3_height_20 hσ1)) (fun _ => fg_fX3_height_20 h)
theorem fg_fX3_placeOf_26 {σ0 : zSt} {σ : zSt} {s0 : Int32} (h : (zQ [10, 45] [] [] []) σ0 σ) : zpc (fX3_placeOf_26 σ s0) (fun r => (zQ [10, 45] [] [] []) σ0 (r.1)) := by
  unfold fX3_placeOf_26
  exact zpc_some h
theorem fg_fX3_placeOf {σ0 : zSt} {σ : zSt} {x1 : Int32} (h : (zQ [10, 45] [] [] []) σ0 σ) : zpc (fX3_placeOf σ x1) (fun r => (zQ [10, 45] [] [] []) σ0 (r.1)) := by
  unfold fX3_placeOf
  exact zpc_if (fun _ => fg_fX3_placeOf_26 h) (fun _ => fg_fX3_placeOf_26 h)
theorem fg_fX3_dotAt_31 {σ0 : zSt} {σ : zSt} {s0 : Int32} (h : (zQ [10, 45] [] [] []) σ0 σ) : zpc (fX3_dotAt_31 σ s0) (fun r => (zQ [10, 45] [] [] []) σ0 (r.1)) := by
  unfold fX3_dotAt_31
  exact zpc_some h
theorem fg_fX3_dotAt_30 {σ0 : zSt} {σ : zSt} (h : (zQ [10, 45] [] [] []) σ0 σ) : zpc (fX3_dotAt_30 σ) (fun r => (zQ [10, 45] [] [] []) σ0 (r.1)) := by
  unfold fX3_dotAt_30
  exact fg_fX3_dotAt_31 h
theorem fg_fX3_dotAt {σ0 : zSt} {σ : zSt} {x1 : Int32} {x2 : Int32} (h : (zQ [10, 45] [] [] []) σ0 σ) : zpc (fX3_dotAt σ x1 x2) (fun r => (zQ [10, 45] [] [] []) σ0 (r.1)) := by
  unfold fX3_dotAt
  exact zpc_bi (fg_fX3_placeOf h) (fun σ1 v2 hσ1 => zpc_bv (fun v3 _ => zpc_if (fun _ => fg_fX3_dotAt_30 hσ1) (fun _ => zpc_if (fun _ => fg_fX3_dotAt_30 hσ1) (fun _ => zpc_ck (fg_fX3_dotAt_31 hσ1)))))
theorem fg_fX3_sumOfLine_31_body {σ0 : zSt} {k31 : zSt → Int32 → Int32 → Int32 → Option (zSt × Int32)} (hk31 : ∀ (y0 : zSt) (y1 : Int32) (y2 : Int32) (y3 : Int32), (zQ [10, 45] [] [] []) σ0 y0 → zpc (k31 y0 y1 y2 y3) (fun r => (zQ [10, 45] [] [] []) σ0 (r.1))) {σ : zSt} {x2 : Int32} {x4 : Int32} {x5 : Int32} (h : (zQ [10, 45] [] [] []) σ0 σ) : zpc (fX3_sumOfLine_31_body k31 σ x2 x4 x5) (fun r => (zQ [10, 45] [] [] []) σ0 (r.1)) := by
  unfold fX3_sumOfLine_31_body
  exact zpc_if (fun _ => zpc_some h) (fun _ => zpc_ck (zpc_bv (fun v1 _ => zpc_bv (fun v2 _ => hk31 _ _ _ _ h))))
theorem fg_fX3_sumOfLine_31 {σ0 : zSt} : ∀ (n : Nat) (y0 : zSt) (y1 : Int32) (y2 : Int32) (y3 : Int32), (zQ [10, 45] [] [] []) σ0 y0 → zpc (fX3_sumOfLine_31 n y0 y1 y2 y3) (fun r => (zQ [10, 45] [] [] []) σ0 (r.1)) := by
  intro n
  induction n with
  | zero => intro y0 y1 y2 y3 h; exact zpc_none
  | succ n ih => intro y0 y1 y2 y3 h; exact fg_fX3_sumOfLine_31_body ih h
theorem fg_fX3_sumOfLine {σ0 : zSt} {σ : zSt} {x1 : Int32} (h : (zQ [10, 45] [] [] []) σ0 σ) : zpc (fX3_sumOfLine σ x1) (fun r => (zQ [10, 45] [] [] []) σ0 (r.1)) := by
  unfold fX3_sumOfLine
  exact zpc_bi (fg_fX3_placeOf h) (fun σ3 v4 hσ3 => zpc_bi (fg_fX3_width hσ3) (fun σ5 v6 hσ5 => zpc_bv (fun v7 _ => zpc_bv (fun v8 _ => fg_fX3_sumOfLine_31 _ _ _ _ _ hσ5))))
theorem fg_fX9_held_20 {σ0 : zSt} {σ : zSt} {s0 : Int32} (h : (zQ [10, 45] [] [] []) σ0 σ) : zpc (fX9_held_20 σ s0) (fun r => (zQ [10, 45] [] [] []) σ0 (r.1)) := by
  unfold fX9_held_20
  exact zpc_some h
theorem fg_fX9_held_19 {σ0 : zSt} {σ : zSt} (h : (zQ [10, 45] [] [] []) σ0 σ) : zpc (fX9_held_19 σ) (fun r => (zQ [10, 45] [] [] []) σ0 (r.1)) := by
  unfold fX9_held_19
  exact fg_fX9_held_20 h
theorem fg_fX9_held {σ0 : zSt} {σ : zSt} {x1 : Int32} (h : (zQ [10, 45] [] [] []) σ0 σ) : zpc (fX9_held σ x1) (fun r => (zQ [10, 45] [] [] []) σ0 (r.1)) := by
  unfold fX9_held
  exact zpc_if (fun _ => fg_fX9_held_19 h) (fun _ => zpc_if (fun _ => fg_fX9_held_19 h) (fun _ => zpc_ck (fg_fX9_held_20 h)))
theorem fg_fX9_mode_57 {σ0 : zSt} {σ : zSt} {s0 : Int32} (h : (zQ [10, 45] [] [] []) σ0 σ) : zpc (fX9_mode_57 σ s0) (fun r => (zQ [10, 45] [] [] []) σ0 (r.1)) := by
  unfold fX9_mode_57
  exact zpc_some h
theorem fg_fX9_mode {σ0 : zSt} {σ : zSt} (h : (zQ [10, 45] [] [] []) σ0 σ) : zpc (fX9_mode σ) (fun r => (zQ [10, 45] [] [] []) σ0 (r.1)) := by
  unfold fX9_mode
  exact zpc_ck (zpc_if (fun _ => zpc_ck (zpc_if (fun _ => zpc_ck (zpc_if (fun _ => zpc_ck (zpc_if (fun _ => fg_fX9_mode_57 h) (fun _ => fg_fX9_mode_57 h))) (fun _ => zpc_some h))) (fun _ => zpc_some h))) (fun _ => zpc_some h))
theorem fg_fX4_value_20 {σ0 : zSt} {σ : zSt} {s0 : Int32} (h : (zQ [10, 45] [] [] []) σ0 σ) : zpc (fX4_value_20 σ s0) (fun r => (zQ [10, 45] [] [] []) σ0 (r.1)) := by
  unfold fX4_value_20
  exact zpc_some h
theorem fg_fX4_value_19 {σ0 : zSt} {σ : zSt} (h : (zQ [10, 45] [] [] []) σ0 σ) : zpc (fX4_value_19 σ) (fun r => (zQ [10, 45] [] [] []) σ0 (r.1)) := by
  unfold fX4_value_19
  exact fg_fX4_value_20 h
theorem fg_fX4_value {σ0 : zSt} {σ : zSt} {x1 : Int32} (h : (zQ [10, 45] [] [] []) σ0 σ) : zpc (fX4_value σ x1) (fun r => (zQ [10, 45] [] [] []) σ0 (r.1)) := by
  unfold fX4_value
  exact zpc_if (fun _ => fg_fX4_value_19 h) (fun _ => zpc_if (fun _ => fg_fX4_value_19 h) (fun _ => zpc_ck (fg_fX4_value_20 h)))
theorem fg_fX9_hCount_27 {σ0 : zSt} {σ : zSt} {s0 : Int32} (h : (zQ [10, 45] [] [] []) σ0 σ) : zpc (fX9_hCount_27 σ s0) (fun r => (zQ [10, 45] [] [] []) σ0 (r.1)) := by
  unfold fX9_hCount_27
  exact zpc_some h
theorem fg_fX9_hCount {σ0 : zSt} {σ : zSt} (h : (zQ [10, 45] [] [] []) σ0 σ) : zpc (fX9_hCount σ) (fun r => (zQ [10, 45] [] [] []) σ0 (r.1)) := by
  unfold fX9_hCount
  exact zpc_ck (zpc_ck (zpc_bv (fun v1 _ => zpc_if (fun _ => fg_fX9_hCount_27 h) (fun _ => fg_fX9_hCount_27 h))))
theorem fg_fX10_value_11 {σ0 : zSt} {σ : zSt} (h : (zQ [10, 45] [] [] []) σ0 σ) : zpc (fX10_value_11 σ) (fun r => (zQ [10, 45] [] [] []) σ0 (r.1)) := by
  unfold fX10_value_11
  exact zpc_some h
theorem fg_fX10_value_38 {σ0 : zSt} {σ : zSt} {s0 : Int32} (h : (zQ [10, 45] [] [] []) σ0 σ) : zpc (fX10_value_38 σ s0) (fun r => (zQ [10, 45] [] [] []) σ0 (r.1)) := by
  unfold fX10_value_38
  exact zpc_some h
theorem fg_fX10_value {σ0 : zSt} {σ : zSt} {x1 : Int32} (h : (zQ [10, 45] [] [] []) σ0 σ) : zpc (fX10_value σ x1) (fun r => (zQ [10, 45] [] [] []) σ0 (r.1)) := by
  unfold fX10_value
  exact zpc_if (fun _ => fg_fX10_value_11 h) (fun _ => zpc_if (fun _ => zpc_if (fun _ => zpc_ck (fg_fX10_value_38 h)) (fun _ => zpc_ck (fg_fX10_value_38 h))) (fun _ => fg_fX10_value_11 h))
theorem fg_fX9_vCount_137 {σ0 : zSt} {σ : zSt} {s0 : Int32} (h : (zQ [10, 45] [] [] []) σ0 σ) : zpc (fX9_vCount_137 σ s0) (fun r => (zQ [10, 45] [] [] []) σ0 (r.1)) := by
  unfold fX9_vCount_137
  exact zpc_some h
theorem fg_fX9_vCount_136 {σ0 : zSt} {σ : zSt} {s0 : Int32} {s1 : Int32} (h : (zQ [10, 45] [] [] []) σ0 σ) : zpc (fX9_vCount_136 σ s0 s1) (fun r => (zQ [10, 45] [] [] []) σ0 (r.1)) := by
  unfold fX9_vCount_136
  exact fg_fX9_vCount_137 h
theorem fg_fX9_vCount_97 {σ0 : zSt} {σ : zSt} {x2 : Int32} {x3 : Int32} (h : (zQ [10, 45] [] [] []) σ0 σ) : zpc (fX9_vCount_97 σ x2 x3) (fun r => (zQ [10, 45] [] [] []) σ0 (r.1)) := by
  unfold fX9_vCount_97
  exact zpc_ck (zpc_if (fun _ => zpc_ck (zpc_if (fun _ => fg_fX9_vCount_136 h) (fun _ => fg_fX9_vCount_136 h))) (fun _ => zpc_ck (fg_fX9_vCount_137 h)))
theorem fg_fX9_vCount_96 {σ0 : zSt} {σ : zSt} {x2 : Int32} {s0 : Int32} (h : (zQ [10, 45] [] [] []) σ0 σ) : zpc (fX9_vCount_96 σ x2 s0) (fun r => (zQ [10, 45] [] [] []) σ0 (r.1)) := by
  unfold fX9_vCount_96
  exact fg_fX9_vCount_97 h
theorem fg_fX9_vCount_78 {σ0 : zSt} {σ : zSt} {x2 : Int32} {s0 : Int32} (h : (zQ [10, 45] [] [] []) σ0 σ) : zpc (fX9_vCount_78 σ x2 s0) (fun r => (zQ [10, 45] [] [] []) σ0 (r.1)) := by
  unfold fX9_vCount_78
  exact fg_fX9_vCount_97 h
theorem fg_fX9_vCount_61 {σ0 : zSt} {σ : zSt} {x2 : Int32} {s0 : Int32} (h : (zQ [10, 45] [] [] []) σ0 σ) : zpc (fX9_vCount_61 σ x2 s0) (fun r => (zQ [10, 45] [] [] []) σ0 (r.1)) := by
  unfold fX9_vCount_61
  exact fg_fX9_vCount_97 h
theorem fg_fX9_vCount_20 {σ0 : zSt} {σ : zSt} {x1 : Int32} {s0 : Int32} (h : (zQ [10, 45] [] [] []) σ0 σ) : zpc (fX9_vCount_20 σ x1 s0) (fun r => (zQ [10, 45] [] [] []) σ0 (r.1)) := by
  unfold fX9_vCount_20
  exact zpc_if (fun _ => zpc_if (fun _ => fg_fX9_vCount_61 h) (fun _ => fg_fX9_vCount_61 h)) (fun _ => zpc_if (fun _ => zpc_if (fun _ => fg_fX9_vCount_78 h) (fun _ => fg_fX9_vCount_78 h)) (fun _ => zpc_if (fun _ => fg_fX9_vCount_96 h) (fun _ => fg_fX9_vCount_96 h)))
theorem fg_fX9_vCount {σ0 : zSt} {σ : zSt} (h : (zQ [10, 45] [] [] []) σ0 σ) : zpc (fX9_vCount σ) (fun r => (zQ [10, 45] [] [] []) σ0 (r.1)) := by
  unfold fX9_vCount
  exact zpc_bi (fg_fX9_height h) (fun σ1 v2 hσ1 => zpc_if (fun _ => fg_fX9_vCount_20 hσ1) (fun _ => fg_fX9_vCount_20 hσ1))
theorem fg_fX5_value_20 {σ0 : zSt} {σ : zSt} {s0 : Int32} (h : (zQ [10, 45] [] [] []) σ0 σ) : zpc (fX5_value_20 σ s0) (fun r => (zQ [10, 45] [] [] []) σ0 (r.1)) := by
  unfold fX5_value_20
  exact zpc_some h
theorem fg_fX5_value_19 {σ0 : zSt} {σ : zSt} (h : (zQ [10, 45] [] [] []) σ0 σ) : zpc (fX5_value_19 σ) (fun r => (zQ [10, 45] [] [] []) σ0 (r.1)) := by
  unfold fX5_value_19
  exact fg_fX5_value_20 h
theorem fg_fX5_value {σ0 : zSt} {σ : zSt} {x1 : Int32} (h : (zQ [10, 45] [] [] []) σ0 σ) : zpc (fX5_value σ x1) (fun r => (zQ [10, 45] [] [] []) σ0 (r.1)) := by
  unfold fX5_value
  exact zpc_if (fun _ => fg_fX5_value_19 h) (fun _ => zpc_if (fun _ => fg_fX5_value_19 h) (fun _ => zpc_ck (fg_fX5_value_20 h)))
theorem fg_fX5_meansPlace_97 {σ0 : zSt} {σ : zSt} {s0 : Int32} (h : (zQ [10, 45] [] [] []) σ0 σ) : zpc (fX5_meansPlace_97 σ s0) (fun r => (zQ [10, 45] [] [] []) σ0 (r.1)) := by
  unfold fX5_meansPlace_97
  exact zpc_ck (zpc_some h)
theorem fg_fX5_meansPlace_86 {σ0 : zSt} {σ : zSt} {s0 : Int32} (h : (zQ [10, 45] [] [] []) σ0 σ) : zpc (fX5_meansPlace_86 σ s0) (fun r => (zQ [10, 45] [] [] []) σ0 (r.1)) := by
  unfold fX5_meansPlace_86
  exact zpc_ck (zpc_some h)
theorem fg_fX5_meansPlace_85 {σ0 : zSt} {σ : zSt} (h : (zQ [10, 45] [] [] []) σ0 σ) : zpc (fX5_meansPlace_85 σ) (fun r => (zQ [10, 45] [] [] []) σ0 (r.1)) := by
  unfold fX5_meansPlace_85
  exact fg_fX5_meansPlace_86 h
theorem fg_fX5_meansPlace_29 {σ0 : zSt} {σ : zSt} {x0 : Int32} {x1 : Int32} {s0 : Int32} (h : (zQ [10, 45] [] [] []) σ0 σ) : zpc (fX5_meansPlace_29 σ x0 x1 s0) (fun r => (zQ [10, 45] [] [] []) σ0 (r.1)) := by
  unfold fX5_meansPlace_29
  exact zpc_if (fun _ => zpc_if (fun _ => fg_fX5_meansPlace_85 h) (fun _ => zpc_if (fun _ => fg_fX5_meansPlace_85 h) (fun _ => zpc_if (fun _ => fg_fX5_meansPlace_85 h) (fun _ => fg_fX5_meansPlace_86 h)))) (fun _ => zpc_if (fun _ => zpc_if (fun _ => fg_fX5_meansPlace_97 h) (fun _ => fg_fX5_meansPlace_97 h)) (fun _ => zpc_if (fun _ => zpc_ck (zpc_some h)) (fun _ => zpc_ck (zpc_some h))))
theorem fg_fX5_meansPlace_14 {σ0 : zSt} {σ : zSt} {x0 : Int32} {s0 : Int32} (h : (zQ [10, 45] [] [] []) σ0 σ) : zpc (fX5_meansPlace_14 σ x0 s0) (fun r => (zQ [10, 45] [] [] []) σ0 (r.1)) := by
  unfold fX5_meansPlace_14
  exact zpc_if (fun _ => fg_fX5_meansPlace_29 h) (fun _ => fg_fX5_meansPlace_29 h)
theorem fg_fX5_meansPlace {σ0 : zSt} {σ : zSt} {x0 : Int32} (h : (zQ [10, 45] [] [] []) σ0 σ) : zpc (fX5_meansPlace σ x0) (fun r => (zQ [10, 45] [] [] []) σ0 (r.1)) := by
  unfold fX5_meansPlace
  exact zpc_if (fun _ => fg_fX5_meansPlace_14 h) (fun _ => fg_fX5_meansPlace_14 h)
theorem fg_fX6_size_k11 {σ0 : zSt} {σ : zSt} (h : (zQ [10, 45] [] [] []) σ0 σ) : zpc (fX6_size_k11 σ) (fun r => (zQ [10, 45] [] [] []) σ0 (r.1)) := by
  unfold fX6_size_k11
  exact zpc_some h
theorem fg_fX6_size_k12 {σ0 : zSt} {σ : zSt} (h : (zQ [10, 45] [] [] []) σ0 σ) : zpc (fX6_size_k12 σ) (fun r => (zQ [10, 45] [] [] []) σ0 (r.1)) := by
  unfold fX6_size_k12
  exact zpc_some h
theorem fg_fX7_value_20 {σ0 : zSt} {σ : zSt} {s0 : Int32} (h : (zQ [10, 45] [] [] []) σ0 σ) : zpc (fX7_value_20 σ s0) (fun r => (zQ [10, 45] [] [] []) σ0 (r.1)) := by
  unfold fX7_value_20
  exact zpc_some h
theorem fg_fX7_value_19 {σ0 : zSt} {σ : zSt} (h : (zQ [10, 45] [] [] []) σ0 σ) : zpc (fX7_value_19 σ) (fun r => (zQ [10, 45] [] [] []) σ0 (r.1)) := by
  unfold fX7_value_19
  exact fg_fX7_value_20 h
theorem fg_fX7_value {σ0 : zSt} {σ : zSt} {x1 : Int32} (h : (zQ [10, 45] [] [] []) σ0 σ) : zpc (fX7_value σ x1) (fun r => (zQ [10, 45] [] [] []) σ0 (r.1)) := by
  unfold fX7_value
  exact zpc_if (fun _ => fg_fX7_value_19 h) (fun _ => zpc_if (fun _ => fg_fX7_value_19 h) (fun _ => zpc_ck (fg_fX7_value_20 h)))
theorem fg_fX8_take {σ0 : zSt} {σ : zSt} (h : (zQ [10, 45] [] [] []) σ0 σ) : zpc (fX8_take σ) (fun r => (zQ [10, 45] [] [] []) σ0 (r.1)) := by
  unfold fX8_take
  exact zpc_bi (fg_fX2_read h) (fun σ1 v2 hσ1 => zpc_bs (zQ.wi hσ1 rfl) (fun σ3 hσ3 => zpc_some hσ3))
theorem fg_fX8_putSign_29 {σ0 : zSt} {σ : zSt} (h : (zQ [10, 45] [] [] []) σ0 σ) : zpc (fX8_putSign_29 σ) (fun r => (zQ [10, 45] [] [] []) σ0 (r)) := by
  unfold fX8_putSign_29
  exact zpc_some h
theorem fg_fX8_putSign {σ0 : zSt} {σ : zSt} {x1 : Int32} (h : (zQ [10, 45] [] [] []) σ0 σ) : zpc (fX8_putSign σ x1) (fun r => (zQ [10, 45] [] [] []) σ0 (r)) := by
  unfold fX8_putSign
  exact zpc_if (fun _ => fg_fX8_putSign_29 h) (fun _ => zpc_ck (zpc_bs (zQ.wi h rfl) (fun σ1 hσ1 => zpc_bs (zQ.wi hσ1 rfl) (fun σ2 hσ2 => fg_fX8_putSign_29 hσ2))))
theorem fg_fX8_putByte {σ0 : zSt} {σ : zSt} {x1 : Int32} (h : (zQ [10, 45] [] [] []) σ0 σ) : zpc (fX8_putByte σ x1) (fun r => (zQ [10, 45] [] [] []) σ0 (r)) := by
  unfold fX8_putByte
  exact zpc_ck (zpc_ck (zpc_bu (fg_fX8_putSign h) (fun σ1 hσ1 => zpc_ck (zpc_ck (zpc_bu (fg_fX8_putSign hσ1) (fun σ2 hσ2 => zpc_some hσ2))))))
theorem fg_fX8_putWord {σ0 : zSt} {σ : zSt} {x1 : Int32} (h : (zQ [10, 45] [] [] []) σ0 σ) : zpc (fX8_putWord σ x1) (fun r => (zQ [10, 45] [] [] []) σ0 (r)) := by
  unfold fX8_putWord
  exact zpc_bu (fg_fX8_putByte h) (fun σ1 hσ1 => zpc_bu (fg_fX8_putByte hσ1) (fun σ2 hσ2 => zpc_some hσ2))
theorem fg_fX8_putHl_35 {σ0 : zSt} {σ : zSt} {s0 : Int32} (h : (zQ [10, 45] [] [] []) σ0 σ) : zpc (fX8_putHl_35 σ s0) (fun r => (zQ [10, 45] [] [] []) σ0 (r)) := by
  unfold fX8_putHl_35
  exact zpc_bu (fg_fX8_putSign h) (fun σ1 hσ1 => zpc_some hσ1)
theorem fg_fX8_putHl_15 {σ0 : zSt} {σ : zSt} {s0 : Int32} (h : (zQ [10, 45] [] [] []) σ0 σ) : zpc (fX8_putHl_15 σ s0) (fun r => (zQ [10, 45] [] [] []) σ0 (r)) := by
  unfold fX8_putHl_15
  exact zpc_bu (fg_fX8_putSign h) (fun σ2 hσ2 => zpc_if (fun _ => fg_fX8_putHl_35 hσ2) (fun _ => fg_fX8_putHl_35 hσ2))
theorem fg_fX8_putHl {σ0 : zSt} {σ : zSt} (h : (zQ [10, 45] [] [] []) σ0 σ) : zpc (fX8_putHl σ) (fun r => (zQ [10, 45] [] [] []) σ0 (r)) := by
  unfold fX8_putHl
  exact zpc_if (fun _ => fg_fX8_putHl_15 h) (fun _ => fg_fX8_putHl_15 h)
theorem fg_fX8_putPlace_45 {σ0 : zSt} {σ : zSt} {s0 : Int32} (h : (zQ [10, 45] [] [] []) σ0 σ) : zpc (fX8_putPlace_45 σ s0) (fun r => (zQ [10, 45] [] [] []) σ0 (r)) := by
  unfold fX8_putPlace_45
  exact zpc_bu (fg_fX8_putByte h) (fun σ1 hσ1 => zpc_bu (fg_fX8_putSign hσ1) (fun σ2 hσ2 => zpc_some hσ2))
theorem fg_fX8_putPlace_25 {σ0 : zSt} {σ : zSt} {x1 : Int32} {s0 : Int32} (h : (zQ [10, 45] [] [] []) σ0 σ) : zpc (fX8_putPlace_25 σ x1 s0) (fun r => (zQ [10, 45] [] [] []) σ0 (r)) := by
  unfold fX8_putPlace_25
  exact zpc_bu (fg_fX8_putSign h) (fun σ3 hσ3 => zpc_if (fun _ => fg_fX8_putPlace_45 hσ3) (fun _ => fg_fX8_putPlace_45 hσ3))
theorem fg_fX8_putPlace {σ0 : zSt} {σ : zSt} {x1 : Int32} (h : (zQ [10, 45] [] [] []) σ0 σ) : zpc (fX8_putPlace σ x1) (fun r => (zQ [10, 45] [] [] []) σ0 (r)) := by
  unfold fX8_putPlace
  exact zpc_bu (fg_fX8_putSign h) (fun σ4 hσ4 => zpc_bu (fg_fX8_putHl hσ4) (fun σ5 hσ5 => zpc_if (fun _ => fg_fX8_putPlace_25 hσ5) (fun _ => fg_fX8_putPlace_25 hσ5)))
theorem fg_fX8_putName_46 {σ0 : zSt} {k5 : zSt → Nat → Int32 → Int32 → Int32 → Option (zSt)} (hk5 : ∀ (y0 : zSt) (y1 : Nat) (y2 : Int32) (y3 : Int32) (y4 : Int32), (zQ [10, 45] [] [] []) σ0 y0 → zpc (k5 y0 y1 y2 y3 y4) (fun r => (zQ [10, 45] [] [] []) σ0 (r))) {σ : zSt} {n1 : Nat} {x2 : Int32} {x3 : Int32} {x4 : Int32} (h : (zQ [10, 45] [] [] []) σ0 σ) : zpc (fX8_putName_46 k5 σ n1 x2 x3 x4) (fun r => (zQ [10, 45] [] [] []) σ0 (r)) := by
  unfold fX8_putName_46
  exact zpc_bv (fun v1 _ => hk5 _ _ _ _ _ h)
theorem fg_fX8_putName_5_body {σ0 : zSt} {k5 : zSt → Nat → Int32 → Int32 → Int32 → Option (zSt)} (hk5 : ∀ (y0 : zSt) (y1 : Nat) (y2 : Int32) (y3 : Int32) (y4 : Int32), (zQ [10, 45] [] [] []) σ0 y0 → zpc (k5 y0 y1 y2 y3 y4) (fun r => (zQ [10, 45] [] [] []) σ0 (r))) {σ : zSt} {n1 : Nat} {x2 : Int32} {x3 : Int32} {x4 : Int32} (h : (zQ [10, 45] [] [] []) σ0 σ) : zpc (fX8_putName_5_body k5 σ n1 x2 x3 x4) (fun r => (zQ [10, 45] [] [] []) σ0 (r)) := by
  unfold fX8_putName_5_body
  exact zpc_ck (zpc_if (fun _ => zpc_some h) (fun _ => zpc_ck (zpc_ck (zpc_if (fun _ => zpc_bv (fun v3 _ => fg_fX8_putName_46 hk5 h)) (fun _ => zpc_if (fun _ => zpc_ck (zpc_ck (zpc_bu (fg_fX8_putSign h) (fun σ2 hσ2 => fg_fX8_putName_46 hk5 hσ2)))) (fun _ => fg_fX8_putName_46 hk5 h))))))
theorem fg_fX8_putName_5 {σ0 : zSt} : ∀ (n : Nat) (y0 : zSt) (y1 : Nat) (y2 : Int32) (y3 : Int32) (y4 : Int32), (zQ [10, 45] [] [] []) σ0 y0 → zpc (fX8_putName_5 n y0 y1 y2 y3 y4) (fun r => (zQ [10, 45] [] [] []) σ0 (r)) := by
  intro n
  induction n with
  | zero => intro y0 y1 y2 y3 y4 h; exact zpc_none
  | succ n ih => intro y0 y1 y2 y3 y4 h; exact fg_fX8_putName_5_body ih h
theorem fg_fX8_putName {σ0 : zSt} {σ : zSt} {n1 : Nat} {x2 : Int32} (h : (zQ [10, 45] [] [] []) σ0 σ) : zpc (fX8_putName σ n1 x2) (fun r => (zQ [10, 45] [] [] []) σ0 (r)) := by
  unfold fX8_putName
  exact fg_fX8_putName_5 _ _ _ _ _ _ h
theorem fg_fX8_putOne_78 {σ0 : zSt} {σ : zSt} (h : (zQ [10, 45] [] [] []) σ0 σ) : zpc (fX8_putOne_78 σ) (fun r => (zQ [10, 45] [] [] []) σ0 (r)) := by
  unfold fX8_putOne_78
  exact zpc_some h
theorem fg_fX8_putOne_71 {σ0 : zSt} {σ : zSt} {x1 : Int32} (h : (zQ [10, 45] [] [] []) σ0 σ) : zpc (fX8_putOne_71 σ x1) (fun r => (zQ [10, 45] [] [] []) σ0 (r)) := by
  unfold fX8_putOne_71
  exact zpc_bu (fg_fX8_putName h) (fun σ1 hσ1 => fg_fX8_putOne_78 hσ1)
theorem fg_fX8_putOne_65 {σ0 : zSt} {σ : zSt} {s0 : Int32} (h : (zQ [10, 45] [] [] []) σ0 σ) : zpc (fX8_putOne_65 σ s0) (fun r => (zQ [10, 45] [] [] []) σ0 (r)) := by
  unfold fX8_putOne_65
  exact zpc_bu (fg_fX8_putSign h) (fun σ2 hσ2 => fg_fX8_putOne_78 hσ2)
theorem fg_fX8_putOne_34 {σ0 : zSt} {σ : zSt} {x1 : Int32} (h : (zQ [10, 45] [] [] []) σ0 σ) : zpc (fX8_putOne_34 σ x1) (fun r => (zQ [10, 45] [] [] []) σ0 (r)) := by
  unfold fX8_putOne_34
  exact zpc_if (fun _ => fg_fX8_putOne_71 h) (fun _ => zpc_if (fun _ => zpc_bu (fg_fX8_putHl h) (fun σ3 hσ3 => zpc_if (fun _ => fg_fX8_putOne_65 hσ3) (fun _ => fg_fX8_putOne_65 hσ3))) (fun _ => fg_fX8_putOne_71 h))
theorem fg_fX8_putOne_24 {σ0 : zSt} {σ : zSt} {x1 : Int32} (h : (zQ [10, 45] [] [] []) σ0 σ) : zpc (fX8_putOne_24 σ x1) (fun r => (zQ [10, 45] [] [] []) σ0 (r)) := by
  unfold fX8_putOne_24
  exact zpc_if (fun _ => fg_fX8_putOne_34 h) (fun _ => zpc_if (fun _ => fg_fX8_putOne_34 h) (fun _ => fg_fX8_putOne_71 h))
theorem fg_fX8_putOne {σ0 : zSt} {σ : zSt} {x1 : Int32} (h : (zQ [10, 45] [] [] []) σ0 σ) : zpc (fX8_putOne σ x1) (fun r => (zQ [10, 45] [] [] []) σ0 (r)) := by
  unfold fX8_putOne
  exact zpc_if (fun _ => zpc_if (fun _ => fg_fX8_putOne_24 h) (fun _ => zpc_bi (fg_fX8_take h) (fun σ4 v5 hσ4 => zpc_bu (fg_fX8_putPlace hσ4) (fun σ6 hσ6 => fg_fX8_putOne_78 hσ6)))) (fun _ => fg_fX8_putOne_24 h)
theorem fg_fX8_putTurned_59 {σ0 : zSt} {σ : zSt} (h : (zQ [10, 45] [] [] []) σ0 σ) : zpc (fX8_putTurned_59 σ) (fun r => (zQ [10, 45] [] [] []) σ0 (r)) := by
  unfold fX8_putTurned_59
  exact zpc_some h
theorem fg_fX8_putTurned {σ0 : zSt} {σ : zSt} (h : (zQ [10, 45] [] [] []) σ0 σ) : zpc (fX8_putTurned σ) (fun r => (zQ [10, 45] [] [] []) σ0 (r)) := by
  unfold fX8_putTurned
  exact zpc_if (fun _ => zpc_bu (fg_fX8_putName h) (fun σ4 hσ4 => zpc_some hσ4)) (fun _ => zpc_bu (fg_fX8_putPlace h) (fun σ1 hσ1 => zpc_if (fun _ => fg_fX8_putTurned_59 hσ1) (fun _ => zpc_if (fun _ => fg_fX8_putTurned_59 hσ1) (fun _ => zpc_bu (fg_fX8_putSign hσ1) (fun σ2 hσ2 => zpc_bu (fg_fX8_putName hσ2) (fun σ3 hσ3 => fg_fX8_putTurned_59 hσ3))))))
theorem fg_fX8_putPair_28 {σ0 : zSt} {σ : zSt} (h : (zQ [10, 45] [] [] []) σ0 σ) : zpc (fX8_putPair_28 σ) (fun r => (zQ [10, 45] [] [] []) σ0 (r)) := by
  unfold fX8_putPair_28
  exact zpc_some h
theorem fg_fX8_putPair {σ0 : zSt} {σ : zSt} {n1 : Nat} (h : (zQ [10, 45] [] [] []) σ0 σ) : zpc (fX8_putPair σ n1) (fun r => (zQ [10, 45] [] [] []) σ0 (r)) := by
  unfold fX8_putPair
  exact zpc_if (fun _ => zpc_bu (fg_fX8_putHl h) (fun σ2 hσ2 => fg_fX8_putPair_28 hσ2)) (fun _ => zpc_bu (fg_fX8_putName h) (fun σ1 hσ1 => fg_fX8_putPair_28 hσ1))
theorem fg_fX8_putMeant_275 {σ0 : zSt} {σ : zSt} (h : (zQ [10, 45] [] [] []) σ0 σ) : zpc (fX8_putMeant_275 σ) (fun r => (zQ [10, 45] [] [] []) σ0 (r)) := by
  unfold fX8_putMeant_275
  exact zpc_some h
theorem fg_fX8_putMeant_256 {σ0 : zSt} {σ : zSt} (h : (zQ [10, 45] [] [] []) σ0 σ) : zpc (fX8_putMeant_256 σ) (fun r => (zQ [10, 45] [] [] []) σ0 (r)) := by
  unfold fX8_putMeant_256
  exact zpc_bi (fg_fX8_take h) (fun σ1 v2 hσ1 => zpc_bu (fg_fX8_putWord hσ1) (fun σ3 hσ3 => fg_fX8_putMeant_275 hσ3))
theorem fg_fX8_putMeant {σ0 : zSt} {σ : zSt} {x1 : Int32} (h : (zQ [10, 45] [] [] []) σ0 σ) : zpc (fX8_putMeant σ x1) (fun r => (zQ [10, 45] [] [] []) σ0 (r)) := by
  unfold fX8_putMeant
  exact zpc_if (fun _ => zpc_bu (fg_fX8_putSign h) (fun σ4 hσ4 => fg_fX8_putMeant_275 hσ4)) (fun _ => zpc_if (fun _ => zpc_bu (fg_fX8_putName h) (fun σ5 hσ5 => fg_fX8_putMeant_275 hσ5)) (fun _ => zpc_if (fun _ => zpc_bu (fg_fX8_putName h) (fun σ6 hσ6 => fg_fX8_putMeant_275 hσ6)) (fun _ => zpc_if (fun _ => fg_fX8_putMeant_256 h) (fun _ => zpc_if (fun _ => fg_fX8_putMeant_256 h) (fun _ => zpc_if (fun _ => fg_fX8_putMeant_256 h) (fun _ => zpc_if (fun _ => fg_fX8_putMeant_256 h) (fun _ => zpc_if (fun _ => fg_fX8_putMeant_256 h) (fun _ => zpc_if (fun _ => zpc_bu (fg_fX8_putHl h) (fun σ7 hσ7 => fg_fX8_putMeant_275 hσ7)) (fun _ => zpc_if (fun _ => fg_fX8_putMeant_256 h) (fun _ => zpc_if (fun _ => fg_fX8_putMeant_256 h) (fun _ => zpc_if (fun _ => fg_fX8_putMeant_256 h) (fun _ => zpc_if (fun _ => zpc_bi (fg_fX8_take h) (fun σ8 v9 hσ8 => zpc_bu (fg_fX8_putByte hσ8) (fun σ10 hσ10 => fg_fX8_putMeant_275 hσ10))) (fun _ => zpc_if (fun _ => fg_fX8_putMeant_256 h) (fun _ => zpc_if (fun _ => zpc_bu (fg_fX8_putPair h) (fun σ11 hσ11 => fg_fX8_putMeant_275 hσ11)) (fun _ => zpc_if (fun _ => zpc_bu (fg_fX8_putPair h) (fun σ12 hσ12 => fg_fX8_putMeant_275 hσ12)) (fun _ => zpc_if (fun _ => fg_fX8_putMeant_256 h) (fun _ => zpc_if (fun _ => fg_fX8_putMeant_256 h) (fun _ => zpc_if (fun _ => zpc_bu (fg_fX8_putTurned h) (fun σ13 hσ13 => fg_fX8_putMeant_275 hσ13)) (fun _ => zpc_if (fun _ => fg_fX8_putMeant_256 h) (fun _ => zpc_if (fun _ => zpc_bu (fg_fX8_putByte h) (fun σ14 hσ14 => fg_fX8_putMeant_275 hσ14)) (fun _ => zpc_if (fun _ => zpc_bi (fg_fX8_take h) (fun σ15 v16 hσ15 => zpc_bi (fg_fX8_take hσ15) (fun σ17 v18 hσ17 => zpc_bu (fg_fX8_putWord hσ17) (fun σ19 hσ19 => fg_fX8_putMeant_275 hσ19)))) (fun _ => zpc_if (fun _ => fg_fX8_putMeant_256 h) (fun _ => zpc_if (fun _ => zpc_bu (fg_fX8_putOne h) (fun σ20 hσ20 => fg_fX8_putMeant_275 hσ20)) (fun _ => zpc_if (fun _ => zpc_bu (fg_fX8_putOne h) (fun σ21 hσ21 => fg_fX8_putMeant_275 hσ21)) (fun _ => fg_fX8_putMeant_256 h)))))))))))))))))))))))))
theorem fg_fX8_put_28 {σ0 : zSt} {k4 : zSt → Nat → Int32 → Int32 → Option (zSt)} (hk4 : ∀ (y0 : zSt) (y1 : Nat) (y2 : Int32) (y3 : Int32), (zQ [10, 45] [] [] []) σ0 y0 → zpc (k4 y0 y1 y2 y3) (fun r => (zQ [10, 45] [] [] []) σ0 (r))) {σ : zSt} {n1 : Nat} {x3 : Int32} {s0 : Int32} {s1 : Int32} (h : (zQ [10, 45] [] [] []) σ0 σ) : zpc (fX8_put_28 k4 σ n1 x3 s0 s1) (fun r => (zQ [10, 45] [] [] []) σ0 (r)) := by
  unfold fX8_put_28
  exact zpc_bv (fun v1 _ => zpc_bv (fun v2 _ => hk4 _ _ _ _ h))
theorem fg_fX8_put_110 {σ0 : zSt} {k41 : zSt → Nat → Int32 → Int32 → Int32 → Option (zSt)} (hk41 : ∀ (y0 : zSt) (y1 : Nat) (y2 : Int32) (y3 : Int32) (y4 : Int32), (zQ [10, 45] [] [] []) σ0 y0 → zpc (k41 y0 y1 y2 y3 y4) (fun r => (zQ [10, 45] [] [] []) σ0 (r))) {σ : zSt} {n1 : Nat} {x2 : Int32} {x3 : Int32} {x4 : Int32} (h : (zQ [10, 45] [] [] []) σ0 σ) : zpc (fX8_put_110 k41 σ n1 x2 x3 x4) (fun r => (zQ [10, 45] [] [] []) σ0 (r)) := by
  unfold fX8_put_110
  exact zpc_bv (fun v3 _ => hk41 _ _ _ _ _ h)
theorem fg_fX8_put_104 {σ0 : zSt} {k41 : zSt → Nat → Int32 → Int32 → Int32 → Option (zSt)} (hk41 : ∀ (y0 : zSt) (y1 : Nat) (y2 : Int32) (y3 : Int32) (y4 : Int32), (zQ [10, 45] [] [] []) σ0 y0 → zpc (k41 y0 y1 y2 y3 y4) (fun r => (zQ [10, 45] [] [] []) σ0 (r))) {σ : zSt} {n1 : Nat} {x2 : Int32} {x3 : Int32} {x4 : Int32} {x5 : Int32} (h : (zQ [10, 45] [] [] []) σ0 σ) : zpc (fX8_put_104 k41 σ n1 x2 x3 x4 x5) (fun r => (zQ [10, 45] [] [] []) σ0 (r)) := by
  unfold fX8_put_104
  exact zpc_bu (fg_fX8_putSign h) (fun σ4 hσ4 => fg_fX8_put_110 hk41 hσ4)
theorem fg_fX8_put_41_body {σ0 : zSt} {k41 : zSt → Nat → Int32 → Int32 → Int32 → Option (zSt)} (hk41 : ∀ (y0 : zSt) (y1 : Nat) (y2 : Int32) (y3 : Int32) (y4 : Int32), (zQ [10, 45] [] [] []) σ0 y0 → zpc (k41 y0 y1 y2 y3 y4) (fun r => (zQ [10, 45] [] [] []) σ0 (r))) {σ : zSt} {n1 : Nat} {x2 : Int32} {x3 : Int32} {x4 : Int32} (h : (zQ [10, 45] [] [] []) σ0 σ) : zpc (fX8_put_41_body k41 σ n1 x2 x3 x4) (fun r => (zQ [10, 45] [] [] []) σ0 (r)) := by
  unfold fX8_put_41_body
  exact zpc_ck (zpc_if (fun _ => zpc_some h) (fun _ => zpc_ck (zpc_ck (zpc_bv (fun v5 _ => zpc_if (fun _ => zpc_bv (fun v7 _ => fg_fX8_put_110 hk41 h)) (fun _ => zpc_ck (zpc_if (fun _ => zpc_if (fun _ => fg_fX8_put_104 hk41 h) (fun _ => zpc_if (fun _ => fg_fX8_put_104 hk41 h) (fun _ => zpc_bu (fg_fX8_putMeant h) (fun σ6 hσ6 => fg_fX8_put_110 hk41 hσ6)))) (fun _ => fg_fX8_put_110 hk41 h))))))))
theorem fg_fX8_put_41 {σ0 : zSt} : ∀ (n : Nat) (y0 : zSt) (y1 : Nat) (y2 : Int32) (y3 : Int32) (y4 : Int32), (zQ [10, 45] [] [] []) σ0 y0 → zpc (fX8_put_41 n y0 y1 y2 y3 y4) (fun r => (zQ [10, 45] [] [] []) σ0 (r)) := by
  intro n
  induction n with
  | zero => intro y0 y1 y2 y3 y4 h; exact zpc_none
  | succ n ih => intro y0 y1 y2 y3 y4 h; exact fg_fX8_put_41_body ih h
theorem fg_fX8_put_4_body {σ0 : zSt} {k4 : zSt → Nat → Int32 → Int32 → Option (zSt)} (hk4 : ∀ (y0 : zSt) (y1 : Nat) (y2 : Int32) (y3 : Int32), (zQ [10, 45] [] [] []) σ0 y0 → zpc (k4 y0 y1 y2 y3) (fun r => (zQ [10, 45] [] [] []) σ0 (r))) {σ : zSt} {n1 : Nat} {x2 : Int32} {x3 : Int32} (h : (zQ [10, 45] [] [] []) σ0 σ) : zpc (fX8_put_4_body k4 σ n1 x2 x3) (fun r => (zQ [10, 45] [] [] []) σ0 (r)) := by
  unfold fX8_put_4_body
  exact zpc_ck (zpc_if (fun _ => fg_fX8_put_41 _ _ _ _ _ _ h) (fun _ => zpc_ck (zpc_ck (zpc_if (fun _ => fg_fX8_put_28 hk4 h) (fun _ => fg_fX8_put_28 hk4 h)))))
theorem fg_fX8_put_4 {σ0 : zSt} : ∀ (n : Nat) (y0 : zSt) (y1 : Nat) (y2 : Int32) (y3 : Int32), (zQ [10, 45] [] [] []) σ0 y0 → zpc (fX8_put_4 n y0 y1 y2 y3) (fun r => (zQ [10, 45] [] [] []) σ0 (r)) := by
  intro n
  induction n with
  | zero => intro y0 y1 y2 y3 h; exact zpc_none
  | succ n ih => intro y0 y1 y2 y3 h; exact fg_fX8_put_4_body ih h
theorem fg_fX8_put {σ0 : zSt} {σ : zSt} {n1 : Nat} (h : (zQ [10, 45] [] [] []) σ0 σ) : zpc (fX8_put σ n1) (fun r => (zQ [10, 45] [] [] []) σ0 (r)) := by
  unfold fX8_put
  exact fg_fX8_put_4 _ _ _ _ _ h
theorem fg_fX8_split {σ0 : zSt} {σ : zSt} {x1 : Int32} (h : (zQ [10, 45] [] [] []) σ0 σ) : zpc (fX8_split σ x1) (fun r => (zQ [10, 45] [] [] []) σ0 (r)) := by
  unfold fX8_split
  exact zpc_bs (zQ.wi h rfl) (fun σ1 hσ1 => zpc_bs (zQ.wi hσ1 rfl) (fun σ2 hσ2 => zpc_bs (zQ.wi hσ2 rfl) (fun σ3 hσ3 => zpc_some hσ3)))
theorem fg_fX8_turnPatterns {σ0 : zSt} {σ : zSt} (h : (zQ [10, 45] [] [] []) σ0 σ) : zpc (fX8_turnPatterns σ) (fun r => (zQ [10, 45] [] [] []) σ0 (r.1)) := by
  unfold fX8_turnPatterns
  exact zpc_if (fun _ => zpc_some h) (fun _ => zpc_if (fun _ => zpc_some h) (fun _ => zpc_if (fun _ => zpc_some h) (fun _ => zpc_some h)))
theorem fg_fX8_blockPatterns_17 {σ0 : zSt} {σ : zSt} {s0 : Int32} (h : (zQ [10, 45] [] [] []) σ0 σ) : zpc (fX8_blockPatterns_17 σ s0) (fun r => (zQ [10, 45] [] [] []) σ0 (r.1)) := by
  unfold fX8_blockPatterns_17
  exact zpc_if (fun _ => zpc_some h) (fun _ => zpc_if (fun _ => zpc_some h) (fun _ => zpc_if (fun _ => zpc_some h) (fun _ => zpc_if (fun _ => zpc_some h) (fun _ => zpc_some h))))
theorem fg_fX8_blockPatterns {σ0 : zSt} {σ : zSt} (h : (zQ [10, 45] [] [] []) σ0 σ) : zpc (fX8_blockPatterns σ) (fun r => (zQ [10, 45] [] [] []) σ0 (r.1)) := by
  unfold fX8_blockPatterns
  exact zpc_if (fun _ => fg_fX8_blockPatterns_17 h) (fun _ => fg_fX8_blockPatterns_17 h)
theorem fg_fX8_morePatterns_114 {σ0 : zSt} {σ : zSt} {s0 : Nat} (h : (zQ [10, 45] [] [] []) σ0 σ) : zpc (fX8_morePatterns_114 σ s0) (fun r => (zQ [10, 45] [] [] []) σ0 (r.1)) := by
  unfold fX8_morePatterns_114
  exact zpc_some h
theorem fg_fX8_morePatterns_89 {σ0 : zSt} {σ : zSt} {s0 : Nat} (h : (zQ [10, 45] [] [] []) σ0 σ) : zpc (fX8_morePatterns_89 σ s0) (fun r => (zQ [10, 45] [] [] []) σ0 (r.1)) := by
  unfold fX8_morePatterns_89
  exact zpc_some h
theorem fg_fX8_morePatterns_72 {σ0 : zSt} {σ : zSt} {s0 : Nat} (h : (zQ [10, 45] [] [] []) σ0 σ) : zpc (fX8_morePatterns_72 σ s0) (fun r => (zQ [10, 45] [] [] []) σ0 (r.1)) := by
  unfold fX8_morePatterns_72
  exact zpc_some h
theorem fg_fX8_morePatterns {σ0 : zSt} {σ : zSt} (h : (zQ [10, 45] [] [] []) σ0 σ) : zpc (fX8_morePatterns σ) (fun r => (zQ [10, 45] [] [] []) σ0 (r.1)) := by
  unfold fX8_morePatterns
  exact zpc_if (fun _ => zpc_if (fun _ => zpc_if (fun _ => fg_fX8_morePatterns_72 h) (fun _ => fg_fX8_morePatterns_72 h)) (fun _ => zpc_if (fun _ => zpc_if (fun _ => fg_fX8_morePatterns_89 h) (fun _ => fg_fX8_morePatterns_89 h)) (fun _ => zpc_if (fun _ => zpc_some h) (fun _ => zpc_if (fun _ => zpc_some h) (fun _ => zpc_if (fun _ => zpc_some h) (fun _ => zpc_if (fun _ => zpc_if (fun _ => fg_fX8_morePatterns_114 h) (fun _ => fg_fX8_morePatterns_114 h)) (fun _ => zpc_if (fun _ => zpc_some h) (fun _ => zpc_some h)))))))) (fun _ => zpc_some h)
theorem fg_fX8_lastPatterns {σ0 : zSt} {σ : zSt} (h : (zQ [10, 45] [] [] []) σ0 σ) : zpc (fX8_lastPatterns σ) (fun r => (zQ [10, 45] [] [] []) σ0 (r.1)) := by
  unfold fX8_lastPatterns
  exact zpc_if (fun _ => zpc_some h) (fun _ => zpc_if (fun _ => zpc_some h) (fun _ => zpc_if (fun _ => zpc_some h) (fun _ => zpc_if (fun _ => zpc_some h) (fun _ => zpc_if (fun _ => zpc_some h) (fun _ => zpc_if (fun _ => zpc_some h) (fun _ => zpc_if (fun _ => zpc_some h) (fun _ => zpc_some h)))))))
theorem fg_fX8_firstPatterns {σ0 : zSt} {σ : zSt} (h : (zQ [10, 45] [] [] []) σ0 σ) : zpc (fX8_firstPatterns σ) (fun r => (zQ [10, 45] [] [] []) σ0 (r.1)) := by
  unfold fX8_firstPatterns
  exact zpc_if (fun _ => zpc_some h) (fun _ => zpc_if (fun _ => zpc_some h) (fun _ => zpc_if (fun _ => zpc_some h) (fun _ => zpc_if (fun _ => zpc_some h) (fun _ => zpc_if (fun _ => zpc_some h) (fun _ => zpc_if (fun _ => zpc_some h) (fun _ => zpc_if (fun _ => zpc_some h) (fun _ => zpc_some h)))))))
theorem fg_fX8_patternsOf_23 {σ0 : zSt} {σ : zSt} {s0 : Int32} (h : (zQ [10, 45] [] [] []) σ0 σ) : zpc (fX8_patternsOf_23 σ s0) (fun r => (zQ [10, 45] [] [] []) σ0 (r.1)) := by
  unfold fX8_patternsOf_23
  exact zpc_bs (zQ.wi h rfl) (fun σ1 hσ1 => zpc_bi (fg_fX8_take hσ1) (fun σ2 v3 hσ2 => zpc_bu (fg_fX8_split hσ2) (fun σ4 hσ4 => zpc_bk (fg_fX8_turnPatterns hσ4) (fun σ5 v6 hσ5 => zpc_some hσ5))))
theorem fg_fX8_patternsOf_73 {σ0 : zSt} {σ : zSt} {s0 : Nat} (h : (zQ [10, 45] [] [] []) σ0 σ) : zpc (fX8_patternsOf_73 σ s0) (fun r => (zQ [10, 45] [] [] []) σ0 (r.1)) := by
  unfold fX8_patternsOf_73
  exact zpc_some h
theorem fg_fX8_patternsOf_126 {σ0 : zSt} {σ : zSt} {s0 : Nat} (h : (zQ [10, 45] [] [] []) σ0 σ) : zpc (fX8_patternsOf_126 σ s0) (fun r => (zQ [10, 45] [] [] []) σ0 (r.1)) := by
  unfold fX8_patternsOf_126
  exact zpc_some h
theorem fg_fX8_patternsOf {σ0 : zSt} {σ : zSt} {x1 : Int32} (h : (zQ [10, 45] [] [] []) σ0 σ) : zpc (fX8_patternsOf σ x1) (fun r => (zQ [10, 45] [] [] []) σ0 (r.1)) := by
  unfold fX8_patternsOf
  exact zpc_if (fun _ => zpc_if (fun _ => fg_fX8_patternsOf_23 h) (fun _ => zpc_bi (fg_fX8_take h) (fun σ19 v20 hσ19 => fg_fX8_patternsOf_23 hσ19))) (fun _ => zpc_if (fun _ => zpc_bi (fg_fX8_take h) (fun σ12 v13 hσ12 => zpc_bu (fg_fX8_split hσ12) (fun σ14 hσ14 => zpc_if (fun _ => zpc_bk (fg_fX8_blockPatterns hσ14) (fun σ17 v18 hσ17 => fg_fX8_patternsOf_73 hσ17)) (fun _ => zpc_bk (fg_fX8_morePatterns hσ14) (fun σ15 v16 hσ15 => fg_fX8_patternsOf_73 hσ15))))) (fun _ => zpc_bu (fg_fX8_split h) (fun σ7 hσ7 => zpc_if (fun _ => zpc_bk (fg_fX8_firstPatterns hσ7) (fun σ8 v9 hσ8 => zpc_some hσ8)) (fun _ => zpc_if (fun _ => zpc_if (fun _ => fg_fX8_patternsOf_126 hσ7) (fun _ => fg_fX8_patternsOf_126 hσ7)) (fun _ => zpc_if (fun _ => zpc_some hσ7) (fun _ => zpc_bk (fg_fX8_lastPatterns hσ7) (fun σ10 v11 hσ10 => zpc_some hσ10)))))))
theorem fg_fX8_write_82 {σ0 : zSt} {σ : zSt} (h : (zQ [10, 45] [] [] []) σ0 σ) : zpc (fX8_write_82 σ) (fun r => (zQ [10, 45] [] [] []) σ0 (r.1)) := by
  unfold fX8_write_82
  exact zpc_bu (fg_fX8_put h) (fun σ1 hσ1 => zpc_some hσ1)
theorem fg_fX8_write_124 {σ0 : zSt} {σ : zSt} {x2 : Int32} (h : (zQ [10, 45] [] [] []) σ0 σ) : zpc (fX8_write_124 σ x2) (fun r => (zQ [10, 45] [] [] []) σ0 (r.1)) := by
  unfold fX8_write_124
  exact zpc_bk (fg_fX8_patternsOf h) (fun σ2 v3 hσ2 => zpc_bu (fg_fX8_put hσ2) (fun σ4 hσ4 => zpc_some hσ4))
theorem fg_fX8_write_108 {σ0 : zSt} {σ : zSt} {s0 : Int32} (h : (zQ [10, 45] [] [] []) σ0 σ) : zpc (fX8_write_108 σ s0) (fun r => (zQ [10, 45] [] [] []) σ0 (r.1)) := by
  unfold fX8_write_108
  exact zpc_bs (zQ.wi h rfl) (fun σ5 hσ5 => zpc_bi (fg_fX8_take hσ5) (fun σ6 v7 hσ6 => zpc_bi (fg_fX5_meansPlace hσ6) (fun σ8 v9 hσ8 => zpc_ck (zpc_bs (zQ.wi hσ8 rfl) (fun σ10 hσ10 => fg_fX8_write_124 hσ10)))))
theorem fg_fX8_write_47 {σ0 : zSt} {σ : zSt} {x2 : Int32} (h : (zQ [10, 45] [] [] []) σ0 σ) : zpc (fX8_write_47 σ x2) (fun r => (zQ [10, 45] [] [] []) σ0 (r.1)) := by
  unfold fX8_write_47
  exact zpc_bi (fg_fX2_read h) (fun σ11 v12 hσ11 => zpc_if (fun _ => fg_fX8_write_82 hσ11) (fun _ => zpc_if (fun _ => fg_fX8_write_82 hσ11) (fun _ => zpc_if (fun _ => fg_fX8_write_82 hσ11) (fun _ => zpc_if (fun _ => fg_fX8_write_108 hσ11) (fun _ => fg_fX8_write_108 hσ11)))))
theorem fg_fX8_write {σ0 : zSt} {σ : zSt} {x1 : Int32} (h : (zQ [10, 45] [] [] []) σ0 σ) : zpc (fX8_write σ x1) (fun r => (zQ [10, 45] [] [] []) σ0 (r.1)) := by
  unfold fX8_write
  exact zpc_bs (zQ.wi h rfl) (fun σ13 hσ13 => zpc_bs (zQ.wi hσ13 rfl) (fun σ14 hσ14 => zpc_bs (zQ.wi hσ14 rfl) (fun σ15 hσ15 => zpc_bs (zQ.wi hσ15 rfl) (fun σ16 hσ16 => zpc_ck (zpc_bs (zQ.wi hσ16 rfl) (fun σ17 hσ17 => zpc_bi (fg_fX8_take hσ17) (fun σ18 v19 hσ18 => zpc_if (fun _ => fg_fX8_write_47 hσ18) (fun _ => zpc_if (fun _ => fg_fX8_write_47 hσ18) (fun _ => fg_fX8_write_124 hσ18)))))))))
theorem fg_fX8_eightFrom_39 {σ0 : zSt} {k6 : zSt → Int32 → Int64 → Int32 → Option (zSt × Int64)} (hk6 : ∀ (y0 : zSt) (y1 : Int32) (y2 : Int64) (y3 : Int32), (zQ [10, 45] [] [] []) σ0 y0 → zpc (k6 y0 y1 y2 y3) (fun r => (zQ [10, 45] [] [] []) σ0 (r.1))) {σ : zSt} {x1 : Int32} {x2 : Int64} {x4 : Int32} {s0 : Int32} (h : (zQ [10, 45] [] [] []) σ0 σ) : zpc (fX8_eightFrom_39 k6 σ x1 x2 x4 s0) (fun r => (zQ [10, 45] [] [] []) σ0 (r.1)) := by
  unfold fX8_eightFrom_39
  exact zpc_bv (fun v1 _ => zpc_bv (fun v2 _ => hk6 _ _ _ _ h))
theorem fg_fX8_eightFrom_38 {σ0 : zSt} {k6 : zSt → Int32 → Int64 → Int32 → Option (zSt × Int64)} (hk6 : ∀ (y0 : zSt) (y1 : Int32) (y2 : Int64) (y3 : Int32), (zQ [10, 45] [] [] []) σ0 y0 → zpc (k6 y0 y1 y2 y3) (fun r => (zQ [10, 45] [] [] []) σ0 (r.1))) {σ : zSt} {x1 : Int32} {x2 : Int64} {x4 : Int32} (h : (zQ [10, 45] [] [] []) σ0 σ) : zpc (fX8_eightFrom_38 k6 σ x1 x2 x4) (fun r => (zQ [10, 45] [] [] []) σ0 (r.1)) := by
  unfold fX8_eightFrom_38
  exact fg_fX8_eightFrom_39 hk6 h
theorem fg_fX8_eightFrom_6_body {σ0 : zSt} {k6 : zSt → Int32 → Int64 → Int32 → Option (zSt × Int64)} (hk6 : ∀ (y0 : zSt) (y1 : Int32) (y2 : Int64) (y3 : Int32), (zQ [10, 45] [] [] []) σ0 y0 → zpc (k6 y0 y1 y2 y3) (fun r => (zQ [10, 45] [] [] []) σ0 (r.1))) {σ : zSt} {x1 : Int32} {x2 : Int64} {x4 : Int32} (h : (zQ [10, 45] [] [] []) σ0 σ) : zpc (fX8_eightFrom_6_body k6 σ x1 x2 x4) (fun r => (zQ [10, 45] [] [] []) σ0 (r.1)) := by
  unfold fX8_eightFrom_6_body
  exact zpc_if (fun _ => zpc_some h) (fun _ => zpc_if (fun _ => fg_fX8_eightFrom_38 hk6 h) (fun _ => zpc_if (fun _ => fg_fX8_eightFrom_38 hk6 h) (fun _ => zpc_ck (fg_fX8_eightFrom_39 hk6 h))))
theorem fg_fX8_eightFrom_6 {σ0 : zSt} : ∀ (n : Nat) (y0 : zSt) (y1 : Int32) (y2 : Int64) (y3 : Int32), (zQ [10, 45] [] [] []) σ0 y0 → zpc (fX8_eightFrom_6 n y0 y1 y2 y3) (fun r => (zQ [10, 45] [] [] []) σ0 (r.1)) := by
  intro n
  induction n with
  | zero => intro y0 y1 y2 y3 h; exact zpc_none
  | succ n ih => intro y0 y1 y2 y3 h; exact fg_fX8_eightFrom_6_body ih h
theorem fg_fX8_eightFrom {σ0 : zSt} {σ : zSt} {x1 : Int32} (h : (zQ [10, 45] [] [] []) σ0 σ) : zpc (fX8_eightFrom σ x1) (fun r => (zQ [10, 45] [] [] []) σ0 (r.1)) := by
  unfold fX8_eightFrom
  exact fg_fX8_eightFrom_6 _ _ _ _ _ h
theorem fg_fX9_has_27 {σ0 : zSt} {σ : zSt} {s0 : Int32} (h : (zQ [10, 45] [] [] []) σ0 σ) : zpc (fX9_has_27 σ s0) (fun r => (zQ [10, 45] [] [] []) σ0 (r.1)) := by
  unfold fX9_has_27
  exact zpc_ck (zpc_some h)
theorem fg_fX9_has_26 {σ0 : zSt} {σ : zSt} (h : (zQ [10, 45] [] [] []) σ0 σ) : zpc (fX9_has_26 σ) (fun r => (zQ [10, 45] [] [] []) σ0 (r.1)) := by
  unfold fX9_has_26
  exact fg_fX9_has_27 h
theorem fg_fX9_has_22 {σ0 : zSt} {σ : zSt} (h : (zQ [10, 45] [] [] []) σ0 σ) : zpc (fX9_has_22 σ) (fun r => (zQ [10, 45] [] [] []) σ0 (r.1)) := by
  unfold fX9_has_22
  exact fg_fX9_has_27 h
theorem fg_fX9_has_10 {σ0 : zSt} {σ : zSt} {x0 : Int32} (h : (zQ [10, 45] [] [] []) σ0 σ) : zpc (fX9_has_10 σ x0) (fun r => (zQ [10, 45] [] [] []) σ0 (r.1)) := by
  unfold fX9_has_10
  exact zpc_if (fun _ => fg_fX9_has_26 h) (fun _ => zpc_if (fun _ => fg_fX9_has_26 h) (fun _ => fg_fX9_has_22 h))
theorem fg_fX9_has {σ0 : zSt} {σ : zSt} {x0 : Int32} (h : (zQ [10, 45] [] [] []) σ0 σ) : zpc (fX9_has σ x0) (fun r => (zQ [10, 45] [] [] []) σ0 (r.1)) := by
  unfold fX9_has
  exact zpc_if (fun _ => fg_fX9_has_10 h) (fun _ => zpc_if (fun _ => fg_fX9_has_22 h) (fun _ => fg_fX9_has_10 h))
theorem fg_fX9_asks_54 {σ0 : zSt} {σ : zSt} {s0 : Int32} (h : (zQ [10, 45] [] [] []) σ0 σ) : zpc (fX9_asks_54 σ s0) (fun r => (zQ [10, 45] [] [] []) σ0 (r.1)) := by
  unfold fX9_asks_54
  exact zpc_ck (zpc_some h)
theorem fg_fX9_asks_53 {σ0 : zSt} {σ : zSt} (h : (zQ [10, 45] [] [] []) σ0 σ) : zpc (fX9_asks_53 σ) (fun r => (zQ [10, 45] [] [] []) σ0 (r.1)) := by
  unfold fX9_asks_53
  exact fg_fX9_asks_54 h
theorem fg_fX9_asks_49 {σ0 : zSt} {σ : zSt} (h : (zQ [10, 45] [] [] []) σ0 σ) : zpc (fX9_asks_49 σ) (fun r => (zQ [10, 45] [] [] []) σ0 (r.1)) := by
  unfold fX9_asks_49
  exact fg_fX9_asks_54 h
theorem fg_fX9_asks_26 {σ0 : zSt} {σ : zSt} (h : (zQ [10, 45] [] [] []) σ0 σ) : zpc (fX9_asks_26 σ) (fun r => (zQ [10, 45] [] [] []) σ0 (r.1)) := by
  unfold fX9_asks_26
  exact zpc_ck (zpc_if (fun _ => fg_fX9_asks_53 h) (fun _ => zpc_ck (zpc_if (fun _ => fg_fX9_asks_49 h) (fun _ => fg_fX9_asks_53 h))))
theorem fg_fX9_asks {σ0 : zSt} {σ : zSt} (h : (zQ [10, 45] [] [] []) σ0 σ) : zpc (fX9_asks σ) (fun r => (zQ [10, 45] [] [] []) σ0 (r.1)) := by
  unfold fX9_asks
  exact zpc_ck (zpc_if (fun _ => fg_fX9_asks_26 h) (fun _ => zpc_ck (zpc_if (fun _ => fg_fX9_asks_26 h) (fun _ => fg_fX9_asks_49 h))))
theorem fg_fX9_value_85 {σ0 : zSt} {σ : zSt} {x1 : Int32} (h : (zQ [10, 45] [] [] []) σ0 σ) : zpc (fX9_value_85 σ x1) (fun r => (zQ [10, 45] [] [] []) σ0 (r.1)) := by
  unfold fX9_value_85
  exact zpc_bi (fg_fX9_held h) (fun σ1 v2 hσ1 => zpc_some hσ1)
theorem fg_fX9_value_64 {σ0 : zSt} {σ : zSt} {s0 : Int32} (h : (zQ [10, 45] [] [] []) σ0 σ) : zpc (fX9_value_64 σ s0) (fun r => (zQ [10, 45] [] [] []) σ0 (r.1)) := by
  unfold fX9_value_64
  exact zpc_some h
theorem fg_fX9_value {σ0 : zSt} {σ : zSt} {x1 : Int32} (h : (zQ [10, 45] [] [] []) σ0 σ) : zpc (fX9_value σ x1) (fun r => (zQ [10, 45] [] [] []) σ0 (r.1)) := by
  unfold fX9_value
  exact zpc_if (fun _ => zpc_bi (fg_fX9_asks h) (fun σ3 v4 hσ3 => zpc_if (fun _ => fg_fX9_value_64 hσ3) (fun _ => fg_fX9_value_64 hσ3))) (fun _ => zpc_if (fun _ => fg_fX9_value_85 h) (fun _ => zpc_if (fun _ => fg_fX9_value_85 h) (fun _ => zpc_if (fun _ => fg_fX9_value_85 h) (fun _ => zpc_if (fun _ => fg_fX9_value_85 h) (fun _ => zpc_if (fun _ => zpc_bi (fg_fX9_mode h) (fun σ5 v6 hσ5 => zpc_some hσ5)) (fun _ => zpc_if (fun _ => zpc_bi (fg_fX9_height h) (fun σ7 v8 hσ7 => zpc_some hσ7)) (fun _ => zpc_if (fun _ => zpc_bi (fg_fX9_hCount h) (fun σ9 v10 hσ9 => zpc_some hσ9)) (fun _ => zpc_if (fun _ => zpc_bi (fg_fX9_vCount h) (fun σ11 v12 hσ11 => zpc_some hσ11)) (fun _ => fg_fX9_value_85 h)))))))))
theorem fg_fX9_eightFrom_6_body {σ0 : zSt} {k6 : zSt → Int32 → Int64 → Int32 → Option (zSt × Int64)} (hk6 : ∀ (y0 : zSt) (y1 : Int32) (y2 : Int64) (y3 : Int32), (zQ [10, 45] [] [] []) σ0 y0 → zpc (k6 y0 y1 y2 y3) (fun r => (zQ [10, 45] [] [] []) σ0 (r.1))) {σ : zSt} {x1 : Int32} {x2 : Int64} {x4 : Int32} (h : (zQ [10, 45] [] [] []) σ0 σ) : zpc (fX9_eightFrom_6_body k6 σ x1 x2 x4) (fun r => (zQ [10, 45] [] [] []) σ0 (r.1)) := by
  unfold fX9_eightFrom_6_body
  exact zpc_if (fun _ => zpc_some h) (fun _ => zpc_ck (zpc_bv (fun v1 _ => zpc_bv (fun v2 _ => hk6 _ _ _ _ h))))
theorem fg_fX9_eightFrom_6 {σ0 : zSt} : ∀ (n : Nat) (y0 : zSt) (y1 : Int32) (y2 : Int64) (y3 : Int32), (zQ [10, 45] [] [] []) σ0 y0 → zpc (fX9_eightFrom_6 n y0 y1 y2 y3) (fun r => (zQ [10, 45] [] [] []) σ0 (r.1)) := by
  intro n
  induction n with
  | zero => intro y0 y1 y2 y3 h; exact zpc_none
  | succ n ih => intro y0 y1 y2 y3 h; exact fg_fX9_eightFrom_6_body ih h
theorem fg_fX9_eightFrom {σ0 : zSt} {σ : zSt} {x1 : Int32} (h : (zQ [10, 45] [] [] []) σ0 σ) : zpc (fX9_eightFrom σ x1) (fun r => (zQ [10, 45] [] [] []) σ0 (r.1)) := by
  unfold fX9_eightFrom
  exact fg_fX9_eightFrom_6 _ _ _ _ _ h
theorem fg_fX10_has_37 {σ0 : zSt} {σ : zSt} {s0 : Int32} (h : (zQ [10, 45] [] [] []) σ0 σ) : zpc (fX10_has_37 σ s0) (fun r => (zQ [10, 45] [] [] []) σ0 (r.1)) := by
  unfold fX10_has_37
  exact zpc_ck (zpc_some h)
theorem fg_fX10_has_36 {σ0 : zSt} {σ : zSt} (h : (zQ [10, 45] [] [] []) σ0 σ) : zpc (fX10_has_36 σ) (fun r => (zQ [10, 45] [] [] []) σ0 (r.1)) := by
  unfold fX10_has_36
  exact fg_fX10_has_37 h
theorem fg_fX10_has_32 {σ0 : zSt} {σ : zSt} (h : (zQ [10, 45] [] [] []) σ0 σ) : zpc (fX10_has_32 σ) (fun r => (zQ [10, 45] [] [] []) σ0 (r.1)) := by
  unfold fX10_has_32
  exact fg_fX10_has_37 h
theorem fg_fX10_has_10 {σ0 : zSt} {σ : zSt} {x0 : Int32} (h : (zQ [10, 45] [] [] []) σ0 σ) : zpc (fX10_has_10 σ x0) (fun r => (zQ [10, 45] [] [] []) σ0 (r.1)) := by
  unfold fX10_has_10
  exact zpc_if (fun _ => fg_fX10_has_36 h) (fun _ => zpc_if (fun _ => fg_fX10_has_36 h) (fun _ => zpc_if (fun _ => fg_fX10_has_36 h) (fun _ => fg_fX10_has_32 h)))
theorem fg_fX10_has {σ0 : zSt} {σ : zSt} {x0 : Int32} (h : (zQ [10, 45] [] [] []) σ0 σ) : zpc (fX10_has σ x0) (fun r => (zQ [10, 45] [] [] []) σ0 (r.1)) := by
  unfold fX10_has
  exact zpc_if (fun _ => fg_fX10_has_10 h) (fun _ => zpc_if (fun _ => fg_fX10_has_32 h) (fun _ => fg_fX10_has_10 h))
theorem fg_fX11_tell {σ0 : zSt} {σ : zSt} {x1 : Int32} (h : (zQ [10, 45] [] [] []) σ0 σ) : zpc (fX11_tell σ x1) (fun r => (zQ [10, 45] [] [] []) σ0 (r.1)) := by
  unfold fX11_tell
  exact zpc_bi (fg_fX8_write h) (fun σ1 v2 hσ1 => zpc_some hσ1)
theorem fg_fX11_peek {σ0 : zSt} {σ : zSt} {x1 : Int32} (h : (zQ [10, 45] [] [] []) σ0 σ) : zpc (fX11_peek σ x1) (fun r => (zQ [10, 45] [] [] []) σ0 (r.1)) := by
  unfold fX11_peek
  exact zpc_bi (fg_fX2_read h) (fun σ1 v2 hσ1 => zpc_some hσ1)
theorem fg_fX11_video {σ0 : zSt} {σ : zSt} {x1 : Int32} (h : (zQ [10, 45] [] [] []) σ0 σ) : zpc (fX11_video σ x1) (fun r => (zQ [10, 45] [] [] []) σ0 (r.1)) := by
  unfold fX11_video
  exact zpc_bll (fg_fX9_eightFrom h) (fun σ1 v2 hσ1 => zpc_some hσ1)
theorem fg_fX11_trace {σ0 : zSt} {σ : zSt} {x1 : Int32} (h : (zQ [10, 45] [] [] []) σ0 σ) : zpc (fX11_trace σ x1) (fun r => (zQ [10, 45] [] [] []) σ0 (r.1)) := by
  unfold fX11_trace
  exact zpc_bi (fg_fX1_stepBack h) (fun σ1 v2 hσ1 => zpc_some hσ1)
theorem fg_fX11_card_10 {σ0 : zSt} {σ : zSt} (h : (zQ [10, 45] [] [] []) σ0 σ) : zpc (fX11_card_10 σ) (fun r => (zQ [10, 45] [] [] []) σ0 (zRis r)) := by
  unfold fX11_card_10
  exact zpc_some h
theorem fg_fX11_card {σ0 : zSt} {σ : zSt} {x1 : Int32} (h : (zQ [10, 45] [] [] []) σ0 σ) : zpc (fX11_card σ x1) (fun r => (zQ [10, 45] [] [] []) σ0 (zRis r)) := by
  unfold fX11_card
  exact zpc_if (fun _ => fg_fX11_card_10 h) (fun _ => zpc_if (fun _ => zpc_bi (fg_fX2_aboutCard h) (fun σ1 v2 hσ1 => zpc_some hσ1)) (fun _ => fg_fX11_card_10 h))
theorem fg_fX11_text_15 {σ0 : zSt} {σ : zSt} (h : (zQ [10, 45] [] [] []) σ0 σ) : zpc (fX11_text_15 σ) (fun r => (zQ [10, 45] [] [] []) σ0 (zRls r)) := by
  unfold fX11_text_15
  exact zpc_some h
theorem fg_fX11_text {σ0 : zSt} {σ : zSt} {x1 : Int32} (h : (zQ [10, 45] [] [] []) σ0 σ) : zpc (fX11_text σ x1) (fun r => (zQ [10, 45] [] [] []) σ0 (zRls r)) := by
  unfold fX11_text
  exact zpc_if (fun _ => fg_fX11_text_15 h) (fun _ => zpc_if (fun _ => zpc_bll (fg_fX8_eightFrom h) (fun σ1 v2 hσ1 => zpc_some hσ1)) (fun _ => fg_fX11_text_15 h))
theorem fg_fX11_register_10 {σ0 : zSt} {σ : zSt} (h : (zQ [10, 45] [] [] []) σ0 σ) : zpc (fX11_register_10 σ) (fun r => (zQ [10, 45] [] [] []) σ0 (zRis r)) := by
  unfold fX11_register_10
  exact zpc_some h
theorem fg_fX11_register {σ0 : zSt} {σ : zSt} {x1 : Int32} (h : (zQ [10, 45] [] [] []) σ0 σ) : zpc (fX11_register σ x1) (fun r => (zQ [10, 45] [] [] []) σ0 (zRis r)) := by
  unfold fX11_register
  exact zpc_if (fun _ => fg_fX11_register_10 h) (fun _ => zpc_if (fun _ => zpc_bi (fg_fX5_value h) (fun σ1 v2 hσ1 => zpc_some hσ1)) (fun _ => fg_fX11_register_10 h))
theorem fg_fX11_battery_11 {σ0 : zSt} {σ : zSt} (h : (zQ [10, 45] [] [] []) σ0 σ) : zpc (fX11_battery_11 σ) (fun r => (zQ [10, 45] [] [] []) σ0 (zRis r)) := by
  unfold fX11_battery_11
  exact zpc_some h
theorem fg_fX11_battery {σ0 : zSt} {σ : zSt} {x1 : Int32} (h : (zQ [10, 45] [] [] []) σ0 σ) : zpc (fX11_battery σ x1) (fun r => (zQ [10, 45] [] [] []) σ0 (zRis r)) := by
  unfold fX11_battery
  exact zpc_if (fun _ => fg_fX11_battery_11 h) (fun _ => zpc_if (fun _ => zpc_bi (fg_fX2_batteryByte h) (fun σ1 v2 hσ1 => zpc_some hσ1)) (fun _ => fg_fX11_battery_11 h))
theorem fg_fX11_chip {σ0 : zSt} {σ : zSt} {x1 : Int32} (h : (zQ [10, 45] [] [] []) σ0 σ) : zpc (fX11_chip σ x1) (fun r => (zQ [10, 45] [] [] []) σ0 (zRis r)) := by
  unfold fX11_chip
  exact zpc_bi (fg_fX9_has h) (fun σ1 v2 hσ1 => zpc_if (fun _ => zpc_some hσ1) (fun _ => zpc_bi (fg_fX9_value hσ1) (fun σ3 v4 hσ3 => zpc_some hσ3)))
theorem fg_fX11_dot_30 {σ0 : zSt} {σ : zSt} (h : (zQ [10, 45] [] [] []) σ0 σ) : zpc (fX11_dot_30 σ) (fun r => (zQ [10, 45] [] [] []) σ0 (zRis r)) := by
  unfold fX11_dot_30
  exact zpc_some h
theorem fg_fX11_dot {σ0 : zSt} {σ : zSt} {x1 : Int32} {x2 : Int32} (h : (zQ [10, 45] [] [] []) σ0 σ) : zpc (fX11_dot σ x1 x2) (fun r => (zQ [10, 45] [] [] []) σ0 (zRis r)) := by
  unfold fX11_dot
  exact zpc_if (fun _ => fg_fX11_dot_30 h) (fun _ => zpc_bi (fg_fX3_width h) (fun σ1 v2 hσ1 => zpc_if (fun _ => fg_fX11_dot_30 hσ1) (fun _ => zpc_if (fun _ => fg_fX11_dot_30 hσ1) (fun _ => zpc_bi (fg_fX3_height hσ1) (fun σ3 v4 hσ3 => zpc_if (fun _ => zpc_bi (fg_fX3_dotAt hσ3) (fun σ5 v6 hσ5 => zpc_some hσ5)) (fun _ => fg_fX11_dot_30 hσ3))))))
theorem fg_fX11_row_15 {σ0 : zSt} {σ : zSt} (h : (zQ [10, 45] [] [] []) σ0 σ) : zpc (fX11_row_15 σ) (fun r => (zQ [10, 45] [] [] []) σ0 (zRis r)) := by
  unfold fX11_row_15
  exact zpc_some h
theorem fg_fX11_row {σ0 : zSt} {σ : zSt} {x1 : Int32} (h : (zQ [10, 45] [] [] []) σ0 σ) : zpc (fX11_row σ x1) (fun r => (zQ [10, 45] [] [] []) σ0 (zRis r)) := by
  unfold fX11_row
  exact zpc_if (fun _ => fg_fX11_row_15 h) (fun _ => zpc_bi (fg_fX3_height h) (fun σ1 v2 hσ1 => zpc_if (fun _ => zpc_bi (fg_fX3_sumOfLine hσ1) (fun σ3 v4 hσ3 => zpc_some hσ3)) (fun _ => fg_fX11_row_15 hσ1)))
theorem fg_fX11_wave {σ0 : zSt} {σ : zSt} {x1 : Int32} (h : (zQ [10, 45] [] [] []) σ0 σ) : zpc (fX11_wave σ x1) (fun r => (zQ [10, 45] [] [] []) σ0 (zRis r)) := by
  unfold fX11_wave
  exact zpc_bi (fg_fX10_has h) (fun σ1 v2 hσ1 => zpc_if (fun _ => zpc_some hσ1) (fun _ => zpc_bi (fg_fX10_value hσ1) (fun σ3 v4 hσ3 => zpc_some hσ3)))
theorem fg_fX11_sound_10 {σ0 : zSt} {σ : zSt} (h : (zQ [10, 45] [] [] []) σ0 σ) : zpc (fX11_sound_10 σ) (fun r => (zQ [10, 45] [] [] []) σ0 (zRis r)) := by
  unfold fX11_sound_10
  exact zpc_some h
theorem fg_fX11_sound {σ0 : zSt} {σ : zSt} {x1 : Int32} (h : (zQ [10, 45] [] [] []) σ0 σ) : zpc (fX11_sound σ x1) (fun r => (zQ [10, 45] [] [] []) σ0 (zRis r)) := by
  unfold fX11_sound
  exact zpc_if (fun _ => fg_fX11_sound_10 h) (fun _ => zpc_if (fun _ => zpc_bi (fg_fX7_value h) (fun σ1 v2 hσ1 => zpc_some hσ1)) (fun _ => fg_fX11_sound_10 h))
theorem fg_fX11_look_10 {σ0 : zSt} {σ : zSt} (h : (zQ [10, 45] [] [] []) σ0 σ) : zpc (fX11_look_10 σ) (fun r => (zQ [10, 45] [] [] []) σ0 (zRls r)) := by
  unfold fX11_look_10
  exact zpc_some h
theorem fg_fX11_look_193 {σ0 : zSt} {σ : zSt} {x1 : Int32} (h : (zQ [10, 45] [] [] []) σ0 σ) : zpc (fX11_look_193 σ x1) (fun r => (zQ [10, 45] [] [] []) σ0 (zRls r)) := by
  unfold fX11_look_193
  exact zpc_bi (fg_fX2_page h) (fun σ1 v2 hσ1 => zpc_some hσ1)
theorem fg_fX11_look_250 {σ0 : zSt} {σ : zSt} {s0 : Int64} (h : (zQ [10, 45] [] [] []) σ0 σ) : zpc (fX11_look_250 σ s0) (fun r => (zQ [10, 45] [] [] []) σ0 (zRls r)) := by
  unfold fX11_look_250
  exact zpc_some h
theorem fg_fX11_look {σ0 : zSt} {σ : zSt} {x1 : Int32} (h : (zQ [10, 45] [] [] []) σ0 σ) : zpc (fX11_look σ x1) (fun r => (zQ [10, 45] [] [] []) σ0 (zRls r)) := by
  unfold fX11_look
  exact zpc_if (fun _ => fg_fX11_look_10 h) (fun _ => zpc_if (fun _ => zpc_if (fun _ => zpc_bll (fg_fX0_count h) (fun σ3 v4 hσ3 => zpc_some hσ3)) (fun _ => zpc_if (fun _ => zpc_bll (fg_fX0_count h) (fun σ5 v6 hσ5 => zpc_some hσ5)) (fun _ => zpc_if (fun _ => zpc_bll (fg_fX0_count h) (fun σ7 v8 hσ7 => zpc_some hσ7)) (fun _ => zpc_if (fun _ => zpc_bi (fg_fX6_size_k11 h) (fun σ9 v10 hσ9 => zpc_some hσ9)) (fun _ => zpc_if (fun _ => zpc_bll (fg_fX0_count h) (fun σ11 v12 hσ11 => zpc_some hσ11)) (fun _ => zpc_if (fun _ => zpc_some h) (fun _ => zpc_if (fun _ => zpc_bi (fg_fX1_stopCount h) (fun σ13 v14 hσ13 => zpc_some hσ13)) (fun _ => zpc_if (fun _ => zpc_bi (fg_fX2_cardSize h) (fun σ15 v16 hσ15 => zpc_some hσ15)) (fun _ => zpc_if (fun _ => zpc_bi (fg_fX2_page h) (fun σ17 v18 hσ17 => zpc_some hσ17)) (fun _ => zpc_if (fun _ => fg_fX11_look_193 h) (fun _ => zpc_if (fun _ => fg_fX11_look_193 h) (fun _ => zpc_if (fun _ => fg_fX11_look_193 h) (fun _ => zpc_if (fun _ => zpc_bi (fg_fX5_value h) (fun σ19 v20 hσ19 => zpc_some hσ19)) (fun _ => zpc_if (fun _ => zpc_bi (fg_fX4_value h) (fun σ21 v22 hσ21 => zpc_some hσ21)) (fun _ => zpc_if (fun _ => zpc_bi (fg_fX4_value h) (fun σ23 v24 hσ23 => zpc_some hσ23)) (fun _ => zpc_if (fun _ => zpc_if (fun _ => fg_fX11_look_250 h) (fun _ => fg_fX11_look_250 h)) (fun _ => zpc_if (fun _ => zpc_bi (fg_fX1_plansWaiting h) (fun σ25 v26 hσ25 => zpc_some hσ25)) (fun _ => zpc_if (fun _ => zpc_bi (fg_fX6_size_k12 h) (fun σ27 v28 hσ27 => zpc_some hσ27)) (fun _ => zpc_some h))))))))))))))))))) (fun _ => fg_fX11_look_10 h))
theorem fG_fX12_fails_10 {σ0 : zSt} {σ : zSt} {x1 : Int32} {s0 : Int32} (h : (zQ [26] [(0, 0, 0), (0, 39, 49)] [] []) σ0 σ) : zpc (fX12_fails_10 σ x1 s0) (fun r => (zQ [26] [(0, 0, 0), (0, 39, 49)] [] []) σ0 (r.1)) := by
  unfold fX12_fails_10
  exact zpc_bs (zQ.wi h rfl) (fun σ1 hσ1 => zpc_ck (zpc_some hσ1))
theorem fG_fX12_fails {σ0 : zSt} {σ : zSt} {x1 : Int32} {x2 : Int32} (h : (zQ [26] [(0, 0, 0), (0, 39, 49)] [] []) σ0 σ) : zpc (fX12_fails σ x1 x2) (fun r => (zQ [26] [(0, 0, 0), (0, 39, 49)] [] []) σ0 (r.1)) := by
  unfold fX12_fails
  exact zpc_if (fun _ => fG_fX12_fails_10 h) (fun _ => fG_fX12_fails_10 h)
theorem fG_fX12_within_18 {σ0 : zSt} {σ : zSt} {s0 : Int32} (h : (zQ [26] [(0, 0, 0), (0, 39, 49)] [] []) σ0 σ) : zpc (fX12_within_18 σ s0) (fun r => (zQ [26] [(0, 0, 0), (0, 39, 49)] [] []) σ0 (r.1)) := by
  unfold fX12_within_18
  exact zpc_ck (zpc_some h)
theorem fG_fX12_within_17 {σ0 : zSt} {σ : zSt} (h : (zQ [26] [(0, 0, 0), (0, 39, 49)] [] []) σ0 σ) : zpc (fX12_within_17 σ) (fun r => (zQ [26] [(0, 0, 0), (0, 39, 49)] [] []) σ0 (r.1)) := by
  unfold fX12_within_17
  exact fG_fX12_within_18 h
theorem fG_fX12_within {σ0 : zSt} {σ : zSt} {x0 : Int64} {x2 : Int64} {x4 : Int64} (h : (zQ [26] [(0, 0, 0), (0, 39, 49)] [] []) σ0 σ) : zpc (fX12_within σ x0 x2 x4) (fun r => (zQ [26] [(0, 0, 0), (0, 39, 49)] [] []) σ0 (r.1)) := by
  unfold fX12_within
  exact zpc_if (fun _ => fG_fX12_within_17 h) (fun _ => zpc_if (fun _ => fG_fX12_within_17 h) (fun _ => fG_fX12_within_18 h))
theorem fG_fX12_bytesAt_7_body {σ0 : zSt} {k7 : zSt → Int32 → Int32 → Int32 → Option (zSt × Int32)} (hk7 : ∀ (y0 : zSt) (y1 : Int32) (y2 : Int32) (y3 : Int32), (zQ [26] [(0, 0, 0), (0, 39, 49)] [] []) σ0 y0 → zpc (k7 y0 y1 y2 y3) (fun r => (zQ [26] [(0, 0, 0), (0, 39, 49)] [] []) σ0 (r.1))) {σ : zSt} {x1 : Int32} {x3 : Int32} {x4 : Int32} (h : (zQ [26] [(0, 0, 0), (0, 39, 49)] [] []) σ0 σ) : zpc (fX12_bytesAt_7_body k7 σ x1 x3 x4) (fun r => (zQ [26] [(0, 0, 0), (0, 39, 49)] [] []) σ0 (r.1)) := by
  unfold fX12_bytesAt_7_body
  exact zpc_if (fun _ => zpc_some h) (fun _ => zpc_ck (zpc_bv (fun v1 _ => zpc_bv (fun v2 _ => hk7 _ _ _ _ h))))
theorem fG_fX12_bytesAt_7 {σ0 : zSt} : ∀ (n : Nat) (y0 : zSt) (y1 : Int32) (y2 : Int32) (y3 : Int32), (zQ [26] [(0, 0, 0), (0, 39, 49)] [] []) σ0 y0 → zpc (fX12_bytesAt_7 n y0 y1 y2 y3) (fun r => (zQ [26] [(0, 0, 0), (0, 39, 49)] [] []) σ0 (r.1)) := by
  intro n
  induction n with
  | zero => intro y0 y1 y2 y3 h; exact zpc_none
  | succ n ih => intro y0 y1 y2 y3 h; exact fG_fX12_bytesAt_7_body ih h
theorem fG_fX12_bytesAt {σ0 : zSt} {σ : zSt} {x1 : Int32} {x2 : Int32} (h : (zQ [26] [(0, 0, 0), (0, 39, 49)] [] []) σ0 σ) : zpc (fX12_bytesAt σ x1 x2) (fun r => (zQ [26] [(0, 0, 0), (0, 39, 49)] [] []) σ0 (r.1)) := by
  unfold fX12_bytesAt
  exact zpc_bv (fun v3 _ => fG_fX12_bytesAt_7 _ _ _ _ _ h)
theorem fG_fX12_tens {σ0 : zSt} {σ : zSt} {x1 : Int32} (h : (zQ [26] [(0, 0, 0), (0, 39, 49)] [] []) σ0 σ) : zpc (fX12_tens σ x1) (fun r => (zQ [26] [(0, 0, 0), (0, 39, 49)] [] []) σ0 (r.1)) := by
  unfold fX12_tens
  exact zpc_ck (zpc_ck (zpc_some h))
theorem fG_fX12_card_59 {σ0 : zSt} {σ : zSt} {s0 : Int32} (h : (zQ [26] [(0, 0, 0), (0, 39, 49)] [] []) σ0 σ) : zpc (fX12_card_59 σ s0) (fun r => (zQ [26] [(0, 0, 0), (0, 39, 49)] [] []) σ0 (r.1)) := by
  unfold fX12_card_59
  exact zpc_some h
theorem fG_fX12_card_18 {σ0 : zSt} {σ : zSt} {x1 : Int32} {s0 : Int32} (h : (zQ [26] [(0, 0, 0), (0, 39, 49)] [] []) σ0 σ) : zpc (fX12_card_18 σ x1 s0) (fun r => (zQ [26] [(0, 0, 0), (0, 39, 49)] [] []) σ0 (r.1)) := by
  unfold fX12_card_18
  exact zpc_bi (fG_fX12_fails h) (fun σ1 v2 hσ1 => zpc_if (fun _ => zpc_if (fun _ => zpc_if (fun _ => zpc_if (fun _ => zpc_bi (fG_fX12_tens hσ1) (fun σ3 v4 hσ3 => zpc_bi (fG_fX12_tens hσ3) (fun σ5 v6 hσ5 => zpc_ck (zpc_some hσ5)))) (fun _ => zpc_if (fun _ => zpc_ck (zpc_some hσ1)) (fun _ => zpc_if (fun _ => zpc_ck (zpc_some hσ1)) (fun _ => zpc_if (fun _ => zpc_bi (fG_fX12_bytesAt hσ1) (fun σ7 v8 hσ7 => zpc_some hσ7)) (fun _ => zpc_some hσ1))))) (fun _ => zpc_some hσ1)) (fun _ => zpc_if (fun _ => fG_fX12_card_59 hσ1) (fun _ => zpc_if (fun _ => fG_fX12_card_59 hσ1) (fun _ => fG_fX12_card_59 hσ1)))) (fun _ => zpc_some hσ1))
theorem fG_fX12_card {σ0 : zSt} {σ : zSt} {x1 : Int32} (h : (zQ [26] [(0, 0, 0), (0, 39, 49)] [] []) σ0 σ) : zpc (fX12_card σ x1) (fun r => (zQ [26] [(0, 0, 0), (0, 39, 49)] [] []) σ0 (r.1)) := by
  unfold fX12_card
  exact zpc_bi (fG_fX12_within h) (fun σ9 v10 hσ9 => zpc_if (fun _ => fG_fX12_card_18 hσ9) (fun _ => fG_fX12_card_18 hσ9))
theorem fG_fX12_ofBank {σ0 : zSt} {σ : zSt} {x1 : Int32} {x2 : Int32} (h : (zQ [26] [(0, 0, 0), (0, 39, 49)] [] []) σ0 σ) : zpc (fX12_ofBank σ x1 x2) (fun r => (zQ [26] [(0, 0, 0), (0, 39, 49)] [] []) σ0 (r.1)) := by
  unfold fX12_ofBank
  exact zpc_ck (zpc_ck (zpc_ck (zpc_some h)))
theorem fG_fX12_isBattery_38 {σ0 : zSt} {σ : zSt} {s0 : Int32} (h : (zQ [26] [(0, 0, 0), (0, 39, 49)] [] []) σ0 σ) : zpc (fX12_isBattery_38 σ s0) (fun r => (zQ [26] [(0, 0, 0), (0, 39, 49)] [] []) σ0 (r.1)) := by
  unfold fX12_isBattery_38
  exact zpc_ck (zpc_some h)
theorem fG_fX12_isBattery_37 {σ0 : zSt} {σ : zSt} (h : (zQ [26] [(0, 0, 0), (0, 39, 49)] [] []) σ0 σ) : zpc (fX12_isBattery_37 σ) (fun r => (zQ [26] [(0, 0, 0), (0, 39, 49)] [] []) σ0 (r.1)) := by
  unfold fX12_isBattery_37
  exact fG_fX12_isBattery_38 h
theorem fG_fX12_isBattery {σ0 : zSt} {σ : zSt} {x1 : Int32} (h : (zQ [26] [(0, 0, 0), (0, 39, 49)] [] []) σ0 σ) : zpc (fX12_isBattery σ x1) (fun r => (zQ [26] [(0, 0, 0), (0, 39, 49)] [] []) σ0 (r.1)) := by
  unfold fX12_isBattery
  exact zpc_if (fun _ => zpc_ck (zpc_if (fun _ => fG_fX12_isBattery_37 h) (fun _ => zpc_if (fun _ => fG_fX12_isBattery_37 h) (fun _ => zpc_if (fun _ => fG_fX12_isBattery_37 h) (fun _ => fG_fX12_isBattery_38 h))))) (fun _ => fG_fX12_isBattery_37 h)
theorem fG_fX12_batteryAt_23 {σ0 : zSt} {σ : zSt} {s0 : Int32} {s1 : Int32} (h : (zQ [26] [(0, 0, 0), (0, 39, 49)] [] []) σ0 σ) : zpc (fX12_batteryAt_23 σ s0 s1) (fun r => (zQ [26] [(0, 0, 0), (0, 39, 49)] [] []) σ0 (r.1)) := by
  unfold fX12_batteryAt_23
  exact zpc_some h
theorem fG_fX12_batteryAt {σ0 : zSt} {σ : zSt} {x1 : Int32} (h : (zQ [26] [(0, 0, 0), (0, 39, 49)] [] []) σ0 σ) : zpc (fX12_batteryAt σ x1) (fun r => (zQ [26] [(0, 0, 0), (0, 39, 49)] [] []) σ0 (r.1)) := by
  unfold fX12_batteryAt
  exact zpc_ck (zpc_if (fun _ => fG_fX12_batteryAt_23 h) (fun _ => fG_fX12_batteryAt_23 h))
theorem fG_fX12_read_80 {σ0 : zSt} {σ : zSt} {s0 : Int32} (h : (zQ [26] [(0, 0, 0), (0, 39, 49)] [] []) σ0 σ) : zpc (fX12_read_80 σ s0) (fun r => (zQ [26] [(0, 0, 0), (0, 39, 49)] [] []) σ0 (r.1)) := by
  unfold fX12_read_80
  exact zpc_some h
theorem fG_fX12_read_111 {σ0 : zSt} {σ : zSt} {x2 : Int32} {s0 : Int32} (h : (zQ [26] [(0, 0, 0), (0, 39, 49)] [] []) σ0 σ) : zpc (fX12_read_111 σ x2 s0) (fun r => (zQ [26] [(0, 0, 0), (0, 39, 49)] [] []) σ0 (r.1)) := by
  unfold fX12_read_111
  exact zpc_bi (fG_fX12_ofBank h) (fun σ1 v2 hσ1 => zpc_some hσ1)
theorem fG_fX12_read_138 {σ0 : zSt} {σ : zSt} {x2 : Int32} (h : (zQ [26] [(0, 0, 0), (0, 39, 49)] [] []) σ0 σ) : zpc (fX12_read_138 σ x2) (fun r => (zQ [26] [(0, 0, 0), (0, 39, 49)] [] []) σ0 (r.1)) := by
  unfold fX12_read_138
  exact zpc_ck (zpc_ck (zpc_bi (fG_fX12_ofBank h) (fun σ3 v4 hσ3 => zpc_some hσ3)))
theorem fG_fX12_read {σ0 : zSt} {σ : zSt} {x1 : Int32} (h : (zQ [26] [(0, 0, 0), (0, 39, 49)] [] []) σ0 σ) : zpc (fX12_read σ x1) (fun r => (zQ [26] [(0, 0, 0), (0, 39, 49)] [] []) σ0 (r.1)) := by
  unfold fX12_read
  exact zpc_bv (fun v5 _ => zpc_if (fun _ => zpc_bi (fG_fX12_isBattery h) (fun σ6 v7 hσ6 => zpc_if (fun _ => zpc_if (fun _ => zpc_if (fun _ => fG_fX12_read_80 hσ6) (fun _ => zpc_ck (fG_fX12_read_80 hσ6))) (fun _ => zpc_if (fun _ => zpc_if (fun _ => zpc_ck (fG_fX12_read_111 hσ6)) (fun _ => zpc_ck (fG_fX12_read_111 hσ6))) (fun _ => zpc_if (fun _ => zpc_if (fun _ => fG_fX12_read_138 hσ6) (fun _ => zpc_bi (fG_fX12_ofBank hσ6) (fun σ8 v9 hσ8 => zpc_some hσ8))) (fun _ => fG_fX12_read_138 hσ6)))) (fun _ => zpc_bi (fG_fX12_batteryAt hσ6) (fun σ10 v11 hσ10 => zpc_ck (zpc_some hσ10))))) (fun _ => zpc_ck (zpc_ck (zpc_some h))))
theorem fG_fX12_signed_16 {σ0 : zSt} {σ : zSt} {s0 : Int32} (h : (zQ [26] [(0, 0, 0), (0, 39, 49)] [] []) σ0 σ) : zpc (fX12_signed_16 σ s0) (fun r => (zQ [26] [(0, 0, 0), (0, 39, 49)] [] []) σ0 (r.1)) := by
  unfold fX12_signed_16
  exact zpc_some h
theorem fG_fX12_signed {σ0 : zSt} {σ : zSt} {x0 : Int32} (h : (zQ [26] [(0, 0, 0), (0, 39, 49)] [] []) σ0 σ) : zpc (fX12_signed σ x0) (fun r => (zQ [26] [(0, 0, 0), (0, 39, 49)] [] []) σ0 (r.1)) := by
  unfold fX12_signed
  exact zpc_if (fun _ => fG_fX12_signed_16 h) (fun _ => fG_fX12_signed_16 h)
theorem fG_fX12_bit {σ0 : zSt} {σ : zSt} {x1 : Int32} {x2 : Int32} (h : (zQ [26] [(0, 0, 0), (0, 39, 49)] [] []) σ0 σ) : zpc (fX12_bit σ x1 x2) (fun r => (zQ [26] [(0, 0, 0), (0, 39, 49)] [] []) σ0 (r.1)) := by
  unfold fX12_bit
  exact zpc_ck (zpc_some h)
theorem fG_fX12_mode_57 {σ0 : zSt} {σ : zSt} {s0 : Int32} (h : (zQ [26] [(0, 0, 0), (0, 39, 49)] [] []) σ0 σ) : zpc (fX12_mode_57 σ s0) (fun r => (zQ [26] [(0, 0, 0), (0, 39, 49)] [] []) σ0 (r.1)) := by
  unfold fX12_mode_57
  exact zpc_some h
theorem fG_fX12_mode {σ0 : zSt} {σ : zSt} (h : (zQ [26] [(0, 0, 0), (0, 39, 49)] [] []) σ0 σ) : zpc (fX12_mode σ) (fun r => (zQ [26] [(0, 0, 0), (0, 39, 49)] [] []) σ0 (r.1)) := by
  unfold fX12_mode
  exact zpc_bi (fG_fX12_bit h) (fun σ1 v2 hσ1 => zpc_if (fun _ => fG_fX12_mode_57 hσ1) (fun _ => zpc_bi (fG_fX12_bit hσ1) (fun σ3 v4 hσ3 => zpc_if (fun _ => fG_fX12_mode_57 hσ3) (fun _ => zpc_bi (fG_fX12_bit hσ3) (fun σ5 v6 hσ5 => zpc_if (fun _ => fG_fX12_mode_57 hσ5) (fun _ => zpc_bi (fG_fX12_bit hσ5) (fun σ7 v8 hσ7 => zpc_if (fun _ => fG_fX12_mode_57 hσ7) (fun _ => fG_fX12_mode_57 hσ7))))))))
theorem fG_fX12_height_32 {σ0 : zSt} {σ : zSt} (h : (zQ [26] [(0, 0, 0), (0, 39, 49)] [] []) σ0 σ) : zpc (fX12_height_32 σ) (fun r => (zQ [26] [(0, 0, 0), (0, 39, 49)] [] []) σ0 (r.1)) := by
  unfold fX12_height_32
  exact zpc_some h
theorem fG_fX12_height_55 {σ0 : zSt} {σ : zSt} {s0 : Int32} (h : (zQ [26] [(0, 0, 0), (0, 39, 49)] [] []) σ0 σ) : zpc (fX12_height_55 σ s0) (fun r => (zQ [26] [(0, 0, 0), (0, 39, 49)] [] []) σ0 (r.1)) := by
  unfold fX12_height_55
  exact zpc_some h
theorem fG_fX12_height {σ0 : zSt} {σ : zSt} (h : (zQ [26] [(0, 0, 0), (0, 39, 49)] [] []) σ0 σ) : zpc (fX12_height σ) (fun r => (zQ [26] [(0, 0, 0), (0, 39, 49)] [] []) σ0 (r.1)) := by
  unfold fX12_height
  exact zpc_bi (fG_fX12_mode h) (fun σ1 v2 hσ1 => zpc_if (fun _ => zpc_bi (fG_fX12_bit hσ1) (fun σ3 v4 hσ3 => zpc_if (fun _ => fG_fX12_height_32 hσ3) (fun _ => zpc_bi (fG_fX12_bit hσ3) (fun σ5 v6 hσ5 => zpc_bi (fG_fX12_bit hσ5) (fun σ7 v8 hσ7 => zpc_if (fun _ => fG_fX12_height_32 hσ7) (fun _ => zpc_bi (fG_fX12_bit hσ7) (fun σ9 v10 hσ9 => zpc_if (fun _ => fG_fX12_height_55 hσ9) (fun _ => fG_fX12_height_55 hσ9)))))))) (fun _ => fG_fX12_height_32 hσ1))
theorem fG_fX12_vCount_109 {σ0 : zSt} {σ : zSt} {s0 : Int32} (h : (zQ [26] [(0, 0, 0), (0, 39, 49)] [] []) σ0 σ) : zpc (fX12_vCount_109 σ s0) (fun r => (zQ [26] [(0, 0, 0), (0, 39, 49)] [] []) σ0 (r.1)) := by
  unfold fX12_vCount_109
  exact zpc_some h
theorem fG_fX12_vCount_108 {σ0 : zSt} {σ : zSt} {s0 : Int32} {s1 : Int32} (h : (zQ [26] [(0, 0, 0), (0, 39, 49)] [] []) σ0 σ) : zpc (fX12_vCount_108 σ s0 s1) (fun r => (zQ [26] [(0, 0, 0), (0, 39, 49)] [] []) σ0 (r.1)) := by
  unfold fX12_vCount_108
  exact fG_fX12_vCount_109 h
theorem fG_fX12_vCount_82 {σ0 : zSt} {σ : zSt} {x1 : Int32} {s0 : Int32} (h : (zQ [26] [(0, 0, 0), (0, 39, 49)] [] []) σ0 σ) : zpc (fX12_vCount_82 σ x1 s0) (fun r => (zQ [26] [(0, 0, 0), (0, 39, 49)] [] []) σ0 (r.1)) := by
  unfold fX12_vCount_82
  exact zpc_if (fun _ => zpc_if (fun _ => fG_fX12_vCount_108 h) (fun _ => fG_fX12_vCount_108 h)) (fun _ => fG_fX12_vCount_109 h)
theorem fG_fX12_vCount {σ0 : zSt} {σ : zSt} (h : (zQ [26] [(0, 0, 0), (0, 39, 49)] [] []) σ0 σ) : zpc (fX12_vCount σ) (fun r => (zQ [26] [(0, 0, 0), (0, 39, 49)] [] []) σ0 (r.1)) := by
  unfold fX12_vCount
  exact zpc_ck (zpc_bv (fun v1 _ => zpc_bi (fG_fX12_height h) (fun σ2 v3 hσ2 => zpc_if (fun _ => zpc_if (fun _ => fG_fX12_vCount_82 hσ2) (fun _ => zpc_if (fun _ => fG_fX12_vCount_82 hσ2) (fun _ => fG_fX12_vCount_82 hσ2))) (fun _ => zpc_if (fun _ => fG_fX12_vCount_82 hσ2) (fun _ => zpc_if (fun _ => fG_fX12_vCount_82 hσ2) (fun _ => fG_fX12_vCount_82 hσ2))))))
theorem fG_fX12_video8 {σ0 : zSt} {σ : zSt} {x1 : Int32} (h : (zQ [26] [(0, 0, 0), (0, 39, 49)] [] []) σ0 σ) : zpc (fX12_video8 σ x1) (fun r => (zQ [26] [(0, 0, 0), (0, 39, 49)] [] []) σ0 (r.1)) := by
  unfold fX12_video8
  exact zpc_ck (zpc_some h)
theorem fG_fX12_hCount_27 {σ0 : zSt} {σ : zSt} {s0 : Int32} (h : (zQ [26] [(0, 0, 0), (0, 39, 49)] [] []) σ0 σ) : zpc (fX12_hCount_27 σ s0) (fun r => (zQ [26] [(0, 0, 0), (0, 39, 49)] [] []) σ0 (r.1)) := by
  unfold fX12_hCount_27
  exact zpc_some h
theorem fG_fX12_hCount {σ0 : zSt} {σ : zSt} (h : (zQ [26] [(0, 0, 0), (0, 39, 49)] [] []) σ0 σ) : zpc (fX12_hCount σ) (fun r => (zQ [26] [(0, 0, 0), (0, 39, 49)] [] []) σ0 (r.1)) := by
  unfold fX12_hCount
  exact zpc_ck (zpc_ck (zpc_bv (fun v1 _ => zpc_if (fun _ => fG_fX12_hCount_27 h) (fun _ => fG_fX12_hCount_27 h))))
theorem fG_fX12_wreg {σ0 : zSt} {σ : zSt} {x1 : Int32} (h : (zQ [26] [(0, 0, 0), (0, 39, 49)] [] []) σ0 σ) : zpc (fX12_wreg σ x1) (fun r => (zQ [26] [(0, 0, 0), (0, 39, 49)] [] []) σ0 (r.1)) := by
  unfold fX12_wreg
  exact zpc_ck (zpc_some h)
theorem fG_fX12_asks_48 {σ0 : zSt} {σ : zSt} {s0 : Int32} (h : (zQ [26] [(0, 0, 0), (0, 39, 49)] [] []) σ0 σ) : zpc (fX12_asks_48 σ s0) (fun r => (zQ [26] [(0, 0, 0), (0, 39, 49)] [] []) σ0 (r.1)) := by
  unfold fX12_asks_48
  exact zpc_ck (zpc_some h)
theorem fG_fX12_asks_47 {σ0 : zSt} {σ : zSt} (h : (zQ [26] [(0, 0, 0), (0, 39, 49)] [] []) σ0 σ) : zpc (fX12_asks_47 σ) (fun r => (zQ [26] [(0, 0, 0), (0, 39, 49)] [] []) σ0 (r.1)) := by
  unfold fX12_asks_47
  exact fG_fX12_asks_48 h
theorem fG_fX12_asks_43 {σ0 : zSt} {σ : zSt} (h : (zQ [26] [(0, 0, 0), (0, 39, 49)] [] []) σ0 σ) : zpc (fX12_asks_43 σ) (fun r => (zQ [26] [(0, 0, 0), (0, 39, 49)] [] []) σ0 (r.1)) := by
  unfold fX12_asks_43
  exact fG_fX12_asks_48 h
theorem fG_fX12_asks_22 {σ0 : zSt} {σ : zSt} (h : (zQ [26] [(0, 0, 0), (0, 39, 49)] [] []) σ0 σ) : zpc (fX12_asks_22 σ) (fun r => (zQ [26] [(0, 0, 0), (0, 39, 49)] [] []) σ0 (r.1)) := by
  unfold fX12_asks_22
  exact zpc_bi (fG_fX12_bit h) (fun σ1 v2 hσ1 => zpc_if (fun _ => zpc_ck (zpc_if (fun _ => fG_fX12_asks_43 hσ1) (fun _ => fG_fX12_asks_47 hσ1))) (fun _ => fG_fX12_asks_47 hσ1))
theorem fG_fX12_asks {σ0 : zSt} {σ : zSt} (h : (zQ [26] [(0, 0, 0), (0, 39, 49)] [] []) σ0 σ) : zpc (fX12_asks σ) (fun r => (zQ [26] [(0, 0, 0), (0, 39, 49)] [] []) σ0 (r.1)) := by
  unfold fX12_asks
  exact zpc_bi (fG_fX12_bit h) (fun σ3 v4 hσ3 => zpc_if (fun _ => zpc_ck (zpc_if (fun _ => fG_fX12_asks_43 hσ3) (fun _ => fG_fX12_asks_22 hσ3))) (fun _ => fG_fX12_asks_22 hσ3))
theorem fG_fX12_dot_103 {σ0 : zSt} {σ : zSt} {s0 : Int32} (h : (zQ [26] [(0, 0, 0), (0, 39, 49)] [] []) σ0 σ) : zpc (fX12_dot_103 σ s0) (fun r => (zQ [26] [(0, 0, 0), (0, 39, 49)] [] []) σ0 (r.1)) := by
  unfold fX12_dot_103
  exact zpc_ck (zpc_some h)
theorem fG_fX12_dot_63 {σ0 : zSt} {σ : zSt} {x1 : Int32} {x2 : Int32} {x3 : Int32} {s0 : Int32} (h : (zQ [26] [(0, 0, 0), (0, 39, 49)] [] []) σ0 σ) : zpc (fX12_dot_63 σ x1 x2 x3 s0) (fun r => (zQ [26] [(0, 0, 0), (0, 39, 49)] [] []) σ0 (r.1)) := by
  unfold fX12_dot_63
  exact zpc_bi (fG_fX12_fails h) (fun σ1 v2 hσ1 => zpc_if (fun _ => zpc_if (fun _ => fG_fX12_dot_103 hσ1) (fun _ => fG_fX12_dot_103 hσ1)) (fun _ => zpc_some hσ1))
theorem fG_fX12_dot_58 {σ0 : zSt} {σ : zSt} {x1 : Int32} {x2 : Int32} {x3 : Int32} (h : (zQ [26] [(0, 0, 0), (0, 39, 49)] [] []) σ0 σ) : zpc (fX12_dot_58 σ x1 x2 x3) (fun r => (zQ [26] [(0, 0, 0), (0, 39, 49)] [] []) σ0 (r.1)) := by
  unfold fX12_dot_58
  exact fG_fX12_dot_63 h
theorem fG_fX12_dot_55 {σ0 : zSt} {σ : zSt} {x1 : Int32} {x2 : Int32} {x3 : Int32} {s0 : Int32} {s1 : Int32} (h : (zQ [26] [(0, 0, 0), (0, 39, 49)] [] []) σ0 σ) : zpc (fX12_dot_55 σ x1 x2 x3 s0 s1) (fun r => (zQ [26] [(0, 0, 0), (0, 39, 49)] [] []) σ0 (r.1)) := by
  unfold fX12_dot_55
  exact zpc_if (fun _ => fG_fX12_dot_63 h) (fun _ => fG_fX12_dot_58 h)
theorem fG_fX12_dot_37 {σ0 : zSt} {σ : zSt} {x1 : Int32} {x2 : Int32} {x3 : Int32} {s0 : Int32} {s1 : Int32} (h : (zQ [26] [(0, 0, 0), (0, 39, 49)] [] []) σ0 σ) : zpc (fX12_dot_37 σ x1 x2 x3 s0 s1) (fun r => (zQ [26] [(0, 0, 0), (0, 39, 49)] [] []) σ0 (r.1)) := by
  unfold fX12_dot_37
  exact zpc_if (fun _ => fG_fX12_dot_58 h) (fun _ => zpc_if (fun _ => zpc_bi (fG_fX12_height h) (fun σ3 v4 hσ3 => fG_fX12_dot_55 hσ3)) (fun _ => fG_fX12_dot_55 h))
theorem fG_fX12_dot_13 {σ0 : zSt} {σ : zSt} {x1 : Int32} {x2 : Int32} {s0 : Int32} (h : (zQ [26] [(0, 0, 0), (0, 39, 49)] [] []) σ0 σ) : zpc (fX12_dot_13 σ x1 x2 s0) (fun r => (zQ [26] [(0, 0, 0), (0, 39, 49)] [] []) σ0 (r.1)) := by
  unfold fX12_dot_13
  exact zpc_if (fun _ => fG_fX12_dot_58 h) (fun _ => zpc_if (fun _ => fG_fX12_dot_58 h) (fun _ => zpc_if (fun _ => fG_fX12_dot_37 h) (fun _ => fG_fX12_dot_37 h)))
theorem fG_fX12_dot {σ0 : zSt} {σ : zSt} {x1 : Int32} {x2 : Int32} (h : (zQ [26] [(0, 0, 0), (0, 39, 49)] [] []) σ0 σ) : zpc (fX12_dot σ x1 x2) (fun r => (zQ [26] [(0, 0, 0), (0, 39, 49)] [] []) σ0 (r.1)) := by
  unfold fX12_dot
  exact zpc_if (fun _ => fG_fX12_dot_13 h) (fun _ => fG_fX12_dot_13 h)
theorem fG_fX12_row_111 {σ0 : zSt} {k56 : zSt → Int32 → Int32 → Int32 → Int32 → Option (zSt × Int32)} (hk56 : ∀ (y0 : zSt) (y1 : Int32) (y2 : Int32) (y3 : Int32) (y4 : Int32), (zQ [26] [(0, 0, 0), (0, 39, 49)] [] []) σ0 y0 → zpc (k56 y0 y1 y2 y3 y4) (fun r => (zQ [26] [(0, 0, 0), (0, 39, 49)] [] []) σ0 (r.1))) {σ : zSt} {x1 : Int32} {x2 : Int32} {x4 : Int32} {s0 : Int32} {s2 : Int32} (h : (zQ [26] [(0, 0, 0), (0, 39, 49)] [] []) σ0 σ) : zpc (fX12_row_111 k56 σ x1 x2 x4 s0 s2) (fun r => (zQ [26] [(0, 0, 0), (0, 39, 49)] [] []) σ0 (r.1)) := by
  unfold fX12_row_111
  exact zpc_ck (zpc_bv (fun v1 _ => zpc_bv (fun v2 _ => hk56 _ _ _ _ _ h)))
theorem fG_fX12_row_71 {σ0 : zSt} {k56 : zSt → Int32 → Int32 → Int32 → Int32 → Option (zSt × Int32)} (hk56 : ∀ (y0 : zSt) (y1 : Int32) (y2 : Int32) (y3 : Int32) (y4 : Int32), (zQ [26] [(0, 0, 0), (0, 39, 49)] [] []) σ0 y0 → zpc (k56 y0 y1 y2 y3 y4) (fun r => (zQ [26] [(0, 0, 0), (0, 39, 49)] [] []) σ0 (r.1))) {σ : zSt} {x1 : Int32} {x2 : Int32} {x3 : Int32} {x4 : Int32} {s0 : Int32} {s1 : Int32} (h : (zQ [26] [(0, 0, 0), (0, 39, 49)] [] []) σ0 σ) : zpc (fX12_row_71 k56 σ x1 x2 x3 x4 s0 s1) (fun r => (zQ [26] [(0, 0, 0), (0, 39, 49)] [] []) σ0 (r.1)) := by
  unfold fX12_row_71
  exact zpc_if (fun _ => zpc_some h) (fun _ => zpc_if (fun _ => fG_fX12_row_111 hk56 h) (fun _ => fG_fX12_row_111 hk56 h))
theorem fG_fX12_row_56_body {σ0 : zSt} {k56 : zSt → Int32 → Int32 → Int32 → Int32 → Option (zSt × Int32)} (hk56 : ∀ (y0 : zSt) (y1 : Int32) (y2 : Int32) (y3 : Int32) (y4 : Int32), (zQ [26] [(0, 0, 0), (0, 39, 49)] [] []) σ0 y0 → zpc (k56 y0 y1 y2 y3 y4) (fun r => (zQ [26] [(0, 0, 0), (0, 39, 49)] [] []) σ0 (r.1))) {σ : zSt} {x1 : Int32} {x2 : Int32} {x3 : Int32} {x4 : Int32} (h : (zQ [26] [(0, 0, 0), (0, 39, 49)] [] []) σ0 σ) : zpc (fX12_row_56_body k56 σ x1 x2 x3 x4) (fun r => (zQ [26] [(0, 0, 0), (0, 39, 49)] [] []) σ0 (r.1)) := by
  unfold fX12_row_56_body
  exact zpc_if (fun _ => fG_fX12_row_71 hk56 h) (fun _ => fG_fX12_row_71 hk56 h)
theorem fG_fX12_row_56 {σ0 : zSt} : ∀ (n : Nat) (y0 : zSt) (y1 : Int32) (y2 : Int32) (y3 : Int32) (y4 : Int32), (zQ [26] [(0, 0, 0), (0, 39, 49)] [] []) σ0 y0 → zpc (fX12_row_56 n y0 y1 y2 y3 y4) (fun r => (zQ [26] [(0, 0, 0), (0, 39, 49)] [] []) σ0 (r.1)) := by
  intro n
  induction n with
  | zero => intro y0 y1 y2 y3 y4 h; exact zpc_none
  | succ n ih => intro y0 y1 y2 y3 y4 h; exact fG_fX12_row_56_body ih h
theorem fG_fX12_row_42 {σ0 : zSt} {σ : zSt} {x1 : Int32} {x2 : Int32} {s0 : Int32} (h : (zQ [26] [(0, 0, 0), (0, 39, 49)] [] []) σ0 σ) : zpc (fX12_row_42 σ x1 x2 s0) (fun r => (zQ [26] [(0, 0, 0), (0, 39, 49)] [] []) σ0 (r.1)) := by
  unfold fX12_row_42
  exact zpc_bi (fG_fX12_fails h) (fun σ3 v4 hσ3 => zpc_if (fun _ => fG_fX12_row_56 _ _ _ _ _ _ hσ3) (fun _ => zpc_some hσ3))
theorem fG_fX12_row_37 {σ0 : zSt} {σ : zSt} {x1 : Int32} {x2 : Int32} (h : (zQ [26] [(0, 0, 0), (0, 39, 49)] [] []) σ0 σ) : zpc (fX12_row_37 σ x1 x2) (fun r => (zQ [26] [(0, 0, 0), (0, 39, 49)] [] []) σ0 (r.1)) := by
  unfold fX12_row_37
  exact fG_fX12_row_42 h
theorem fG_fX12_row_34 {σ0 : zSt} {σ : zSt} {x1 : Int32} {x2 : Int32} {s0 : Int32} {s1 : Int32} (h : (zQ [26] [(0, 0, 0), (0, 39, 49)] [] []) σ0 σ) : zpc (fX12_row_34 σ x1 x2 s0 s1) (fun r => (zQ [26] [(0, 0, 0), (0, 39, 49)] [] []) σ0 (r.1)) := by
  unfold fX12_row_34
  exact zpc_if (fun _ => fG_fX12_row_42 h) (fun _ => fG_fX12_row_37 h)
theorem fG_fX12_row_13 {σ0 : zSt} {σ : zSt} {x1 : Int32} {s0 : Int32} (h : (zQ [26] [(0, 0, 0), (0, 39, 49)] [] []) σ0 σ) : zpc (fX12_row_13 σ x1 s0) (fun r => (zQ [26] [(0, 0, 0), (0, 39, 49)] [] []) σ0 (r.1)) := by
  unfold fX12_row_13
  exact zpc_if (fun _ => fG_fX12_row_37 h) (fun _ => zpc_if (fun _ => zpc_bi (fG_fX12_height h) (fun σ5 v6 hσ5 => fG_fX12_row_34 hσ5)) (fun _ => fG_fX12_row_34 h))
theorem fG_fX12_row {σ0 : zSt} {σ : zSt} {x1 : Int32} (h : (zQ [26] [(0, 0, 0), (0, 39, 49)] [] []) σ0 σ) : zpc (fX12_row σ x1) (fun r => (zQ [26] [(0, 0, 0), (0, 39, 49)] [] []) σ0 (r.1)) := by
  unfold fX12_row
  exact zpc_if (fun _ => fG_fX12_row_13 h) (fun _ => fG_fX12_row_13 h)
theorem fG_fX12_sound_52 {σ0 : zSt} {σ : zSt} {s0 : Int32} (h : (zQ [26] [(0, 0, 0), (0, 39, 49)] [] []) σ0 σ) : zpc (fX12_sound_52 σ s0) (fun r => (zQ [26] [(0, 0, 0), (0, 39, 49)] [] []) σ0 (r.1)) := by
  unfold fX12_sound_52
  exact zpc_some h
theorem fG_fX12_sound_18 {σ0 : zSt} {σ : zSt} {x1 : Int32} {s0 : Int32} (h : (zQ [26] [(0, 0, 0), (0, 39, 49)] [] []) σ0 σ) : zpc (fX12_sound_18 σ x1 s0) (fun r => (zQ [26] [(0, 0, 0), (0, 39, 49)] [] []) σ0 (r.1)) := by
  unfold fX12_sound_18
  exact zpc_bi (fG_fX12_fails h) (fun σ1 v2 hσ1 => zpc_if (fun _ => zpc_if (fun _ => zpc_ck (fG_fX12_sound_52 hσ1)) (fun _ => zpc_ck (fG_fX12_sound_52 hσ1))) (fun _ => zpc_some hσ1))
theorem fG_fX12_sound {σ0 : zSt} {σ : zSt} {x1 : Int32} (h : (zQ [26] [(0, 0, 0), (0, 39, 49)] [] []) σ0 σ) : zpc (fX12_sound σ x1) (fun r => (zQ [26] [(0, 0, 0), (0, 39, 49)] [] []) σ0 (r.1)) := by
  unfold fX12_sound
  exact zpc_bi (fG_fX12_within h) (fun σ3 v4 hσ3 => zpc_if (fun _ => fG_fX12_sound_18 hσ3) (fun _ => fG_fX12_sound_18 hσ3))
theorem fG_fX12_register_35 {σ0 : zSt} {σ : zSt} {s0 : Int32} (h : (zQ [26] [(0, 0, 0), (0, 39, 49)] [] []) σ0 σ) : zpc (fX12_register_35 σ s0) (fun r => (zQ [26] [(0, 0, 0), (0, 39, 49)] [] []) σ0 (r.1)) := by
  unfold fX12_register_35
  exact zpc_some h
theorem fG_fX12_register_18 {σ0 : zSt} {σ : zSt} {x1 : Int32} {s0 : Int32} (h : (zQ [26] [(0, 0, 0), (0, 39, 49)] [] []) σ0 σ) : zpc (fX12_register_18 σ x1 s0) (fun r => (zQ [26] [(0, 0, 0), (0, 39, 49)] [] []) σ0 (r.1)) := by
  unfold fX12_register_18
  exact zpc_bi (fG_fX12_fails h) (fun σ1 v2 hσ1 => zpc_if (fun _ => zpc_ck (fG_fX12_register_35 hσ1)) (fun _ => fG_fX12_register_35 hσ1))
theorem fG_fX12_register {σ0 : zSt} {σ : zSt} {x1 : Int32} (h : (zQ [26] [(0, 0, 0), (0, 39, 49)] [] []) σ0 σ) : zpc (fX12_register σ x1) (fun r => (zQ [26] [(0, 0, 0), (0, 39, 49)] [] []) σ0 (r.1)) := by
  unfold fX12_register
  exact zpc_bi (fG_fX12_within h) (fun σ3 v4 hσ3 => zpc_if (fun _ => fG_fX12_register_18 hσ3) (fun _ => fG_fX12_register_18 hσ3))
theorem fG_fX12_peek {σ0 : zSt} {σ : zSt} {x1 : Int32} (h : (zQ [26] [(0, 0, 0), (0, 39, 49)] [] []) σ0 σ) : zpc (fX12_peek σ x1) (fun r => (zQ [26] [(0, 0, 0), (0, 39, 49)] [] []) σ0 (r.1)) := by
  unfold fX12_peek
  exact zpc_bs (zQ.wi h rfl) (fun σ1 hσ1 => zpc_bi (fG_fX12_read hσ1) (fun σ2 v3 hσ2 => zpc_some hσ2))
theorem fG_fX12_battery_39 {σ0 : zSt} {σ : zSt} {s0 : Int32} (h : (zQ [26] [(0, 0, 0), (0, 39, 49)] [] []) σ0 σ) : zpc (fX12_battery_39 σ s0) (fun r => (zQ [26] [(0, 0, 0), (0, 39, 49)] [] []) σ0 (r.1)) := by
  unfold fX12_battery_39
  exact zpc_some h
theorem fG_fX12_battery_18 {σ0 : zSt} {σ : zSt} {x1 : Int32} {s0 : Int32} (h : (zQ [26] [(0, 0, 0), (0, 39, 49)] [] []) σ0 σ) : zpc (fX12_battery_18 σ x1 s0) (fun r => (zQ [26] [(0, 0, 0), (0, 39, 49)] [] []) σ0 (r.1)) := by
  unfold fX12_battery_18
  exact zpc_bi (fG_fX12_fails h) (fun σ1 v2 hσ1 => zpc_if (fun _ => zpc_ck (fG_fX12_battery_39 hσ1)) (fun _ => fG_fX12_battery_39 hσ1))
theorem fG_fX12_battery {σ0 : zSt} {σ : zSt} {x1 : Int32} (h : (zQ [26] [(0, 0, 0), (0, 39, 49)] [] []) σ0 σ) : zpc (fX12_battery σ x1) (fun r => (zQ [26] [(0, 0, 0), (0, 39, 49)] [] []) σ0 (r.1)) := by
  unfold fX12_battery
  exact zpc_bi (fG_fX12_within h) (fun σ3 v4 hσ3 => zpc_if (fun _ => fG_fX12_battery_18 hσ3) (fun _ => fG_fX12_battery_18 hσ3))
theorem fG_fX12_video_11_body {σ0 : zSt} {k11 : zSt → Int32 → Int64 → Int32 → Option (zSt × Int64)} (hk11 : ∀ (y0 : zSt) (y1 : Int32) (y2 : Int64) (y3 : Int32), (zQ [26] [(0, 0, 0), (0, 39, 49)] [] []) σ0 y0 → zpc (k11 y0 y1 y2 y3) (fun r => (zQ [26] [(0, 0, 0), (0, 39, 49)] [] []) σ0 (r.1))) {σ : zSt} {x1 : Int32} {x2 : Int64} {x4 : Int32} (h : (zQ [26] [(0, 0, 0), (0, 39, 49)] [] []) σ0 σ) : zpc (fX12_video_11_body k11 σ x1 x2 x4) (fun r => (zQ [26] [(0, 0, 0), (0, 39, 49)] [] []) σ0 (r.1)) := by
  unfold fX12_video_11_body
  exact zpc_if (fun _ => zpc_some h) (fun _ => zpc_bi (fG_fX12_video8 h) (fun σ1 v2 hσ1 => zpc_bv (fun v3 _ => zpc_bv (fun v4 _ => hk11 _ _ _ _ hσ1))))
theorem fG_fX12_video_11 {σ0 : zSt} : ∀ (n : Nat) (y0 : zSt) (y1 : Int32) (y2 : Int64) (y3 : Int32), (zQ [26] [(0, 0, 0), (0, 39, 49)] [] []) σ0 y0 → zpc (fX12_video_11 n y0 y1 y2 y3) (fun r => (zQ [26] [(0, 0, 0), (0, 39, 49)] [] []) σ0 (r.1)) := by
  intro n
  induction n with
  | zero => intro y0 y1 y2 y3 h; exact zpc_none
  | succ n ih => intro y0 y1 y2 y3 h; exact fG_fX12_video_11_body ih h
theorem fG_fX12_video {σ0 : zSt} {σ : zSt} {x1 : Int32} (h : (zQ [26] [(0, 0, 0), (0, 39, 49)] [] []) σ0 σ) : zpc (fX12_video σ x1) (fun r => (zQ [26] [(0, 0, 0), (0, 39, 49)] [] []) σ0 (r.1)) := by
  unfold fX12_video
  exact zpc_bs (zQ.wi h rfl) (fun σ5 hσ5 => fG_fX12_video_11 _ _ _ _ _ hσ5)
theorem fG_fX12_chip_136 {σ0 : zSt} {σ : zSt} {s0 : Int32} (h : (zQ [26] [(0, 0, 0), (0, 39, 49)] [] []) σ0 σ) : zpc (fX12_chip_136 σ s0) (fun r => (zQ [26] [(0, 0, 0), (0, 39, 49)] [] []) σ0 (r.1)) := by
  unfold fX12_chip_136
  exact zpc_some h
theorem fG_fX12_chip_32 {σ0 : zSt} {σ : zSt} {x1 : Int32} {s0 : Int32} (h : (zQ [26] [(0, 0, 0), (0, 39, 49)] [] []) σ0 σ) : zpc (fX12_chip_32 σ x1 s0) (fun r => (zQ [26] [(0, 0, 0), (0, 39, 49)] [] []) σ0 (r.1)) := by
  unfold fX12_chip_32
  exact zpc_bi (fG_fX12_fails h) (fun σ1 v2 hσ1 => zpc_if (fun _ => zpc_if (fun _ => zpc_if (fun _ => zpc_if (fun _ => zpc_bi (fG_fX12_asks hσ1) (fun σ3 v4 hσ3 => zpc_if (fun _ => fG_fX12_chip_136 hσ3) (fun _ => fG_fX12_chip_136 hσ3))) (fun _ => zpc_if (fun _ => zpc_ck (zpc_some hσ1)) (fun _ => zpc_if (fun _ => zpc_ck (zpc_some hσ1)) (fun _ => zpc_if (fun _ => zpc_ck (zpc_some hσ1)) (fun _ => zpc_if (fun _ => zpc_ck (zpc_some hσ1)) (fun _ => zpc_if (fun _ => zpc_bi (fG_fX12_mode hσ1) (fun σ5 v6 hσ5 => zpc_some hσ5)) (fun _ => zpc_if (fun _ => zpc_bi (fG_fX12_height hσ1) (fun σ7 v8 hσ7 => zpc_some hσ7)) (fun _ => zpc_if (fun _ => zpc_bi (fG_fX12_hCount hσ1) (fun σ9 v10 hσ9 => zpc_some hσ9)) (fun _ => zpc_bi (fG_fX12_vCount hσ1) (fun σ11 v12 hσ11 => zpc_some hσ11)))))))))) (fun _ => zpc_ck (zpc_some hσ1))) (fun _ => zpc_ck (zpc_some hσ1))) (fun _ => zpc_some hσ1))
theorem fG_fX12_chip_31 {σ0 : zSt} {σ : zSt} {x1 : Int32} (h : (zQ [26] [(0, 0, 0), (0, 39, 49)] [] []) σ0 σ) : zpc (fX12_chip_31 σ x1) (fun r => (zQ [26] [(0, 0, 0), (0, 39, 49)] [] []) σ0 (r.1)) := by
  unfold fX12_chip_31
  exact fG_fX12_chip_32 h
theorem fG_fX12_chip {σ0 : zSt} {σ : zSt} {x1 : Int32} (h : (zQ [26] [(0, 0, 0), (0, 39, 49)] [] []) σ0 σ) : zpc (fX12_chip σ x1) (fun r => (zQ [26] [(0, 0, 0), (0, 39, 49)] [] []) σ0 (r.1)) := by
  unfold fX12_chip
  exact zpc_bi (fG_fX12_within h) (fun σ13 v14 hσ13 => zpc_if (fun _ => zpc_bi (fG_fX12_within hσ13) (fun σ15 v16 hσ15 => zpc_if (fun _ => fG_fX12_chip_32 hσ15) (fun _ => fG_fX12_chip_31 hσ15))) (fun _ => fG_fX12_chip_31 hσ13))
theorem fG_fX12_trace_50 {σ0 : zSt} {σ : zSt} {s0 : Int32} (h : (zQ [26] [(0, 0, 0), (0, 39, 49)] [] []) σ0 σ) : zpc (fX12_trace_50 σ s0) (fun r => (zQ [26] [(0, 0, 0), (0, 39, 49)] [] []) σ0 (r.1)) := by
  unfold fX12_trace_50
  exact zpc_some h
theorem fG_fX12_trace_27 {σ0 : zSt} {σ : zSt} (h : (zQ [26] [(0, 0, 0), (0, 39, 49)] [] []) σ0 σ) : zpc (fX12_trace_27 σ) (fun r => (zQ [26] [(0, 0, 0), (0, 39, 49)] [] []) σ0 (r.1)) := by
  unfold fX12_trace_27
  exact fG_fX12_trace_50 h
theorem fG_fX12_trace {σ0 : zSt} {σ : zSt} {x1 : Int32} (h : (zQ [26] [(0, 0, 0), (0, 39, 49)] [] []) σ0 σ) : zpc (fX12_trace σ x1) (fun r => (zQ [26] [(0, 0, 0), (0, 39, 49)] [] []) σ0 (r.1)) := by
  unfold fX12_trace
  exact zpc_bs (zQ.wi h rfl) (fun σ1 hσ1 => zpc_bi (fG_fX12_within hσ1) (fun σ2 v3 hσ2 => zpc_if (fun _ => fG_fX12_trace_27 hσ2) (fun _ => zpc_if (fun _ => zpc_ck (zpc_ck (fG_fX12_trace_50 hσ2))) (fun _ => fG_fX12_trace_27 hσ2))))
theorem fG_fX12_look_116 {σ0 : zSt} {σ : zSt} {x1 : Int32} (h : (zQ [26] [(0, 0, 0), (0, 39, 49)] [] []) σ0 σ) : zpc (fX12_look_116 σ x1) (fun r => (zQ [26] [(0, 0, 0), (0, 39, 49)] [] []) σ0 (r.1)) := by
  unfold fX12_look_116
  exact zpc_ck (zpc_some h)
theorem fG_fX12_look_169 {σ0 : zSt} {σ : zSt} {x1 : Int32} (h : (zQ [26] [(0, 0, 0), (0, 39, 49)] [] []) σ0 σ) : zpc (fX12_look_169 σ x1) (fun r => (zQ [26] [(0, 0, 0), (0, 39, 49)] [] []) σ0 (r.1)) := by
  unfold fX12_look_169
  exact zpc_ck (zpc_some h)
theorem fG_fX12_look_222 {σ0 : zSt} {σ : zSt} {s0 : Int64} (h : (zQ [26] [(0, 0, 0), (0, 39, 49)] [] []) σ0 σ) : zpc (fX12_look_222 σ s0) (fun r => (zQ [26] [(0, 0, 0), (0, 39, 49)] [] []) σ0 (r.1)) := by
  unfold fX12_look_222
  exact zpc_some h
theorem fG_fX12_look_18 {σ0 : zSt} {σ : zSt} {x1 : Int32} {s0 : Int32} (h : (zQ [26] [(0, 0, 0), (0, 39, 49)] [] []) σ0 σ) : zpc (fX12_look_18 σ x1 s0) (fun r => (zQ [26] [(0, 0, 0), (0, 39, 49)] [] []) σ0 (r.1)) := by
  unfold fX12_look_18
  exact zpc_bi (fG_fX12_fails h) (fun σ1 v2 hσ1 => zpc_if (fun _ => zpc_if (fun _ => fG_fX12_look_116 hσ1) (fun _ => zpc_if (fun _ => fG_fX12_look_116 hσ1) (fun _ => zpc_if (fun _ => fG_fX12_look_116 hσ1) (fun _ => zpc_if (fun _ => zpc_ck (zpc_some hσ1)) (fun _ => zpc_if (fun _ => zpc_ck (zpc_some hσ1)) (fun _ => zpc_if (fun _ => zpc_some hσ1) (fun _ => zpc_if (fun _ => zpc_ck (zpc_some hσ1)) (fun _ => zpc_if (fun _ => zpc_some hσ1) (fun _ => zpc_if (fun _ => zpc_ck (zpc_some hσ1)) (fun _ => zpc_if (fun _ => fG_fX12_look_169 hσ1) (fun _ => zpc_if (fun _ => fG_fX12_look_169 hσ1) (fun _ => zpc_if (fun _ => fG_fX12_look_169 hσ1) (fun _ => zpc_if (fun _ => zpc_ck (zpc_some hσ1)) (fun _ => zpc_if (fun _ => zpc_ck (zpc_some hσ1)) (fun _ => zpc_if (fun _ => zpc_ck (zpc_some hσ1)) (fun _ => zpc_if (fun _ => zpc_if (fun _ => fG_fX12_look_222 hσ1) (fun _ => fG_fX12_look_222 hσ1)) (fun _ => zpc_if (fun _ => zpc_ck (zpc_some hσ1)) (fun _ => zpc_if (fun _ => zpc_ck (zpc_some hσ1)) (fun _ => zpc_some hσ1))))))))))))))))))) (fun _ => zpc_some hσ1))
theorem fG_fX12_look {σ0 : zSt} {σ : zSt} {x1 : Int32} (h : (zQ [26] [(0, 0, 0), (0, 39, 49)] [] []) σ0 σ) : zpc (fX12_look σ x1) (fun r => (zQ [26] [(0, 0, 0), (0, 39, 49)] [] []) σ0 (r.1)) := by
  unfold fX12_look
  exact zpc_bi (fG_fX12_within h) (fun σ3 v4 hσ3 => zpc_if (fun _ => fG_fX12_look_18 hσ3) (fun _ => fG_fX12_look_18 hσ3))
theorem fG_fX12_wave_41 {σ0 : zSt} {σ : zSt} {x1 : Int32} {s0 : Int32} (h : (zQ [26] [(0, 0, 0), (0, 39, 49)] [] []) σ0 σ) : zpc (fX12_wave_41 σ x1 s0) (fun r => (zQ [26] [(0, 0, 0), (0, 39, 49)] [] []) σ0 (r.1)) := by
  unfold fX12_wave_41
  exact zpc_bi (fG_fX12_fails h) (fun σ1 v2 hσ1 => zpc_if (fun _ => zpc_if (fun _ => zpc_if (fun _ => zpc_ck (zpc_some hσ1)) (fun _ => zpc_if (fun _ => zpc_ck (zpc_some hσ1)) (fun _ => zpc_if (fun _ => zpc_ck (zpc_ck (zpc_some hσ1))) (fun _ => zpc_if (fun _ => zpc_ck (zpc_some hσ1)) (fun _ => zpc_ck (zpc_ck (zpc_ck (zpc_some hσ1)))))))) (fun _ => zpc_bi (fG_fX12_wreg hσ1) (fun σ3 v4 hσ3 => zpc_some hσ3))) (fun _ => zpc_some hσ1))
theorem fG_fX12_wave_40 {σ0 : zSt} {σ : zSt} {x1 : Int32} (h : (zQ [26] [(0, 0, 0), (0, 39, 49)] [] []) σ0 σ) : zpc (fX12_wave_40 σ x1) (fun r => (zQ [26] [(0, 0, 0), (0, 39, 49)] [] []) σ0 (r.1)) := by
  unfold fX12_wave_40
  exact fG_fX12_wave_41 h
theorem fG_fX12_wave_36 {σ0 : zSt} {σ : zSt} {x1 : Int32} (h : (zQ [26] [(0, 0, 0), (0, 39, 49)] [] []) σ0 σ) : zpc (fX12_wave_36 σ x1) (fun r => (zQ [26] [(0, 0, 0), (0, 39, 49)] [] []) σ0 (r.1)) := by
  unfold fX12_wave_36
  exact fG_fX12_wave_41 h
theorem fG_fX12_wave {σ0 : zSt} {σ : zSt} {x1 : Int32} (h : (zQ [26] [(0, 0, 0), (0, 39, 49)] [] []) σ0 σ) : zpc (fX12_wave σ x1) (fun r => (zQ [26] [(0, 0, 0), (0, 39, 49)] [] []) σ0 (r.1)) := by
  unfold fX12_wave
  exact zpc_bi (fG_fX12_within h) (fun σ5 v6 hσ5 => zpc_if (fun _ => zpc_bi (fG_fX12_within hσ5) (fun σ7 v8 hσ7 => zpc_if (fun _ => fG_fX12_wave_36 hσ7) (fun _ => zpc_ck (zpc_if (fun _ => fG_fX12_wave_40 hσ7) (fun _ => fG_fX12_wave_36 hσ7))))) (fun _ => fG_fX12_wave_40 hσ5))
theorem fG_fX12_say_2_body {σ0 : zSt} {k2 : zSt → Nat → Int32 → Option (zSt)} (hk2 : ∀ (y0 : zSt) (y1 : Nat) (y2 : Int32), (zQ [26] [(0, 0, 0), (0, 39, 49)] [] []) σ0 y0 → zpc (k2 y0 y1 y2) (fun r => (zQ [26] [(0, 0, 0), (0, 39, 49)] [] []) σ0 (r))) {σ : zSt} {n1 : Nat} {x2 : Int32} (h : (zQ [26] [(0, 0, 0), (0, 39, 49)] [] []) σ0 σ) : zpc (fX12_say_2_body k2 σ n1 x2) (fun r => (zQ [26] [(0, 0, 0), (0, 39, 49)] [] []) σ0 (r)) := by
  unfold fX12_say_2_body
  exact zpc_ck (zpc_if (fun _ => zpc_some h) (fun _ => zpc_ck (zpc_ck (zpc_ck (zpc_bs (zQ.wi h rfl) (fun σ1 hσ1 => zpc_bs (zQ.wi hσ1 rfl) (fun σ2 hσ2 => zpc_bv (fun v3 _ => hk2 _ _ _ hσ2))))))))
theorem fG_fX12_say_2 {σ0 : zSt} : ∀ (n : Nat) (y0 : zSt) (y1 : Nat) (y2 : Int32), (zQ [26] [(0, 0, 0), (0, 39, 49)] [] []) σ0 y0 → zpc (fX12_say_2 n y0 y1 y2) (fun r => (zQ [26] [(0, 0, 0), (0, 39, 49)] [] []) σ0 (r)) := by
  intro n
  induction n with
  | zero => intro y0 y1 y2 h; exact zpc_none
  | succ n ih => intro y0 y1 y2 h; exact fG_fX12_say_2_body ih h
theorem fG_fX12_say {σ0 : zSt} {σ : zSt} {n1 : Nat} (h : (zQ [26] [(0, 0, 0), (0, 39, 49)] [] []) σ0 σ) : zpc (fX12_say σ n1) (fun r => (zQ [26] [(0, 0, 0), (0, 39, 49)] [] []) σ0 (r)) := by
  unfold fX12_say
  exact fG_fX12_say_2 _ _ _ _ h
theorem fG_fX12_hex_49 {σ0 : zSt} {k4 : zSt → Int32 → Int32 → Option (zSt)} (hk4 : ∀ (y0 : zSt) (y1 : Int32) (y2 : Int32), (zQ [26] [(0, 0, 0), (0, 39, 49)] [] []) σ0 y0 → zpc (k4 y0 y1 y2) (fun r => (zQ [26] [(0, 0, 0), (0, 39, 49)] [] []) σ0 (r))) {σ : zSt} {x1 : Int32} {x3 : Int32} {s0 : Int32} {s1 : Int32} (h : (zQ [26] [(0, 0, 0), (0, 39, 49)] [] []) σ0 σ) : zpc (fX12_hex_49 k4 σ x1 x3 s0 s1) (fun r => (zQ [26] [(0, 0, 0), (0, 39, 49)] [] []) σ0 (r)) := by
  unfold fX12_hex_49
  exact zpc_ck (zpc_bs (zQ.wi h rfl) (fun σ1 hσ1 => zpc_bs (zQ.wi hσ1 rfl) (fun σ2 hσ2 => zpc_bv (fun v3 _ => hk4 _ _ _ hσ2))))
theorem fG_fX12_hex_4_body {σ0 : zSt} {k4 : zSt → Int32 → Int32 → Option (zSt)} (hk4 : ∀ (y0 : zSt) (y1 : Int32) (y2 : Int32), (zQ [26] [(0, 0, 0), (0, 39, 49)] [] []) σ0 y0 → zpc (k4 y0 y1 y2) (fun r => (zQ [26] [(0, 0, 0), (0, 39, 49)] [] []) σ0 (r))) {σ : zSt} {x1 : Int32} {x3 : Int32} (h : (zQ [26] [(0, 0, 0), (0, 39, 49)] [] []) σ0 σ) : zpc (fX12_hex_4_body k4 σ x1 x3) (fun r => (zQ [26] [(0, 0, 0), (0, 39, 49)] [] []) σ0 (r)) := by
  unfold fX12_hex_4_body
  exact zpc_if (fun _ => zpc_some h) (fun _ => zpc_bv (fun v4 _ => zpc_if (fun _ => fG_fX12_hex_49 hk4 h) (fun _ => fG_fX12_hex_49 hk4 h)))
theorem fG_fX12_hex_4 {σ0 : zSt} : ∀ (n : Nat) (y0 : zSt) (y1 : Int32) (y2 : Int32), (zQ [26] [(0, 0, 0), (0, 39, 49)] [] []) σ0 y0 → zpc (fX12_hex_4 n y0 y1 y2) (fun r => (zQ [26] [(0, 0, 0), (0, 39, 49)] [] []) σ0 (r)) := by
  intro n
  induction n with
  | zero => intro y0 y1 y2 h; exact zpc_none
  | succ n ih => intro y0 y1 y2 h; exact fG_fX12_hex_4_body ih h
theorem fG_fX12_hex {σ0 : zSt} {σ : zSt} {x1 : Int32} {x2 : Int32} (h : (zQ [26] [(0, 0, 0), (0, 39, 49)] [] []) σ0 σ) : zpc (fX12_hex σ x1 x2) (fun r => (zQ [26] [(0, 0, 0), (0, 39, 49)] [] []) σ0 (r)) := by
  unfold fX12_hex
  exact zpc_bv (fun v5 _ => fG_fX12_hex_4 _ _ _ _ h)
theorem fG_fX12_taken {σ0 : zSt} {σ : zSt} (h : (zQ [26] [(0, 0, 0), (0, 39, 49)] [] []) σ0 σ) : zpc (fX12_taken σ) (fun r => (zQ [26] [(0, 0, 0), (0, 39, 49)] [] []) σ0 (r.1)) := by
  unfold fX12_taken
  exact zpc_bi (fG_fX12_read h) (fun σ1 v2 hσ1 => zpc_bs (zQ.wi hσ1 rfl) (fun σ3 hσ3 => zpc_some hσ3))
theorem fG_fX12_takenWord {σ0 : zSt} {σ : zSt} (h : (zQ [26] [(0, 0, 0), (0, 39, 49)] [] []) σ0 σ) : zpc (fX12_takenWord σ) (fun r => (zQ [26] [(0, 0, 0), (0, 39, 49)] [] []) σ0 (r.1)) := by
  unfold fX12_takenWord
  exact zpc_bi (fG_fX12_taken h) (fun σ1 v2 hσ1 => zpc_bi (fG_fX12_taken hσ1) (fun σ3 v4 hσ3 => zpc_some hσ3))
theorem fG_fX12_sayHl_31 {σ0 : zSt} {σ : zSt} {s0 : Nat} (h : (zQ [26] [(0, 0, 0), (0, 39, 49)] [] []) σ0 σ) : zpc (fX12_sayHl_31 σ s0) (fun r => (zQ [26] [(0, 0, 0), (0, 39, 49)] [] []) σ0 (r)) := by
  unfold fX12_sayHl_31
  exact zpc_bu (fG_fX12_say h) (fun σ1 hσ1 => zpc_some hσ1)
theorem fG_fX12_sayHl {σ0 : zSt} {σ : zSt} (h : (zQ [26] [(0, 0, 0), (0, 39, 49)] [] []) σ0 σ) : zpc (fX12_sayHl σ) (fun r => (zQ [26] [(0, 0, 0), (0, 39, 49)] [] []) σ0 (r)) := by
  unfold fX12_sayHl
  exact zpc_if (fun _ => fG_fX12_sayHl_31 h) (fun _ => zpc_if (fun _ => fG_fX12_sayHl_31 h) (fun _ => fG_fX12_sayHl_31 h))
theorem fG_fX12_sayPlace_76 {σ0 : zSt} {σ : zSt} {s0 : Int32} (h : (zQ [26] [(0, 0, 0), (0, 39, 49)] [] []) σ0 σ) : zpc (fX12_sayPlace_76 σ s0) (fun r => (zQ [26] [(0, 0, 0), (0, 39, 49)] [] []) σ0 (r)) := by
  unfold fX12_sayPlace_76
  exact zpc_bu (fG_fX12_hex h) (fun σ1 hσ1 => zpc_bu (fG_fX12_say hσ1) (fun σ2 hσ2 => zpc_some hσ2))
theorem fG_fX12_sayPlace_53 {σ0 : zSt} {σ : zSt} {s0 : Nat} (h : (zQ [26] [(0, 0, 0), (0, 39, 49)] [] []) σ0 σ) : zpc (fX12_sayPlace_53 σ s0) (fun r => (zQ [26] [(0, 0, 0), (0, 39, 49)] [] []) σ0 (r)) := by
  unfold fX12_sayPlace_53
  exact zpc_bu (fG_fX12_say h) (fun σ3 hσ3 => zpc_if (fun _ => fG_fX12_sayPlace_76 hσ3) (fun _ => fG_fX12_sayPlace_76 hσ3))
theorem fG_fX12_sayPlace_33 {σ0 : zSt} {σ : zSt} {s0 : Nat} (h : (zQ [26] [(0, 0, 0), (0, 39, 49)] [] []) σ0 σ) : zpc (fX12_sayPlace_33 σ s0) (fun r => (zQ [26] [(0, 0, 0), (0, 39, 49)] [] []) σ0 (r)) := by
  unfold fX12_sayPlace_33
  exact zpc_bu (fG_fX12_say h) (fun σ4 hσ4 => zpc_if (fun _ => fG_fX12_sayPlace_53 hσ4) (fun _ => fG_fX12_sayPlace_53 hσ4))
theorem fG_fX12_sayPlace {σ0 : zSt} {σ : zSt} (h : (zQ [26] [(0, 0, 0), (0, 39, 49)] [] []) σ0 σ) : zpc (fX12_sayPlace σ) (fun r => (zQ [26] [(0, 0, 0), (0, 39, 49)] [] []) σ0 (r)) := by
  unfold fX12_sayPlace
  exact zpc_if (fun _ => zpc_bu (fG_fX12_say h) (fun σ5 hσ5 => zpc_some hσ5)) (fun _ => zpc_if (fun _ => fG_fX12_sayPlace_33 h) (fun _ => fG_fX12_sayPlace_33 h))
theorem fG_fX12_sayR_108 {σ0 : zSt} {σ : zSt} {s0 : Nat} (h : (zQ [26] [(0, 0, 0), (0, 39, 49)] [] []) σ0 σ) : zpc (fX12_sayR_108 σ s0) (fun r => (zQ [26] [(0, 0, 0), (0, 39, 49)] [] []) σ0 (r)) := by
  unfold fX12_sayR_108
  exact zpc_bu (fG_fX12_say h) (fun σ1 hσ1 => zpc_some hσ1)
theorem fG_fX12_sayR_39 {σ0 : zSt} {σ : zSt} {x1 : Int32} (h : (zQ [26] [(0, 0, 0), (0, 39, 49)] [] []) σ0 σ) : zpc (fX12_sayR_39 σ x1) (fun r => (zQ [26] [(0, 0, 0), (0, 39, 49)] [] []) σ0 (r)) := by
  unfold fX12_sayR_39
  exact zpc_if (fun _ => fG_fX12_sayR_108 h) (fun _ => zpc_if (fun _ => fG_fX12_sayR_108 h) (fun _ => zpc_if (fun _ => fG_fX12_sayR_108 h) (fun _ => zpc_if (fun _ => fG_fX12_sayR_108 h) (fun _ => zpc_if (fun _ => fG_fX12_sayR_108 h) (fun _ => zpc_if (fun _ => fG_fX12_sayR_108 h) (fun _ => fG_fX12_sayR_108 h))))))
theorem fG_fX12_sayR_35 {σ0 : zSt} {σ : zSt} {x1 : Int32} (h : (zQ [26] [(0, 0, 0), (0, 39, 49)] [] []) σ0 σ) : zpc (fX12_sayR_35 σ x1) (fun r => (zQ [26] [(0, 0, 0), (0, 39, 49)] [] []) σ0 (r)) := by
  unfold fX12_sayR_35
  exact zpc_bu (fG_fX12_sayHl h) (fun σ2 hσ2 => fG_fX12_sayR_39 hσ2)
theorem fG_fX12_sayR {σ0 : zSt} {σ : zSt} {x1 : Int32} (h : (zQ [26] [(0, 0, 0), (0, 39, 49)] [] []) σ0 σ) : zpc (fX12_sayR σ x1) (fun r => (zQ [26] [(0, 0, 0), (0, 39, 49)] [] []) σ0 (r)) := by
  unfold fX12_sayR
  exact zpc_if (fun _ => zpc_bu (fG_fX12_sayPlace h) (fun σ3 hσ3 => zpc_some hσ3)) (fun _ => zpc_if (fun _ => fG_fX12_sayR_39 h) (fun _ => zpc_if (fun _ => zpc_if (fun _ => fG_fX12_sayR_35 h) (fun _ => zpc_if (fun _ => fG_fX12_sayR_35 h) (fun _ => fG_fX12_sayR_39 h))) (fun _ => fG_fX12_sayR_39 h)))
theorem fG_fX12_sayRp_50 {σ0 : zSt} {σ : zSt} (h : (zQ [26] [(0, 0, 0), (0, 39, 49)] [] []) σ0 σ) : zpc (fX12_sayRp_50 σ) (fun r => (zQ [26] [(0, 0, 0), (0, 39, 49)] [] []) σ0 (r)) := by
  unfold fX12_sayRp_50
  exact zpc_some h
theorem fG_fX12_sayRp_47 {σ0 : zSt} {σ : zSt} {s0 : Nat} (h : (zQ [26] [(0, 0, 0), (0, 39, 49)] [] []) σ0 σ) : zpc (fX12_sayRp_47 σ s0) (fun r => (zQ [26] [(0, 0, 0), (0, 39, 49)] [] []) σ0 (r)) := by
  unfold fX12_sayRp_47
  exact zpc_bu (fG_fX12_say h) (fun σ1 hσ1 => fG_fX12_sayRp_50 hσ1)
theorem fG_fX12_sayRp {σ0 : zSt} {σ : zSt} {x1 : Int32} {x2 : Int32} (h : (zQ [26] [(0, 0, 0), (0, 39, 49)] [] []) σ0 σ) : zpc (fX12_sayRp σ x1 x2) (fun r => (zQ [26] [(0, 0, 0), (0, 39, 49)] [] []) σ0 (r)) := by
  unfold fX12_sayRp
  exact zpc_if (fun _ => zpc_bu (fG_fX12_sayHl h) (fun σ2 hσ2 => fG_fX12_sayRp_50 hσ2)) (fun _ => zpc_if (fun _ => fG_fX12_sayRp_47 h) (fun _ => zpc_if (fun _ => fG_fX12_sayRp_47 h) (fun _ => zpc_if (fun _ => fG_fX12_sayRp_47 h) (fun _ => fG_fX12_sayRp_47 h))))
theorem fG_fX12_sayCc_81 {σ0 : zSt} {σ : zSt} {s0 : Nat} (h : (zQ [26] [(0, 0, 0), (0, 39, 49)] [] []) σ0 σ) : zpc (fX12_sayCc_81 σ s0) (fun r => (zQ [26] [(0, 0, 0), (0, 39, 49)] [] []) σ0 (r)) := by
  unfold fX12_sayCc_81
  exact zpc_bu (fG_fX12_say h) (fun σ1 hσ1 => zpc_some hσ1)
theorem fG_fX12_sayCc {σ0 : zSt} {σ : zSt} {x1 : Int32} (h : (zQ [26] [(0, 0, 0), (0, 39, 49)] [] []) σ0 σ) : zpc (fX12_sayCc σ x1) (fun r => (zQ [26] [(0, 0, 0), (0, 39, 49)] [] []) σ0 (r)) := by
  unfold fX12_sayCc
  exact zpc_if (fun _ => fG_fX12_sayCc_81 h) (fun _ => zpc_if (fun _ => fG_fX12_sayCc_81 h) (fun _ => zpc_if (fun _ => fG_fX12_sayCc_81 h) (fun _ => zpc_if (fun _ => fG_fX12_sayCc_81 h) (fun _ => zpc_if (fun _ => fG_fX12_sayCc_81 h) (fun _ => zpc_if (fun _ => fG_fX12_sayCc_81 h) (fun _ => zpc_if (fun _ => fG_fX12_sayCc_81 h) (fun _ => fG_fX12_sayCc_81 h)))))))
theorem fG_fX12_sayPlaced {σ0 : zSt} {σ : zSt} {x1 : Int32} (h : (zQ [26] [(0, 0, 0), (0, 39, 49)] [] []) σ0 σ) : zpc (fX12_sayPlaced σ x1) (fun r => (zQ [26] [(0, 0, 0), (0, 39, 49)] [] []) σ0 (r)) := by
  unfold fX12_sayPlaced
  exact zpc_bu (fG_fX12_say h) (fun σ1 hσ1 => zpc_bu (fG_fX12_hex hσ1) (fun σ2 hσ2 => zpc_bu (fG_fX12_say hσ2) (fun σ3 hσ3 => zpc_some hσ3)))
theorem fG_fX12_sayJump {σ0 : zSt} {σ : zSt} (h : (zQ [26] [(0, 0, 0), (0, 39, 49)] [] []) σ0 σ) : zpc (fX12_sayJump σ) (fun r => (zQ [26] [(0, 0, 0), (0, 39, 49)] [] []) σ0 (r)) := by
  unfold fX12_sayJump
  exact zpc_bi (fG_fX12_taken h) (fun σ1 v2 hσ1 => zpc_bi (fG_fX12_signed hσ1) (fun σ3 v4 hσ3 => zpc_bu (fG_fX12_hex hσ3) (fun σ5 hσ5 => zpc_some hσ5)))
theorem fG_fX12_sayDo_81 {σ0 : zSt} {σ : zSt} {s0 : Nat} (h : (zQ [26] [(0, 0, 0), (0, 39, 49)] [] []) σ0 σ) : zpc (fX12_sayDo_81 σ s0) (fun r => (zQ [26] [(0, 0, 0), (0, 39, 49)] [] []) σ0 (r)) := by
  unfold fX12_sayDo_81
  exact zpc_bu (fG_fX12_say h) (fun σ1 hσ1 => zpc_some hσ1)
theorem fG_fX12_sayDo {σ0 : zSt} {σ : zSt} {x1 : Int32} (h : (zQ [26] [(0, 0, 0), (0, 39, 49)] [] []) σ0 σ) : zpc (fX12_sayDo σ x1) (fun r => (zQ [26] [(0, 0, 0), (0, 39, 49)] [] []) σ0 (r)) := by
  unfold fX12_sayDo
  exact zpc_if (fun _ => fG_fX12_sayDo_81 h) (fun _ => zpc_if (fun _ => fG_fX12_sayDo_81 h) (fun _ => zpc_if (fun _ => fG_fX12_sayDo_81 h) (fun _ => zpc_if (fun _ => fG_fX12_sayDo_81 h) (fun _ => zpc_if (fun _ => fG_fX12_sayDo_81 h) (fun _ => zpc_if (fun _ => fG_fX12_sayDo_81 h) (fun _ => zpc_if (fun _ => fG_fX12_sayDo_81 h) (fun _ => fG_fX12_sayDo_81 h)))))))
theorem fG_fX12_sayTurn_146 {σ0 : zSt} {σ : zSt} {x1 : Int32} (h : (zQ [26] [(0, 0, 0), (0, 39, 49)] [] []) σ0 σ) : zpc (fX12_sayTurn_146 σ x1) (fun r => (zQ [26] [(0, 0, 0), (0, 39, 49)] [] []) σ0 (r)) := by
  unfold fX12_sayTurn_146
  exact zpc_bu (fG_fX12_sayR h) (fun σ1 hσ1 => zpc_some hσ1)
theorem fG_fX12_sayTurn_94 {σ0 : zSt} {σ : zSt} {x1 : Int32} {s0 : Nat} (h : (zQ [26] [(0, 0, 0), (0, 39, 49)] [] []) σ0 σ) : zpc (fX12_sayTurn_94 σ x1 s0) (fun r => (zQ [26] [(0, 0, 0), (0, 39, 49)] [] []) σ0 (r)) := by
  unfold fX12_sayTurn_94
  exact zpc_bu (fG_fX12_say h) (fun σ2 hσ2 => fG_fX12_sayTurn_146 hσ2)
theorem fG_fX12_sayTurn_130 {σ0 : zSt} {σ : zSt} {x1 : Int32} {x2 : Int32} {s0 : Nat} (h : (zQ [26] [(0, 0, 0), (0, 39, 49)] [] []) σ0 σ) : zpc (fX12_sayTurn_130 σ x1 x2 s0) (fun r => (zQ [26] [(0, 0, 0), (0, 39, 49)] [] []) σ0 (r)) := by
  unfold fX12_sayTurn_130
  exact zpc_bu (fG_fX12_say h) (fun σ3 hσ3 => zpc_bu (fG_fX12_hex hσ3) (fun σ4 hσ4 => zpc_bu (fG_fX12_say hσ4) (fun σ5 hσ5 => fG_fX12_sayTurn_146 hσ5)))
theorem fG_fX12_sayTurn {σ0 : zSt} {σ : zSt} {x1 : Int32} (h : (zQ [26] [(0, 0, 0), (0, 39, 49)] [] []) σ0 σ) : zpc (fX12_sayTurn σ x1) (fun r => (zQ [26] [(0, 0, 0), (0, 39, 49)] [] []) σ0 (r)) := by
  unfold fX12_sayTurn
  exact zpc_bv (fun v6 _ => zpc_if (fun _ => zpc_if (fun _ => zpc_if (fun _ => fG_fX12_sayTurn_130 h) (fun _ => fG_fX12_sayTurn_130 h)) (fun _ => fG_fX12_sayTurn_130 h)) (fun _ => zpc_if (fun _ => fG_fX12_sayTurn_94 h) (fun _ => zpc_if (fun _ => fG_fX12_sayTurn_94 h) (fun _ => zpc_if (fun _ => fG_fX12_sayTurn_94 h) (fun _ => zpc_if (fun _ => fG_fX12_sayTurn_94 h) (fun _ => zpc_if (fun _ => fG_fX12_sayTurn_94 h) (fun _ => zpc_if (fun _ => fG_fX12_sayTurn_94 h) (fun _ => zpc_if (fun _ => fG_fX12_sayTurn_94 h) (fun _ => fG_fX12_sayTurn_94 h)))))))))
theorem fG_fX12_sayZero_301 {σ0 : zSt} {σ : zSt} (h : (zQ [26] [(0, 0, 0), (0, 39, 49)] [] []) σ0 σ) : zpc (fX12_sayZero_301 σ) (fun r => (zQ [26] [(0, 0, 0), (0, 39, 49)] [] []) σ0 (r)) := by
  unfold fX12_sayZero_301
  exact zpc_some h
theorem fG_fX12_sayZero_80 {σ0 : zSt} {σ : zSt} {x1 : Int32} (h : (zQ [26] [(0, 0, 0), (0, 39, 49)] [] []) σ0 σ) : zpc (fX12_sayZero_80 σ x1) (fun r => (zQ [26] [(0, 0, 0), (0, 39, 49)] [] []) σ0 (r)) := by
  unfold fX12_sayZero_80
  exact zpc_if (fun _ => fG_fX12_sayZero_301 h) (fun _ => zpc_bu (fG_fX12_sayJump h) (fun σ1 hσ1 => fG_fX12_sayZero_301 hσ1))
theorem fG_fX12_sayZero_58 {σ0 : zSt} {σ : zSt} {x1 : Int32} {s0 : Nat} (h : (zQ [26] [(0, 0, 0), (0, 39, 49)] [] []) σ0 σ) : zpc (fX12_sayZero_58 σ x1 s0) (fun r => (zQ [26] [(0, 0, 0), (0, 39, 49)] [] []) σ0 (r)) := by
  unfold fX12_sayZero_58
  exact zpc_bu (fG_fX12_say h) (fun σ2 hσ2 => zpc_if (fun _ => fG_fX12_sayZero_80 hσ2) (fun _ => zpc_bu (fG_fX12_sayCc hσ2) (fun σ3 hσ3 => zpc_bu (fG_fX12_say hσ3) (fun σ4 hσ4 => fG_fX12_sayZero_80 hσ4))))
theorem fG_fX12_sayZero_133 {σ0 : zSt} {σ : zSt} {x3 : Int32} {x4 : Int32} (h : (zQ [26] [(0, 0, 0), (0, 39, 49)] [] []) σ0 σ) : zpc (fX12_sayZero_133 σ x3 x4) (fun r => (zQ [26] [(0, 0, 0), (0, 39, 49)] [] []) σ0 (r)) := by
  unfold fX12_sayZero_133
  exact zpc_bu (fG_fX12_say h) (fun σ5 hσ5 => zpc_if (fun _ => zpc_bi (fG_fX12_takenWord hσ5) (fun σ6 v7 hσ6 => zpc_bu (fG_fX12_hex hσ6) (fun σ8 hσ8 => fG_fX12_sayZero_301 hσ8))) (fun _ => zpc_bu (fG_fX12_sayRp hσ5) (fun σ9 hσ9 => fG_fX12_sayZero_301 hσ9)))
theorem fG_fX12_sayZero_112 {σ0 : zSt} {σ : zSt} {x3 : Int32} {x4 : Int32} {s0 : Nat} (h : (zQ [26] [(0, 0, 0), (0, 39, 49)] [] []) σ0 σ) : zpc (fX12_sayZero_112 σ x3 x4 s0) (fun r => (zQ [26] [(0, 0, 0), (0, 39, 49)] [] []) σ0 (r)) := by
  unfold fX12_sayZero_112
  exact zpc_bu (fG_fX12_say h) (fun σ10 hσ10 => zpc_if (fun _ => zpc_bu (fG_fX12_sayRp hσ10) (fun σ11 hσ11 => fG_fX12_sayZero_133 hσ11)) (fun _ => zpc_bu (fG_fX12_sayHl hσ10) (fun σ12 hσ12 => fG_fX12_sayZero_133 hσ12)))
theorem fG_fX12_sayZero_186 {σ0 : zSt} {σ : zSt} {x3 : Int32} {s0 : Nat} (h : (zQ [26] [(0, 0, 0), (0, 39, 49)] [] []) σ0 σ) : zpc (fX12_sayZero_186 σ x3 s0) (fun r => (zQ [26] [(0, 0, 0), (0, 39, 49)] [] []) σ0 (r)) := by
  unfold fX12_sayZero_186
  exact zpc_bu (fG_fX12_say h) (fun σ13 hσ13 => zpc_bu (fG_fX12_sayRp hσ13) (fun σ14 hσ14 => fG_fX12_sayZero_301 hσ14))
theorem fG_fX12_sayZero_269 {σ0 : zSt} {σ : zSt} {x3 : Int32} {x4 : Int32} (h : (zQ [26] [(0, 0, 0), (0, 39, 49)] [] []) σ0 σ) : zpc (fX12_sayZero_269 σ x3 x4) (fun r => (zQ [26] [(0, 0, 0), (0, 39, 49)] [] []) σ0 (r)) := by
  unfold fX12_sayZero_269
  exact zpc_if (fun _ => zpc_bu (fG_fX12_say h) (fun σ15 hσ15 => zpc_if (fun _ => zpc_bu (fG_fX12_sayHl hσ15) (fun σ17 hσ17 => fG_fX12_sayZero_301 hσ17)) (fun _ => zpc_bu (fG_fX12_say hσ15) (fun σ16 hσ16 => fG_fX12_sayZero_301 hσ16)))) (fun _ => zpc_some h)
theorem fG_fX12_sayZero_255 {σ0 : zSt} {σ : zSt} {x3 : Int32} {x4 : Int32} {s0 : Nat} (h : (zQ [26] [(0, 0, 0), (0, 39, 49)] [] []) σ0 σ) : zpc (fX12_sayZero_255 σ x3 x4 s0) (fun r => (zQ [26] [(0, 0, 0), (0, 39, 49)] [] []) σ0 (r)) := by
  unfold fX12_sayZero_255
  exact zpc_bu (fG_fX12_say h) (fun σ18 hσ18 => fG_fX12_sayZero_269 hσ18)
theorem fG_fX12_sayZero_236 {σ0 : zSt} {σ : zSt} {x3 : Int32} {x4 : Int32} (h : (zQ [26] [(0, 0, 0), (0, 39, 49)] [] []) σ0 σ) : zpc (fX12_sayZero_236 σ x3 x4) (fun r => (zQ [26] [(0, 0, 0), (0, 39, 49)] [] []) σ0 (r)) := by
  unfold fX12_sayZero_236
  exact zpc_if (fun _ => zpc_bi (fG_fX12_takenWord h) (fun σ19 v20 hσ19 => zpc_bu (fG_fX12_sayPlaced hσ19) (fun σ21 hσ21 => fG_fX12_sayZero_269 hσ21))) (fun _ => zpc_if (fun _ => fG_fX12_sayZero_255 h) (fun _ => fG_fX12_sayZero_255 h))
theorem fG_fX12_sayZero_229 {σ0 : zSt} {σ : zSt} {x3 : Int32} {x4 : Int32} (h : (zQ [26] [(0, 0, 0), (0, 39, 49)] [] []) σ0 σ) : zpc (fX12_sayZero_229 σ x3 x4) (fun r => (zQ [26] [(0, 0, 0), (0, 39, 49)] [] []) σ0 (r)) := by
  unfold fX12_sayZero_229
  exact zpc_bu (fG_fX12_say h) (fun σ22 hσ22 => fG_fX12_sayZero_236 hσ22)
theorem fG_fX12_sayZero_16 {σ0 : zSt} {σ : zSt} {x1 : Int32} {x2 : Int32} {x3 : Int32} {s0 : Int32} (h : (zQ [26] [(0, 0, 0), (0, 39, 49)] [] []) σ0 σ) : zpc (fX12_sayZero_16 σ x1 x2 x3 s0) (fun r => (zQ [26] [(0, 0, 0), (0, 39, 49)] [] []) σ0 (r)) := by
  unfold fX12_sayZero_16
  exact zpc_if (fun _ => zpc_if (fun _ => fG_fX12_sayZero_58 h) (fun _ => zpc_if (fun _ => fG_fX12_sayZero_58 h) (fun _ => zpc_if (fun _ => fG_fX12_sayZero_58 h) (fun _ => fG_fX12_sayZero_58 h)))) (fun _ => zpc_if (fun _ => zpc_if (fun _ => fG_fX12_sayZero_112 h) (fun _ => fG_fX12_sayZero_112 h)) (fun _ => zpc_if (fun _ => zpc_if (fun _ => fG_fX12_sayZero_186 h) (fun _ => fG_fX12_sayZero_186 h)) (fun _ => zpc_bu (fG_fX12_say h) (fun σ23 hσ23 => zpc_if (fun _ => fG_fX12_sayZero_236 hσ23) (fun _ => zpc_if (fun _ => zpc_bu (fG_fX12_sayHl hσ23) (fun σ25 hσ25 => fG_fX12_sayZero_229 hσ25)) (fun _ => zpc_bu (fG_fX12_say hσ23) (fun σ24 hσ24 => fG_fX12_sayZero_229 hσ24)))))))
theorem fG_fX12_sayZero {σ0 : zSt} {σ : zSt} {x1 : Int32} {x2 : Int32} (h : (zQ [26] [(0, 0, 0), (0, 39, 49)] [] []) σ0 σ) : zpc (fX12_sayZero σ x1 x2) (fun r => (zQ [26] [(0, 0, 0), (0, 39, 49)] [] []) σ0 (r)) := by
  unfold fX12_sayZero
  exact zpc_bv (fun v26 _ => zpc_ck (zpc_if (fun _ => fG_fX12_sayZero_16 h) (fun _ => fG_fX12_sayZero_16 h)))
theorem fG_fX12_saySingle_87 {σ0 : zSt} {σ : zSt} {s0 : Nat} (h : (zQ [26] [(0, 0, 0), (0, 39, 49)] [] []) σ0 σ) : zpc (fX12_saySingle_87 σ s0) (fun r => (zQ [26] [(0, 0, 0), (0, 39, 49)] [] []) σ0 (r)) := by
  unfold fX12_saySingle_87
  exact zpc_bu (fG_fX12_say h) (fun σ1 hσ1 => zpc_some hσ1)
theorem fG_fX12_saySingle_117 {σ0 : zSt} {σ : zSt} {x1 : Int32} {x2 : Int32} {s0 : Nat} (h : (zQ [26] [(0, 0, 0), (0, 39, 49)] [] []) σ0 σ) : zpc (fX12_saySingle_117 σ x1 x2 s0) (fun r => (zQ [26] [(0, 0, 0), (0, 39, 49)] [] []) σ0 (r)) := by
  unfold fX12_saySingle_117
  exact zpc_bu (fG_fX12_say h) (fun σ2 hσ2 => zpc_bu (fG_fX12_sayR hσ2) (fun σ3 hσ3 => zpc_if (fun _ => zpc_bu (fG_fX12_say hσ3) (fun σ4 hσ4 => zpc_bi (fG_fX12_taken hσ4) (fun σ5 v6 hσ5 => zpc_bu (fG_fX12_hex hσ5) (fun σ7 hσ7 => zpc_some hσ7)))) (fun _ => zpc_some hσ3)))
theorem fG_fX12_saySingle {σ0 : zSt} {σ : zSt} {x1 : Int32} {x2 : Int32} (h : (zQ [26] [(0, 0, 0), (0, 39, 49)] [] []) σ0 σ) : zpc (fX12_saySingle σ x1 x2) (fun r => (zQ [26] [(0, 0, 0), (0, 39, 49)] [] []) σ0 (r)) := by
  unfold fX12_saySingle
  exact zpc_if (fun _ => zpc_if (fun _ => fG_fX12_saySingle_87 h) (fun _ => zpc_if (fun _ => fG_fX12_saySingle_87 h) (fun _ => zpc_if (fun _ => fG_fX12_saySingle_87 h) (fun _ => zpc_if (fun _ => fG_fX12_saySingle_87 h) (fun _ => zpc_if (fun _ => fG_fX12_saySingle_87 h) (fun _ => zpc_if (fun _ => fG_fX12_saySingle_87 h) (fun _ => zpc_if (fun _ => fG_fX12_saySingle_87 h) (fun _ => fG_fX12_saySingle_87 h)))))))) (fun _ => zpc_if (fun _ => fG_fX12_saySingle_117 h) (fun _ => zpc_if (fun _ => fG_fX12_saySingle_117 h) (fun _ => fG_fX12_saySingle_117 h)))
theorem fG_fX12_sayThree_266 {σ0 : zSt} {σ : zSt} (h : (zQ [26] [(0, 0, 0), (0, 39, 49)] [] []) σ0 σ) : zpc (fX12_sayThree_266 σ) (fun r => (zQ [26] [(0, 0, 0), (0, 39, 49)] [] []) σ0 (r)) := by
  unfold fX12_sayThree_266
  exact zpc_some h
theorem fG_fX12_sayThree_103 {σ0 : zSt} {σ : zSt} {x3 : Int32} (h : (zQ [26] [(0, 0, 0), (0, 39, 49)] [] []) σ0 σ) : zpc (fX12_sayThree_103 σ x3) (fun r => (zQ [26] [(0, 0, 0), (0, 39, 49)] [] []) σ0 (r)) := by
  unfold fX12_sayThree_103
  exact zpc_if (fun _ => zpc_bu (fG_fX12_say h) (fun σ1 hσ1 => fG_fX12_sayThree_266 hσ1)) (fun _ => fG_fX12_sayThree_266 h)
theorem fG_fX12_sayThree_91 {σ0 : zSt} {σ : zSt} {x3 : Int32} {s0 : Nat} (h : (zQ [26] [(0, 0, 0), (0, 39, 49)] [] []) σ0 σ) : zpc (fX12_sayThree_91 σ x3 s0) (fun r => (zQ [26] [(0, 0, 0), (0, 39, 49)] [] []) σ0 (r)) := by
  unfold fX12_sayThree_91
  exact zpc_bu (fG_fX12_say h) (fun σ2 hσ2 => zpc_if (fun _ => fG_fX12_sayThree_103 hσ2) (fun _ => zpc_bu (fG_fX12_sayHl hσ2) (fun σ3 hσ3 => fG_fX12_sayThree_103 hσ3)))
theorem fG_fX12_sayThree_151 {σ0 : zSt} {σ : zSt} (h : (zQ [26] [(0, 0, 0), (0, 39, 49)] [] []) σ0 σ) : zpc (fX12_sayThree_151 σ) (fun r => (zQ [26] [(0, 0, 0), (0, 39, 49)] [] []) σ0 (r)) := by
  unfold fX12_sayThree_151
  exact zpc_bi (fG_fX12_takenWord h) (fun σ4 v5 hσ4 => zpc_bu (fG_fX12_hex hσ4) (fun σ6 hσ6 => fG_fX12_sayThree_266 hσ6))
theorem fG_fX12_sayThree_127 {σ0 : zSt} {σ : zSt} {x1 : Int32} {x2 : Int32} (h : (zQ [26] [(0, 0, 0), (0, 39, 49)] [] []) σ0 σ) : zpc (fX12_sayThree_127 σ x1 x2) (fun r => (zQ [26] [(0, 0, 0), (0, 39, 49)] [] []) σ0 (r)) := by
  unfold fX12_sayThree_127
  exact zpc_bu (fG_fX12_say h) (fun σ7 hσ7 => zpc_if (fun _ => zpc_bu (fG_fX12_sayCc hσ7) (fun σ8 hσ8 => zpc_bu (fG_fX12_say hσ8) (fun σ9 hσ9 => fG_fX12_sayThree_151 hσ9))) (fun _ => fG_fX12_sayThree_151 hσ7))
theorem fG_fX12_sayThree_210 {σ0 : zSt} {σ : zSt} {s0 : Nat} (h : (zQ [26] [(0, 0, 0), (0, 39, 49)] [] []) σ0 σ) : zpc (fX12_sayThree_210 σ s0) (fun r => (zQ [26] [(0, 0, 0), (0, 39, 49)] [] []) σ0 (r)) := by
  unfold fX12_sayThree_210
  exact zpc_bu (fG_fX12_say h) (fun σ10 hσ10 => fG_fX12_sayThree_266 hσ10)
theorem fG_fX12_sayThree_183 {σ0 : zSt} {σ : zSt} {x1 : Int32} {s0 : Nat} (h : (zQ [26] [(0, 0, 0), (0, 39, 49)] [] []) σ0 σ) : zpc (fX12_sayThree_183 σ x1 s0) (fun r => (zQ [26] [(0, 0, 0), (0, 39, 49)] [] []) σ0 (r)) := by
  unfold fX12_sayThree_183
  exact zpc_bu (fG_fX12_say h) (fun σ11 hσ11 => zpc_bi (fG_fX12_taken hσ11) (fun σ12 v13 hσ12 => zpc_bu (fG_fX12_hex hσ12) (fun σ14 hσ14 => zpc_if (fun _ => fG_fX12_sayThree_210 hσ14) (fun _ => fG_fX12_sayThree_210 hσ14))))
theorem fG_fX12_sayThree_254 {σ0 : zSt} {σ : zSt} {x1 : Int32} {s0 : Nat} (h : (zQ [26] [(0, 0, 0), (0, 39, 49)] [] []) σ0 σ) : zpc (fX12_sayThree_254 σ x1 s0) (fun r => (zQ [26] [(0, 0, 0), (0, 39, 49)] [] []) σ0 (r)) := by
  unfold fX12_sayThree_254
  exact zpc_bu (fG_fX12_say h) (fun σ15 hσ15 => zpc_if (fun _ => zpc_bu (fG_fX12_sayHl hσ15) (fun σ16 hσ16 => fG_fX12_sayThree_266 hσ16)) (fun _ => fG_fX12_sayThree_266 hσ15))
theorem fG_fX12_sayThree_50 {σ0 : zSt} {σ : zSt} {x1 : Int32} {x2 : Int32} {x3 : Int32} (h : (zQ [26] [(0, 0, 0), (0, 39, 49)] [] []) σ0 σ) : zpc (fX12_sayThree_50 σ x1 x2 x3) (fun r => (zQ [26] [(0, 0, 0), (0, 39, 49)] [] []) σ0 (r)) := by
  unfold fX12_sayThree_50
  exact zpc_if (fun _ => zpc_if (fun _ => fG_fX12_sayThree_91 h) (fun _ => zpc_if (fun _ => fG_fX12_sayThree_91 h) (fun _ => zpc_if (fun _ => fG_fX12_sayThree_91 h) (fun _ => fG_fX12_sayThree_91 h)))) (fun _ => zpc_if (fun _ => fG_fX12_sayThree_127 h) (fun _ => zpc_if (fun _ => fG_fX12_sayThree_127 h) (fun _ => zpc_if (fun _ => zpc_if (fun _ => fG_fX12_sayThree_254 h) (fun _ => zpc_if (fun _ => fG_fX12_sayThree_254 h) (fun _ => zpc_if (fun _ => fG_fX12_sayThree_254 h) (fun _ => fG_fX12_sayThree_254 h)))) (fun _ => zpc_if (fun _ => fG_fX12_sayThree_183 h) (fun _ => fG_fX12_sayThree_183 h)))))
theorem fG_fX12_sayThree {σ0 : zSt} {σ : zSt} {x1 : Int32} {x2 : Int32} (h : (zQ [26] [(0, 0, 0), (0, 39, 49)] [] []) σ0 σ) : zpc (fX12_sayThree σ x1 x2) (fun r => (zQ [26] [(0, 0, 0), (0, 39, 49)] [] []) σ0 (r)) := by
  unfold fX12_sayThree
  exact zpc_bv (fun v17 _ => zpc_if (fun _ => zpc_bu (fG_fX12_say h) (fun σ20 hσ20 => zpc_bu (fG_fX12_sayCc hσ20) (fun σ21 hσ21 => fG_fX12_sayThree_266 hσ21))) (fun _ => zpc_if (fun _ => zpc_ck (zpc_if (fun _ => zpc_bu (fG_fX12_say h) (fun σ18 hσ18 => zpc_bu (fG_fX12_sayRp hσ18) (fun σ19 hσ19 => fG_fX12_sayThree_266 hσ19))) (fun _ => fG_fX12_sayThree_50 h))) (fun _ => fG_fX12_sayThree_50 h)))
theorem fG_fX12_sayLast_115 {σ0 : zSt} {σ : zSt} (h : (zQ [26] [(0, 0, 0), (0, 39, 49)] [] []) σ0 σ) : zpc (fX12_sayLast_115 σ) (fun r => (zQ [26] [(0, 0, 0), (0, 39, 49)] [] []) σ0 (r)) := by
  unfold fX12_sayLast_115
  exact zpc_some h
theorem fG_fX12_sayLast_43 {σ0 : zSt} {σ : zSt} (h : (zQ [26] [(0, 0, 0), (0, 39, 49)] [] []) σ0 σ) : zpc (fX12_sayLast_43 σ) (fun r => (zQ [26] [(0, 0, 0), (0, 39, 49)] [] []) σ0 (r)) := by
  unfold fX12_sayLast_43
  exact zpc_bi (fG_fX12_takenWord h) (fun σ1 v2 hσ1 => zpc_bu (fG_fX12_hex hσ1) (fun σ3 hσ3 => fG_fX12_sayLast_115 hσ3))
theorem fG_fX12_sayLast_19 {σ0 : zSt} {σ : zSt} {x1 : Int32} {x2 : Int32} (h : (zQ [26] [(0, 0, 0), (0, 39, 49)] [] []) σ0 σ) : zpc (fX12_sayLast_19 σ x1 x2) (fun r => (zQ [26] [(0, 0, 0), (0, 39, 49)] [] []) σ0 (r)) := by
  unfold fX12_sayLast_19
  exact zpc_bu (fG_fX12_say h) (fun σ4 hσ4 => zpc_if (fun _ => zpc_bu (fG_fX12_sayCc hσ4) (fun σ5 hσ5 => zpc_bu (fG_fX12_say hσ5) (fun σ6 hσ6 => fG_fX12_sayLast_43 hσ6))) (fun _ => fG_fX12_sayLast_43 hσ4))
theorem fG_fX12_sayLast_55 {σ0 : zSt} {σ : zSt} {x1 : Int32} {x2 : Int32} {x3 : Int32} (h : (zQ [26] [(0, 0, 0), (0, 39, 49)] [] []) σ0 σ) : zpc (fX12_sayLast_55 σ x1 x2 x3) (fun r => (zQ [26] [(0, 0, 0), (0, 39, 49)] [] []) σ0 (r)) := by
  unfold fX12_sayLast_55
  exact zpc_if (fun _ => zpc_bu (fG_fX12_say h) (fun σ13 hσ13 => zpc_bu (fG_fX12_sayRp hσ13) (fun σ14 hσ14 => fG_fX12_sayLast_115 hσ14))) (fun _ => zpc_if (fun _ => zpc_bu (fG_fX12_sayDo h) (fun σ9 hσ9 => zpc_bi (fG_fX12_taken hσ9) (fun σ10 v11 hσ10 => zpc_bu (fG_fX12_hex hσ10) (fun σ12 hσ12 => fG_fX12_sayLast_115 hσ12)))) (fun _ => zpc_bu (fG_fX12_say h) (fun σ7 hσ7 => zpc_bu (fG_fX12_hex hσ7) (fun σ8 hσ8 => fG_fX12_sayLast_115 hσ8))))
theorem fG_fX12_sayLast {σ0 : zSt} {σ : zSt} {x1 : Int32} {x2 : Int32} (h : (zQ [26] [(0, 0, 0), (0, 39, 49)] [] []) σ0 σ) : zpc (fX12_sayLast σ x1 x2) (fun r => (zQ [26] [(0, 0, 0), (0, 39, 49)] [] []) σ0 (r)) := by
  unfold fX12_sayLast
  exact zpc_bv (fun v15 _ => zpc_if (fun _ => fG_fX12_sayLast_19 h) (fun _ => zpc_if (fun _ => zpc_if (fun _ => fG_fX12_sayLast_19 h) (fun _ => fG_fX12_sayLast_55 h)) (fun _ => fG_fX12_sayLast_55 h)))
theorem fG_fX12_sayPlain_137 {σ0 : zSt} {σ : zSt} (h : (zQ [26] [(0, 0, 0), (0, 39, 49)] [] []) σ0 σ) : zpc (fX12_sayPlain_137 σ) (fun r => (zQ [26] [(0, 0, 0), (0, 39, 49)] [] []) σ0 (r)) := by
  unfold fX12_sayPlain_137
  exact zpc_some h
theorem fG_fX12_sayPlain_32 {σ0 : zSt} {σ : zSt} {x1 : Int32} {x2 : Int32} {x3 : Int32} (h : (zQ [26] [(0, 0, 0), (0, 39, 49)] [] []) σ0 σ) : zpc (fX12_sayPlain_32 σ x1 x2 x3) (fun r => (zQ [26] [(0, 0, 0), (0, 39, 49)] [] []) σ0 (r)) := by
  unfold fX12_sayPlain_32
  exact zpc_if (fun _ => zpc_if (fun _ => zpc_bu (fG_fX12_say h) (fun σ9 hσ9 => fG_fX12_sayPlain_137 hσ9)) (fun _ => zpc_if (fun _ => zpc_if (fun _ => zpc_if (fun _ => zpc_bu (fG_fX12_sayLast h) (fun σ1 hσ1 => fG_fX12_sayPlain_137 hσ1)) (fun _ => zpc_bu (fG_fX12_sayThree h) (fun σ2 hσ2 => fG_fX12_sayPlain_137 hσ2))) (fun _ => zpc_bu (fG_fX12_sayDo h) (fun σ3 hσ3 => zpc_bu (fG_fX12_sayR hσ3) (fun σ4 hσ4 => fG_fX12_sayPlain_137 hσ4)))) (fun _ => zpc_bu (fG_fX12_say h) (fun σ5 hσ5 => zpc_bu (fG_fX12_sayR hσ5) (fun σ6 hσ6 => zpc_bu (fG_fX12_say hσ6) (fun σ7 hσ7 => zpc_bu (fG_fX12_sayR hσ7) (fun σ8 hσ8 => fG_fX12_sayPlain_137 hσ8))))))) (fun _ => zpc_bu (fG_fX12_saySingle h) (fun σ10 hσ10 => fG_fX12_sayPlain_137 hσ10))
theorem fG_fX12_sayPlain {σ0 : zSt} {σ : zSt} {x1 : Int32} (h : (zQ [26] [(0, 0, 0), (0, 39, 49)] [] []) σ0 σ) : zpc (fX12_sayPlain σ x1) (fun r => (zQ [26] [(0, 0, 0), (0, 39, 49)] [] []) σ0 (r)) := by
  unfold fX12_sayPlain
  exact zpc_bv (fun v11 _ => zpc_bv (fun v12 _ => zpc_if (fun _ => fG_fX12_sayPlain_32 h) (fun _ => zpc_if (fun _ => fG_fX12_sayPlain_32 h) (fun _ => zpc_bu (fG_fX12_sayZero h) (fun σ13 hσ13 => fG_fX12_sayPlain_137 hσ13)))))
theorem fG_fX12_sayPrefixed_30 {σ0 : zSt} {σ : zSt} (h : (zQ [26] [(0, 0, 0), (0, 39, 49)] [] []) σ0 σ) : zpc (fX12_sayPrefixed_30 σ) (fun r => (zQ [26] [(0, 0, 0), (0, 39, 49)] [] []) σ0 (r)) := by
  unfold fX12_sayPrefixed_30
  exact zpc_bu (fG_fX12_say h) (fun σ1 hσ1 => zpc_some hσ1)
theorem fG_fX12_sayPrefixed_133 {σ0 : zSt} {σ : zSt} (h : (zQ [26] [(0, 0, 0), (0, 39, 49)] [] []) σ0 σ) : zpc (fX12_sayPrefixed_133 σ) (fun r => (zQ [26] [(0, 0, 0), (0, 39, 49)] [] []) σ0 (r)) := by
  unfold fX12_sayPrefixed_133
  exact zpc_some h
theorem fG_fX12_sayPrefixed_240 {σ0 : zSt} {σ : zSt} {x2 : Int32} (h : (zQ [26] [(0, 0, 0), (0, 39, 49)] [] []) σ0 σ) : zpc (fX12_sayPrefixed_240 σ x2) (fun r => (zQ [26] [(0, 0, 0), (0, 39, 49)] [] []) σ0 (r)) := by
  unfold fX12_sayPrefixed_240
  exact zpc_bu (fG_fX12_sayPlain h) (fun σ2 hσ2 => zpc_some hσ2)
theorem fG_fX12_sayPrefixed_219 {σ0 : zSt} {σ : zSt} {x2 : Int32} {s0 : Int32} (h : (zQ [26] [(0, 0, 0), (0, 39, 49)] [] []) σ0 σ) : zpc (fX12_sayPrefixed_219 σ x2 s0) (fun r => (zQ [26] [(0, 0, 0), (0, 39, 49)] [] []) σ0 (r)) := by
  unfold fX12_sayPrefixed_219
  exact zpc_ck (zpc_bs (zQ.wi h rfl) (fun σ3 hσ3 => zpc_if (fun _ => fG_fX12_sayPrefixed_240 hσ3) (fun _ => zpc_bi (fG_fX12_taken hσ3) (fun σ4 v5 hσ4 => zpc_bi (fG_fX12_signed hσ4) (fun σ6 v7 hσ6 => zpc_bs (zQ.wi hσ6 rfl) (fun σ8 hσ8 => fG_fX12_sayPrefixed_240 hσ8))))))
theorem fG_fX12_sayPrefixed_218 {σ0 : zSt} {σ : zSt} {x2 : Int32} (h : (zQ [26] [(0, 0, 0), (0, 39, 49)] [] []) σ0 σ) : zpc (fX12_sayPrefixed_218 σ x2) (fun r => (zQ [26] [(0, 0, 0), (0, 39, 49)] [] []) σ0 (r)) := by
  unfold fX12_sayPrefixed_218
  exact fG_fX12_sayPrefixed_219 h
theorem fG_fX12_sayPrefixed_214 {σ0 : zSt} {σ : zSt} {x2 : Int32} (h : (zQ [26] [(0, 0, 0), (0, 39, 49)] [] []) σ0 σ) : zpc (fX12_sayPrefixed_214 σ x2) (fun r => (zQ [26] [(0, 0, 0), (0, 39, 49)] [] []) σ0 (r)) := by
  unfold fX12_sayPrefixed_214
  exact fG_fX12_sayPrefixed_219 h
theorem fG_fX12_sayPrefixed_201 {σ0 : zSt} {σ : zSt} {x2 : Int32} {x4 : Int32} {x5 : Int32} (h : (zQ [26] [(0, 0, 0), (0, 39, 49)] [] []) σ0 σ) : zpc (fX12_sayPrefixed_201 σ x2 x4 x5) (fun r => (zQ [26] [(0, 0, 0), (0, 39, 49)] [] []) σ0 (r)) := by
  unfold fX12_sayPrefixed_201
  exact zpc_if (fun _ => zpc_if (fun _ => fG_fX12_sayPrefixed_214 h) (fun _ => fG_fX12_sayPrefixed_218 h)) (fun _ => fG_fX12_sayPrefixed_218 h)
theorem fG_fX12_sayPrefixed_195 {σ0 : zSt} {σ : zSt} {x2 : Int32} {x4 : Int32} {x5 : Int32} (h : (zQ [26] [(0, 0, 0), (0, 39, 49)] [] []) σ0 σ) : zpc (fX12_sayPrefixed_195 σ x2 x4 x5) (fun r => (zQ [26] [(0, 0, 0), (0, 39, 49)] [] []) σ0 (r)) := by
  unfold fX12_sayPrefixed_195
  exact zpc_if (fun _ => fG_fX12_sayPrefixed_201 h) (fun _ => fG_fX12_sayPrefixed_214 h)
theorem fG_fX12_sayPrefixed_176 {σ0 : zSt} {σ : zSt} {x2 : Int32} {x3 : Int32} {x4 : Int32} {x5 : Int32} (h : (zQ [26] [(0, 0, 0), (0, 39, 49)] [] []) σ0 σ) : zpc (fX12_sayPrefixed_176 σ x2 x3 x4 x5) (fun r => (zQ [26] [(0, 0, 0), (0, 39, 49)] [] []) σ0 (r)) := by
  unfold fX12_sayPrefixed_176
  exact zpc_if (fun _ => zpc_if (fun _ => fG_fX12_sayPrefixed_195 h) (fun _ => zpc_if (fun _ => fG_fX12_sayPrefixed_195 h) (fun _ => fG_fX12_sayPrefixed_201 h))) (fun _ => fG_fX12_sayPrefixed_201 h)
theorem fG_fX12_sayPrefixed {σ0 : zSt} {σ : zSt} {x1 : Int32} (h : (zQ [26] [(0, 0, 0), (0, 39, 49)] [] []) σ0 σ) : zpc (fX12_sayPrefixed σ x1) (fun r => (zQ [26] [(0, 0, 0), (0, 39, 49)] [] []) σ0 (r)) := by
  unfold fX12_sayPrefixed
  exact zpc_bi (fG_fX12_read h) (fun σ9 v10 hσ9 => zpc_if (fun _ => fG_fX12_sayPrefixed_30 hσ9) (fun _ => zpc_if (fun _ => fG_fX12_sayPrefixed_30 hσ9) (fun _ => zpc_if (fun _ => fG_fX12_sayPrefixed_30 hσ9) (fun _ => zpc_bs (zQ.wi hσ9 rfl) (fun σ11 hσ11 => zpc_bs (zQ.wi hσ11 rfl) (fun σ12 hσ12 => zpc_bv (fun v13 _ => zpc_bv (fun v14 _ => zpc_bv (fun v15 _ => zpc_if (fun _ => zpc_bi (fG_fX12_taken hσ12) (fun σ16 v17 hσ16 => zpc_bi (fG_fX12_signed hσ16) (fun σ18 v19 hσ18 => zpc_bs (zQ.wi hσ18 rfl) (fun σ20 hσ20 => zpc_ck (zpc_bs (zQ.wi hσ20 rfl) (fun σ21 hσ21 => zpc_bi (fG_fX12_taken hσ21) (fun σ22 v23 hσ22 => zpc_bu (fG_fX12_sayTurn hσ22) (fun σ24 hσ24 => zpc_if (fun _ => fG_fX12_sayPrefixed_133 hσ24) (fun _ => zpc_ck (zpc_if (fun _ => fG_fX12_sayPrefixed_133 hσ24) (fun _ => zpc_bu (fG_fX12_say hσ24) (fun σ25 hσ25 => zpc_ck (zpc_bu (fG_fX12_sayR hσ25) (fun σ26 hσ26 => zpc_some hσ26)))))))))))))) (fun _ => zpc_if (fun _ => zpc_if (fun _ => fG_fX12_sayPrefixed_176 hσ12) (fun _ => zpc_if (fun _ => fG_fX12_sayPrefixed_176 hσ12) (fun _ => zpc_if (fun _ => fG_fX12_sayPrefixed_214 hσ12) (fun _ => fG_fX12_sayPrefixed_176 hσ12)))) (fun _ => fG_fX12_sayPrefixed_176 hσ12)))))))))))
theorem fG_fX12_sayOdd_155 {σ0 : zSt} {σ : zSt} (h : (zQ [26] [(0, 0, 0), (0, 39, 49)] [] []) σ0 σ) : zpc (fX12_sayOdd_155 σ) (fun r => (zQ [26] [(0, 0, 0), (0, 39, 49)] [] []) σ0 (r)) := by
  unfold fX12_sayOdd_155
  exact zpc_some h
theorem fG_fX12_sayOdd_35 {σ0 : zSt} {σ : zSt} {s0 : Nat} (h : (zQ [26] [(0, 0, 0), (0, 39, 49)] [] []) σ0 σ) : zpc (fX12_sayOdd_35 σ s0) (fun r => (zQ [26] [(0, 0, 0), (0, 39, 49)] [] []) σ0 (r)) := by
  unfold fX12_sayOdd_35
  exact zpc_bu (fG_fX12_say h) (fun σ1 hσ1 => fG_fX12_sayOdd_155 hσ1)
theorem fG_fX12_sayOdd_77 {σ0 : zSt} {σ : zSt} {s0 : Nat} (h : (zQ [26] [(0, 0, 0), (0, 39, 49)] [] []) σ0 σ) : zpc (fX12_sayOdd_77 σ s0) (fun r => (zQ [26] [(0, 0, 0), (0, 39, 49)] [] []) σ0 (r)) := by
  unfold fX12_sayOdd_77
  exact zpc_bu (fG_fX12_say h) (fun σ2 hσ2 => fG_fX12_sayOdd_155 hσ2)
theorem fG_fX12_sayOdd_152 {σ0 : zSt} {σ : zSt} {s0 : Nat} (h : (zQ [26] [(0, 0, 0), (0, 39, 49)] [] []) σ0 σ) : zpc (fX12_sayOdd_152 σ s0) (fun r => (zQ [26] [(0, 0, 0), (0, 39, 49)] [] []) σ0 (r)) := by
  unfold fX12_sayOdd_152
  exact zpc_bu (fG_fX12_say h) (fun σ3 hσ3 => fG_fX12_sayOdd_155 hσ3)
theorem fG_fX12_sayOdd {σ0 : zSt} {σ : zSt} {x1 : Int32} {x2 : Int32} (h : (zQ [26] [(0, 0, 0), (0, 39, 49)] [] []) σ0 σ) : zpc (fX12_sayOdd σ x1 x2) (fun r => (zQ [26] [(0, 0, 0), (0, 39, 49)] [] []) σ0 (r)) := by
  unfold fX12_sayOdd
  exact zpc_if (fun _ => zpc_bu (fG_fX12_say h) (fun σ4 hσ4 => fG_fX12_sayOdd_155 hσ4)) (fun _ => zpc_if (fun _ => zpc_if (fun _ => fG_fX12_sayOdd_35 h) (fun _ => fG_fX12_sayOdd_35 h)) (fun _ => zpc_if (fun _ => zpc_ck (zpc_if (fun _ => zpc_ck (zpc_if (fun _ => fG_fX12_sayOdd_77 h) (fun _ => fG_fX12_sayOdd_77 h))) (fun _ => fG_fX12_sayOdd_77 h))) (fun _ => zpc_if (fun _ => fG_fX12_sayOdd_152 h) (fun _ => zpc_if (fun _ => fG_fX12_sayOdd_152 h) (fun _ => zpc_if (fun _ => fG_fX12_sayOdd_152 h) (fun _ => zpc_if (fun _ => fG_fX12_sayOdd_152 h) (fun _ => zpc_if (fun _ => fG_fX12_sayOdd_152 h) (fun _ => zpc_if (fun _ => fG_fX12_sayOdd_152 h) (fun _ => fG_fX12_sayOdd_152 h)))))))))
theorem fG_fX12_sayMore_325 {σ0 : zSt} {σ : zSt} (h : (zQ [26] [(0, 0, 0), (0, 39, 49)] [] []) σ0 σ) : zpc (fX12_sayMore_325 σ) (fun r => (zQ [26] [(0, 0, 0), (0, 39, 49)] [] []) σ0 (r)) := by
  unfold fX12_sayMore_325
  exact zpc_some h
theorem fG_fX12_sayMore_164 {σ0 : zSt} {σ : zSt} (h : (zQ [26] [(0, 0, 0), (0, 39, 49)] [] []) σ0 σ) : zpc (fX12_sayMore_164 σ) (fun r => (zQ [26] [(0, 0, 0), (0, 39, 49)] [] []) σ0 (r)) := by
  unfold fX12_sayMore_164
  exact zpc_bu (fG_fX12_say h) (fun σ1 hσ1 => fG_fX12_sayMore_325 hσ1)
theorem fG_fX12_sayMore_231 {σ0 : zSt} {σ : zSt} {x2 : Int32} {s0 : Nat} (h : (zQ [26] [(0, 0, 0), (0, 39, 49)] [] []) σ0 σ) : zpc (fX12_sayMore_231 σ x2 s0) (fun r => (zQ [26] [(0, 0, 0), (0, 39, 49)] [] []) σ0 (r)) := by
  unfold fX12_sayMore_231
  exact zpc_bu (fG_fX12_say h) (fun σ2 hσ2 => zpc_bu (fG_fX12_sayRp hσ2) (fun σ3 hσ3 => fG_fX12_sayMore_325 hσ3))
theorem fG_fX12_sayMore_316 {σ0 : zSt} {σ : zSt} (h : (zQ [26] [(0, 0, 0), (0, 39, 49)] [] []) σ0 σ) : zpc (fX12_sayMore_316 σ) (fun r => (zQ [26] [(0, 0, 0), (0, 39, 49)] [] []) σ0 (r)) := by
  unfold fX12_sayMore_316
  exact fG_fX12_sayMore_325 h
theorem fG_fX12_sayMore_286 {σ0 : zSt} {σ : zSt} {x2 : Int32} {x5 : Int32} (h : (zQ [26] [(0, 0, 0), (0, 39, 49)] [] []) σ0 σ) : zpc (fX12_sayMore_286 σ x2 x5) (fun r => (zQ [26] [(0, 0, 0), (0, 39, 49)] [] []) σ0 (r)) := by
  unfold fX12_sayMore_286
  exact zpc_bu (fG_fX12_say h) (fun σ4 hσ4 => zpc_ck (zpc_if (fun _ => zpc_bu (fG_fX12_sayRp hσ4) (fun σ6 hσ6 => fG_fX12_sayMore_316 hσ6)) (fun _ => zpc_bu (fG_fX12_sayPlaced hσ4) (fun σ5 hσ5 => fG_fX12_sayMore_316 hσ5))))
theorem fG_fX12_sayMore_119 {σ0 : zSt} {σ : zSt} {x2 : Int32} {x3 : Int32} {x4 : Int32} (h : (zQ [26] [(0, 0, 0), (0, 39, 49)] [] []) σ0 σ) : zpc (fX12_sayMore_119 σ x2 x3 x4) (fun r => (zQ [26] [(0, 0, 0), (0, 39, 49)] [] []) σ0 (r)) := by
  unfold fX12_sayMore_119
  exact zpc_if (fun _ => zpc_if (fun _ => zpc_bu (fG_fX12_say h) (fun σ16 hσ16 => zpc_if (fun _ => fG_fX12_sayMore_164 hσ16) (fun _ => zpc_bu (fG_fX12_sayR hσ16) (fun σ17 hσ17 => zpc_bu (fG_fX12_say hσ17) (fun σ18 hσ18 => fG_fX12_sayMore_164 hσ18))))) (fun _ => zpc_if (fun _ => zpc_bu (fG_fX12_say h) (fun σ13 hσ13 => zpc_if (fun _ => zpc_bu (fG_fX12_say hσ13) (fun σ15 hσ15 => fG_fX12_sayMore_325 hσ15)) (fun _ => zpc_bu (fG_fX12_sayR hσ13) (fun σ14 hσ14 => fG_fX12_sayMore_325 hσ14)))) (fun _ => zpc_if (fun _ => zpc_ck (zpc_if (fun _ => fG_fX12_sayMore_231 h) (fun _ => fG_fX12_sayMore_231 h))) (fun _ => zpc_if (fun _ => zpc_bu (fG_fX12_say h) (fun σ8 hσ8 => zpc_bi (fG_fX12_takenWord hσ8) (fun σ9 v10 hσ9 => zpc_ck (zpc_if (fun _ => zpc_bu (fG_fX12_sayPlaced hσ9) (fun σ12 hσ12 => fG_fX12_sayMore_286 hσ12)) (fun _ => zpc_bu (fG_fX12_sayRp hσ9) (fun σ11 hσ11 => fG_fX12_sayMore_286 hσ11)))))) (fun _ => zpc_bu (fG_fX12_sayOdd h) (fun σ7 hσ7 => fG_fX12_sayMore_325 hσ7)))))) (fun _ => zpc_bu (fG_fX12_say h) (fun σ19 hσ19 => fG_fX12_sayMore_325 hσ19))
theorem fG_fX12_sayMore_101 {σ0 : zSt} {σ : zSt} {x2 : Int32} {s0 : Nat} (h : (zQ [26] [(0, 0, 0), (0, 39, 49)] [] []) σ0 σ) : zpc (fX12_sayMore_101 σ x2 s0) (fun r => (zQ [26] [(0, 0, 0), (0, 39, 49)] [] []) σ0 (r)) := by
  unfold fX12_sayMore_101
  exact zpc_bu (fG_fX12_say h) (fun σ20 hσ20 => zpc_if (fun _ => fG_fX12_sayMore_325 hσ20) (fun _ => zpc_bu (fG_fX12_say hσ20) (fun σ21 hσ21 => fG_fX12_sayMore_325 hσ21)))
theorem fG_fX12_sayMore_82 {σ0 : zSt} {σ : zSt} {x2 : Int32} {s0 : Nat} (h : (zQ [26] [(0, 0, 0), (0, 39, 49)] [] []) σ0 σ) : zpc (fX12_sayMore_82 σ x2 s0) (fun r => (zQ [26] [(0, 0, 0), (0, 39, 49)] [] []) σ0 (r)) := by
  unfold fX12_sayMore_82
  exact zpc_bu (fG_fX12_say h) (fun σ22 hσ22 => zpc_ck (zpc_if (fun _ => fG_fX12_sayMore_101 hσ22) (fun _ => fG_fX12_sayMore_101 hσ22)))
theorem fG_fX12_sayMore {σ0 : zSt} {σ : zSt} {x1 : Int32} (h : (zQ [26] [(0, 0, 0), (0, 39, 49)] [] []) σ0 σ) : zpc (fX12_sayMore σ x1) (fun r => (zQ [26] [(0, 0, 0), (0, 39, 49)] [] []) σ0 (r)) := by
  unfold fX12_sayMore
  exact zpc_bv (fun v23 _ => zpc_bv (fun v24 _ => zpc_bv (fun v25 _ => zpc_if (fun _ => zpc_if (fun _ => fG_fX12_sayMore_119 h) (fun _ => zpc_if (fun _ => fG_fX12_sayMore_119 h) (fun _ => zpc_if (fun _ => fG_fX12_sayMore_82 h) (fun _ => zpc_if (fun _ => fG_fX12_sayMore_82 h) (fun _ => zpc_if (fun _ => fG_fX12_sayMore_82 h) (fun _ => zpc_if (fun _ => fG_fX12_sayMore_82 h) (fun _ => fG_fX12_sayMore_82 h))))))) (fun _ => fG_fX12_sayMore_119 h))))
theorem fG_fX12_tell_112 {σ0 : zSt} {σ : zSt} {x2 : Int32} (h : (zQ [26] [(0, 0, 0), (0, 39, 49)] [] []) σ0 σ) : zpc (fX12_tell_112 σ x2) (fun r => (zQ [26] [(0, 0, 0), (0, 39, 49)] [] []) σ0 (r.1)) := by
  unfold fX12_tell_112
  exact zpc_some h
theorem fG_fX12_tell_65 {σ0 : zSt} {σ : zSt} {x2 : Int32} {s0 : Int32} (h : (zQ [26] [(0, 0, 0), (0, 39, 49)] [] []) σ0 σ) : zpc (fX12_tell_65 σ x2 s0) (fun r => (zQ [26] [(0, 0, 0), (0, 39, 49)] [] []) σ0 (r.1)) := by
  unfold fX12_tell_65
  exact zpc_bu (fG_fX12_sayPrefixed h) (fun σ1 hσ1 => fG_fX12_tell_112 hσ1)
theorem fG_fX12_tell_52 {σ0 : zSt} {σ : zSt} {x2 : Int32} {x3 : Int32} (h : (zQ [26] [(0, 0, 0), (0, 39, 49)] [] []) σ0 σ) : zpc (fX12_tell_52 σ x2 x3) (fun r => (zQ [26] [(0, 0, 0), (0, 39, 49)] [] []) σ0 (r.1)) := by
  unfold fX12_tell_52
  exact zpc_if (fun _ => fG_fX12_tell_65 h) (fun _ => fG_fX12_tell_65 h)
theorem fG_fX12_tell {σ0 : zSt} {σ : zSt} {x1 : Int32} (h : (zQ [26] [(0, 0, 0), (0, 39, 49)] [] []) σ0 σ) : zpc (fX12_tell σ x1) (fun r => (zQ [26] [(0, 0, 0), (0, 39, 49)] [] []) σ0 (r.1)) := by
  unfold fX12_tell
  exact zpc_bs (zQ.wi h rfl) (fun σ2 hσ2 => zpc_bs (zQ.wi hσ2 rfl) (fun σ3 hσ3 => zpc_bs (zQ.wi hσ3 rfl) (fun σ4 hσ4 => zpc_bs (zQ.wi hσ4 rfl) (fun σ5 hσ5 => zpc_ck (zpc_bs (zQ.wi hσ5 rfl) (fun σ6 hσ6 => zpc_bv (fun v7 _ => zpc_bi (fG_fX12_taken hσ6) (fun σ8 v9 hσ8 => zpc_if (fun _ => fG_fX12_tell_52 hσ8) (fun _ => zpc_if (fun _ => fG_fX12_tell_52 hσ8) (fun _ => zpc_if (fun _ => zpc_bi (fG_fX12_taken hσ8) (fun σ14 v15 hσ14 => zpc_bu (fG_fX12_sayTurn hσ14) (fun σ16 hσ16 => fG_fX12_tell_112 hσ16))) (fun _ => zpc_if (fun _ => zpc_bi (fG_fX12_taken hσ8) (fun σ11 v12 hσ11 => zpc_bu (fG_fX12_sayMore hσ11) (fun σ13 hσ13 => fG_fX12_tell_112 hσ13))) (fun _ => zpc_bu (fG_fX12_sayPlain hσ8) (fun σ10 hσ10 => fG_fX12_tell_112 hσ10)))))))))))))
theorem fG_fX12_text_70 {σ0 : zSt} {k37 : zSt → Int32 → Int64 → Int32 → Option (zSt × Int64)} (hk37 : ∀ (y0 : zSt) (y1 : Int32) (y2 : Int64) (y3 : Int32), (zQ [26] [(0, 0, 0), (0, 39, 49)] [] []) σ0 y0 → zpc (k37 y0 y1 y2 y3) (fun r => (zQ [26] [(0, 0, 0), (0, 39, 49)] [] []) σ0 (r.1))) {σ : zSt} {x1 : Int32} {x4 : Int32} {s0 : Int32} {s1 : Int64} (h : (zQ [26] [(0, 0, 0), (0, 39, 49)] [] []) σ0 σ) : zpc (fX12_text_70 k37 σ x1 x4 s0 s1) (fun r => (zQ [26] [(0, 0, 0), (0, 39, 49)] [] []) σ0 (r.1)) := by
  unfold fX12_text_70
  exact zpc_bv (fun v1 _ => zpc_bv (fun v2 _ => hk37 _ _ _ _ h))
theorem fG_fX12_text_37_body {σ0 : zSt} {k37 : zSt → Int32 → Int64 → Int32 → Option (zSt × Int64)} (hk37 : ∀ (y0 : zSt) (y1 : Int32) (y2 : Int64) (y3 : Int32), (zQ [26] [(0, 0, 0), (0, 39, 49)] [] []) σ0 y0 → zpc (k37 y0 y1 y2 y3) (fun r => (zQ [26] [(0, 0, 0), (0, 39, 49)] [] []) σ0 (r.1))) {σ : zSt} {x1 : Int32} {x2 : Int64} {x4 : Int32} (h : (zQ [26] [(0, 0, 0), (0, 39, 49)] [] []) σ0 σ) : zpc (fX12_text_37_body k37 σ x1 x2 x4) (fun r => (zQ [26] [(0, 0, 0), (0, 39, 49)] [] []) σ0 (r.1)) := by
  unfold fX12_text_37_body
  exact zpc_if (fun _ => zpc_some h) (fun _ => zpc_if (fun _ => fG_fX12_text_70 hk37 h) (fun _ => zpc_ck (fG_fX12_text_70 hk37 h)))
theorem fG_fX12_text_37 {σ0 : zSt} : ∀ (n : Nat) (y0 : zSt) (y1 : Int32) (y2 : Int64) (y3 : Int32), (zQ [26] [(0, 0, 0), (0, 39, 49)] [] []) σ0 y0 → zpc (fX12_text_37 n y0 y1 y2 y3) (fun r => (zQ [26] [(0, 0, 0), (0, 39, 49)] [] []) σ0 (r.1)) := by
  intro n
  induction n with
  | zero => intro y0 y1 y2 y3 h; exact zpc_none
  | succ n ih => intro y0 y1 y2 y3 h; exact fG_fX12_text_37_body ih h
theorem fG_fX12_text_22 {σ0 : zSt} {σ : zSt} {x1 : Int32} {s0 : Int32} (h : (zQ [26] [(0, 0, 0), (0, 39, 49)] [] []) σ0 σ) : zpc (fX12_text_22 σ x1 s0) (fun r => (zQ [26] [(0, 0, 0), (0, 39, 49)] [] []) σ0 (r.1)) := by
  unfold fX12_text_22
  exact zpc_bi (fG_fX12_fails h) (fun σ3 v4 hσ3 => zpc_if (fun _ => fG_fX12_text_37 _ _ _ _ _ hσ3) (fun _ => zpc_some hσ3))
theorem fG_fX12_text {σ0 : zSt} {σ : zSt} {x1 : Int32} (h : (zQ [26] [(0, 0, 0), (0, 39, 49)] [] []) σ0 σ) : zpc (fX12_text σ x1) (fun r => (zQ [26] [(0, 0, 0), (0, 39, 49)] [] []) σ0 (r.1)) := by
  unfold fX12_text
  exact zpc_bi (fG_fX12_within h) (fun σ5 v6 hσ5 => zpc_if (fun _ => fG_fX12_text_22 hσ5) (fun _ => fG_fX12_text_22 hσ5))
theorem fh_fX6_size_k12 {σ0 : zSt} {σ : zSt} (h : (zQ [] [(12, 2, 3)] [] []) σ0 σ) : zpc (fX6_size_k12 σ) (fun r => (zQ [] [(12, 2, 3)] [] []) σ0 (r.1)) := by
  unfold fX6_size_k12
  exact zpc_some h
theorem fh_fX6_takeFirst_k12 {σ0 : zSt} {σ : zSt} (h : (zQ [] [(12, 2, 3)] [] []) σ0 σ) : zpc (fX6_takeFirst_k12 σ) (fun r => (zQ [] [(12, 2, 3)] [] []) σ0 (r.1)) := by
  unfold fX6_takeFirst_k12
  exact zpc_if (fun _ => zpc_some h) (fun _ => zpc_ck (zpc_bv (fun v1 _ => zpc_bs (zQ.wi h rfl) (fun σ2 hσ2 => zpc_bs (zQ.wi hσ2 rfl) (fun σ3 hσ3 => zpc_some hσ3)))))
theorem fh_fX11_mix {σ0 : zSt} {σ : zSt} (h : (zQ [] [(12, 2, 3)] [] []) σ0 σ) : zpc (fX11_mix σ) (fun r => (zQ [] [(12, 2, 3)] [] []) σ0 (zRls r)) := by
  unfold fX11_mix
  exact zpc_bi (fh_fX6_size_k12 h) (fun σ1 v2 hσ1 => zpc_if (fun _ => zpc_some hσ1) (fun _ => zpc_bll (fh_fX6_takeFirst_k12 hσ1) (fun σ3 v4 hσ3 => zpc_some hσ3)))
theorem fH_fX12_fails_10 {σ0 : zSt} {σ : zSt} {x1 : Int32} {s0 : Int32} (h : (zQ [] [(0, 0, 0), (3, 169, 170)] [] []) σ0 σ) : zpc (fX12_fails_10 σ x1 s0) (fun r => (zQ [] [(0, 0, 0), (3, 169, 170)] [] []) σ0 (r.1)) := by
  unfold fX12_fails_10
  exact zpc_bs (zQ.wi h rfl) (fun σ1 hσ1 => zpc_ck (zpc_some hσ1))
theorem fH_fX12_fails {σ0 : zSt} {σ : zSt} {x1 : Int32} {x2 : Int32} (h : (zQ [] [(0, 0, 0), (3, 169, 170)] [] []) σ0 σ) : zpc (fX12_fails σ x1 x2) (fun r => (zQ [] [(0, 0, 0), (3, 169, 170)] [] []) σ0 (r.1)) := by
  unfold fX12_fails
  exact zpc_if (fun _ => fH_fX12_fails_10 h) (fun _ => fH_fX12_fails_10 h)
theorem fH_fX12_mix_17 {σ0 : zSt} {σ : zSt} {s0 : Int32} (h : (zQ [] [(0, 0, 0), (3, 169, 170)] [] []) σ0 σ) : zpc (fX12_mix_17 σ s0) (fun r => (zQ [] [(0, 0, 0), (3, 169, 170)] [] []) σ0 (r.1)) := by
  unfold fX12_mix_17
  exact zpc_bi (fH_fX12_fails h) (fun σ1 v2 hσ1 => zpc_if (fun _ => zpc_ck (zpc_ck (zpc_bv (fun v3 _ => zpc_ck (zpc_ck (zpc_ck (zpc_bs (zQ.wi hσ1 rfl) (fun σ4 hσ4 => zpc_ck (zpc_ck (zpc_bs (zQ.wi hσ4 rfl) (fun σ5 hσ5 => zpc_some hσ5))))))))))) (fun _ => zpc_some hσ1))
theorem fH_fX12_mix {σ0 : zSt} {σ : zSt} (h : (zQ [] [(0, 0, 0), (3, 169, 170)] [] []) σ0 σ) : zpc (fX12_mix σ) (fun r => (zQ [] [(0, 0, 0), (3, 169, 170)] [] []) σ0 (r.1)) := by
  unfold fX12_mix
  exact zpc_ck (zpc_if (fun _ => fH_fX12_mix_17 h) (fun _ => fH_fX12_mix_17 h))
end ZJN4
section ZJN5
/-! TONES -/
/-- the tones' own cells, and their ranges -/
noncomputable def zTo (σ μ : zSt) : Prop := (∀ j : Nat, 3 ≤ j → j ≤ 8 → μ.1 3 (69 + j) = σ.1 30 j) ∧ (∀ j : Nat, 14 ≤ j → j ≤ 16 → μ.1 3 (69 + j) = σ.1 30 j) ∧ (∀ j : Nat, 3 ≤ j → j ≤ 5 → zr 0 1023 (σ.1 30 j)) ∧ (∀ j : Nat, 6 ≤ j → j ≤ 8 → zr 0 1 (σ.1 30 j)) ∧ zr 0 1023 (σ.1 30 14) ∧ zr 0 1 (σ.1 30 15) ∧ zr 0 65535 (σ.1 30 16)
noncomputable def zSo (σ μ s t : zSt) : Prop := zTo s t ∧ zQ [] [(30, 3, 8), (30, 14, 16)] [] [] σ s ∧ zQ [] [(3, 72, 77), (3, 83, 85)] [] [] μ t
section ZTN
variable {σ μ s t : zSt}
theorem zsi_tw {ν : zSt} {k j : Nat} {v w : Int32} : zsi (zsi ν k j v) k j w = zsi ν k j w := by
  refine Prod.ext (funext fun a => funext fun b => ?_) rfl
  rw [zsi_at, zsi_at, zsi_at]
  by_cases q : a = k ∧ b = j
  · rw [if_pos q, if_pos q]
  · rw [if_neg q, if_neg q, if_neg q]
noncomputable def zTog (j : Nat) (v : Int32) : Prop := (3 ≤ j → j ≤ 5 → zr 0 1023 v) ∧ (6 ≤ j → j ≤ 8 → zr 0 1 v) ∧ (j = 14 → zr 0 1023 v) ∧ (j = 15 → zr 0 1 v) ∧ (j = 16 → zr 0 65535 v)
theorem zTo.w (h : zTo σ μ) {j m : Nat} {v : Int32} (em : m = 69 + j) (g : zTog j v) : zTo (zsi σ 30 j v) (zsi μ 3 m v) := by
  obtain ⟨h1, h2, h3, h4, h5, h6, h7⟩ := h
  obtain ⟨g1, g2, g3, g4, g5⟩ := g
  subst em
  have key : ∀ i : Nat, μ.1 3 (69 + i) = σ.1 30 i → (zsi μ 3 (69 + j) v).1 3 (69 + i) = (zsi σ 30 j v).1 30 i := fun i e => by
    by_cases q : i = j
    · rw [q, zsi_ej, zsi_ej]
    · rw [zsi_nj (by omega), zsi_nj q]; exact e
  have rg : ∀ {i : Nat} {a b : Int}, zr a b (σ.1 30 i) → (i = j → zr a b v) → zr a b ((zsi σ 30 j v).1 30 i) := fun {i a b} r k => by
    by_cases q : i = j
    · rw [q, zsi_ej]; exact k q
    · rw [zsi_nj q]; exact r
  exact ⟨fun i a b => key i (h1 i a b), fun i a b => key i (h2 i a b), fun i a b => rg (h3 i a b) (fun q => g1 (by omega) (by omega)), fun i a b => rg (h4 i a b) (fun q => g2 (by omega) (by omega)), rg h5 (fun q => g3 q.symm), rg h6 (fun q => g4 q.symm), rg h7 (fun q => g5 q.symm)⟩
theorem zSo.w (h : zSo σ μ s t) {j m : Nat} {v : Int32} (em : m = 69 + j) (hj : (3 ≤ j ∧ j ≤ 8) ∨ (14 ≤ j ∧ j ≤ 16)) (g : zTog j v) : zSo σ μ (zsi s 30 j v) (zsi t 3 m v) := by
  refine ⟨h.1.w em g, ?_, ?_⟩
  · rcases hj with q | q
    · exact zQ.wi h.2.1 (zcv_m (a := 3) (b := 8) (by decide) q.1 q.2)
    · exact zQ.wi h.2.1 (zcv_m (a := 14) (b := 16) (by decide) q.1 q.2)
  · rcases hj with q | q
    · exact zQ.wi h.2.2 (zcv_m (a := 72) (b := 77) (by decide) (by omega) (by omega))
    · exact zQ.wi h.2.2 (zcv_m (a := 83) (b := 85) (by decide) (by omega) (by omega))
theorem zSo.ve (hv : zVe σ μ) (h : zSo σ μ s t) : zVe s t := hv.kp h.2.1 h.2.2 (by decide +kernel) (by decide +kernel)
theorem zSo.tr {s' t' : zSt} (h : zSo σ μ s t) (k : zSo s t s' t') : zSo σ μ s' t' := ⟨k.1, h.2.1.tr k.2.1, h.2.2.tr k.2.2⟩
noncomputable def zTnM {β : Type} (μ : zSt) (x1 : Int32) (g : zSt → Option β) : Option β := zck (zin (72 + x1) 1048) (if (zgi μ 3 (72 + x1).toNatClampNeg) ≤ 0 then zck (zin (69 + x1) 1048) (zck (zin (72 + x1) 1048) (zbv (zsi μ 3 ((72 + x1).toNatClampNeg) (zgi μ 3 (69 + x1).toNatClampNeg)) (fun σ3 => zck (zin (69 + x1) 1048) (if 2 ≤ (zgi σ3 3 (69 + x1).toNatClampNeg) then zck (zin (75 + x1) 1048) (zck (zin (75 + x1) 1048) (zbv (zsi σ3 3 ((75 + x1).toNatClampNeg) (1 - (zgi σ3 3 (75 + x1).toNatClampNeg))) (fun σ2 => g σ2))) else zck (zin (75 + x1) 1048) (zbv (zsi σ3 3 ((75 + x1).toNatClampNeg) 1) (fun σ2 => g σ2)))))) else g μ)
theorem v_flip : ∀ i : Fin 2, Int32.ofNat i.val ^^^ 1 = 1 - Int32.ofNat i.val ∧ 0 ≤ (1 - Int32.ofNat i.val).toInt ∧ (1 - Int32.ofNat i.val).toInt ≤ 1 := by decide +kernel
theorem z_max0 {x : Int32} {b : Int} (h : zr 0 b x) (hb : b ≤ 100000) : (x = 0 → zmax 0 (x - 1) = 0) ∧ (¬ x = 0 → zmax 0 (x - 1) = x - 1 ∧ (x - 1).toInt = x.toInt - 1 ∧ 0 ≤ (x - 1).toInt) := by
  have x0 := h.1
  have x1 := h.2
  have c0 : (0 : Int32).toInt = 0 := rfl
  have ts : (x - 1).toInt = x.toInt - 1 := z_tsub (a := 0) (b := 100000) ⟨x0, by omega⟩ (zr_c (lo := 1) (hi := 1) (x := 1) (by decide)) (by decide)
  refine ⟨fun q => ?_, fun q => ?_⟩
  · rw [q]; decide
  · have nq : ¬ x.toInt = 0 := fun z => q (Int32.toInt_inj.mp z)
    refine ⟨?_, ts, by omega⟩
    unfold zmax
    split
    · rename_i z
      first
        | rfl
        | exact Int32.toInt_inj.mp (by have := Int32.le_iff_toInt_le.mp z; omega)
        | exact Int32.toInt_inj.mp (by have := Int32.lt_iff_toInt_lt.mp z; omega)
    · rename_i z
      first
        | rfl
        | exact Int32.toInt_inj.mp (by have := Int32.lt_iff_toInt_lt.mp (z_nle z); omega)
        | exact Int32.toInt_inj.mp (by have := Int32.le_iff_toInt_le.mp (z_nlt z); omega)
/-- one tone moves on -/
theorem s_tone (hv : zVe σ μ) (h : zTo σ μ) {α β : Type} {Q : α → β → Prop} {f : zSt → Option α} {k2 : zSt → Int32 → Option β} {i : Nat} (hi : i < 3) (k : ∀ s t, zSo σ μ s t → zp2 (f s) (k2 t (Int32.ofNat i + 1)) Q) {g : zSt → Option β} (hg : ∀ t, g t = k2 t (Int32.ofNat i + 1)) : zp2 (zbu (fX7_moveTone σ (Int32.ofNat i)) f) (zck (zin (72 + Int32.ofNat i) 1048) (if (zgi μ 3 (72 + Int32.ofNat i).toNatClampNeg) ≤ 0 then zTnM μ (Int32.ofNat i) g else zbv (72 + Int32.ofNat i) (fun v23 => zck (zin v23 1048) (zck (zin v23 1048) (zbv (zsi μ 3 (v23.toNatClampNeg) ((zgi μ 3 v23.toNatClampNeg) - 1)) (fun σ24 => zTnM σ24 (Int32.ofNat i) g)))))) Q := by
  have hs0 : zSo σ μ σ μ := ⟨h, zQ.rf, zQ.rf⟩
  have ri : zr 0 2 (Int32.ofNat i) := z_ofr (by omega) (by omega)
  have kc := z_ofC (i := i) (by omega)
  have o72 : (72 + Int32.ofNat i).toNatClampNeg = 72 + i := by rw [z_off ri (k := 72) rfl (by decide), kc]
  have o69 : (69 + Int32.ofNat i).toNatClampNeg = 69 + i := by rw [z_off ri (k := 69) rfl (by decide), kc]
  have o75 : (75 + Int32.ofNat i).toNatClampNeg = 75 + i := by rw [z_off ri (k := 75) rfl (by decide), kc]
  have o3 : (3 + Int32.ofNat i).toNatClampNeg = 3 + i := by rw [z_off ri (k := 3) rfl (by decide), kc]
  have o6 : (6 + Int32.ofNat i).toNatClampNeg = 6 + i := by rw [z_off ri (k := 6) rfl (by decide), kc]
  have o0 : (0 + Int32.ofNat i).toNatClampNeg = i := by rw [Int32.zero_add]; exact kc
  have ec : μ.1 3 (72 + i) = σ.1 30 (3 + i) := by
    have z := h.1 (3 + i) (by omega) (by omega)
    rw [show 69 + (3 + i) = 72 + i by omega] at z
    exact z
  have eo : μ.1 3 (75 + i) = σ.1 30 (6 + i) := by
    have z := h.1 (6 + i) (by omega) (by omega)
    rw [show 69 + (6 + i) = 75 + i by omega] at z
    exact z
  have ef : μ.1 3 (69 + i) = σ.1 30 i := by
    have z := hv.1.e (z_pn30_0 (d := i) hi)
    rw [Nat.zero_add] at z
    exact z
  have rc := h.2.2.1 (3 + i) (by omega) (by omega)
  have ro := h.2.2.2.1 (6 + i) (by omega) (by omega)
  have rf : zr 0 1023 (σ.1 30 i) := hv.2.1.at (zg_30a ⟨i, hi⟩)
  have c0 : (0 : Int32).toInt = 0 := rfl
  obtain ⟨mx0, mx1⟩ := z_max0 rc (by decide)
  have g1 : ∀ {v : Int32}, zr 0 1023 v → zTog (3 + i) v := fun r => ⟨fun _ _ => r, fun _ _ => by omega, fun _ => by omega, fun _ => by omega, fun _ => by omega⟩
  have g2 : ∀ {v : Int32}, zr 0 1 v → zTog (6 + i) v := fun r => ⟨fun _ _ => by omega, fun _ _ => r, fun _ => by omega, fun _ => by omega, fun _ => by omega⟩
  obtain ⟨b, eb⟩ := z_F (m := 2) ro (by decide)
  have fl := v_flip b
  rw [← eb] at fl
  -- the counter has run out
  have out : ∀ t0 : zSt, zQ [] [(3, 72 + i, 72 + i)] [] [] μ t0 → (∀ v, zsi t0 3 (72 + i) v = zsi μ 3 (72 + i) v) → t0.1 3 (72 + i) = 0 → zmax 0 (σ.1 30 (3 + i) - 1) = 0 → zp2 (zbu (fX7_moveTone σ (Int32.ofNat i)) f) (zTnM t0 (Int32.ofNat i) g) Q := fun t0 d0 tw z0 mz => by
    unfold fX7_moveTone fX7_moveTone_56 fX7_moveTone_57 zTnM
    rw [o72, o69, o75, o3, o6, o0]
    have y69 : zgi t0 3 (69 + i) = σ.1 30 i := by
      show t0.1 3 (69 + i) = _
      rw [d0.1 3 (69 + i) (zof_cv (k := 3) (a := 69 + i) (b := 69 + i) (by
        show (true && ((!(true) || (Nat.blt (72 + i) (69 + i) || Nat.blt (69 + i) (72 + i))) && true)) = true
        have : Nat.blt (69 + i) (72 + i) = true := Nat.ble_eq.mpr (by omega)
        rw [this, Bool.or_true]
        rfl) (Nat.le_refl _) (Nat.le_refl _))]
      exact ef
    refine zp2_ckr (zp2_ifr (fun _ => ?_) (fun q => absurd (show zgi t0 3 (72 + i) ≤ 0 by rw [show zgi t0 3 (72 + i) = 0 from z0]; decide) q))
    rw [y69]
    refine zp2_ckr (zp2_ckr (zp2_bvr (fun t1 f1 => zp2_ckr ?_)))
    rw [tw] at f1
    have y69' : zgi t1 3 (69 + i) = σ.1 30 i := by
      show t1.1 3 (69 + i) = _
      rw [f1, zsi_nj (by omega)]
      exact ef
    have y75 : zgi t1 3 (75 + i) = σ.1 30 (6 + i) := by
      show t1.1 3 (75 + i) = _
      rw [f1, zsi_nj (by omega)]
      exact eo
    rw [y69']
    have cond : (1 < σ.1 30 i) ↔ (2 ≤ σ.1 30 i) := by
      rw [Int32.lt_iff_toInt_lt, Int32.le_iff_toInt_le, show (1 : Int32).toInt = 1 from rfl, show (2 : Int32).toInt = 2 from rfl]
      omega
    have fin : ∀ v w : Int32, w = v → zr 0 1 v → zp2 (f (zsi (zsi σ 30 (6 + i) v) 30 (3 + i) (σ.1 30 i))) (g (zsi t1 3 (75 + i) w)) Q := fun v w ew rv => by
      subst ew
      rw [hg, f1, zsi_comm (by omega)]
      exact k _ _ ((hs0.w (j := 3 + i) (m := 72 + i) (by omega) (Or.inl (by omega)) (g1 rf)).w (j := 6 + i) (m := 75 + i) (by omega) (Or.inl (by omega)) (g2 rv))
    refine zp2_bul (P := fun r => r = zsi (zsi σ 30 (6 + i) (if 1 < σ.1 30 i then σ.1 30 (6 + i) ^^^ 1 else 1)) 30 (3 + i) (σ.1 30 i)) ?_ (fun s1 e1 => ?_)
    · refine zpc_ck (zpc_bv (fun v3 e3 => ?_))
      have e3 : v3 = 0 := e3.trans mz
      refine zpc_if (fun _ => zpc_ck (zpc_bv (fun v4 e4 => ?_))) (fun q => absurd e3 q)
      have e4 : v4 = σ.1 30 i := e4
      subst e4
      refine zpc_if (fun q => zpc_ck (zpc_ck (zpc_bv (fun s1 f1 => zpc_ck (zpc_bv (fun s2 f2 => zpc_some ?_)))))) (fun q => zpc_ck (zpc_bv (fun s1 f1 => zpc_ck (zpc_bv (fun s2 f2 => zpc_some ?_)))))
      · rw [if_pos q, f2, f1]; rfl
      · rw [if_neg q, f2, f1]
    · rw [e1]
      refine zp2_ifr (fun q => zp2_ckr (zp2_ckr (zp2_bvr (fun t2 f2 => ?_)))) (fun q => zp2_ckr (zp2_bvr (fun t2 f2 => ?_)))
      · rw [if_pos (cond.mpr q), f2, y75]
        exact fin _ _ fl.1.symm (by rw [fl.1]; exact ⟨fl.2.1, fl.2.2⟩)
      · rw [if_neg (fun z => q (cond.mp z)), f2]
        exact fin 1 1 rfl (zr_c (by decide))
  rw [o72]
  by_cases z : σ.1 30 (3 + i) = 0
  · refine zp2_ckr (zp2_ifr (fun _ => out μ zQ.rf (fun _ => rfl) (ec.trans z) (mx0 z)) (fun q => absurd (show zgi μ 3 (72 + i) ≤ 0 by rw [show zgi μ 3 (72 + i) = 0 from ec.trans z]; decide) q))
  · obtain ⟨m1, m2, m3⟩ := mx1 z
    have nz : ¬ (σ.1 30 (3 + i)).toInt = 0 := fun y => z (Int32.toInt_inj.mp y)
    have rc0 := rc.1
    refine zp2_ckr (zp2_ifr (fun q => ?_) (fun _ => zp2_bvr (fun v23 e23 => ?_)))
    · have q1 := Int32.le_iff_toInt_le.mp q
      rw [show zgi μ 3 (72 + i) = σ.1 30 (3 + i) from ec, c0] at q1
      exfalso; omega
    rw [e23, o72]
    refine zp2_ckr (zp2_ckr (zp2_bvr (fun t0 f0 => ?_)))
    rw [show zgi μ 3 (72 + i) = σ.1 30 (3 + i) from ec] at f0
    by_cases y : σ.1 30 (3 + i) - 1 = 0
    · exact out t0 (by rw [f0]; exact zQ.wi zQ.rf (zcv_m (a := 72 + i) (b := 72 + i) List.mem_cons_self (Nat.le_refl _) (Nat.le_refl _))) (fun v => by rw [f0]; exact zsi_tw) (by rw [f0, zsi_ej]; exact y) (by rw [m1]; exact y)
    · unfold zTnM
      rw [o72]
      have ny : ¬ (σ.1 30 (3 + i) - 1).toInt = 0 := fun x => y (Int32.toInt_inj.mp x)
      refine zp2_ckr (zp2_ifr (fun q => ?_) (fun _ => ?_))
      · have q1 := Int32.le_iff_toInt_le.mp q
        rw [show zgi t0 3 (72 + i) = σ.1 30 (3 + i) - 1 by rw [f0]; exact zsi_ej, c0] at q1
        exfalso; omega
      · rw [hg, f0]
        unfold fX7_moveTone fX7_moveTone_57
        rw [o3]
        refine zp2_bul (P := fun r => r = zsi σ 30 (3 + i) (σ.1 30 (3 + i) - 1)) (zpc_ck (zpc_bv (fun v3 e3 => ?_))) (fun s1 e1 => ?_)
        · have e3 : v3 = σ.1 30 (3 + i) - 1 := e3.trans m1
          refine zpc_if (fun q => absurd (e3.symm.trans q) y) (fun _ => zpc_ck (zpc_bv (fun s1 f1 => zpc_some ?_)))
          rw [f1, e3]
        · rw [e1]
          exact k _ _ (hs0.w (j := 3 + i) (m := 72 + i) (by omega) (Or.inl (by omega)) (g1 ⟨m3, by have := rc.2; omega⟩))
end ZTN
end ZJN5
section ZJN6
/-! NOISE, SUMS -/
section ZNS
variable {σ μ s t : zSt}
theorem v_m4 : ∀ i : Fin 8, Int32.ofNat i.val &&& 3 = zrem (Int32.ofNat i.val) 4 ∧ (¬ Int32.ofNat i.val &&& 3 = 3 → 0 ≤ ((16 : Int32) <<< ((Int32.ofNat i.val &&& 3) &&& 31)).toInt ∧ ((16 : Int32) <<< ((Int32.ofNat i.val &&& 3) &&& 31)).toInt ≤ 1023) := by decide +kernel
theorem z_sh15 {v b : Int32} (hv : zr 0 65535 v) (hb : b = 0 ∨ b = 1) : zr 0 65535 ((v >>> ((1 : Int32) &&& 31)) ||| (b <<< ((15 : Int32) &&& 31))) := by
  have q : (v >>> ((1 : Int32) &&& 31)).toInt = v.toInt / ((2 ^ 1 : Nat) : Int) := z_quo hv.1 rfl
  have v0 := hv.1
  have v1 := hv.2
  have q' : (v >>> ((1 : Int32) &&& 31)).toInt = v.toInt / 2 := q
  rcases hb with e | e
  · subst e
    rw [show ((0 : Int32) <<< ((15 : Int32) &&& 31)) = 0 by decide, Int32.or_zero]
    exact ⟨by omega, by omega⟩
  · subst e
    have n1 := z_tN (x := v >>> ((1 : Int32) &&& 31)) (by omega)
    have e1 : ((1 : Int32) <<< ((15 : Int32) &&& 31)).toBitVec.toNat = 2 ^ 15 * 1 := by decide
    have e2 : ((v >>> ((1 : Int32) &&& 31)) ||| ((1 : Int32) <<< ((15 : Int32) &&& 31))).toBitVec.toNat = 2 ^ 15 * 1 + (v >>> ((1 : Int32) &&& 31)).toBitVec.toNat := by
      rw [Int32.toBitVec_or, BitVec.toNat_or, e1, Nat.or_comm, Nat.two_pow_add_eq_or_of_lt (by omega)]
    have e3 := z_Nt e2 (by omega)
    exact ⟨by omega, by omega⟩
theorem z_b01s (v : Int32) : v &&& 1 = 0 ∨ v &&& 1 = 1 := by
  have r : zr 0 1 (v &&& 1) := zr_andr (lo := 0) (hi := 1) (zr_c (lo := 1) (hi := 1) (by decide)) (by decide)
  obtain ⟨i, ei⟩ := z_F (m := 2) r (by decide)
  have : ∀ i : Fin 2, Int32.ofNat i.val = 0 ∨ Int32.ofNat i.val = 1 := by decide
  rw [ei]
  exact this i
theorem s_noise (hv : zVe σ μ) (h : zTo σ μ) {α : Type} {Q : α → zSt → Prop} {f : zSt → Option α} (k : ∀ s t, zSo σ μ s t → zp2 (f s) (fX12_sample_268 t) Q) : zp2 (zbu (fX7_moveNoise σ ) f) (zck (zin 83 1048) (if (zgi μ 3 (83 : Int32).toNatClampNeg) ≤ 0 then fX12_sample_129 μ else zck (zin 83 1048) (zck (zin 83 1048) (zbv (zsi μ 3 ((83 : Int32).toNatClampNeg) ((zgi μ 3 (83 : Int32).toNatClampNeg) - 1)) (fun σ22 => fX12_sample_129 σ22))))) Q := by
  have hs0 : zSo σ μ σ μ := ⟨h, zQ.rf, zQ.rf⟩
  have ec : μ.1 3 83 = σ.1 30 14 := h.2.1 14 (by decide) (by decide)
  have eo : μ.1 3 84 = σ.1 30 15 := h.2.1 15 (by decide) (by decide)
  have en : μ.1 3 85 = σ.1 30 16 := h.2.1 16 (by decide) (by decide)
  have e82 : μ.1 3 82 = σ.1 30 13 := hv.1.e (z_pn30_9 (d := 4) (by decide))
  have e71 : μ.1 3 71 = σ.1 30 2 := hv.1.e (z_pn30_0 (d := 2) (by decide))
  have rc := h.2.2.2.2.1
  have ro := h.2.2.2.2.2.1
  have rn := h.2.2.2.2.2.2
  have r2 : zr 0 1023 (σ.1 30 2) := hv.2.1.at (k := 30) (j := 2) rfl
  have r13 : zr 0 7 (σ.1 30 13) := hv.2.1.at (k := 30) (j := 13) rfl
  have c0 : (0 : Int32).toInt = 0 := rfl
  obtain ⟨mx0, mx1⟩ := z_max0 rc (by decide)
  obtain ⟨b, eb⟩ := z_F (m := 2) ro (by decide)
  have fl := v_flip b
  rw [← eb] at fl
  obtain ⟨d, ed⟩ := z_F (m := 8) r13 (by decide)
  have m4 := v_m4 d
  rw [← ed] at m4
  have g14 : ∀ {v : Int32}, zr 0 1023 v → zTog 14 v := fun r => ⟨fun _ z => absurd z (by decide), fun _ z => absurd z (by decide), fun _ => r, fun z => absurd z (by decide), fun z => absurd z (by decide)⟩
  have g15 : ∀ {v : Int32}, zr 0 1 v → zTog 15 v := fun r => ⟨fun _ z => absurd z (by decide), fun _ z => absurd z (by decide), fun z => absurd z (by decide), fun _ => r, fun z => absurd z (by decide)⟩
  have g16 : ∀ {v : Int32}, zr 0 65535 v → zTog 16 v := fun r => ⟨fun _ z => absurd z (by decide), fun _ z => absurd z (by decide), fun z => absurd z (by decide), fun z => absurd z (by decide), fun _ => r⟩
  -- the counter has run out: both take w
  have go : ∀ (t0 : zSt) (w : Int32), zr 0 1023 w → (∀ v, zsi t0 3 83 v = zsi μ 3 83 v) → zp2 (zbu (fX7_moveNoise_65 (zsi σ 30 14 0) w 14) f) (fX12_sample_174 t0 w 83) Q := fun t0 w rw_ tw => by
    unfold fX7_moveNoise_65 fX7_moveNoise_120 fX7_moveNoise_136 fX12_sample_174 fX12_sample_246
    refine zp2_ckr (zp2_bvr (fun t1 f1 => zp2_ckr (zp2_ckr (zp2_bvr (fun t2 f2 => zp2_ckr ?_)))))
    have f1 : t1 = zsi μ 3 83 w := f1.trans (tw w)
    have y84 : zgi t1 3 (84 : Int32).toNatClampNeg = σ.1 30 15 := by rw [f1]; exact eo
    rw [y84] at f2
    have f2 : t2 = zsi (zsi μ 3 83 w) 3 84 (1 - σ.1 30 15) := by rw [f2, f1]; rfl
    have z84 : zgi t2 3 (84 : Int32).toNatClampNeg = 1 - σ.1 30 15 := by rw [f2]; exact zsi_ej
    have z82 : zgi t2 3 (82 : Int32).toNatClampNeg = σ.1 30 13 := by rw [f2]; exact e82
    have z85 : zgi t2 3 (85 : Int32).toNatClampNeg = σ.1 30 16 := by rw [f2]; exact en
    rw [z84, z82, z85]
    have base : zSo σ μ (zsi (zsi σ 30 14 w) 30 15 (1 - σ.1 30 15)) t2 := by
      rw [f2]
      exact (hs0.w (j := 14) (m := 83) rfl (Or.inr ⟨by decide, by decide⟩) (g14 rw_)).w (j := 15) (m := 84) rfl (Or.inr ⟨by decide, by decide⟩) (g15 ⟨fl.2.1, fl.2.2⟩)
    -- the class up to its question
    have cst : zsi (zsi (zsi σ 30 14 0) 30 14 w) 30 15 (σ.1 30 15 ^^^ 1) = zsi (zsi σ 30 14 w) 30 15 (1 - σ.1 30 15) := by rw [zsi_tw, fl.1]
    have p15 : (zsi (zsi σ 30 14 w) 30 15 (1 - σ.1 30 15)).1 30 15 = 1 - σ.1 30 15 := zsi_ej
    have p16 : (zsi (zsi σ 30 14 w) 30 15 (1 - σ.1 30 15)).1 30 16 = σ.1 30 16 := by rw [zsi_nj (by decide), zsi_nj (by decide)]
    have p13 : (zsi (zsi σ 30 14 w) 30 15 (1 - σ.1 30 15)).1 30 13 = σ.1 30 13 := by rw [zsi_nj (by decide), zsi_nj (by decide)]
    have cB : ∀ v, v = zsi (zsi σ 30 14 w) 30 15 (1 - σ.1 30 15) → (¬ 1 - σ.1 30 15 = 1 → zp2 (f v) (fX12_sample_268 t2) Q) := fun v ev _ => by rw [ev]; exact k _ _ base
    have cN : ∀ (bt : Int32), bt = 0 ∨ bt = 1 → zp2 (f (zsi (zsi (zsi σ 30 14 w) 30 15 (1 - σ.1 30 15)) 30 16 ((σ.1 30 16 >>> ((1 : Int32) &&& 31)) ||| (bt <<< ((15 : Int32) &&& 31))))) (fX12_sample_268 (zsi t2 3 85 ((σ.1 30 16 >>> ((1 : Int32) &&& 31)) ||| (bt <<< ((15 : Int32) &&& 31))))) Q := fun bt hb => k _ _ (base.w (j := 16) (m := 85) rfl (Or.inr ⟨by decide, by decide⟩) (g16 (z_sh15 rn hb)))
    have xb : ((σ.1 30 16 ^^^ (σ.1 30 16 >>> ((3 : Int32) &&& 31))) &&& 1) = ((σ.1 30 16 &&& 1) ^^^ ((σ.1 30 16 >>> ((3 : Int32) &&& 31)) &&& 1)) := z_xad
    by_cases q1 : 1 - σ.1 30 15 = 1
    · refine zp2_ifr (fun _ => zp2_ckr ?_) (fun z => absurd q1 z)
      by_cases q4 : 4 ≤ σ.1 30 13
      · refine zp2_ifr (fun _ => zp2_ckr (zp2_ckr (zp2_ckr (zp2_ckr (zp2_bvr (fun t3 f3 => ?_)))))) (fun z => absurd q4 z)
        refine zp2_bul (P := fun r => r = zsi (zsi (zsi σ 30 14 w) 30 15 (1 - σ.1 30 15)) 30 16 ((σ.1 30 16 >>> ((1 : Int32) &&& 31)) ||| (((σ.1 30 16 ^^^ (σ.1 30 16 >>> ((3 : Int32) &&& 31))) &&& 1) <<< ((15 : Int32) &&& 31)))) ?_ (fun s1 e1 => ?_)
        · refine zpc_ck (zpc_bv (fun s2 h2 => zpc_ck (zpc_ck (zpc_bv (fun s3 h3 => zpc_ck ?_)))))
          have h3 : s3 = zsi (zsi σ 30 14 w) 30 15 (1 - σ.1 30 15) := by
            rw [h3, h2]
            exact cst
          rw [show zgi s3 30 (15 : Int32).toNatClampNeg = 1 - σ.1 30 15 by rw [h3]; exact p15, show zgi s3 30 (16 : Int32).toNatClampNeg = σ.1 30 16 by rw [h3]; exact p16, show zgi s3 30 (13 : Int32).toNatClampNeg = σ.1 30 13 by rw [h3]; exact p13]
          refine zpc_if (fun _ => zpc_ck (zpc_bv (fun v4 e4 => zpc_ck (zpc_if (fun _ => zpc_ck (zpc_bv (fun s4 h4 => zpc_some ?_))) (fun z => absurd q4 z))))) (fun z => absurd q1 z)
          rw [h4, e4, h3]
          rfl
        · rw [e1, f3, xb]
          exact cN _ (by rw [← xb]; exact z_b01s _)
      · refine zp2_ifr (fun z => absurd z q4) (fun _ => zp2_ckr (zp2_ckr (zp2_ckr (zp2_bvr (fun t3 f3 => ?_)))))
        refine zp2_bul (P := fun r => r = zsi (zsi (zsi σ 30 14 w) 30 15 (1 - σ.1 30 15)) 30 16 ((σ.1 30 16 >>> ((1 : Int32) &&& 31)) ||| ((σ.1 30 16 &&& 1) <<< ((15 : Int32) &&& 31)))) ?_ (fun s1 e1 => ?_)
        · refine zpc_ck (zpc_bv (fun s2 h2 => zpc_ck (zpc_ck (zpc_bv (fun s3 h3 => zpc_ck ?_)))))
          have h3 : s3 = zsi (zsi σ 30 14 w) 30 15 (1 - σ.1 30 15) := by
            rw [h3, h2]
            exact cst
          rw [show zgi s3 30 (15 : Int32).toNatClampNeg = 1 - σ.1 30 15 by rw [h3]; exact p15, show zgi s3 30 (16 : Int32).toNatClampNeg = σ.1 30 16 by rw [h3]; exact p16, show zgi s3 30 (13 : Int32).toNatClampNeg = σ.1 30 13 by rw [h3]; exact p13]
          refine zpc_if (fun _ => zpc_ck (zpc_bv (fun v4 e4 => zpc_ck (zpc_if (fun z => absurd z q4) (fun _ => zpc_ck (zpc_bv (fun s4 h4 => zpc_some ?_))))))) (fun z => absurd q1 z)
          rw [h4, e4, h3]
          rfl
        · rw [e1, f3]
          exact cN _ (z_b01s _)
    · refine zp2_ifr (fun z => absurd z q1) (fun _ => ?_)
      refine zp2_bul (P := fun r => r = zsi (zsi σ 30 14 w) 30 15 (1 - σ.1 30 15)) ?_ (fun s1 e1 => cB s1 e1 q1)
      refine zpc_ck (zpc_bv (fun s2 h2 => zpc_ck (zpc_ck (zpc_bv (fun s3 h3 => zpc_ck ?_)))))
      have h3 : s3 = zsi (zsi σ 30 14 w) 30 15 (1 - σ.1 30 15) := by
        rw [h3, h2]
        exact cst
      rw [show zgi s3 30 (15 : Int32).toNatClampNeg = 1 - σ.1 30 15 by rw [h3]; exact p15]
      exact zpc_if (fun z => absurd z q1) (fun _ => zpc_some h3)
  -- the class's first write
  have C0 : ∀ {p : Option zSt}, zmax 0 (σ.1 30 14 - 1) = 0 → (∀ w : Int32, ((σ.1 30 13 &&& 3 = 3 ∧ w = σ.1 30 2) ∨ (¬ σ.1 30 13 &&& 3 = 3 ∧ w = 16 <<< ((σ.1 30 13 &&& 3) &&& 31))) → zp2 (zbu (fX7_moveNoise_65 (zsi σ 30 14 0) w 14) f) p Q) → zp2 (zbu (fX7_moveNoise σ ) f) p Q := fun {p} mz H => by
    unfold fX7_moveNoise
    intro a c ea ec'
    cases q : (zck (zin 14 19) (zck (zin 14 19) (zbv (zsi σ 30 ((14 : Int32).toNatClampNeg) (zmax 0 ((zgi σ 30 (14 : Int32).toNatClampNeg) - 1))) (fun σ5 => zck (zin 14 19) (if (zgi σ5 30 (14 : Int32).toNatClampNeg) ≤ 0 then zck (zin 13 19) (zbv ((zgi σ5 30 (13 : Int32).toNatClampNeg) &&& 3) (fun v6 => if v6 = 3 then zck (zin 2 19) (fX7_moveNoise_65 σ5 (zgi σ5 30 (2 : Int32).toNatClampNeg) 14) else fX7_moveNoise_65 σ5 (16 <<< (v6 &&& 31)) 14)) else some σ5))))) with
    | none => rw [q] at ea; cases ea
    | some r =>
      rw [q] at ea
      have key : zpc (zck (zin 14 19) (zck (zin 14 19) (zbv (zsi σ 30 ((14 : Int32).toNatClampNeg) (zmax 0 ((zgi σ 30 (14 : Int32).toNatClampNeg) - 1))) (fun σ5 => zck (zin 14 19) (if (zgi σ5 30 (14 : Int32).toNatClampNeg) ≤ 0 then zck (zin 13 19) (zbv ((zgi σ5 30 (13 : Int32).toNatClampNeg) &&& 3) (fun v6 => if v6 = 3 then zck (zin 2 19) (fX7_moveNoise_65 σ5 (zgi σ5 30 (2 : Int32).toNatClampNeg) 14) else fX7_moveNoise_65 σ5 (16 <<< (v6 &&& 31)) 14)) else some σ5))))) (fun r => ∃ w : Int32, ((σ.1 30 13 &&& 3 = 3 ∧ w = σ.1 30 2) ∨ (¬ σ.1 30 13 &&& 3 = 3 ∧ w = 16 <<< ((σ.1 30 13 &&& 3) &&& 31))) ∧ fX7_moveNoise_65 (zsi σ 30 14 0) w 14 = some r) := by
        refine zpc_ck (zpc_ck (zpc_bv (fun s5 f5 => zpc_ck ?_)))
        have f5 : s5 = zsi σ 30 14 0 := by rw [f5, show zgi σ 30 (14 : Int32).toNatClampNeg = σ.1 30 14 from rfl, mz]; rfl
        have u14 : zgi s5 30 (14 : Int32).toNatClampNeg = 0 := by rw [f5]; exact zsi_ej
        have u13 : zgi s5 30 (13 : Int32).toNatClampNeg = σ.1 30 13 := by rw [f5]; exact zsi_nj (by decide)
        have u2 : zgi s5 30 (2 : Int32).toNatClampNeg = σ.1 30 2 := by rw [f5]; exact zsi_nj (by decide)
        rw [u14, u13, u2, f5]
        refine zpc_if (fun _ => zpc_ck (zpc_bv (fun v6 e6 => ?_))) (fun z => absurd (by decide) z)
        rw [e6]
        exact zpc_if (fun z => zpc_ck (fun r er => ⟨_, Or.inl ⟨z, rfl⟩, er⟩)) (fun z => fun r er => ⟨_, Or.inr ⟨z, rfl⟩, er⟩)
      obtain ⟨w, hw, er⟩ := key r q
      refine H w hw a c ?_ ec'
      rw [er]
      exact ea
  have run : ∀ t0 : zSt, (∀ v, zsi t0 3 83 v = zsi μ 3 83 v) → t0.1 3 83 = 0 → t0.1 3 82 = σ.1 30 13 → t0.1 3 71 = σ.1 30 2 → zmax 0 (σ.1 30 14 - 1) = 0 → zp2 (zbu (fX7_moveNoise σ ) f) (fX12_sample_129 t0) Q := fun t0 tw z0 x82 x71 mz => by
    refine C0 mz (fun w hw => ?_)
    unfold fX12_sample_129
    refine zp2_ckr (zp2_ifr (fun _ => zp2_ckr (zp2_ckr (zp2_bvr (fun v21 e21 => ?_)))) (fun z => absurd z0 z))
    have e21 : v21 = σ.1 30 13 &&& 3 := by rw [e21, show zgi t0 3 (82 : Int32).toNatClampNeg = σ.1 30 13 from x82, m4.1]
    rw [e21, show zgi t0 3 (71 : Int32).toNatClampNeg = σ.1 30 2 from x71]
    rcases hw with ⟨a1, a2⟩ | ⟨a1, a2⟩
    · refine zp2_ifr (fun _ => zp2_ckr ?_) (fun z => absurd a1 z)
      rw [← a2]
      exact go t0 w (by rw [a2]; exact r2) tw
    · refine zp2_ifr (fun z => absurd z a1) (fun _ => ?_)
      rw [← a2]
      exact go t0 w (by rw [a2]; exact ⟨(m4.2 a1).1, (m4.2 a1).2⟩) tw
  by_cases z : σ.1 30 14 = 0
  · exact zp2_ckr (zp2_ifr (fun _ => run μ (fun _ => rfl) (ec.trans z) e82 e71 (mx0 z)) (fun q => absurd (show zgi μ 3 (83 : Int32).toNatClampNeg ≤ 0 by rw [show zgi μ 3 (83 : Int32).toNatClampNeg = 0 from ec.trans z]; decide) q))
  · obtain ⟨m1, m2, m3⟩ := mx1 z
    have nz : ¬ (σ.1 30 14).toInt = 0 := fun y => z (Int32.toInt_inj.mp y)
    have rc0 := rc.1
    refine zp2_ckr (zp2_ifr (fun q => ?_) (fun _ => zp2_ckr (zp2_ckr (zp2_bvr (fun t0 f0 => ?_)))))
    · have q1 := Int32.le_iff_toInt_le.mp q
      rw [show zgi μ 3 (83 : Int32).toNatClampNeg = σ.1 30 14 from ec, c0] at q1
      exfalso; omega
    have f0 : t0 = zsi μ 3 83 (σ.1 30 14 - 1) := by rw [f0, show zgi μ 3 (83 : Int32).toNatClampNeg = σ.1 30 14 from ec]; rfl
    by_cases y : σ.1 30 14 - 1 = 0
    · exact run t0 (fun v => by rw [f0]; exact zsi_tw) (by rw [f0, zsi_ej]; exact y) (by rw [f0]; exact e82) (by rw [f0]; exact e71) (by rw [m1]; exact y)
    · unfold fX12_sample_129
      refine zp2_ckr (zp2_ifr (fun q => absurd (show σ.1 30 14 - 1 = 0 from (show zgi t0 3 (83 : Int32).toNatClampNeg = σ.1 30 14 - 1 by rw [f0]; exact zsi_ej).symm.trans q) y) (fun _ => ?_))
      have ny : ¬ (σ.1 30 14 - 1).toInt = 0 := fun x => y (Int32.toInt_inj.mp x)
      unfold fX7_moveNoise
      refine zp2_bul (P := fun r => r = zsi σ 30 14 (σ.1 30 14 - 1)) (zpc_ck (zpc_ck (zpc_bv (fun s5 f5 => zpc_ck ?_)))) (fun s1 e1 => ?_)
      · have f5 : s5 = zsi σ 30 14 (σ.1 30 14 - 1) := by rw [f5, show zgi σ 30 (14 : Int32).toNatClampNeg = σ.1 30 14 from rfl, m1]; rfl
        refine zpc_if (fun q => ?_) (fun _ => zpc_some f5)
        have q1 := Int32.le_iff_toInt_le.mp q
        rw [show zgi s5 30 (14 : Int32).toNatClampNeg = σ.1 30 14 - 1 by rw [f5]; exact zsi_ej, c0] at q1
        exfalso; omega
      · rw [e1, f0]
        exact k _ _ (hs0.w (j := 14) (m := 83) rfl (Or.inr ⟨by decide, by decide⟩) (g14 ⟨m3, by have := rc.2; omega⟩))
end ZNS
end ZJN6
section ZJN7
/-! SUMS, RINGS -/
section ZSU
variable {σ μ s t : zSt}
/-- the reference's end of a sample -/
noncomputable def zSmM (σ : zSt) (x1 x3 : Int64) : Option zSt := zck (zin 3 5) (zck (zin 3 5) (zbv (zsl σ 4 ((3 : Int32).toNatClampNeg) ((zgl σ 4 (3 : Int32).toNatClampNeg) + 1)) (fun σ12 => zck (zin 166 1048) (zck (zin 166 1048) (zbv (zsi σ12 3 ((166 : Int32).toNatClampNeg) ((zgi σ12 3 (166 : Int32).toNatClampNeg) + (x1.toInt32))) (fun σ13 => zck (zin 167 1048) (zck (zin 167 1048) (zbv (zsi σ13 3 ((167 : Int32).toNatClampNeg) ((zgi σ13 3 (167 : Int32).toNatClampNeg) + (x3.toInt32))) (fun σ14 => zck (zin 168 1048) (zck (zin 168 1048) (zbv (zsi σ14 3 ((168 : Int32).toNatClampNeg) ((zgi σ14 3 (168 : Int32).toNatClampNeg) + 1)) (fun σ15 => zck (zin 87 1048) (if (zgi σ15 3 (87 : Int32).toNatClampNeg) = 4096 then zck (zin 88 1048) (zck (decide (¬ (4096 : Int32) = 0)) (zck (zin 88 1048) (zbv (zsi σ15 3 ((88 : Int32).toNatClampNeg) (zrem ((zgi σ15 3 (88 : Int32).toNatClampNeg) + 1) 4096)) (fun σ17 => fX12_sample_508 σ17 x1 x3)))) else zck (zin 87 1048) (zck (zin 87 1048) (zbv (zsi σ15 3 ((87 : Int32).toNatClampNeg) ((zgi σ15 3 (87 : Int32).toNatClampNeg) + 1)) (fun σ16 => fX12_sample_508 σ16 x1 x3))))))))))))))))
theorem p_loud {v : Int32} (hv : zr 0 15 v) : zpc (fX12_loudness μ v) (fun r => r = (μ, zt4 v.toNatClampNeg)) ∧ zr 0 8191 (zt4 v.toNatClampNeg) := by
  obtain ⟨i, ei⟩ := z_F (m := 16) hv (by decide)
  have kc : ∀ i : Fin 16, (Int32.ofNat i.val).toNatClampNeg = i.val := by decide
  have all : ∀ i : Fin 16, fX12_loudness μ (Int32.ofNat i.val) = some (μ, zt4 i.val) := by
    intro i
    obtain ⟨i, hi⟩ := i
    rcases (show i = 0 ∨ i = 1 ∨ i = 2 ∨ i = 3 ∨ i = 4 ∨ i = 5 ∨ i = 6 ∨ i = 7 ∨ i = 8 ∨ i = 9 ∨ i = 10 ∨ i = 11 ∨ i = 12 ∨ i = 13 ∨ i = 14 ∨ i = 15 by omega) with rfl | rfl | rfl | rfl | rfl | rfl | rfl | rfl | rfl | rfl | rfl | rfl | rfl | rfl | rfl | rfl <;> rfl
  have rg : ∀ i : Fin 16, 0 ≤ (zt4 i.val).toInt ∧ (zt4 i.val).toInt ≤ 8191 := by decide
  subst ei
  rw [kc i]
  refine ⟨fun r er => ?_, rg i⟩
  rw [all i] at er
  exact (Option.some.inj er).symm
theorem v_15 : ∀ i : Fin 16, Int32.ofNat i.val &&& 15 = Int32.ofNat i.val := by decide
theorem z_m01 {b v : Int32} (hb : b = 0 ∨ b = 1) : b * v = if b = 1 then v else 0 := by
  rcases hb with e | e
  · subst e; rw [if_neg (by decide), Int32.zero_mul]
  · subst e; rw [if_pos rfl, Int32.one_mul]
theorem s_sum (hv : zVe σ μ) (h : zTo σ μ) {α : Type} {Q : α → zSt → Prop} {f : zSt → Int32 → Option α} (k : ∀ (a b : Int32) (x y : Int64), zr 0 32764 a → zr 0 32764 b → x.toInt = a.toInt → y.toInt = b.toInt → zp2 (f σ ((a <<< ((16 : Int32) &&& 31)) ||| b)) (zSmM μ x y) Q) : ∀ (n m i : Nat) (a b : Int32) (x y : Int64), i ≤ 4 → zr 0 (8191 * i) a → zr 0 (8191 * i) b → x.toInt = a.toInt → y.toInt = b.toInt → zp2 (zbi (fX7_nextSample_28 n σ a b (Int32.ofNat i)) f) (fX12_sample_275 m μ x y (Int32.ofNat i)) Q := by
  intro n
  induction n with
  | zero => intro m i a b x y _ _ _ _ _; exact zp2_nl
  | succ n ih =>
    intro m i a b x y hi ra rb ex ey
    cases m with
    | zero => exact zp2_nr
    | succ m =>
      show zp2 (zbi (fX7_nextSample_28_body (fX7_nextSample_28 n) σ a b (Int32.ofNat i)) f) (fX12_sample_275_body (fX12_sample_275 m) μ x y (Int32.ofNat i)) Q
      by_cases i4 : i = 4
      · subst i4
        unfold fX7_nextSample_28_body fX12_sample_275_body
        rw [if_pos (show (4 : Int32) ≤ Int32.ofNat 4 by decide), if_pos (show (4 : Int32) ≤ Int32.ofNat 4 by decide)]
        exact k a b x y ra rb ex ey
      have hi3 : i < 4 := by omega
      have ri : zr 0 3 (Int32.ofNat i) := z_ofr (by omega) (by omega)
      have kc := z_ofC (i := i) (by omega)
      have o9 : (9 + Int32.ofNat i).toNatClampNeg = 9 + i := by rw [z_off ri (k := 9) rfl (by decide), kc]
      have o78 : (78 + Int32.ofNat i).toNatClampNeg = 78 + i := by rw [z_off ri (k := 78) rfl (by decide), kc]
      have e78 : μ.1 3 (78 + i) = σ.1 30 (9 + i) := hv.1.e (z_pn30_9 (d := i) (by omega))
      have e34 : zgi μ 3 (34 : Int32).toNatClampNeg = σ.1 30 18 := hv.1.e (z_pn30_18 (d := 0) (by decide))
      have rv : zr 0 15 (σ.1 30 (9 + i)) := hv.2.1.at (zg_30b ⟨i, hi3⟩)
      obtain ⟨vi, evi⟩ := z_F (m := 16) rv (by decide)
      have m15 : σ.1 30 (9 + i) &&& 15 = σ.1 30 (9 + i) := by rw [evi]; exact v_15 vi
      obtain ⟨pl, rl⟩ := p_loud (μ := μ) rv
      obtain ⟨L, eL⟩ : ∃ L, L = zt4 (σ.1 30 (9 + i)).toNatClampNeg := ⟨_, rfl⟩
      rw [← eL] at pl rl
      have n4 : ¬ (4 : Int32) ≤ Int32.ofNat i := zq_gef ri rfl (by decide)
      obtain ⟨bl, ebl⟩ : ∃ bl, bl = ((σ.1 30 18) >>> ((Int32.ofNat i + 4) &&& 31)) &&& 1 := ⟨_, rfl⟩
      obtain ⟨br, ebr⟩ : ∃ br, br = ((σ.1 30 18) >>> (Int32.ofNat i &&& 31)) &&& 1 := ⟨_, rfl⟩
      have bl01 : bl = 0 ∨ bl = 1 := by rw [ebl]; exact z_b01s _
      have br01 : br = 0 ∨ br = 1 := by rw [ebr]; exact z_b01s _
      have L0 := rl.1
      have L1 := rl.2
      -- both with what is added
      have nx : ∀ (u w : Int32) (X Y : Int64), zr 0 8191 u → zr 0 8191 w → X.toInt = x.toInt + u.toInt → Y.toInt = y.toInt + w.toInt → zp2 (zbi (fX7_nextSample_28 n σ (a + u) (b + w) (Int32.ofNat i + 1)) f) (fX12_sample_275 m μ X Y (Int32.ofNat i + 1)) Q := fun u w X Y ru rw_ eX eY => by
        have ta : (a + u).toInt = a.toInt + u.toInt := z_tadd (a := 0) (b := 100000) ⟨ra.1, by have := ra.2; omega⟩ ru (by decide)
        have tb : (b + w).toInt = b.toInt + w.toInt := z_tadd (a := 0) (b := 100000) ⟨rb.1, by have := rb.2; omega⟩ rw_ (by decide)
        rw [z_ofS (by omega)]
        have a1 := ra.1
        have a2 := ra.2
        have b1 := rb.1
        have b2 := rb.2
        have u1 := ru.1
        have u2 := ru.2
        have w1 := rw_.1
        have w2 := rw_.2
        exact ih m (i + 1) (a + u) (b + w) X Y (by omega) ⟨by omega, by omega⟩ ⟨by omega, by omega⟩ (by omega) (by omega)
      have z0 : (0 : Int32).toInt = 0 := rfl
      have zz : zr 0 8191 (0 : Int32) := zr_c (by decide)
      have rx : zrl 0 100000 x := ⟨by rw [ex]; exact ra.1, by rw [ex]; have := ra.2; omega⟩
      have ry : zrl 0 100000 y := ⟨by rw [ey]; exact rb.1, by rw [ey]; have := rb.2; omega⟩
      have tL : (L.toInt64).toInt = L.toInt := Int32.toInt_toInt64 L
      have rL64 : zrl 0 8191 L.toInt64 := ⟨by rw [tL]; exact L0, by rw [tL]; exact L1⟩
      have tx : (x + L.toInt64).toInt = x.toInt + L.toInt := by rw [z_tladd rx rL64 (by decide), tL]
      have ty : (y + L.toInt64).toInt = y.toInt + L.toInt := by rw [z_tladd ry rL64 (by decide), tL]
      have on : zp2 (zbi (fX7_nextSample_59 (fX7_nextSample_28 n) σ a b (Int32.ofNat i) 1) f) (fX12_sample_327 (fX12_sample_275 m) μ x y (Int32.ofNat i) 1) Q := by
        unfold fX7_nextSample_59 fX7_nextSample_87 fX12_sample_327 fX12_sample_369 fX12_sample_407
        rw [if_pos rfl, o9, show zgi σ 30 (9 + i) = σ.1 30 (9 + i) from rfl, m15, ← eL, show zgi σ 30 (18 : Int32).toNatClampNeg = σ.1 30 18 from rfl, e34, o78, show zgi μ 3 (78 + i) = σ.1 30 (9 + i) from e78, ← ebl, ← ebr]
        have cl : ∀ {c1 c2 c3 c4 : Bool} {M : Option zSt}, zp2 (zbi (fX7_nextSample_28 n σ (a + (if bl = 1 then L else 0)) (b + (if br = 1 then L else 0)) (Int32.ofNat i + 1)) f) M Q → zp2 (zbi (zck c1 (zck c2 (zck c3 (zbv (a + bl * L) (fun v1 => zck c4 (zbv (b + br * L) (fun v2 => zbv (Int32.ofNat i + 1) (fun v3 => fX7_nextSample_28 n σ v1 v2 v3)))))))) f) M Q := fun {c1 c2 c3 c4 M} H => by
          rw [z_m01 bl01, z_m01 br01]
          intro u v eu ev
          cases c1 with
          | false => cases eu
          | true =>
            cases c2 with
            | false => cases eu
            | true =>
              cases c3 with
              | false => cases eu
              | true =>
                cases c4 with
                | false => cases eu
                | true => exact H u v eu ev
        refine cl ?_
        refine zp2_ifr (fun q => absurd q (by decide)) (fun _ => zp2_ckr ?_)
        refine zp2_ifr (fun q1 => zp2_ckr (zp2_bir pl (fun t1 v1 e1 => ?_))) (fun q1 => ?_)
        · cases e1
          rw [if_pos q1, e34, ← ebr, show zgi μ 3 (78 + i) = σ.1 30 (9 + i) from e78]
          refine zp2_bvr (fun X eX => zp2_ifr (fun q => absurd q (by decide)) (fun _ => zp2_ckr ?_))
          refine zp2_ifr (fun q2 => zp2_ckr (zp2_bir pl (fun t1 v1 e1 => ?_))) (fun q2 => ?_)
          · cases e1
            rw [if_pos q2]
            refine zp2_bvr (fun Y eY => zp2_bvr (fun v4 e4 => ?_))
            rw [e4]
            exact nx L L X Y rl rl (by rw [eX]; exact tx) (by rw [eY]; exact ty)
          · rw [if_neg q2]
            refine zp2_bvr (fun v4 e4 => ?_)
            rw [e4]
            exact nx L 0 X y rl zz (by rw [eX]; exact tx) (by rw [z0]; omega)
        · rw [if_neg q1]
          refine zp2_ifr (fun q => absurd q (by decide)) (fun _ => zp2_ckr ?_)
          refine zp2_ifr (fun q2 => zp2_ckr (zp2_bir pl (fun t1 v1 e1 => ?_))) (fun q2 => ?_)
          · cases e1
            rw [if_pos q2]
            refine zp2_bvr (fun Y eY => zp2_bvr (fun v4 e4 => ?_))
            rw [e4]
            exact nx 0 L x Y zz rl (by rw [z0]; omega) (by rw [eY]; exact ty)
          · rw [if_neg q2]
            refine zp2_bvr (fun v4 e4 => ?_)
            rw [e4]
            exact nx 0 0 x y zz zz (by rw [z0]; omega) (by rw [z0]; omega)
      have off : ∀ s0 : Int32, ¬ s0 = 1 → zp2 (zbi (fX7_nextSample_59 (fX7_nextSample_28 n) σ a b (Int32.ofNat i) s0) f) (fX12_sample_327 (fX12_sample_275 m) μ x y (Int32.ofNat i) 0) Q := fun s0 ns => by
        unfold fX7_nextSample_59 fX7_nextSample_87 fX12_sample_327 fX12_sample_369 fX12_sample_407
        rw [if_neg ns, if_pos rfl, if_pos rfl, Int32.mul_zero, Int32.mul_zero]
        have H := nx 0 0 x y zz zz (by rw [z0]; omega) (by rw [z0]; omega)
        refine zp2_bvr (fun v4 e4 => ?_)
        rw [e4]
        intro u v eu ev
        exact H u v eu ev
      unfold fX7_nextSample_28_body fX12_sample_275_body
      rw [if_neg n4, if_neg n4]
      by_cases i3 : i = 3
      · subst i3
        have en : zgi μ 3 (85 : Int32).toNatClampNeg = σ.1 30 16 := h.2.1 16 (by decide) (by decide)
        rw [if_pos (show Int32.ofNat 3 = 3 by decide), if_pos (show (3 : Int32) ≤ Int32.ofNat 3 by decide), en]
        have ckc : ∀ {c : Bool} {X : Option (zSt × Int32)} {M : Option zSt}, zp2 (zbi X f) M Q → zp2 (zbi (zck c X) f) M Q := fun {c X M} H => by
          intro u v eu ev
          cases c with
          | false => cases eu
          | true => exact H u v eu ev
        refine ckc (zp2_ckr ?_)
        rw [show zgi σ 30 (16 : Int32).toNatClampNeg = σ.1 30 16 from rfl]
        by_cases q : σ.1 30 16 &&& 1 = 1
        · rw [if_pos q, q]; exact on
        · rw [if_neg q]; exact off _ q
      · have ri2 : zr 0 2 (Int32.ofNat i) := z_ofr (by omega) (by omega)
        have o6 : (6 + Int32.ofNat i).toNatClampNeg = 6 + i := by rw [z_off ri2 (k := 6) rfl (by decide), kc]
        have o75 : (75 + Int32.ofNat i).toNatClampNeg = 75 + i := by rw [z_off ri2 (k := 75) rfl (by decide), kc]
        have eo : zgi μ 3 (75 + i) = σ.1 30 (6 + i) := by
          have z := h.1 (6 + i) (by omega) (by omega)
          rw [show 69 + (6 + i) = 75 + i by omega] at z
          exact z
        rw [if_neg (zq_ne ri2 (c := 3) rfl (Or.inr (by decide))), if_neg (zq_gef ri2 (c := 3) rfl (by decide)), o6, o75, eo]
        have ckc : ∀ {c : Bool} {X : Option (zSt × Int32)} {M : Option zSt}, zp2 (zbi X f) M Q → zp2 (zbi (zck c X) f) M Q := fun {c X M} H => by
          intro u v eu ev
          cases c with
          | false => cases eu
          | true => exact H u v eu ev
        refine ckc (zp2_ckr ?_)
        rw [show zgi σ 30 (6 + i) = σ.1 30 (6 + i) from rfl]
        by_cases q : σ.1 30 (6 + i) = 1
        · rw [if_pos q, q]; exact on
        · rw [if_neg q]; exact off _ q
end ZSU
end ZJN7
section ZJN8
/-! RINGS; ONE SAMPLE OF BOTH -/
section ZRI
variable {σ μ s t : zSt}
theorem z_4095 {x : Int32} {b : Int} (h : zr 0 b x) (hb : b ≤ 100000) : (x &&& 4095).toInt = x.toInt % 4096 ∧ zrem x 4096 = x &&& 4095 := by
  have x0 := h.1
  have x1 := h.2
  have e : (x &&& 4095).toInt = x.toInt % 4096 := z_mask (k := 12) x0 rfl (by decide)
  refine ⟨e, Int32.toInt_inj.mp ?_⟩
  rw [z_trem (y := (4096 : Int32)) 4096 rfl (a := 0) (b := 100000) ⟨x0, by omega⟩ (by decide), e]
theorem p_add11 (h : zRg 11 46 88 87 10 σ μ) {v : Int64} : zpc (fX6_add_k11 σ v) (fun r => r = (if σ.1 11 3 = 4096 then zsi (zsl σ 46 (σ.1 11 2).toNatClampNeg v) 11 2 ((σ.1 11 2 + 1) &&& 4095) else zsi (zsl σ 46 ((σ.1 11 2 + σ.1 11 3) &&& 4095).toNatClampNeg v) 11 3 (σ.1 11 3 + 1))) := by
  obtain ⟨e2, e3, ev, r2, r3⟩ := h
  rw [← e2] at r2
  rw [← e3] at r3
  have c : (4096 : Int32).toInt = 4096 := rfl
  unfold fX6_add_k11 fX6_add_k11_56
  rw [show zgi σ 11 2 = σ.1 11 2 from rfl, show zgi σ 11 3 = σ.1 11 3 from rfl]
  refine zpc_ck (zpc_bv (fun s1 f1 => ?_))
  have g2 : zgi s1 11 2 = σ.1 11 2 := by rw [f1]; rfl
  have g3 : zgi s1 11 3 = σ.1 11 3 := by rw [f1]; rfl
  rw [g2, g3]
  refine zpc_if (fun q => zpc_bv (fun s2 f2 => zpc_some ?_)) (fun q => zpc_bv (fun s2 f2 => zpc_some ?_))
  · have q1 := Int32.le_iff_toInt_le.mp q
    have e : σ.1 11 3 = 4096 := Int32.toInt_inj.mp (by have := r3.2; omega)
    have t1 := z_tadd r2 r3 (by decide)
    have i : (σ.1 11 2 + σ.1 11 3) &&& 4095 = σ.1 11 2 := Int32.toInt_inj.mp (by
      rw [(z_4095 (x := σ.1 11 2 + σ.1 11 3) (b := 100000) ⟨by have := r2.1; have := r3.1; omega, by have := r2.2; have := r3.2; omega⟩ (by decide)).1, t1, e, c]
      have := r2.1
      have := r2.2
      omega)
    rw [if_pos e, f2, f1, i]
  · have q1 := Int32.lt_iff_toInt_lt.mp (z_nle q)
    have e : ¬ σ.1 11 3 = 4096 := fun z => by rw [z] at q1; omega
    rw [if_neg e, f2, f1]
/-- the reference's way to add -/
noncomputable def zAd11 (t : zSt) (v : Int64) : zSt := if t.1 3 87 = 4096 then zsl (zsi t 3 88 ((t.1 3 88 + 1) &&& 4095)) 10 (t.1 3 88).toNatClampNeg v else zsl (zsi t 3 87 (t.1 3 87 + 1)) 10 ((t.1 3 88 + t.1 3 87) &&& 4095).toNatClampNeg v
theorem zRg11.add (h : zRg 11 46 88 87 10 σ μ) {v : Int64} (e : s = (if σ.1 11 3 = 4096 then zsi (zsl σ 46 (σ.1 11 2).toNatClampNeg v) 11 2 ((σ.1 11 2 + 1) &&& 4095) else zsi (zsl σ 46 ((σ.1 11 2 + σ.1 11 3) &&& 4095).toNatClampNeg v) 11 3 (σ.1 11 3 + 1))) : zRg 11 46 88 87 10 s (zAd11 μ v) := by
  obtain ⟨e2, e3, ev, r2, r3⟩ := h
  subst e
  unfold zAd11
  rw [← e2, ← e3]
  rw [← e2] at r2
  rw [← e3] at r3
  have c0 : (1 : Int32).toInt = 1 := rfl
  have c4 : (4096 : Int32).toInt = 4096 := rfl
  have t2 := z_tadd r2 (zr_c (lo := 1) (hi := 1) (x := 1) (by decide)) (by decide)
  have t3 := z_tadd r3 (zr_c (lo := 1) (hi := 1) (x := 1) (by decide)) (by decide)
  have a20 := r2.1
  have a21 := r2.2
  have a30 := r3.1
  have a31 := r3.2
  by_cases q : σ.1 11 3 = 4096
  · rw [if_pos q, if_pos q]
    have m := (z_4095 (x := σ.1 11 2 + 1) (b := 100000) ⟨by omega, by omega⟩ (by decide)).1
    refine ⟨?_, ?_, fun j hj => ?_, ?_, ?_⟩
    · show (zsi (zsl σ 46 _ v) 11 2 _).1 11 2 = (zsi μ 3 88 ((σ.1 11 2 + 1) &&& 4095)).1 3 88
      rw [zsi_ej, zsi_ej]
    · show (zsi (zsl σ 46 _ v) 11 2 _).1 11 3 = (zsi μ 3 88 ((σ.1 11 2 + 1) &&& 4095)).1 3 87
      rw [zsi_nj (by decide), zsi_nj (by decide)]
      exact e3
    · show (zsl σ 46 _ v).2 46 j = (zsl (zsi μ 3 88 _) 10 _ v).2 10 j
      by_cases y : j = (σ.1 11 2).toNatClampNeg
      · rw [y, zsl_ej, zsl_ej]
      · rw [zsl_nj y, zsl_nj y]; exact ev j hj
    · show zr 0 4095 ((zsi μ 3 88 ((σ.1 11 2 + 1) &&& 4095)).1 3 88)
      rw [zsi_ej]
      exact ⟨by omega, by omega⟩
    · show zr 0 4096 ((zsi μ 3 88 ((σ.1 11 2 + 1) &&& 4095)).1 3 87)
      rw [zsi_nj (by decide), ← e3]
      exact r3
  · rw [if_neg q, if_neg q]
    have nq : ¬ (σ.1 11 3).toInt = 4096 := fun z => q (Int32.toInt_inj.mp z)
    refine ⟨?_, ?_, fun j hj => ?_, ?_, ?_⟩
    · show (zsi (zsl σ 46 _ v) 11 3 _).1 11 2 = (zsi μ 3 87 (σ.1 11 3 + 1)).1 3 88
      rw [zsi_nj (by decide), zsi_nj (by decide)]
      exact e2
    · show (zsi (zsl σ 46 _ v) 11 3 _).1 11 3 = (zsi μ 3 87 (σ.1 11 3 + 1)).1 3 87
      rw [zsi_ej, zsi_ej]
    · show (zsl σ 46 _ v).2 46 j = (zsl (zsi μ 3 87 _) 10 _ v).2 10 j
      by_cases y : j = ((σ.1 11 2 + σ.1 11 3) &&& 4095).toNatClampNeg
      · rw [y, zsl_ej, zsl_ej]
      · rw [zsl_nj y, zsl_nj y]; exact ev j hj
    · show zr 0 4095 ((zsi μ 3 87 (σ.1 11 3 + 1)).1 3 88)
      rw [zsi_nj (by decide), ← e2]
      exact r2
    · show zr 0 4096 ((zsi μ 3 87 (σ.1 11 3 + 1)).1 3 87)
      rw [zsi_ej]
      exact ⟨by omega, by omega⟩
theorem p_add12 (h : zRg 12 48 170 169 11 σ μ) {v : Int64} : zpc (fX6_add_k12 σ v) (fun r => r = (if σ.1 12 3 = 4096 then zsi (zsl σ 48 (σ.1 12 2).toNatClampNeg v) 12 2 ((σ.1 12 2 + 1) &&& 4095) else zsi (zsl σ 48 ((σ.1 12 2 + σ.1 12 3) &&& 4095).toNatClampNeg v) 12 3 (σ.1 12 3 + 1))) := by
  obtain ⟨e2, e3, ev, r2, r3⟩ := h
  rw [← e2] at r2
  rw [← e3] at r3
  have c : (4096 : Int32).toInt = 4096 := rfl
  unfold fX6_add_k12 fX6_add_k12_56
  rw [show zgi σ 12 2 = σ.1 12 2 from rfl, show zgi σ 12 3 = σ.1 12 3 from rfl]
  refine zpc_ck (zpc_bv (fun s1 f1 => ?_))
  have g2 : zgi s1 12 2 = σ.1 12 2 := by rw [f1]; rfl
  have g3 : zgi s1 12 3 = σ.1 12 3 := by rw [f1]; rfl
  rw [g2, g3]
  refine zpc_if (fun q => zpc_bv (fun s2 f2 => zpc_some ?_)) (fun q => zpc_bv (fun s2 f2 => zpc_some ?_))
  · have q1 := Int32.le_iff_toInt_le.mp q
    have e : σ.1 12 3 = 4096 := Int32.toInt_inj.mp (by have := r3.2; omega)
    have t1 := z_tadd r2 r3 (by decide)
    have i : (σ.1 12 2 + σ.1 12 3) &&& 4095 = σ.1 12 2 := Int32.toInt_inj.mp (by
      rw [(z_4095 (x := σ.1 12 2 + σ.1 12 3) (b := 100000) ⟨by have := r2.1; have := r3.1; omega, by have := r2.2; have := r3.2; omega⟩ (by decide)).1, t1, e, c]
      have := r2.1
      have := r2.2
      omega)
    rw [if_pos e, f2, f1, i]
  · have q1 := Int32.lt_iff_toInt_lt.mp (z_nle q)
    have e : ¬ σ.1 12 3 = 4096 := fun z => by rw [z] at q1; omega
    rw [if_neg e, f2, f1]
/-- the reference's way to add -/
noncomputable def zAd12 (t : zSt) (v : Int64) : zSt := if t.1 3 169 = 4096 then zsl (zsi t 3 170 ((t.1 3 170 + 1) &&& 4095)) 11 (t.1 3 170).toNatClampNeg v else zsl (zsi t 3 169 (t.1 3 169 + 1)) 11 ((t.1 3 170 + t.1 3 169) &&& 4095).toNatClampNeg v
theorem zRg12.add (h : zRg 12 48 170 169 11 σ μ) {v : Int64} (e : s = (if σ.1 12 3 = 4096 then zsi (zsl σ 48 (σ.1 12 2).toNatClampNeg v) 12 2 ((σ.1 12 2 + 1) &&& 4095) else zsi (zsl σ 48 ((σ.1 12 2 + σ.1 12 3) &&& 4095).toNatClampNeg v) 12 3 (σ.1 12 3 + 1))) : zRg 12 48 170 169 11 s (zAd12 μ v) := by
  obtain ⟨e2, e3, ev, r2, r3⟩ := h
  subst e
  unfold zAd12
  rw [← e2, ← e3]
  rw [← e2] at r2
  rw [← e3] at r3
  have c0 : (1 : Int32).toInt = 1 := rfl
  have c4 : (4096 : Int32).toInt = 4096 := rfl
  have t2 := z_tadd r2 (zr_c (lo := 1) (hi := 1) (x := 1) (by decide)) (by decide)
  have t3 := z_tadd r3 (zr_c (lo := 1) (hi := 1) (x := 1) (by decide)) (by decide)
  have a20 := r2.1
  have a21 := r2.2
  have a30 := r3.1
  have a31 := r3.2
  by_cases q : σ.1 12 3 = 4096
  · rw [if_pos q, if_pos q]
    have m := (z_4095 (x := σ.1 12 2 + 1) (b := 100000) ⟨by omega, by omega⟩ (by decide)).1
    refine ⟨?_, ?_, fun j hj => ?_, ?_, ?_⟩
    · show (zsi (zsl σ 48 _ v) 12 2 _).1 12 2 = (zsi μ 3 170 ((σ.1 12 2 + 1) &&& 4095)).1 3 170
      rw [zsi_ej, zsi_ej]
    · show (zsi (zsl σ 48 _ v) 12 2 _).1 12 3 = (zsi μ 3 170 ((σ.1 12 2 + 1) &&& 4095)).1 3 169
      rw [zsi_nj (by decide), zsi_nj (by decide)]
      exact e3
    · show (zsl σ 48 _ v).2 48 j = (zsl (zsi μ 3 170 _) 11 _ v).2 11 j
      by_cases y : j = (σ.1 12 2).toNatClampNeg
      · rw [y, zsl_ej, zsl_ej]
      · rw [zsl_nj y, zsl_nj y]; exact ev j hj
    · show zr 0 4095 ((zsi μ 3 170 ((σ.1 12 2 + 1) &&& 4095)).1 3 170)
      rw [zsi_ej]
      exact ⟨by omega, by omega⟩
    · show zr 0 4096 ((zsi μ 3 170 ((σ.1 12 2 + 1) &&& 4095)).1 3 169)
      rw [zsi_nj (by decide), ← e3]
      exact r3
  · rw [if_neg q, if_neg q]
    have nq : ¬ (σ.1 12 3).toInt = 4096 := fun z => q (Int32.toInt_inj.mp z)
    refine ⟨?_, ?_, fun j hj => ?_, ?_, ?_⟩
    · show (zsi (zsl σ 48 _ v) 12 3 _).1 12 2 = (zsi μ 3 169 (σ.1 12 3 + 1)).1 3 170
      rw [zsi_nj (by decide), zsi_nj (by decide)]
      exact e2
    · show (zsi (zsl σ 48 _ v) 12 3 _).1 12 3 = (zsi μ 3 169 (σ.1 12 3 + 1)).1 3 169
      rw [zsi_ej, zsi_ej]
    · show (zsl σ 48 _ v).2 48 j = (zsl (zsi μ 3 169 _) 11 _ v).2 11 j
      by_cases y : j = ((σ.1 12 2 + σ.1 12 3) &&& 4095).toNatClampNeg
      · rw [y, zsl_ej, zsl_ej]
      · rw [zsl_nj y, zsl_nj y]; exact ev j hj
    · show zr 0 4095 ((zsi μ 3 169 (σ.1 12 3 + 1)).1 3 170)
      rw [zsi_nj (by decide), ← e2]
      exact r2
    · show zr 0 4096 ((zsi μ 3 169 (σ.1 12 3 + 1)).1 3 169)
      rw [zsi_ej]
      exact ⟨by omega, by omega⟩
/-- the reference adds: exactly -/
theorem p_mAdd {c1 c2 c3 c4 c5 c6 : Bool} {Q : zSt → Prop} {v : Int64} {t : zSt} (r2 : zr 0 4095 (t.1 3 88)) (r3 : zr 0 4096 (t.1 3 87)) {x1 x3 : Int64} (ev : 65536 * x1 + x3 = v) (k : Q (zAd11 t v)) : zpc (zck c1 (if (zgi t 3 (87 : Int32).toNatClampNeg) = 4096 then zck c2 (zck c3 (zck c4 (zbv (zsi t 3 ((88 : Int32).toNatClampNeg) (zrem ((zgi t 3 (88 : Int32).toNatClampNeg) + 1) 4096)) (fun σ17 => fX12_sample_508 σ17 x1 x3)))) else zck c5 (zck c6 (zbv (zsi t 3 ((87 : Int32).toNatClampNeg) ((zgi t 3 (87 : Int32).toNatClampNeg) + 1)) (fun σ16 => fX12_sample_508 σ16 x1 x3))))) Q := by
  have a20 := r2.1
  have a21 := r2.2
  have a30 := r3.1
  have a31 := r3.2
  have c4 : (4096 : Int32).toInt = 4096 := rfl
  have c1' : (1 : Int32).toInt = 1 := rfl
  have t2 := z_tadd r2 (zr_c (lo := 1) (hi := 1) (x := 1) (by decide)) (by decide)
  have t3 := z_tadd r3 (zr_c (lo := 1) (hi := 1) (x := 1) (by decide)) (by decide)
  unfold fX12_sample_508
  rw [show zgi t 3 (87 : Int32).toNatClampNeg = t.1 3 87 from rfl, show zgi t 3 (88 : Int32).toNatClampNeg = t.1 3 88 from rfl]
  refine zpc_ck (zpc_if (fun q => zpc_ck (zpc_ck (zpc_ck (zpc_bv (fun u g => zpc_ck (zpc_ck (zpc_ck (zpc_ck (zpc_bv (fun w gw => zpc_some ?_)))))))))) (fun q => zpc_ck (zpc_ck (zpc_bv (fun u g => zpc_ck (zpc_ck (zpc_ck (zpc_ck (zpc_bv (fun w gw => zpc_some ?_))))))))))
  · obtain ⟨m1, m2⟩ := z_4095 (x := t.1 3 88 + 1) (b := 100000) ⟨by omega, by omega⟩ (by decide)
    rw [m2] at g
    have u88 : zgi u 3 (88 : Int32).toNatClampNeg = (t.1 3 88 + 1) &&& 4095 := by rw [g]; exact zsi_ej
    have u87 : zgi u 3 (87 : Int32).toNatClampNeg = 4096 := by rw [g]; exact (zsi_nj (by decide)).trans q
    rw [u88, u87, ev] at gw
    have ta := z_tadd (x := (t.1 3 88 + 1) &&& 4095) (y := (4096 : Int32)) (a := 0) (b := 4095) ⟨by omega, by omega⟩ (zr_c (lo := 4096) (hi := 4096) (by decide)) (by decide)
    have ts := z_tsub (x := ((t.1 3 88 + 1) &&& 4095) + 4096) (y := (1 : Int32)) (a := 4096) (b := 8191) ⟨by omega, by omega⟩ (zr_c (lo := 1) (hi := 1) (by decide)) (by decide)
    have e : zrem ((((t.1 3 88 + 1) &&& 4095) + 4096) - 1) 4096 = t.1 3 88 := Int32.toInt_inj.mp (by
      rw [z_trem (y := (4096 : Int32)) 4096 rfl (a := 0) (b := 100000) ⟨by omega, by omega⟩ (by decide), ts, ta, m1, t2, c4, c1']
      omega)
    rw [e] at gw
    have z : w = zAd11 t v := by
      unfold zAd11
      rw [if_pos q, gw, g]
      rfl
    rw [z]
    exact k
  · have nq : ¬ (t.1 3 87).toInt = 4096 := fun z => q (Int32.toInt_inj.mp z)
    have u88 : zgi u 3 (88 : Int32).toNatClampNeg = t.1 3 88 := by rw [g]; exact zsi_nj (by decide)
    have u87 : zgi u 3 (87 : Int32).toNatClampNeg = t.1 3 87 + 1 := by rw [g]; exact zsi_ej
    rw [u88, u87, ev] at gw
    have ta := z_tadd (x := t.1 3 88) (y := t.1 3 87 + 1) (a := 0) (b := 4095) (c := 1) (d := 4096) ⟨by omega, by omega⟩ ⟨by omega, by omega⟩ (by decide)
    have ts := z_tsub (x := t.1 3 88 + (t.1 3 87 + 1)) (y := (1 : Int32)) (a := 1) (b := 8191) ⟨by omega, by omega⟩ (zr_c (lo := 1) (hi := 1) (by decide)) (by decide)
    have tb := z_tadd r2 r3 (by decide)
    have e : zrem ((t.1 3 88 + (t.1 3 87 + 1)) - 1) 4096 = (t.1 3 88 + t.1 3 87) &&& 4095 := by
      have e0 : (t.1 3 88 + (t.1 3 87 + 1)) - 1 = t.1 3 88 + t.1 3 87 := Int32.toInt_inj.mp (by rw [ts, ta, t3, tb, c1']; omega)
      rw [e0]
      exact (z_4095 (x := t.1 3 88 + t.1 3 87) (b := 100000) ⟨by omega, by omega⟩ (by decide)).2
    rw [e] at gw
    have z : w = zAd11 t v := by
      unfold zAd11
      rw [if_neg q, gw, g]
      rfl
    rw [z]
    exact k
/-- sums since the last mix: c samples at most -/
noncomputable def zSmn (c : Int) (σ μ : zSt) : Prop := (σ.2 38 6).toInt = (μ.1 3 168).toInt ∧ 0 ≤ (μ.1 3 168).toInt ∧ (μ.1 3 168).toInt ≤ c ∧ (σ.2 38 4).toInt = (μ.1 3 166).toInt ∧ 0 ≤ (μ.1 3 166).toInt ∧ (μ.1 3 166).toInt ≤ 32764 * (μ.1 3 168).toInt ∧ (σ.2 38 5).toInt = (μ.1 3 167).toInt ∧ 0 ≤ (μ.1 3 167).toInt ∧ (μ.1 3 167).toInt ≤ 32764 * (μ.1 3 168).toInt
noncomputable def zSa (c : Int) (σ μ : zSt) : Prop := zTo σ μ ∧ zRg 11 46 88 87 10 σ μ ∧ σ.2 38 3 = μ.2 4 3 ∧ zSmn c σ μ
theorem z_lr {a b : Int32} (ra : zr 0 32764 a) (rb : zr 0 32764 b) : ((a <<< ((16 : Int32) &&& 31)) ||| b).toInt = 65536 * a.toInt + b.toInt ∧ ((a <<< ((16 : Int32) &&& 31)) ||| b) >>> ((16 : Int32) &&& 31) = a ∧ ((a <<< ((16 : Int32) &&& 31)) ||| b) &&& 65535 = b := by
  have a0 := ra.1
  have a1 := ra.2
  have b0 := rb.1
  have b1 := rb.2
  have na := z_tN a0
  have nb := z_tN b0
  have e1 : (a <<< ((16 : Int32) &&& 31)).toBitVec = a.toBitVec <<< (((16 : Int32) &&& 31).toBitVec.smod 32).toNat := rfl
  have e2 : (a <<< ((16 : Int32) &&& 31)).toBitVec.toNat = 2 ^ 16 * a.toBitVec.toNat := by
    rw [e1, show (((16 : Int32) &&& 31).toBitVec.smod 32).toNat = 16 from rfl, BitVec.toNat_shiftLeft, Nat.shiftLeft_eq, Nat.mul_comm, Nat.mod_eq_of_lt (by omega)]
  have e3 : ((a <<< ((16 : Int32) &&& 31)) ||| b).toBitVec.toNat = 2 ^ 16 * a.toBitVec.toNat + b.toBitVec.toNat := by
    rw [Int32.toBitVec_or, BitVec.toNat_or, e2, Nat.two_pow_add_eq_or_of_lt (by omega)]
  have e4 := z_Nt e3 (by omega)
  have e5 : ((a <<< ((16 : Int32) &&& 31)) ||| b).toInt = 65536 * a.toInt + b.toInt := by rw [e4]; omega
  refine ⟨e5, Int32.toInt_inj.mp ?_, Int32.toInt_inj.mp ?_⟩
  · rw [z_quo (k := 16) (by omega) rfl, e5]
    show (65536 * a.toInt + b.toInt) / 65536 = _
    omega
  · rw [z_mask (k := 16) (by omega) rfl (by decide), e5]
    show (65536 * a.toInt + b.toInt) % 65536 = _
    omega
end ZRI
end ZJN8
section ZJN9
/-! ONE SAMPLE OF BOTH -/
section ZS5
variable {R R' S S' : List Nat} {A A' D D' : List (Nat × Nat × Nat)} {σ μ s t σ' μ' : zSt} {c : Int}
theorem zTo.kp (h : zTo σ μ) (a : zQ R A S D σ σ') (b : zQ R' A' S' D' μ μ') (c1 : (zof R A 30 3 8 && zof R A 30 14 16) = true) (c2 : (zof R' A' 3 72 77 && zof R' A' 3 83 85) = true) : zTo σ' μ' := by
  obtain ⟨h1, h2, h3, h4, h5, h6, h7⟩ := h
  rw [Bool.and_eq_true] at c1 c2
  have ea : ∀ j : Nat, 3 ≤ j → j ≤ 8 → σ'.1 30 j = σ.1 30 j := fun j x y => a.o c1.1 x y
  have ec : ∀ j : Nat, 14 ≤ j → j ≤ 16 → σ'.1 30 j = σ.1 30 j := fun j x y => a.o c1.2 x y
  have eb : ∀ j : Nat, 72 ≤ j → j ≤ 77 → μ'.1 3 j = μ.1 3 j := fun j x y => b.o c2.1 x y
  have ed : ∀ j : Nat, 83 ≤ j → j ≤ 85 → μ'.1 3 j = μ.1 3 j := fun j x y => b.o c2.2 x y
  refine ⟨fun j x y => ?_, fun j x y => ?_, fun j x y => ?_, fun j x y => ?_, ?_, ?_, ?_⟩
  · rw [ea j (by omega) (by omega), eb (69 + j) (by omega) (by omega)]; exact h1 j x y
  · rw [ec j (by omega) (by omega), ed (69 + j) (by omega) (by omega)]; exact h2 j x y
  · rw [ea j (by omega) (by omega)]; exact h3 j x y
  · rw [ea j (by omega) (by omega)]; exact h4 j x y
  · rw [ec 14 (by decide) (by decide)]; exact h5
  · rw [ec 15 (by decide) (by decide)]; exact h6
  · rw [ec 16 (by decide) (by decide)]; exact h7
theorem zRg.kp {ob row st ln mr : Nat} (h : zRg ob row st ln mr σ μ) (a : zQ R A S D σ σ') (b : zQ R' A' S' D' μ μ') (c1 : zof R A ob 2 3 = true) (c2 : zof R' A' 3 st st = true) (c3 : zof R' A' 3 ln ln = true) (c4 : zrw S D row = true) (c5 : zrw S' D' mr = true) : zRg ob row st ln mr σ' μ' := by
  obtain ⟨e2, e3, ev, r2, r3⟩ := h
  refine ⟨?_, ?_, fun j hj => ?_, ?_, ?_⟩
  · rw [a.o c1 (j := 2) (by decide) (by decide), b.o c2 (Nat.le_refl _) (Nat.le_refl _)]; exact e2
  · rw [a.o c1 (j := 3) (by decide) (by decide), b.o c3 (Nat.le_refl _) (Nat.le_refl _)]; exact e3
  · rw [a.rlo c4, b.rlo c5]; exact ev j hj
  · rw [b.o c2 (Nat.le_refl _) (Nat.le_refl _)]; exact r2
  · rw [b.o c3 (Nat.le_refl _) (Nat.le_refl _)]; exact r3
theorem zSmn.kp (h : zSmn c σ μ) (a : zQ R A S D σ σ') (b : zQ R' A' S' D' μ μ') (c1 : zof S D 38 4 6 = true) (c2 : zof R' A' 3 166 168 = true) : zSmn c σ' μ' := by
  unfold zSmn
  rw [a.lo c1 (j := 4) (by decide) (by decide), a.lo c1 (j := 5) (by decide) (by decide), a.lo c1 (j := 6) (by decide) (by decide), b.o c2 (j := 166) (by decide) (by decide), b.o c2 (j := 167) (by decide) (by decide), b.o c2 (j := 168) (by decide) (by decide)]
  exact h
theorem zSa.kp (h : zSa c σ μ) (a : zQ R A S D σ σ') (b : zQ R' A' S' D' μ μ') (c1 : ((zof R A 30 3 8 && zof R A 30 14 16) && (zof R A 11 2 3 && (zrw S D 46 && zof S D 38 3 6))) = true) (c2 : ((zof R' A' 3 72 77 && zof R' A' 3 83 85) && (zof R' A' 3 87 88 && (zof R' A' 3 166 168 && (zrw S' D' 10 && zof S' D' 4 3 3)))) = true) : zSa c σ' μ' := by
  have c1' := c1
  have c2' := c2
  rw [Bool.and_eq_true] at c1 c2
  obtain ⟨a1, c1⟩ := c1
  obtain ⟨b1, c2⟩ := c2
  rw [Bool.and_eq_true, Bool.and_eq_true] at c1
  rw [Bool.and_eq_true, Bool.and_eq_true, Bool.and_eq_true] at c2
  obtain ⟨h1, ⟨e2, e3, ev, r2, r3⟩, h3, h4⟩ := h
  obtain ⟨a2, a3, a4⟩ := c1
  obtain ⟨b2, b3, b4, b5⟩ := c2
  refine ⟨h1.kp a b a1 b1, ⟨?_, ?_, fun j hj => ?_, ?_, ?_⟩, ?_, ?_⟩
  · rw [a.o a2 (j := 2) (by decide) (by decide), b.o b2 (j := 88) (by decide) (by decide)]; exact e2
  · rw [a.o a2 (j := 3) (by decide) (by decide), b.o b2 (j := 87) (by decide) (by decide)]; exact e3
  · rw [a.rlo a3, b.rlo b4]; exact ev j hj
  · rw [b.o b2 (j := 88) (by decide) (by decide)]; exact r2
  · rw [b.o b2 (j := 87) (by decide) (by decide)]; exact r3
  · rw [a.lo a4 (j := 3) (by decide) (by decide), b.lo b5 (j := 3) (by decide) (by decide)]; exact h3
  · unfold zSmn
    rw [a.lo a4 (j := 4) (by decide) (by decide), a.lo a4 (j := 5) (by decide) (by decide), a.lo a4 (j := 6) (by decide) (by decide), b.o b3 (j := 166) (by decide) (by decide), b.o b3 (j := 167) (by decide) (by decide), b.o b3 (j := 168) (by decide) (by decide)]
    exact h4
theorem zAd11_q {v : Int64} (r2 : zr 0 4095 (t.1 3 88)) : zQ [] [(3, 87, 88)] [10] [] t (zAd11 t v) := by
  unfold zAd11
  split
  · exact zQ.wl (zQ.wi zQ.rf rfl) rfl
  · exact zQ.wl (zQ.wi zQ.rf rfl) rfl
/-- the end of a sample -/
theorem s_end (h : zSa c s t) (hc : c ≤ 60000) {a b : Int32} {x y : Int64} (ra : zr 0 32764 a) (rb : zr 0 32764 b) (ex : x.toInt = a.toInt) (ey : y.toInt = b.toInt) : zp2 (zbu (fX6_add_k11 s (((a <<< ((16 : Int32) &&& 31)) ||| b).toInt64)) (fun σ3 => zck (zin 3 7) (zck (zin 3 7) (zbv (zsl σ3 38 ((3 : Int32).toNatClampNeg) ((zgl σ3 38 (3 : Int32).toNatClampNeg) + 1)) (fun σ4 => zck (zin 4 7) (zck (zin 4 7) (zbv (zsl σ4 38 ((4 : Int32).toNatClampNeg) ((zgl σ4 38 (4 : Int32).toNatClampNeg) + ((((a <<< ((16 : Int32) &&& 31)) ||| b) >>> ((16 : Int32) &&& 31)).toInt64))) (fun σ5 => zck (zin 5 7) (zck (zin 5 7) (zbv (zsl σ5 38 ((5 : Int32).toNatClampNeg) ((zgl σ5 38 (5 : Int32).toNatClampNeg) + ((((a <<< ((16 : Int32) &&& 31)) ||| b) &&& 65535).toInt64))) (fun σ6 => zck (zin 6 7) (zck (zin 6 7) (zbv (zsl σ6 38 ((6 : Int32).toNatClampNeg) ((zgl σ6 38 (6 : Int32).toNatClampNeg) + 1)) (fun σ7 => some σ7)))))))))))))) (zSmM t x y) (zSa (c + 1)) := by
  obtain ⟨h1, h2, h3, h4⟩ := h
  obtain ⟨l1, l2, l3⟩ := z_lr ra rb
  obtain ⟨m6, m60, m61, m4, m40, m41, m5, m50, m51⟩ := h4
  have a0 := ra.1
  have a1 := ra.2
  have b0 := rb.1
  have b1 := rb.2
  rw [l2, l3]
  have rx : zrl 0 32764 x := ⟨by omega, by omega⟩
  have ry : zrl 0 32764 y := ⟨by omega, by omega⟩
  have c65 : (65536 : Int64).toInt = 65536 := rfl
  have tm : (65536 * x : Int64).toInt = 65536 * x.toInt := by
    rw [Int64.toInt_mul, c65]
    exact z_bml (by omega) (by omega)
  have tv : (65536 * x + y : Int64).toInt = 65536 * x.toInt + y.toInt := by
    rw [z_tladd (x := 65536 * x) (a := 0) (b := 2147221504) (c := 0) (d := 32764) ⟨by omega, by omega⟩ ry (by decide), tm]
  have ev : (65536 * x + y : Int64) = ((a <<< ((16 : Int32) &&& 31)) ||| b).toInt64 := Int64.toInt_inj.mp (by rw [tv, Int32.toInt_toInt64, l1, ex, ey])
  refine zp2_bul (p_add11 h2) (fun s3 e3 => ?_)
  refine zp2_ckl (zp2_ckl (zp2_bvl (fun s4 f4 => zp2_ckl (zp2_ckl (zp2_bvl (fun s5 f5 => zp2_ckl (zp2_ckl (zp2_bvl (fun s6 f6 => zp2_ckl (zp2_ckl (zp2_bvl (fun s7 f7 => ?_))))))))))))
  unfold zSmM
  refine zp2_ckr (zp2_ckr (zp2_bvr (fun t12 g12 => zp2_ckr (zp2_ckr (zp2_bvr (fun t13 g13 => zp2_ckr (zp2_ckr (zp2_bvr (fun t14 g14 => zp2_ckr (zp2_ckr (zp2_bvr (fun t15 g15 => ?_))))))))))))
  have k3 : s3.2 38 = s.2 38 := by
    rw [e3]
    split
    · rfl
    · rfl
  have e4 : zgl s3 38 (3 : Int32).toNatClampNeg = s.2 38 3 := by show s3.2 38 3 = _; rw [k3]
  rw [e4] at f4
  have f4 : s4 = zsl s3 38 3 (s.2 38 3 + 1) := f4
  have e5 : zgl s4 38 (4 : Int32).toNatClampNeg = s.2 38 4 := by show s4.2 38 4 = _; rw [f4, zsl_nj (by decide), k3]
  rw [e5] at f5
  have f5 : s5 = zsl s4 38 4 (s.2 38 4 + a.toInt64) := f5
  have e6 : zgl s5 38 (5 : Int32).toNatClampNeg = s.2 38 5 := by show s5.2 38 5 = _; rw [f5, zsl_nj (by decide), f4, zsl_nj (by decide), k3]
  rw [e6] at f6
  have f6 : s6 = zsl s5 38 5 (s.2 38 5 + b.toInt64) := f6
  have e7 : zgl s6 38 (6 : Int32).toNatClampNeg = s.2 38 6 := by show s6.2 38 6 = _; rw [f6, zsl_nj (by decide), f5, zsl_nj (by decide), f4, zsl_nj (by decide), k3]
  rw [e7] at f7
  have f7 : s7 = zsl s6 38 6 (s.2 38 6 + 1) := f7
  have g12 : t12 = zsl t 4 3 (t.2 4 3 + 1) := g12
  have u13 : zgi t12 3 (166 : Int32).toNatClampNeg = t.1 3 166 := by rw [g12]; rfl
  rw [u13] at g13
  have g13 : t13 = zsi t12 3 166 (t.1 3 166 + x.toInt32) := g13
  have u14 : zgi t13 3 (167 : Int32).toNatClampNeg = t.1 3 167 := by rw [g13, g12]; exact zsi_nj (by decide)
  rw [u14] at g14
  have g14 : t14 = zsi t13 3 167 (t.1 3 167 + y.toInt32) := g14
  have u15 : zgi t14 3 (168 : Int32).toNatClampNeg = t.1 3 168 := by rw [g14]; show (zsi t13 3 167 _).1 3 168 = _; rw [zsi_nj (by decide), g13, zsi_nj (by decide), g12]; rfl
  rw [u15] at g15
  have g15 : t15 = zsi t14 3 168 (t.1 3 168 + 1) := g15
  have qt : zQ [] [(3, 166, 168)] [] [(4, 3, 3)] t t15 := by rw [g15, g14, g13, g12]; exact zQ.wi (zQ.wi (zQ.wi (zQ.wl zQ.rf rfl) rfl) rfl) rfl
  have qs : zQ [] [] [] [(38, 3, 6)] s3 s7 := by rw [f7, f6, f5, f4]; exact zQ.wl (zQ.wl (zQ.wl (zQ.wl zQ.rf rfl) rfl) rfl) rfl
  have h2' : zRg 11 46 88 87 10 s t15 := h2.kp (zQ.rf (R := []) (A := []) (S := []) (B := [])) qt rfl rfl rfl rfl rfl
  have q3 : zQ [] [(11, 2, 3)] [46] [] s s3 := by
    rw [e3]
    split
    · exact zQ.wi (zQ.wl zQ.rf rfl) rfl
    · exact zQ.wi (zQ.wl zQ.rf rfl) rfl
  have tx32 : x.toInt32 = a := Int32.toInt_inj.mp (by rw [Int64.toInt_toInt32, ex]; exact z_bm (by omega) (by omega))
  have ty32 : y.toInt32 = b := Int32.toInt_inj.mp (by rw [Int64.toInt_toInt32, ey]; exact z_bm (by omega) (by omega))
  intro u w eu ew
  cases eu
  refine p_mAdd h2'.2.2.2.1 h2'.2.2.2.2 ev (Q := fun r => zSa (c + 1) s7 r) ?_ w ew
  have qa := zAd11_q (v := ((a <<< ((16 : Int32) &&& 31)) ||| b).toInt64) h2'.2.2.2.1
  refine ⟨?_, ?_, ?_, ?_⟩
  · refine (h1.kp (σ' := s7) (μ' := zAd11 t15 _) (R := []) (A := [(11, 2, 3)]) (S := [46]) (D := [(38, 3, 6)]) (R' := []) (A' := [(3, 87, 88), (3, 166, 168)]) (S' := [10]) (D' := [(4, 3, 3)]) ((q3.mono rfl rfl).tr (qs.mono rfl rfl)) ((qt.mono rfl rfl).tr (qa.mono rfl rfl)) rfl rfl)
  · exact (zRg11.add h2' e3).kp qs (zQ.rf (R := []) (A := []) (S := []) (B := [])) rfl rfl rfl rfl rfl
  · have y1 : s7.2 38 3 = s.2 38 3 + 1 := by rw [f7, zsl_nj (by decide), f6, zsl_nj (by decide), f5, zsl_nj (by decide), f4, zsl_ej]
    have y2 : (zAd11 t15 (((a <<< ((16 : Int32) &&& 31)) ||| b).toInt64)).2 4 3 = t.2 4 3 + 1 := by
      rw [qa.lo (k := 4) (a := 3) (b := 3) rfl (by decide) (by decide), g15, g14, g13, g12]
      show (zsl t 4 3 (t.2 4 3 + 1)).2 4 3 = _
      exact zsl_ej
    rw [y1, y2, h3]
  · have y4 : s7.2 38 4 = s.2 38 4 + a.toInt64 := by rw [f7, zsl_nj (by decide), f6, zsl_nj (by decide), f5, zsl_ej]
    have y5 : s7.2 38 5 = s.2 38 5 + b.toInt64 := by rw [f7, zsl_nj (by decide), f6, zsl_ej]
    have y6 : s7.2 38 6 = s.2 38 6 + 1 := by rw [f7, zsl_ej]
    have z6 : (zAd11 t15 (((a <<< ((16 : Int32) &&& 31)) ||| b).toInt64)).1 3 166 = t.1 3 166 + a := by
      rw [qa.o (k := 3) (a := 166) (b := 168) rfl (by decide) (by decide), g15, zsi_nj (by decide), g14, zsi_nj (by decide), g13, zsi_ej, tx32]
    have z7 : (zAd11 t15 (((a <<< ((16 : Int32) &&& 31)) ||| b).toInt64)).1 3 167 = t.1 3 167 + b := by
      rw [qa.o (k := 3) (a := 166) (b := 168) rfl (by decide) (by decide), g15, zsi_nj (by decide), g14, zsi_ej, ty32]
    have z8 : (zAd11 t15 (((a <<< ((16 : Int32) &&& 31)) ||| b).toInt64)).1 3 168 = t.1 3 168 + 1 := by
      rw [qa.o (k := 3) (a := 166) (b := 168) rfl (by decide) (by decide), g15, zsi_ej]
    have n6 : (t.1 3 166 + a).toInt = (t.1 3 166).toInt + a.toInt := z_tadd (a := 0) (b := 1965840000) ⟨m40, by omega⟩ ra (by decide)
    have n7 : (t.1 3 167 + b).toInt = (t.1 3 167).toInt + b.toInt := z_tadd (a := 0) (b := 1965840000) ⟨m50, by omega⟩ rb (by decide)
    have n8 : (t.1 3 168 + 1).toInt = (t.1 3 168).toInt + 1 := z_tadd (a := 0) (b := 60000) ⟨m60, by omega⟩ (zr_c (lo := 1) (hi := 1) (x := 1) (by decide)) (by decide)
    have o4 : (s.2 38 4 + a.toInt64).toInt = (s.2 38 4).toInt + a.toInt := by
      rw [z_tladd (a := 0) (b := 1965840000) (c := 0) (d := 32764) ⟨by omega, by omega⟩ ⟨by rw [Int32.toInt_toInt64]; exact a0, by rw [Int32.toInt_toInt64]; exact a1⟩ (by decide), Int32.toInt_toInt64]
    have o5 : (s.2 38 5 + b.toInt64).toInt = (s.2 38 5).toInt + b.toInt := by
      rw [z_tladd (a := 0) (b := 1965840000) (c := 0) (d := 32764) ⟨by omega, by omega⟩ ⟨by rw [Int32.toInt_toInt64]; exact b0, by rw [Int32.toInt_toInt64]; exact b1⟩ (by decide), Int32.toInt_toInt64]
    have o6 : (s.2 38 6 + 1).toInt = (s.2 38 6).toInt + 1 := z_tladd (a := 0) (b := 60000) ⟨by omega, by omega⟩ (zrl_c (lo := 1) (hi := 1) (x := 1) (by decide)) (by decide)
    unfold zSmn
    rw [y4, y5, y6, z6, z7, z8, n6, n7, n8, o4, o5, o6]
    omega
theorem zbi_zbu {α : Type} {X : Option zSt} {g : zSt → Option (zSt × Int32)} {F : zSt → Int32 → Option α} : zbi (zbu X g) F = zbu X (fun s => zbi (g s) F) := by
  cases X <;> rfl
/-- one sample -/
theorem s_sample (hv : zVe σ μ) (h : zSa c σ μ) (hc : c ≤ 60000) : zp2 (fX0_addSample σ ) (fX12_sample μ ) (zSa (c + 1)) := by
  have loop : ∀ (n m i : Nat) (s t : zSt), i ≤ 3 → zSo σ μ s t → zp2 (zbi (fX7_nextSample_2 n s (Int32.ofNat i)) (fun σ1 v2 => zbu (fX6_add_k11 σ1 (v2.toInt64)) (fun σ3 => zck (zin 3 7) (zck (zin 3 7) (zbv (zsl σ3 38 ((3 : Int32).toNatClampNeg) ((zgl σ3 38 (3 : Int32).toNatClampNeg) + 1)) (fun σ4 => zck (zin 4 7) (zck (zin 4 7) (zbv (zsl σ4 38 ((4 : Int32).toNatClampNeg) ((zgl σ4 38 (4 : Int32).toNatClampNeg) + ((v2 >>> ((16 : Int32) &&& 31)).toInt64))) (fun σ5 => zck (zin 5 7) (zck (zin 5 7) (zbv (zsl σ5 38 ((5 : Int32).toNatClampNeg) ((zgl σ5 38 (5 : Int32).toNatClampNeg) + ((v2 &&& 65535).toInt64))) (fun σ6 => zck (zin 6 7) (zck (zin 6 7) (zbv (zsl σ6 38 ((6 : Int32).toNatClampNeg) ((zgl σ6 38 (6 : Int32).toNatClampNeg) + 1)) (fun σ7 => some σ7))))))))))))))) (fX12_sample_2 m t (Int32.ofNat i)) (zSa (c + 1)) := by
    intro n
    induction n with
    | zero => intro m i s t _ _; exact zp2_nl
    | succ n ih =>
      intro m i s t hi hso
      cases m with
      | zero => exact zp2_nr
      | succ m =>
        have hv1 := hso.ve hv
        by_cases i3 : i = 3
        · subst i3
          show zp2 (zbi (fX7_nextSample_2_body (fX7_nextSample_2 n) s (Int32.ofNat 3)) _) (fX12_sample_2_body (fX12_sample_2 m) t (Int32.ofNat 3)) _
          unfold fX7_nextSample_2_body fX12_sample_2_body
          rw [if_pos (show (3 : Int32) ≤ Int32.ofNat 3 by decide), if_pos (show (3 : Int32) ≤ Int32.ofNat 3 by decide), zbi_zbu]
          refine s_noise hv1 hso.1 (fun s1 t1 k1 => ?_)
          unfold fX12_sample_268
          have k2 := hso.tr k1
          have hv2 := k1.ve hv1
          have sa : zSa c s1 t1 := by
            obtain ⟨_, h2, h3, h4⟩ := h
            refine ⟨k2.1, h2.kp k2.2.1 k2.2.2 rfl rfl rfl rfl rfl, ?_, h4.kp k2.2.1 k2.2.2 rfl rfl⟩
            rw [k2.2.1.rlo (k := 38) rfl, k2.2.2.rlo (k := 4) rfl]
            exact h3
          exact s_sum hv2 k2.1 (fun a b x y ra rb ex ey => s_end sa hc ra rb ex ey) zfuel zfuel 0 0 0 0 0 (by decide) (zr_c (by decide)) (zr_c (by decide)) rfl rfl
        · have hi2 : i < 3 := by omega
          have ri : zr 0 2 (Int32.ofNat i) := z_ofr (by omega) (by omega)
          have n3 : ¬ (3 : Int32) ≤ Int32.ofNat i := zq_gef ri rfl (by decide)
          show zp2 (zbi (fX7_nextSample_2_body (fX7_nextSample_2 n) s (Int32.ofNat i)) _) (fX12_sample_2_body (fX12_sample_2 m) t (Int32.ofNat i)) _
          unfold fX7_nextSample_2_body fX12_sample_2_body
          rw [if_neg n3, if_neg n3, zbi_zbu]
          refine s_tone (k2 := fX12_sample_2 m) (g := fun t => fX12_sample_102 (fX12_sample_2 m) t (Int32.ofNat i)) hv1 hso.1 hi2 (fun s1 t1 k1 => ?_) (fun t => rfl)
          have z := ih m (i + 1) s1 t1 (by omega) (hso.tr k1)
          rw [← z_ofS (by omega)] at z
          exact z
  unfold fX0_addSample fX12_sample fX7_nextSample
  exact loop zfuel zfuel 0 σ μ (by decide) ⟨h.1, zQ.rf, zQ.rf⟩
end ZS5
end ZJN9
section ZJN10
/-! SOUNDS BESIDE A STEP -/
/-- what is left alone leaves the sounds alone; a new noise; the beats of a step pass -/
noncomputable def zJok (J : Int → zSt → zSt → Prop) : Prop := (∀ n σ μ s t, J n σ μ → zQ [3, 7, 9, 15, 17, 19, 21, 23, 25, 27, 28, 29, 34, 36, 40, 42, 44] [(30, 0, 2), (30, 9, 13), (30, 17, 18), (32, 0, 64), (32, 68, 68)] [] [(38, 1, 2)] σ s → zQ [5, 6, 7, 8, 9, 21, 22, 23, 24, 25] [(0, 0, 0), (0, 31, 33), (3, 0, 71), (3, 78, 82), (3, 86, 86), (3, 89, 163), (3, 171, 171), (3, 280, 1047)] [] [(4, 0, 2), (0, 30, 30)] μ t → J n s t) ∧ (∀ n σ μ, J n σ μ → J n (zsi σ 30 16 32768) (zsi μ 3 85 32768)) ∧ (∀ n m σ μ, n ≤ m → J n σ μ → J m σ μ) ∧ (∀ n (b : Int32) σ μ, J n σ μ → zVe σ μ → zr 1 64 b → n ≤ 1000000000000000 → μ.2 4 0 = σ.2 38 0 + b.toInt64 → zp2 (fX0_pass σ b) (fX12_once_298 μ (σ.2 38 0)) (J (n + 64)))
section ZJ6
variable {J : Int → zSt → zSt → Prop} {n : Int} {σ μ s t : zSt} {B : Int × Int × Int}
noncomputable def zIj (J : Int → zSt → zSt → Prop) (n : Int) (B : Int × Int × Int) (σ μ : zSt) : Prop := zIa B σ μ ∧ J n σ μ
theorem zQ_cut {R S : List Nat} {A A' D : List (Nat × Nat × Nat)} (h : zQ R A S D σ s) {k j : Nat} (e : s.1 k j = σ.1 k j) (c : ∀ a b : Nat, zcv R A' a b = false → zcv R A a b = false ∨ (a = k ∧ b = j)) : zQ R A' S D σ s := ⟨fun a b q => by
  rcases c a b q with z | z
  · exact h.1 a b z
  · rw [z.1, z.2]; exact e, h.2⟩
theorem zJok.po (hJ : zJok J) (h : J n σ μ) (q : zPo σ μ s t) : J n s t := by
  obtain ⟨v, a, b, nz⟩ := q
  have cut : ∀ (x y : Nat), zcv [21, 23, 34] [(30, 0, 2), (30, 9, 13), (30, 17, 18), (32, 0, 64), (32, 68, 68)] x y = false → zcv [21, 23, 34] [(30, 0, 2), (30, 9, 13), (30, 16, 18), (32, 0, 64), (32, 68, 68)] x y = false ∨ (x = 30 ∧ y = 16) := fun x y z => by
    by_cases w : x = 30 ∧ y = 16
    · exact Or.inr w
    · left
      unfold zcv at z ⊢
      rw [Bool.or_eq_false_iff] at z ⊢
      refine ⟨z.1, List.any_eq_false.mpr (fun e he q => ?_)⟩
      have z2 := List.any_eq_false.mp z.2
      rw [Bool.and_eq_true, Bool.and_eq_true] at q
      obtain ⟨q1, q2, q3⟩ := q
      have q1' := Nat.eq_of_beq_eq_true q1
      have q2' := Nat.le_of_ble_eq_true q2
      have q3' := Nat.le_of_ble_eq_true q3
      simp only [List.mem_cons, List.not_mem_nil, or_false] at he
      rcases he with rfl | rfl | rfl | rfl | rfl
      · exact z2 (30, 0, 2) (by decide) (by rw [q1, q2, q3]; rfl)
      · exact z2 (30, 9, 13) (by decide) (by rw [q1, q2, q3]; rfl)
      · have n16 : ¬ y = 16 := fun r => w ⟨q1'.symm, r⟩
        have q2'' : 16 ≤ y := q2'
        have q3'' : y ≤ 18 := q3'
        exact z2 (30, 17, 18) (by decide) (by rw [q1, show Nat.ble 17 y = true from Nat.ble_eq.mpr (by omega), show Nat.ble y 18 = true from Nat.ble_eq.mpr (by omega)]; rfl)
      · exact z2 (32, 0, 64) (by decide) (by rw [q1, q2, q3]; rfl)
      · exact z2 (32, 68, 68) (by decide) (by rw [q1, q2, q3]; rfl)
  have cutM : ∀ (x y : Nat), zcv [7, 8] [(3, 33, 65), (3, 68, 71), (3, 78, 82), (3, 86, 86), (3, 98, 163)] x y = false → zcv [7, 8] [(3, 33, 65), (3, 68, 71), (3, 78, 82), (3, 85, 86), (3, 98, 163)] x y = false ∨ (x = 3 ∧ y = 85) := fun x y z => by
    by_cases w : x = 3 ∧ y = 85
    · exact Or.inr w
    · left
      unfold zcv at z ⊢
      rw [Bool.or_eq_false_iff] at z ⊢
      refine ⟨z.1, List.any_eq_false.mpr (fun e he q => ?_)⟩
      have z2 := List.any_eq_false.mp z.2
      rw [Bool.and_eq_true, Bool.and_eq_true] at q
      obtain ⟨q1, q2, q3⟩ := q
      have q1' := Nat.eq_of_beq_eq_true q1
      have q2' := Nat.le_of_ble_eq_true q2
      have q3' := Nat.le_of_ble_eq_true q3
      simp only [List.mem_cons, List.not_mem_nil, or_false] at he
      rcases he with rfl | rfl | rfl | rfl | rfl
      · exact z2 (3, 33, 65) (by decide) (by rw [q1, q2, q3]; rfl)
      · exact z2 (3, 68, 71) (by decide) (by rw [q1, q2, q3]; rfl)
      · exact z2 (3, 78, 82) (by decide) (by rw [q1, q2, q3]; rfl)
      · have n85 : ¬ y = 85 := fun r => w ⟨q1'.symm, r⟩
        have q2'' : 85 ≤ y := q2'
        have q3'' : y ≤ 86 := q3'
        exact z2 (3, 86, 86) (by decide) (by rw [q1, show Nat.ble 86 y = true from Nat.ble_eq.mpr (by omega), show Nat.ble y 86 = true from Nat.ble_eq.mpr (by omega)]; rfl)
      · exact z2 (3, 98, 163) (by decide) (by rw [q1, q2, q3]; rfl)
  rcases nz with ⟨n1, n2⟩ | ⟨n1, n2⟩
  · exact hJ.1 n σ μ s t h ((zQ_cut a n1 cut).mono rfl rfl) ((zQ_cut b n2 cutM).mono rfl rfl)
  · have h1 := hJ.2.1 n σ μ h
    have a1 : zQ [21, 23, 34] [(30, 0, 2), (30, 9, 13), (30, 16, 18), (32, 0, 64), (32, 68, 68)] [] [] (zsi σ 30 16 32768) s := ⟨fun x y z => by
      rw [zsi_off (fun w => by rw [w.1, w.2] at z; exact absurd z (by decide))]
      exact a.1 x y z, a.2⟩
    have b1 : zQ [7, 8] [(3, 33, 65), (3, 68, 71), (3, 78, 82), (3, 85, 86), (3, 98, 163)] [] [] (zsi μ 3 85 32768) t := ⟨fun x y z => by
      rw [zsi_off (fun w => by rw [w.1, w.2] at z; exact absurd z (by decide))]
      exact b.1 x y z, b.2⟩
    exact hJ.1 n _ _ s t h1 ((zQ_cut a1 (n1.trans zsi_ej.symm) cut).mono rfl rfl) ((zQ_cut b1 (n2.trans zsi_ej.symm) cutM).mono rfl rfl)
theorem zIoK_j (hJ : zJok J) : zIoK (zIj J n B) := fun σ μ σ' μ' h a b => ⟨zIoK_a σ μ σ' μ' h.1 a b, hJ.1 n σ μ σ' μ' h.2 (a.mono rfl rfl) (b.mono rfl rfl)⟩
theorem zIj.a (h : zTT (zIj J n B) σ μ) : zTT (zIa B) σ μ := ⟨h.1, h.2.1, h.2.2.1, h.2.2.2.1⟩
theorem zPorts_j (hJ : zJok J) : zPorts (zIj J n B) := by
  refine ⟨fun σ μ p v h hp hv => ?_, fun σ μ p h hp => ?_⟩
  · refine zp2_mono (t_out h.2.2.2.1.1 hp hv) (fun s t q => ?_)
    have jq := hJ.po h.2.2.2.2 q
    obtain ⟨q1, q2, q3, q4⟩ := q
    exact h.kp (J := zIj J n B) ⟨⟨q1, h.2.2.2.1.2.kp q2 q3 rfl rfl⟩, jq⟩ q2 q3 rfl rfl
  · refine zp2_mono (t_in h.2.2.2.1.1 hp) (fun s t q => ?_)
    have jq := hJ.po h.2.2.2.2 q.1
    obtain ⟨⟨q1, q2, q3, q4⟩, q5, q6⟩ := q
    obtain ⟨k1, k2⟩ := h.kp (J := zIj J n B) ⟨⟨q1, h.2.2.2.1.2.kp q2 q3 rfl rfl⟩, jq⟩ q2 q3 rfl rfl
    exact ⟨k1, q5, q6, k2⟩
theorem t_noteJ (hJ : zJok J) (h0 : zTT (zIj J n B) σ μ) (hF : zF σ μ) (hW : zWzz σ μ) (hB : B.1 ≤ 1000000000000000) {α β : Type} {Q : α → β → Prop} {f : zSt → Option α} {g : zSt → Option β} {c1 c2 c3 : Bool} (k : ∀ s t, zTT (zIj J n (B.1 + 1, B.2.1, B.2.2)) s t → zF s t → zWzz s t → zp2 (f s) (g t) Q) : zp2 (zbu (fX1_noteStep σ (σ.1 36 19)) f) (zck c1 (zck c2 (zck c3 (zbv (zsi μ 21 (((zreml (zgl μ 0 30) 32).toInt32).toNatClampNeg) (zgi μ 3 (19 : Int32).toNatClampNeg)) (fun σ32 => zbv (zsl σ32 0 30 ((zgl σ32 0 30) + 1)) g))))) Q := by
  have h := zIj.a h0
  obtain ⟨n0, nB, r5, e5, rest⟩ := h.2.2.2.2.2.1
  have e19 : zgi μ 3 (19 : Int32).toNatClampNeg = σ.1 36 19 := h.eq (by decide)
  have rl : zrl 0 1000000000000000 (μ.2 0 30) := ⟨n0, by omega⟩
  have rm : (zreml (zgl μ 0 30) 32).toInt = (μ.2 0 30).toInt % 32 := z_tlrem 32 rfl rl (by decide)
  have b0 := Int.emod_nonneg (μ.2 0 30).toInt (b := 32) (by decide)
  have b1 := Int.emod_lt_of_pos (μ.2 0 30).toInt (b := 32) (by decide)
  have ei : (zreml (zgl μ 0 30) 32).toInt32 = σ.1 9 5 := Int32.toInt_inj.mp (by
    rw [Int64.toInt_toInt32, rm, e5]
    exact z_bm (by omega) (by omega))
  rw [ei, e19]
  refine zp2_bul (p_note r5) (fun s es => zp2_ckr (zp2_ckr (zp2_ckr (zp2_bvr (fun t1 g1 => zp2_bvr (fun t2 g2 => ?_))))))
  have g2 : t2 = zsl t1 0 30 (μ.2 0 30 + 1) := by rw [g2, g1]; rfl
  have a : zQ [44, 9] [] [] [] σ s := by rw [es]; exact zQ.wi (zQ.wi zQ.rf rfl) rfl
  have b : zQ [21] [] [] [(0, 30, 30)] μ t2 := by rw [g2, g1]; exact zQ.wl (zQ.wi zQ.rf rfl) rfl
  have en : (t2.2 0 30).toInt = (μ.2 0 30).toInt + 1 := by
    rw [g2, zsl_at, if_pos ⟨rfl, rfl⟩]
    exact z_tladd rl (zrl_c (lo := 1) (hi := 1) (x := 1) (by decide)) (by decide)
  have es9 : s.1 9 5 = (σ.1 9 5 + 1) &&& 31 := by rw [es]; exact zsi_ej
  have ta : (σ.1 9 5 + 1).toInt = (σ.1 9 5).toInt + 1 := z_tadd r5 (zr_c (lo := 1) (hi := 1) (x := 1) (by decide)) (by decide)
  have r50 := r5.1
  have r51 := r5.2
  have tm : ((σ.1 9 5 + 1) &&& 31).toInt = ((σ.1 9 5).toInt + 1) % 32 := by rw [z_mask (k := 5) (by omega) rfl (by decide), ta]; rfl
  have kc := z_clamp r5.1
  have j44 : ∀ j, s.1 44 j = if j = (σ.1 9 5).toNatClampNeg then σ.1 36 19 else σ.1 44 j := fun j => by
    rw [es, zsi_ne (by decide), zsi_at]
    by_cases q : j = (σ.1 9 5).toNatClampNeg
    · rw [if_pos ⟨rfl, q⟩, if_pos q]
    · rw [if_neg (fun z => q z.2), if_neg q]
  have j21 : ∀ j, t2.1 21 j = if j = (σ.1 9 5).toNatClampNeg then σ.1 36 19 else μ.1 21 j := fun j => by
    rw [g2, g1]
    show (zsi μ 21 _ _).1 21 j = _
    rw [zsi_at]
    by_cases q : j = (σ.1 9 5).toNatClampNeg
    · rw [if_pos ⟨rfl, q⟩, if_pos q]
    · rw [if_neg (fun z => q z.2), if_neg q]
  have hI : zIa (B.1 + 1, B.2.1, B.2.2) s t2 := by
    refine ⟨h.2.2.2.1.kp a b (by decide +kernel) (by decide +kernel), h.2.2.2.2.1.kp a b rfl rfl, ⟨by omega, by show (t2.2 0 30).toInt ≤ B.1 + 1; omega, ?_, ?_, fun j hj => ⟨fun q => ?_, fun q => ?_⟩⟩, ?_⟩
    · rw [es9]; exact z_r31 _
    · rw [es9, tm, en, e5]; omega
    · rw [j44, j21]
      by_cases z : j = (σ.1 9 5).toNatClampNeg
      · rw [if_pos z, if_pos z]
      · rw [if_neg z, if_neg z]
        exact (rest j hj).1 (by omega)
    · rw [j44, if_neg (fun z => by omega)]
      exact (rest j hj).2 (by omega)
    · have zc := h.2.2.2.2.2.2
      rw [es, g2, g1]
      exact zc
  obtain ⟨k1, k2⟩ := h.kp hI a b rfl rfl
  exact k s t2 ⟨k1.1, k1.2.1, k1.2.2.1, k1.2.2.2, hJ.1 n σ μ s t2 h0.2.2.2.2 (a.mono rfl rfl) (b.mono rfl rfl)⟩ (k2.f hF) (k2.w hW)
/-! plans: the reference's sounds stay -/
noncomputable def zPm (c : Int) (μ : zSt) : Prop := ∀ k : Nat, (k : Int) < c → zr 0 1 (μ.1 3 (281 + 3 * k))
theorem m_down {o : zSt} {c : Int32} (hc : zr 0 255 c) {k0 : zSt → Option zSt} {Q : zSt → Prop} (H : ∀ t : zSt, t.1 3 171 = c → zPm (c.toInt + 1) t → zQ [] [(3, 42, 43), (3, 171, 171), (3, 280, 1047)] [] [] o t → zpc (k0 t) Q) : ∀ (n : Nat) (μ : zSt) (x : Int32), zr 0 100000 x → μ.1 3 171 = c → zPm (c.toInt + 1) μ → zQ [] [(3, 42, 43), (3, 171, 171), (3, 280, 1047)] [] [] o μ → zpc (fX12_planned_68 k0 n μ x) Q := by
  intro n
  induction n with
  | zero => intro μ x _ _ _ _; exact zpc_none
  | succ n ih =>
    intro μ x hx e171 hp hd
    show zpc (fX12_planned_68_body k0 (fX12_planned_68 k0 n) μ x) Q
    unfold fX12_planned_68_body
    rw [show zgi μ 3 (171 : Int32).toNatClampNeg = c from e171]
    have tc := z_tmul (x := (3 : Int32)) (y := c) (zr_c (lo := 3) (hi := 3) (by decide)) hc (by decide)
    have c3 : (3 : Int32).toInt = 3 := rfl
    rw [c3] at tc
    refine zpc_ck (zpc_if (fun _ => H μ e171 hp hd) (fun q => ?_))
    have q1 := Int32.lt_iff_toInt_lt.mp (z_nle q)
    have x0 := hx.1
    have kx := z_clamp x0
    have c0 := hc.1
    have c255 := hc.2
    have rx : zr 0 765 x := ⟨x0, by omega⟩
    have o1 : (280 + x).toNatClampNeg = 280 + x.toNatClampNeg := z_off rx (k := 280) rfl (by decide)
    have r280 : zr 280 1045 (280 + x) := zr_add (zr_c (lo := 280) (hi := 280) (x := 280) (by decide)) rx (by decide)
    have o2 : ((280 + x) + 3).toNatClampNeg = 283 + x.toNatClampNeg := by
      have t3 := z_tadd r280 (zr_c (lo := 3) (hi := 3) (x := 3) (by decide)) (by decide)
      have t0 := z_tadd (x := (280 : Int32)) (zr_c (lo := 280) (hi := 280) (x := 280) (by decide)) rx (by decide)
      have k3 := z_clamp (x := (280 + x) + 3) (by rw [t3, t0, show (280 : Int32).toInt = 280 from rfl]; omega)
      rw [t3, t0, show (280 : Int32).toInt = 280 from rfl, c3] at k3
      omega
    rw [o1, o2]
    refine zpc_ck (zpc_ck (zpc_bv (fun t1 g1 => zpc_bv (fun v ev => ?_))))
    rw [ev]
    have t1' := z_tadd rx (zr_c (lo := 1) (hi := 1) (x := 1) (by decide)) (by decide)
    refine ih t1 (x + 1) ⟨by rw [t1', show (1 : Int32).toInt = 1 from rfl]; omega, by rw [t1', show (1 : Int32).toInt = 1 from rfl]; omega⟩ ?_ (fun k hk => ?_) ?_
    · rw [g1, zsi_nj (by omega)]; exact e171
    · rw [g1]
      by_cases y : 281 + 3 * k = 280 + x.toNatClampNeg
      · rw [y, zsi_ej]
        have z := hp (k + 1) (by omega)
        rw [show 281 + 3 * (k + 1) = 283 + x.toNatClampNeg by omega] at z
        exact z
      · rw [zsi_nj y]; exact hp k hk
    · rw [g1]; exact zQ.wi hd (zcv_m (a := 280) (b := 1047) (by decide) (by omega) (by omega))
theorem m_plans {o : zSt} : ∀ (n : Nat) (μ : zSt), zr 0 256 (μ.1 3 171) → zPm (μ.1 3 171).toInt μ → zQ [] [(3, 42, 43), (3, 171, 171), (3, 280, 1047)] [] [] o μ → zpc (fX12_planned_0 n μ ) (fun r => zQ [] [(3, 42, 43), (3, 171, 171), (3, 280, 1047)] [] [] o r) := by
  intro n
  induction n with
  | zero => intro μ _ _ _; exact zpc_none
  | succ n ih =>
    intro μ hr hp hd
    show zpc (fX12_planned_0_body (fX12_planned_0 n) μ ) _
    unfold fX12_planned_0_body fX12_planned_113
    rw [show zgi μ 3 (171 : Int32).toNatClampNeg = μ.1 3 171 from rfl, show zgi μ 3 (281 : Int32).toNatClampNeg = μ.1 3 281 from rfl]
    refine zpc_ck (zpc_if (fun _ => zpc_some hd) (fun q => ?_))
    have q1 := Int32.lt_iff_toInt_lt.mp (z_nle q)
    rw [show (0 : Int32).toInt = 0 from rfl] at q1
    have r281 : zr 0 1 (μ.1 3 281) := hp 0 (by omega)
    have o42 : (42 + μ.1 3 281).toNatClampNeg = 42 + (μ.1 3 281).toNatClampNeg := z_off r281 (k := 42) rfl (by decide)
    have k281 := z_clamp r281.1
    have b1 := r281.2
    rw [o42]
    have ts : (μ.1 3 171 - 1).toInt = (μ.1 3 171).toInt - 1 := z_tsub hr (zr_c (lo := 1) (hi := 1) (x := 1) (by decide)) (by decide)
    have hr2 := hr.2
    have fin : ∀ {c1 c2 : Bool} {f : zSt → Option zSt}, (∀ t3 : zSt, t3 = zsi μ 3 (42 + (μ.1 3 281).toNatClampNeg) (zgi μ 3 (282 : Int32).toNatClampNeg) → zpc (f t3) (fun r => zQ [] [(3, 42, 43), (3, 171, 171), (3, 280, 1047)] [] [] o r)) → zpc (zck c1 (zck c2 (zbv (zsi μ 3 (42 + (μ.1 3 281).toNatClampNeg) (zgi μ 3 (282 : Int32).toNatClampNeg)) f))) (fun r => zQ [] [(3, 42, 43), (3, 171, 171), (3, 280, 1047)] [] [] o r) := fun {c1 c2 f} H => zpc_ck (zpc_ck (zpc_bv (fun t3 g3 => H t3 g3)))
    refine zpc_ck (zpc_ck (zpc_if (fun _ => zpc_some hd) (fun _ => zpc_ck (zpc_ck (zpc_ck (zpc_bv (fun t3 g3 => zpc_ck (zpc_ck (zpc_bv (fun t4 g4 => ?_))))))))))
    have u171 : zgi t3 3 (171 : Int32).toNatClampNeg = μ.1 3 171 := by
      rw [g3]
      show (zsi μ 3 (42 + (μ.1 3 281).toNatClampNeg) _).1 3 171 = _
      exact zsi_nj (by omega)
    rw [u171] at g4
    have g4 : t4 = zsi t3 3 171 (μ.1 3 171 - 1) := g4
    refine m_down (o := o) (c := μ.1 3 171 - 1) ⟨by omega, by omega⟩ (fun t e1 e2 e3 => ih t ?_ (fun k hk => e2 k ?_) e3) zfuel t4 0 (zr_c (by decide)) ?_ (fun k hk => ?_) ?_
    · rw [e1]; exact ⟨by omega, by omega⟩
    · rw [e1] at hk; omega
    · rw [g4, zsi_ej]
    · rw [g4, zsi_nj (by omega), g3, zsi_nj (by omega)]
      exact hp k (by omega)
    · rw [g4, g3]; exact zQ.wi (zQ.wi hd (zcv_m (a := 42) (b := 43) (by decide) (by omega) (by omega))) rfl
/-- the line's end of the reference leaves the sounds -/
noncomputable def zLfm (o t : zSt) : Prop := zQ [9, 22, 23, 24, 25] [(3, 33, 68), (3, 171, 171), (3, 280, 1047)] [] [(4, 2, 2)] o t ∧ zr 0 256 (t.1 3 171) ∧ zPm (t.1 3 171).toInt t
theorem zLfm.w {o t : zSt} (h : zLfm o t) {j : Nat} {v : Int32} (h1 : 33 ≤ j) (h2 : j ≤ 68) : zLfm o (zsi t 3 j v) := by
  obtain ⟨a, b, c⟩ := h
  have e : (zsi t 3 j v).1 3 171 = t.1 3 171 := zsi_nj (by omega)
  refine ⟨zQ.wi a (zcv_m (a := 33) (b := 68) (by decide) h1 h2), by rw [e]; exact b, ?_⟩
  rw [e]
  exact fun k hk => by rw [zsi_nj (by omega)]; exact c k hk
theorem m_169 {o t : zSt} (h : zLfm o t) {x : Int32} : zpc (fX12_ends_169 t x) (fun r => zQ [9, 22, 23, 24, 25] [(3, 33, 68), (3, 171, 171), (3, 280, 1047)] [] [(4, 2, 2)] o r) := by
  unfold fX12_ends_169 fX12_ends_195
  exact zpc_ck (zpc_if (fun _ => zpc_ck (zpc_ck (zpc_bv (fun u g => zpc_some (by rw [g]; exact (h.w (j := 62) (by decide) (by decide)).1))))) (fun _ => zpc_some h.1))
theorem m_131 {o t : zSt} (h : zLfm o t) {x a b : Int32} : zpc (fX12_ends_131 t x a b) (fun r => zQ [9, 22, 23, 24, 25] [(3, 33, 68), (3, 171, 171), (3, 280, 1047)] [] [(4, 2, 2)] o r) := by
  unfold fX12_ends_131 fX12_reg fX12_planned
  refine zpc_if (fun _ => zpc_ck (zpc_bv (fun u g => zpc_bi (P := fun r => r.1 = u) (zpc_ck (zpc_some rfl)) (fun u2 v e => zpc_ck (zpc_bv (fun u3 g3 => zpc_ck (zpc_ck (zpc_bv (fun u4 g4 => ?_))))))))) (fun _ => m_169 h)
  have e : u2 = u := e
  have h3 : zLfm o u3 := by
    rw [g3, e, g]
    exact (h.w (j := 66) (by decide) (by decide)).w (j := 65) (by decide) (by decide)
  obtain ⟨a3, b3, c3⟩ := h3
  have q4 : zQ [9, 22, 23, 24, 25] [(3, 33, 68), (3, 171, 171), (3, 280, 1047)] [] [(4, 2, 2)] o u4 := by rw [g4]; exact zQ.wl a3 rfl
  have e4 : u4.1 = u3.1 := by rw [g4]; rfl
  refine zpc_bu (m_plans (o := u4) zfuel u4 (by rw [e4]; exact b3) (fun k hk => by rw [e4] at hk ⊢; exact c3 k hk) zQ.rf) (fun u5 q5 => ?_)
  have q6 : zQ [9, 22, 23, 24, 25] [(3, 33, 68), (3, 171, 171), (3, 280, 1047)] [] [(4, 2, 2)] o u5 := q4.tr (q5.mono rfl rfl)
  unfold fX12_ends_169 fX12_ends_195
  exact zpc_ck (zpc_if (fun _ => zpc_ck (zpc_ck (zpc_bv (fun u g => zpc_some (by rw [g]; exact zQ.wi q6 (zcv_m (a := 33) (b := 68) (by decide) (by decide) (by decide))))))) (fun _ => zpc_some q6))
theorem m_96 {o t : zSt} (h : zLfm o t) {x : Int32} : zpc (fX12_ends_96 t x) (fun r => zQ [9, 22, 23, 24, 25] [(3, 33, 68), (3, 171, 171), (3, 280, 1047)] [] [(4, 2, 2)] o r) := by
  unfold fX12_ends_96
  refine zpc_ck (zpc_ck (zpc_bv (fun u g => ?_)))
  have h2 : zLfm o u := by rw [g]; exact h.w (j := 66) (by decide) (by decide)
  exact zpc_ck (zpc_if (fun _ => m_131 h2) (fun _ => m_131 h2))
theorem m_27 {o t : zSt} (h : zLfm o t) {x : Int32} : zpc (fX12_ends_27 t x) (fun r => zQ [9, 22, 23, 24, 25] [(3, 33, 68), (3, 171, 171), (3, 280, 1047)] [] [(4, 2, 2)] o r) := by
  unfold fX12_ends_27 fX12_reg
  refine zpc_ck (zpc_if (fun _ => zpc_bi (P := fun r => r.1 = t) (zpc_ck (zpc_some rfl)) (fun u v e => zpc_ck (zpc_bv (fun u2 g2 => ?_)))) (fun _ => zpc_ck (zpc_ck (zpc_bv (fun u g => zpc_ck ?_)))))
  · have e : u = t := e
    exact m_96 (by rw [g2, e]; exact h.w (j := 64) (by decide) (by decide))
  · have h2 : zLfm o u := by rw [g]; exact h.w (j := 64) (by decide) (by decide)
    refine zpc_if (fun _ => m_96 h2) (fun _ => zpc_bi (P := fun r => r.1 = u) (zpc_ck (zpc_some rfl)) (fun u2 v e => zpc_ck (zpc_bv (fun u3 g3 => zpc_ck (zpc_bv (fun u4 g4 => ?_))))))
    have e : u2 = u := e
    exact m_96 (by rw [g4, g3, e]; exact (h2.w (j := 64) (by decide) (by decide)).w (j := 63) (by decide) (by decide))
theorem m_ends (h : zVe σ μ) (hp : zPlr σ μ) : zpc (fX12_ends μ ) (fun r => zQ [9, 22, 23, 24, 25] [(3, 33, 68), (3, 171, 171), (3, 280, 1047)] [] [(4, 2, 2)] μ r) := by
  have lf : zLfm μ μ := ⟨zQ.rf, hp.2.1, fun k hk => by
    have z := (hp.2.2.2.2 k hk).1
    rw [show 280 + 3 * k + 1 = 281 + 3 * k by omega] at z
    exact z⟩
  have m0 : zr 0 255 (μ.1 3 47) := by rw [h.e0]; exact h.r0
  have m1 : zr 0 255 (μ.1 3 48) := by rw [h.e1]; exact h.r1
  unfold fX12_ends
  refine zpc_bi (p_heightM m0 m1) (fun u v e => ?_)
  cases e
  refine zpc_ck (zpc_if (fun _ => m_27 lf) (fun _ => zpc_ck (zpc_bu (fD_fX12_draws (σ0 := μ) zQ.rf) (fun u q => ?_))))
  have e3 : ∀ j : Nat, 63 ≤ j → u.1 3 j = μ.1 3 j := fun j hj => q.1 3 j (by
    unfold zcv
    show (false || _) = false
    rw [Bool.false_or]
    refine List.any_eq_false.mpr (fun e he z => ?_)
    rw [List.mem_singleton] at he
    subst he
    rw [Bool.and_eq_true, Bool.and_eq_true] at z
    have z3 : j ≤ 62 := Nat.le_of_ble_eq_true z.2.2
    omega)
  refine m_27 ⟨q.mono rfl rfl, by rw [e3 171 (by decide)]; exact lf.2.1, ?_⟩
  rw [e3 171 (by decide)]
  exact fun k hk => by rw [e3 _ (by omega)]; exact lf.2.2 k hk
theorem t_afterJ {b : Int32} (hJ : zJok J) (hn : n ≤ 1000000000000000) (hL : zLe) (hP : B.2.1 ≤ 1000000000000000) (h0 : zTT (zIj J n B) σ μ) (hF : zF σ μ) (hW : zWzz σ μ) (hb : zr 1 64 b) {α : Type} {Q : α → zSt → Prop} {f : zSt → Option α} (k : ∀ s t, zTT (zIj J (n + 64) (B.1, B.2.1 + 1, B.2.2 + 1)) s t → zF s t → zWzz s t → zp2 (f s) (some t) Q) : zp2 (zbi (fX9_passes σ b) (fun σ3 v4 => if v4 = 0 then zbu (fX0_pass σ3 b) f else zbu (fX11_endLine σ3 ) (fun σ5 => zbu (fX0_pass σ5 b) f))) (fX12_once_229 μ b) Q := by
  have h := zIj.a h0
  have e40 : μ.2 4 0 = σ.2 38 0 := h.2.2.2.2.2.2.1.1.symm
  have e21 : μ.1 3 67 = σ.1 23 21 := h.2.2.2.1.e21
  have r21 : zr 0 227 (σ.1 23 21) := h.2.2.2.1.2.1.at (k := 23) (j := 21) rfl
  have ra : zr 0 291 (σ.1 23 21 + b) := zr_add r21 hb (by decide)
  have tb : (σ.1 23 21 + b).toInt = (σ.1 23 21).toInt + b.toInt := z_tadd r21 hb (by decide)
  have hb1 := hb.1
  have fin : ∀ (s t : zSt) (v : Int64), v = s.2 38 0 → zTT (zIb b (B.1, B.2.1 + 1, B.2.2 + 1)) s t → zF s t → zWzz s t → J n s t → zp2 (zbu (fX0_pass s b) f) (fX12_once_298 t v) Q := fun s t v ev q1 q2 q3 q4 => by
    subst ev
    refine zp2_bulp (P := fun r r' => (zTT (zIa (B.1, B.2.1 + 1, B.2.2 + 1)) r r' ∧ zF r r' ∧ zWzz r r') ∧ J (n + 64) r r') (fun a c ea ec => ⟨t_passx q1 q2 q3 a c ea ec, hJ.2.2.2 n b s t q4 q1.2.2.2.1 hb hn q1.2.2.2.2.2.2.1.1 a c ea ec⟩) (fun r r' q => k r r' ⟨q.1.1.1, q.1.1.2.1, q.1.1.2.2.1, q.1.1.2.2.2, q.2⟩ q.1.2.1 q.1.2.2)
  unfold fX12_once_229
  refine zp2_ckr (zp2_ckr (zp2_bvr (fun t10 g10 => zp2_ckr (zp2_bvr (fun v11 g11 => zp2_ckr (zp2_ckr (zp2_bvr (fun t12 g12 => zp2_ckr (zp2_ckr (zp2_bvr (fun t13 g13 => zp2_ckr ?_)))))))))))
  have g10 : t10 = zsl μ 4 1 (μ.2 4 1 + 1) := g10
  have g12 : t12 = zsl (zsl μ 4 1 (μ.2 4 1 + 1)) 4 0 (μ.2 4 0 + b.toInt64) := by rw [g12, g10]; rfl
  have c67 : zgi t12 3 (67 : Int32).toNatClampNeg = σ.1 23 21 := by rw [g12]; exact e21
  have g13 : t13 = zsi t12 3 67 (σ.1 23 21 + b) := by rw [g13, c67]; rfl
  have c13 : zgi t13 3 (67 : Int32).toNatClampNeg = σ.1 23 21 + b := by rw [g13]; exact zsi_ej
  rw [c13]
  have v12 : zVe σ t12 := by
    have dq : zQ [] [] [4] [] μ t12 := by rw [g12]; exact zQ.wl (zQ.wl zQ.rf rfl) rfl
    exact h.2.2.2.1.kp (zQ.rf (R := []) (A := []) (S := []) (B := [])) dq (by decide +kernel) (by decide +kernel)
  have q12 : zQ [] [(3, 67, 67)] [4] [] μ t12 := by rw [g12]; exact zQ.wl (zQ.wl zQ.rf rfl) rfl
  by_cases c : 228 ≤ σ.1 23 21 + b
  · have nc : ¬ σ.1 23 21 + b < 228 := fun q => by have := Int32.le_iff_toInt_le.mp c; have := Int32.lt_iff_toInt_lt.mp q; omega
    refine zp2_ifr (fun q => absurd q nc) (fun _ => zp2_ckr (zp2_ckr (zp2_bvr (fun t14 g14 => ?_))))
    have g14 : t14 = zsi t12 3 67 (σ.1 23 21 + b - 228) := by rw [g14, g13]; exact zsi_ow
    refine zp2_bil (P := fun r => r = (zsi σ 23 21 (σ.1 23 21 + b - 228), 1)) ?_ (fun s1 v1 e1 => ?_)
    · unfold fX9_passes
      refine zpc_ck (zpc_ck (zpc_bv (fun s1 f1 => zpc_ck ?_)))
      have d1 : zgi s1 23 (21 : Int32).toNatClampNeg = σ.1 23 21 + b := by rw [f1]; exact zsi_ej
      rw [d1]
      refine zpc_if (fun _ => zpc_ck (zpc_ck (zpc_bv (fun s2 f2 => zpc_ck (zpc_some ?_))))) (fun q => absurd c q)
      have f2 : s2 = zsi σ 23 21 (σ.1 23 21 + b - 228) := by rw [f2, f1]; exact zsi_ow
      rw [f2]
    · cases e1
      refine zp2_ifl (fun q => absurd q (by decide)) (fun _ => ?_)
      have rn : zr 0 227 (σ.1 23 21 + b - 228) := zr_sub (lo := 0) (hi := 227) (zr_ge (k := 228) ra rfl c) (zr_c (lo := 228) (hi := 228) (x := 228) (by decide)) (by decide)
      have ts : (σ.1 23 21 + b - 228).toInt = (σ.1 23 21 + b).toInt - 228 := z_tsub ra (zr_c (lo := 228) (hi := 228) (x := 228) (by decide)) (by decide)
      obtain ⟨k1, k2⟩ := zIb.mk (b := b) (C := b.toInt - 228) (s := zsi σ 23 21 (σ.1 23 21 + b - 228)) (t := t14) h (zQ.wi zQ.rf rfl) (by rw [g14]; exact zQ.wi q12 rfl) (by rw [g14]; exact v12.v21 rn rfl) (by rw [g14, g12]; rfl) (by rw [g14, g12]; rfl) (by rw [g14, g12]; rfl) (by rw [g14, zsi_ej, e21, ts, tb]; omega)
      have j1 : J n (zsi σ 23 21 (σ.1 23 21 + b - 228)) t14 := hJ.1 n σ μ _ _ h0.2.2.2.2 ((zQ.wi zQ.rf rfl : zQ [23] [] [] [] σ (zsi σ 23 21 (σ.1 23 21 + b - 228))).mono rfl rfl) (by rw [g14, g12]; exact zQ.wi (zQ.wl (zQ.wl zQ.rf rfl) rfl) (zcv_m (a := 0) (b := 71) (by decide) (by decide) (by decide)))
      refine zp2_buu (P := fun r r' => (zTT (zIb b (B.1, B.2.1 + 1, B.2.2 + (b.toInt - 228) + 228)) r r' ∧ zF r r' ∧ zWzz r r') ∧ J n r r' ∧ r.2 38 0 = σ.2 38 0) (fun a c ea ec => ⟨hL b (B.1, B.2.1, B.2.2 + (b.toInt - 228)) _ _ hP k1 (k2.f hF) (k2.w hW) a c ea ec, ?_, ?_⟩) (fun s t q => fin s t v11 (by rw [q.2.2, ← e40, g11, g10]; exact zsl_off (fun z => absurd z.2 (by decide))) (zIb.mono (B := (B.1, B.2.1 + 1, B.2.2 + (b.toInt - 228) + 228)) (C := B.2.1 + 1) (D := B.2.2 + 1) q.1.1 (Int.le_refl _) (by show B.2.2 + 1 ≤ B.2.2 + (b.toInt - 228) + 228; omega)) q.1.2.1 q.1.2.2 q.2.1)
      · exact hJ.1 n _ _ a c j1 ((fl_fX11_endLine zQ.rf a ea).mono rfl rfl) ((m_ends k1.2.2.2.1 k1.2.2.2.2.1 c ec).mono rfl rfl)
      · exact ((fl_fX11_endLine zQ.rf a ea).lo (k := 38) (a := 0) (b := 0) rfl (by decide) (by decide))
  · have lt : σ.1 23 21 + b < 228 := z_nle c
    refine zp2_ifr (fun _ => ?_) (fun q => absurd lt q)
    refine zp2_bil (P := fun r => r = (zsi σ 23 21 (σ.1 23 21 + b), 0)) ?_ (fun s1 v1 e1 => ?_)
    · unfold fX9_passes
      refine zpc_ck (zpc_ck (zpc_bv (fun s1 f1 => zpc_ck ?_)))
      have d1 : zgi s1 23 (21 : Int32).toNatClampNeg = σ.1 23 21 + b := by rw [f1]; exact zsi_ej
      rw [d1]
      refine zpc_if (fun q => absurd q c) (fun _ => zpc_ck (zpc_some ?_))
      rw [f1]
      rfl
    · cases e1
      refine zp2_ifl (fun _ => ?_) (fun q => absurd rfl q)
      have rn : zr 0 227 (σ.1 23 21 + b) := zr_lt (k := 228) ra rfl lt
      obtain ⟨k1, k2⟩ := zIb.mk (b := b) (C := b.toInt) (s := zsi σ 23 21 (σ.1 23 21 + b)) (t := t13) h (zQ.wi zQ.rf rfl) (by rw [g13]; exact zQ.wi q12 rfl) (by rw [g13]; exact v12.v21 rn rfl) (by rw [g13, g12]; rfl) (by rw [g13, g12]; rfl) (by rw [g13, g12]; rfl) (by rw [g13, zsi_ej, e21, tb])
      have j1 : J n (zsi σ 23 21 (σ.1 23 21 + b)) t13 := hJ.1 n σ μ _ _ h0.2.2.2.2 ((zQ.wi zQ.rf rfl : zQ [23] [] [] [] σ (zsi σ 23 21 (σ.1 23 21 + b))).mono rfl rfl) (by rw [g13, g12]; exact zQ.wi (zQ.wl (zQ.wl zQ.rf rfl) rfl) (zcv_m (a := 0) (b := 71) (by decide) (by decide) (by decide)))
      exact fin _ _ v11 (by show v11 = σ.2 38 0; rw [← e40, g11, g10]; exact zsl_off (fun z => absurd z.2 (by decide))) (zIb.mono (B := (B.1, B.2.1, B.2.2 + b.toInt)) (C := B.2.1 + 1) (D := B.2.2 + 1) k1 (by show B.2.1 ≤ B.2.1 + 1; omega) (by show B.2.2 + 1 ≤ B.2.2 + b.toInt; omega)) (k2.f hF) (k2.w hW) j1
theorem t_stepJ (hJ : zJok J) (hn : n ≤ 1000000000000000) (hL : zLe) (h : zTT (zIj J n B) σ μ) (hF : zF σ μ) (hW : zWzz σ μ) (hB : B.1 ≤ 1000000000000000) (hP : B.2.1 ≤ 1000000000000000) {Q : zSt × Int32 → zSt → Prop} {k15 : zSt → Int32 → Int64 → Int32 → Option (zSt × Int32)} {x1 x5 : Int32} {x3 : Int64} (k : ∀ s t, zTT (zIj J (n + 64) (B.1 + 1, B.2.1 + 1, B.2.2 + 1)) s t → zF s t → zWzz s t → zp2 (zbv (x5 + 1) (fun v2 => k15 s x1 x3 v2)) (some t) Q) : zp2 (fX11_run_65 k15 σ x1 x3 x5 (σ.1 36 19)) (fX12_once μ ) Q := by
  unfold fX11_run_65 fX12_once
  refine t_noteJ hJ h hF hW hB (fun s t q1 q2 q3 => ?_)
  obtain ⟨a, hc, ha⟩ := t_asks q1.2.2.2.1.1
  refine zp2_bil hc (fun s1 v e => ?_)
  cases e
  refine t_once (zIoK_j hJ) (zPorts_j hJ) q1 q2 q3 ha (F := fun σ b => fX11_run_104 k15 σ x1 x3 x5 b) (fun s t b r1 r2 r3 rb => ?_)
  unfold fX11_run_104 fX11_run_120
  exact t_afterJ (B := (B.1 + 1, B.2.1, B.2.2)) hJ hn hL hP r1 r2 r3 rb k
end ZJ6
end ZJN10
section ZJN11
/-! BEATS AND TONES -/
section ZB7
variable {σ μ s t : zSt} {c : Int}
theorem zSa.mono {d : Int} (h : zSa c σ μ) (hd : c ≤ d) : zSa d σ μ := by
  obtain ⟨h1, h2, h3, m6, m60, m61, r⟩ := h
  exact ⟨h1, h2, h3, m6, m60, Int.le_trans m61 hd, r⟩
/-- a mix makes the sums anew -/
theorem p_mixC : zpc (fX0_addMix σ ) (fun r => r.2 38 4 = 0 ∧ r.2 38 5 = 0 ∧ r.2 38 6 = 0) := by
  unfold fX0_addMix
  refine zpc_ck (zpc_bv (fun v1 _ => zpc_ck (zpc_ck (zpc_bi (P := fun _ => True) (fun _ _ => trivial) (fun s2 v3 _ => zpc_bv (fun v4 _ => zpc_ck (zpc_ck (zpc_bi (P := fun _ => True) (fun _ _ => trivial) (fun s5 v6 _ => zpc_bv (fun v7 _ => zpc_bu (P := fun _ => True) (fun _ _ => trivial) (fun s8 _ => zpc_ck (zpc_bv (fun s9 f9 => zpc_ck (zpc_bv (fun s10 f10 => zpc_ck (zpc_bv (fun s11 f11 => zpc_some ?_)))))))))))))))))
  have f11 : s11 = zsl (zsl (zsl s8 38 4 0) 38 5 0) 38 6 0 := by rw [f11, f10, f9]; rfl
  rw [f11]
  exact ⟨by rw [zsl_nj (by decide), zsl_nj (by decide), zsl_ej], by rw [zsl_nj (by decide), zsl_ej], zsl_ej⟩
theorem p_mix76 {x2 : Int64} : ∀ (n i : Nat) (t : zSt), i ≤ 3 → (∀ j : Nat, j < i → t.1 3 (166 + j) = 0) → zpc (fX12_mixed_76 n t x2 (Int32.ofNat i)) (fun r => r.1 3 166 = 0 ∧ r.1 3 167 = 0 ∧ r.1 3 168 = 0) := by
  intro n
  induction n with
  | zero => intro i t _ _; exact zpc_none
  | succ n ih =>
    intro i t hi hz
    show zpc (fX12_mixed_76_body (fX12_mixed_76 n) t x2 (Int32.ofNat i)) _
    unfold fX12_mixed_76_body fX12_mixed_151
    have fin : ∀ {c1 c2 c3 c4 : Bool} {u : zSt} {j : Nat} {v : Int64}, u.1 3 166 = 0 ∧ u.1 3 167 = 0 ∧ u.1 3 168 = 0 → zpc (zck c1 (zck c2 (zck c3 (zck c4 (zbv (zsl u 11 j v) (fun σ1 => some σ1)))))) (fun r => r.1 3 166 = 0 ∧ r.1 3 167 = 0 ∧ r.1 3 168 = 0) := fun {c1 c2 c3 c4 u j v} H => zpc_ck (zpc_ck (zpc_ck (zpc_ck (zpc_bv (fun w g => zpc_some (by rw [g]; exact H))))))
    by_cases i3 : i = 3
    · subst i3
      have z : t.1 3 166 = 0 ∧ t.1 3 167 = 0 ∧ t.1 3 168 = 0 := ⟨hz 0 (by decide), hz 1 (by decide), hz 2 (by decide)⟩
      refine zpc_if (fun _ => zpc_ck (zpc_if (fun _ => zpc_ck (zpc_ck (zpc_ck (zpc_bv (fun u g => fin ?_))))) (fun _ => zpc_ck (zpc_ck (zpc_bv (fun u g => fin ?_)))))) (fun q => absurd (by decide) q)
      · rw [g]; exact ⟨(zsi_nj (by decide)).trans z.1, (zsi_nj (by decide)).trans z.2.1, (zsi_nj (by decide)).trans z.2.2⟩
      · rw [g]; exact ⟨(zsi_nj (by decide)).trans z.1, (zsi_nj (by decide)).trans z.2.1, (zsi_nj (by decide)).trans z.2.2⟩
    · have ri : zr 0 2 (Int32.ofNat i) := z_ofr (by omega) (by omega)
      have o166 : (166 + Int32.ofNat i).toNatClampNeg = 166 + i := by rw [z_off ri (k := 166) rfl (by decide), z_ofC (by omega)]
      rw [o166]
      refine zpc_if (fun q => absurd q (zq_gef ri rfl (by decide))) (fun _ => zpc_ck (zpc_bv (fun u g => zpc_bv (fun v ev => ?_))))
      rw [ev, z_ofS (by omega)]
      refine ih (i + 1) u (by omega) (fun j hj => ?_)
      rw [g]
      by_cases y : j = i
      · rw [y, zsi_ej]
      · rw [zsi_nj (by omega)]; exact hz j (by omega)
theorem p_mixM : zpc (fX12_mixed μ ) (fun r => r.1 3 166 = 0 ∧ r.1 3 167 = 0 ∧ r.1 3 168 = 0) := by
  unfold fX12_mixed fX12_mixed_26
  have fin : ∀ {c1 c2 c3 c4 c5 c6 c7 : Bool} {v : Int64}, zpc (zck c1 (zck c2 (zck c3 (zck c4 (zck c5 (zck c6 (zbv v (fun v6 => fX12_mixed_76 zfuel μ v6 0)))))))) (fun r => r.1 3 166 = 0 ∧ r.1 3 167 = 0 ∧ r.1 3 168 = 0) := fun {c1 c2 c3 c4 c5 c6 c7 v} => zpc_ck (zpc_ck (zpc_ck (zpc_ck (zpc_ck (zpc_ck (zpc_bv (fun v6 _ => p_mix76 zfuel 0 μ (by decide) (fun j hj => absurd hj (by omega)))))))))
  exact zpc_ck (zpc_if (fun _ => zpc_ck (fin (c7 := true))) (fun _ => fin (c7 := true)))
theorem s_mix (h : zSa c σ μ) : zp2 (fX0_addMix σ ) (fX12_mixed μ ) (zSa 0) := fun a b ea eb => by
  obtain ⟨c4, c5, c6⟩ := p_mixC a ea
  obtain ⟨m6, m7, m8⟩ := p_mixM b eb
  have qa := fa_fX0_addMix (σ0 := σ) zQ.rf a ea
  have qb := fA_fX12_mixed (σ0 := μ) zQ.rf b eb
  obtain ⟨h1, h2, h3, _⟩ := h
  refine ⟨h1.kp qa qb rfl rfl, h2.kp qa qb rfl rfl rfl rfl rfl, ?_, ?_⟩
  · rw [qa.lo (k := 38) (a := 3) (b := 3) rfl (by decide) (by decide), qb.rlo (k := 4) rfl]; exact h3
  · unfold zSmn
    rw [c4, c5, c6, m6, m7, m8]
    decide
theorem s_wave (h : zSa c σ μ) : zp2 (fX10_makeNext σ ) (fX12_waves μ ) (zSa c) := fun a b ea eb => h.kp (fb_fX10_makeNext (σ0 := σ) zQ.rf a ea) (fB_fX12_waves (σ0 := μ) zQ.rf b eb) rfl rfl
end ZB7
end ZJN11
section ZJN12
/-! THE BEATS OF A STEP PASS: TONES -/
section ZB8
variable {σ μ s t : zSt} {c : Int} {x2 v10 : Int64} {Q : zSt → zSt → Prop}
theorem z_cE {x v : Int64} : 0 ≤ lg_cmp x v ↔ v.toInt ≤ x.toInt := z_cmp_ge
theorem z_l1 {x : Int64} {b : Int} (h0 : 0 ≤ x.toInt) (h1 : x.toInt ≤ b) (hb : b ≤ 2000000000000000) : (x + 1).toInt = x.toInt + 1 := by
  rw [z_tladd (a := 0) (b := 2000000000000000) (c := 1) (d := 1) ⟨h0, by omega⟩ (zrl_c (by decide)) (by decide)]
  rfl
/-- samples -/
theorem s_305 {E d : Int} (hE : (v10 / 16).toInt = E) (hd : d + E ≤ 60000) (hE2 : E ≤ 1000000000000000) (k : ∀ s t, zSa (d + E) s t → t.2 4 0 = v10 → zp2 (fX0_pass_70 zfuel s x2 v10 (x2 / 72)) (fX12_once_341 zfuel t x2 (x2 / 72)) Q) : ∀ (n m : Nat) (σ μ : zSt) (x : Int64), zVe σ μ → zSa (d + x.toInt) σ μ → x.toInt ≤ E → 0 ≤ x.toInt → μ.2 4 0 = v10 → zp2 (fX0_pass_38 n σ x2 v10 x) (fX12_once_305 m μ x2 x) Q := by
  intro n
  induction n with
  | zero => intro m σ μ x _ _ _ _ _; exact zp2_nl
  | succ n ih =>
    intro m σ μ x hv hs hx hx0 e0
    cases m with
    | zero => exact zp2_nr
    | succ m =>
      show zp2 (fX0_pass_38_body (fX0_pass_38 n) σ x2 v10 x) (fX12_once_305_body (fX12_once_305 m) μ x2 x) Q
      unfold fX0_pass_38_body fX12_once_305_body
      rw [show zgl μ 4 (0 : Int32).toNatClampNeg = v10 from e0]
      refine zp2_ckl (zp2_ckr (zp2_ckr (zp2_if (fun q => ?_) (fun q => ?_))))
      · have q1 := z_cE.mp q
        have ee : x.toInt = E := by omega
        rw [ee] at hs
        refine zp2_ckl (zp2_bvl (fun v6 e6 => zp2_ckr (zp2_bvr (fun w6 f6 => ?_))))
        rw [e6, f6]
        exact k σ μ hs e0
      · have q1 : ¬ (v10 / 16).toInt ≤ x.toInt := fun z => q (z_cE.mpr z)
        have t1 := z_l1 hx0 hx (by omega)
        refine zp2_buu (P := fun r r' => zSa (d + x.toInt + 1) r r' ∧ zVe r r' ∧ r'.2 4 0 = v10) (fun a b ea eb => ?_) (fun s t q => zp2_bvl (fun v8 e8 => zp2_bvr (fun w8 f8 => ?_)))
        · have fa := fq_fX0_addSample (σ0 := σ) zQ.rf a ea
          have fb := fw_fX12_sample (σ0 := μ) zQ.rf b eb
          refine ⟨s_sample hv hs (by omega) a b ea eb, hv.kp fa fb (by decide +kernel) (by decide +kernel), ?_⟩
          rw [fb.lo (k := 4) (a := 0) (b := 0) rfl (by decide) (by decide)]
          exact e0
        · rw [e8, f8]
          exact ih m s t (x + 1) q.2.1 (by rw [t1, show d + (x.toInt + 1) = d + x.toInt + 1 by omega]; exact q.1) (by omega) (by omega) q.2.2
/-- waves -/
theorem s_341 (k : ∀ s t, zSa c s t → t.2 4 0 = v10 → zp2 (fX0_pass_105 zfuel s v10 (x2 / 81)) (fX12_once_377 zfuel t (x2 / 81)) Q) : ∀ (n m : Nat) (σ μ : zSt) (x : Int64), zSa c σ μ → μ.2 4 0 = v10 → zp2 (fX0_pass_70 n σ x2 v10 x) (fX12_once_341 m μ x2 x) Q := by
  intro n
  induction n with
  | zero => intro m σ μ x _ _; exact zp2_nl
  | succ n ih =>
    intro m σ μ x hs e0
    cases m with
    | zero => exact zp2_nr
    | succ m =>
      show zp2 (fX0_pass_70_body (fX0_pass_70 n) σ x2 v10 x) (fX12_once_341_body (fX12_once_341 m) μ x2 x) Q
      unfold fX0_pass_70_body fX12_once_341_body
      rw [show zgl μ 4 (0 : Int32).toNatClampNeg = v10 from e0]
      refine zp2_ckl (zp2_ckr (zp2_ckr (zp2_if (fun q => zp2_ckl (zp2_bvl (fun v6 e6 => zp2_ckr (zp2_bvr (fun w6 f6 => ?_))))) (fun q => ?_))))
      · rw [e6, f6]
        exact k σ μ hs e0
      · refine zp2_buu (P := fun r r' => zSa c r r' ∧ r'.2 4 0 = v10) (fun a b ea eb => ⟨s_wave hs a b ea eb, ?_⟩) (fun s t q => zp2_bvl (fun v8 e8 => zp2_bvr (fun w8 f8 => ?_)))
        · rw [(fB_fX12_waves (σ0 := μ) zQ.rf b eb).lo (k := 4) (a := 0) (b := 0) rfl (by decide) (by decide)]
          exact e0
        · rw [e8, f8]
          exact ih m s t (x + 1) q.1 q.2
/-- mixes -/
theorem s_377 : ∀ (n m : Nat) (σ μ : zSt) (x : Int64) (c : Int), zSa c σ μ → μ.2 4 0 = v10 → zp2 (fX0_pass_105 n σ v10 x) (fX12_once_377 m μ x) (fun r r' => ((v10 / 81).toInt ≤ x.toInt ∧ zSa c r r') ∨ zSa 0 r r') := by
  intro n
  induction n with
  | zero => intro m σ μ x c _ _; exact zp2_nl
  | succ n ih =>
    intro m σ μ x c hs e0
    cases m with
    | zero => exact zp2_nr
    | succ m =>
      show zp2 (fX0_pass_105_body (fX0_pass_105 n) σ v10 x) (fX12_once_377_body (fX12_once_377 m) μ x) _
      unfold fX0_pass_105_body fX12_once_377_body
      rw [show zgl μ 4 (0 : Int32).toNatClampNeg = v10 from e0]
      refine zp2_ckl (zp2_ckr (zp2_ckr (zp2_if (fun q => zp2_some (Or.inl ⟨z_cE.mp q, hs⟩)) (fun q => ?_))))
      refine zp2_buu (P := fun r r' => zSa 0 r r' ∧ r'.2 4 0 = v10) (fun a b ea eb => ⟨s_mix hs a b ea eb, ?_⟩) (fun s t q => zp2_bvl (fun v8 e8 => zp2_bvr (fun w8 f8 => ?_)))
      · rw [(fA_fX12_mixed (σ0 := μ) zQ.rf b eb).rlo (k := 4) rfl]
        exact e0
      · rw [e8, f8]
        refine zp2_mono (ih m s t (x + 1) 0 q.1 q.2) (fun r r' z => Or.inr ?_)
        rcases z with z | z
        · exact z.2
        · exact z
noncomputable def zU (b : Int) : Int := b / 16 - (81 * (b / 81)) / 16
theorem zU_0 {b : Int} (h : 0 ≤ b) : 0 ≤ zU b ∧ zU b ≤ 6 := by
  unfold zU
  omega
noncomputable def zJ1 (n : Int) (σ μ : zSt) : Prop := zSa (zU (σ.2 38 0).toInt) σ μ ∧ 0 ≤ (σ.2 38 0).toInt ∧ (σ.2 38 0).toInt ≤ n
theorem s_pass {n : Int} {b : Int32} (h : zJ1 n σ μ) (hv : zVe σ μ) (hb : zr 1 64 b) (hn : n ≤ 1000000000000000) (e : μ.2 4 0 = σ.2 38 0 + b.toInt64) : zp2 (fX0_pass σ b) (fX12_once_298 μ (σ.2 38 0)) (zJ1 (n + 64)) := by
  obtain ⟨hs, h0, h1⟩ := h
  have b1 := hb.1
  have b2 := hb.2
  have tv : (σ.2 38 0 + b.toInt64).toInt = (σ.2 38 0).toInt + b.toInt := by
    rw [z_tladd (a := 0) (b := 1000000000000000) (c := 1) (d := 64) ⟨h0, by omega⟩ ⟨by rw [Int32.toInt_toInt64]; exact b1, by rw [Int32.toInt_toInt64]; exact b2⟩ (by decide), Int32.toInt_toInt64]
  have dv : ∀ (x : Int64) (k : Int64) (K : Int), k.toInt = K → 0 < K → K ≤ 100 → 0 ≤ x.toInt → x.toInt ≤ 2000000000000000 → (x / k).toInt = x.toInt / K := fun x k K hk k0 k1 x0 x1 => z_tldiv K hk (a := 0) (b := 2000000000000000) ⟨x0, x1⟩ ⟨by decide, k0⟩
  have e16 := dv (σ.2 38 0) 16 16 rfl (by decide) (by decide) h0 (by omega)
  have f16 := dv (σ.2 38 0 + b.toInt64) 16 16 rfl (by decide) (by decide) (by omega) (by omega)
  have e81 := dv (σ.2 38 0) 81 81 rfl (by decide) (by decide) h0 (by omega)
  have f81 := dv (σ.2 38 0 + b.toInt64) 81 81 rfl (by decide) (by decide) (by omega) (by omega)
  have u6 := zU_0 h0
  refine zp2_mono (fun r r' ea eb => (⟨?_, p_pass r ea⟩ : (zSa (zU ((σ.2 38 0).toInt + b.toInt)) r r') ∧ _)) (fun r r' q => ?_)
  · -- the three loops
    have main : zp2 (fX0_pass σ b) (fX12_once_298 μ (σ.2 38 0)) (fun r r' => zSa (zU ((σ.2 38 0).toInt + b.toInt)) r r') := by
      unfold fX0_pass fX12_once_298
      refine zp2_ckl (zp2_bvl (fun v9 e9 => zp2_bvl (fun v10 e10 => zp2_ckl (zp2_bvl (fun s11 e11 => zp2_ckl (zp2_ckl (zp2_bvl (fun s12 e12 => zp2_ckl (zp2_bvl (fun v13 e13 => zp2_ckr (zp2_bvr (fun w9 f9 => ?_))))))))))))
      have e9 : v9 = σ.2 38 0 := e9
      subst e9
      have qs : zQ [] [] [] [(38, 0, 1)] σ s12 := by rw [e12, e11]; exact zQ.wl (zQ.wl zQ.rf rfl) rfl
      have qr : zQ [] [] [] [] μ μ := zQ.rf
      have hs2 : zSa (zU (σ.2 38 0).toInt) s12 μ := hs.kp qs qr rfl rfl
      have hv2 : zVe s12 μ := hv.kp qs qr (by decide +kernel) (by decide +kernel)
      rw [e10, e13, f9]
      refine s_305 (E := ((σ.2 38 0).toInt + b.toInt) / 16) (d := zU (σ.2 38 0).toInt - (σ.2 38 0).toInt / 16) (by rw [f16, tv]) (by unfold zU at *; omega) (by omega) (fun s t k1 k2 => ?_) zfuel zfuel s12 μ _ hv2 (by rw [e16, show zU (σ.2 38 0).toInt - (σ.2 38 0).toInt / 16 + (σ.2 38 0).toInt / 16 = zU (σ.2 38 0).toInt by omega]; exact hs2) (by rw [e16]; omega) (by rw [e16]; omega) e
      refine s_341 (fun s t k3 k4 => ?_) zfuel zfuel s t _ k1 k2
      refine zp2_mono (s_377 zfuel zfuel s t _ _ k3 k4) (fun r r' z => ?_)
      rcases z with ⟨z1, z2⟩ | z
      · refine z2.mono ?_
        rw [f81, e81, tv] at z1
        unfold zU
        omega
      · exact z.mono (zU_0 (by omega)).1
    exact main r r' ea eb
  · have e38 : r.2 38 0 = σ.2 38 0 + b.toInt64 := by
      rw [q.2.lo (k := 38) (a := 0) (b := 2) rfl (j := 0) (by decide) (by decide)]
      rw [zsl_nj (by decide), zsl_ej]
    refine ⟨?_, ?_, ?_⟩
    · rw [e38, tv]; exact q.1
    · rw [e38, tv]; omega
    · rw [e38, tv]; omega
theorem zJ1_ok : zJok zJ1 := by
  refine ⟨fun n σ μ s t h a b => ?_, fun n σ μ h => ?_, fun n m σ μ hm h => ⟨h.1, h.2.1, Int.le_trans h.2.2 hm⟩, fun n b σ μ h hv hb hn e => s_pass h hv hb hn e⟩
  · obtain ⟨h1, h2, h3⟩ := h
    have e : s.2 38 0 = σ.2 38 0 := a.lo (k := 38) (a := 0) (b := 0) rfl (by decide) (by decide)
    refine ⟨?_, ?_, ?_⟩
    · rw [e]; exact h1.kp a b rfl rfl
    · rw [e]; exact h2
    · rw [e]; exact h3
  · obtain ⟨⟨h1, h2, h3, h4⟩, h5, h6⟩ := h
    have a : zQ [] [(30, 16, 16)] [] [] σ (zsi σ 30 16 32768) := zQ.wi zQ.rf rfl
    have b : zQ [] [(3, 85, 85)] [] [] μ (zsi μ 3 85 32768) := zQ.wi zQ.rf rfl
    exact ⟨⟨h1.w (j := 16) (m := 85) rfl ⟨fun _ z => absurd z (by decide), fun _ z => absurd z (by decide), fun z => absurd z (by decide), fun z => absurd z (by decide), fun _ => zr_c (by decide)⟩, h2.kp a b rfl rfl rfl rfl rfl, h3, h4.kp a b rfl rfl⟩, h5, h6⟩
end ZB8
end ZJN12
section ZJN13
/-! STEP AND PICTURE WITH SOUNDS -/
section ZJ9
variable {J : Int → zSt → zSt → Prop} {σ μ s t : zSt} {B : Int × Int × Int}
noncomputable def zNj (J : Int → zSt → zSt → Prop) (N : Int) (B : Int × Int × Int) (σ μ : zSt) : Prop := zNow B σ μ ∧ J N σ μ
theorem zNj.tt {N : Int} (h : zNj J N B σ μ) : zTT (zIj J N B) σ μ := ⟨h.1.1.1, h.1.1.2.1, h.1.1.2.2.1, h.1.1.2.2.2, h.2⟩
theorem zNj.of {N : Int} (h : zTT (zIj J N B) σ μ) (a : zF σ μ) (b : zWzz σ μ) : zNj J N B σ μ := ⟨⟨zIj.a h, a, b⟩, h.2.2.2.2⟩
theorem zJok.th (hJ : zJok J) {N : Int} (h : J N s t) {v : Int32} : J N s (zsi t 0 0 v) := hJ.1 N s t s _ h zQ.rf (zQ.wi zQ.rf rfl)
theorem t_run1J (hJ : zJok J) {x1 : Int32} {x3 : Int64} {P0 : Int} (hx1 : zr 1 20000 x1) (h3 : x3.toInt = P0 + x1.toInt + 1) : ∀ (n m : Nat) (N : Int) (B : Int × Int × Int) (s t : zSt) (x5 : Int32), N + 64 * (x1.toInt - x5.toInt) ≤ 1000000000000000 → zr 0 20000 x5 → x5.toInt ≤ x1.toInt → B.2.1 ≤ P0 + x5.toInt → P0 ≤ 999999999900000 → B.1 + (x1.toInt - x5.toInt) ≤ 1000000000000000 → zNj J N B s t → zp2 (fX11_run_15 n s x1 x3 x5) (fX12_step_29 m t x1 x5) (fun r r' => (∃ C : Int × Int × Int, C.1 ≤ B.1 + (x1.toInt - x5.toInt) ∧ C.2.1 ≤ P0 + x1.toInt ∧ C.2.2 = 0 ∧ zNow C r.1 r'.1 ∧ J (N + 64 * (x1.toInt - x5.toInt)) r.1 r'.1) ∧ r'.2 = r.2) := by
  intro n
  induction n with
  | zero => intro m N B s t x5 _ _ _ _ _ _ _; exact zp2_nl
  | succ n ih =>
    intro m N B s t x5 hN64 h5 h51 hP hP0 hB hNj
    cases m with
    | zero => exact zp2_nr
    | succ m =>
      show zp2 (fX11_run_15_body (fX11_run_15 n) s x1 x3 x5) (fX12_step_29_body (fX12_step_29 m) t x1 x5) _
      have hjN := hNj.2
      obtain ⟨hT, hF, hW⟩ := hNj.1
      have hv := hT.2.2.2.1
      obtain ⟨c0, c1, c2, c3, c4⟩ := hT.2.2.2.2.2.2.1
      have x50 := h5.1
      have x51 := h5.2
      have done : (∃ C : Int × Int × Int, C.1 ≤ B.1 + (x1.toInt - x5.toInt) ∧ C.2.1 ≤ P0 + x1.toInt ∧ C.2.2 = 0 ∧ zNow C s t ∧ J (N + 64 * (x1.toInt - x5.toInt)) s t) := by
        refine ⟨(B.1, B.2.1, 0), by show B.1 ≤ _; omega, by show B.2.1 ≤ _; omega, rfl, ⟨⟨hT.1, hT.2.1, hT.2.2.1, hv, hT.2.2.2.2.1, hT.2.2.2.2.2.1, ⟨c0, c1, c2, c3, c4⟩, ?_⟩, hF, hW⟩, hJ.2.2.1 N _ s t (by omega) hjN⟩
        have b67 : 0 ≤ (t.1 3 67).toInt := by rw [hv.e21]; exact (hv.2.1.at (k := 23) (j := 21) rfl).1
        have b66 : 0 ≤ (t.1 3 66).toInt := by rw [hv.e20]; exact (hv.2.1.at (k := 23) (j := 20) rfl).1
        unfold zMs zMt
        show (0 : Int) ≤ _
        by_cases q : t.1 0 3 = 1
        · rw [if_pos q]; omega
        · rw [if_neg q]; omega
      unfold fX11_run_15_body fX12_step_29_body fX11_run_135 fX12_step_62
      refine zp2_if (fun _ => zp2_some ⟨done, rfl⟩) (fun q => ?_)
      have ql := Int32.lt_iff_toInt_lt.mp (z_nle q)
      refine zp2_bll p_cnt2 (fun s1 v1 e1 => ?_)
      cases e1
      have nl : ¬ 0 ≤ lg_cmp (s.2 38 2) x3 := fun z => by
        have y := z_cmp_ge.mp z
        rw [c2] at y
        have : (t.2 4 2).toInt ≤ B.2.1 := c4
        omega
      refine zp2_ifl (fun z => absurd z nl) (fun _ => zp2_bil p_pc (fun s1 v1 e1 => ?_))
      cases e1
      have t1 : (x5 + 1).toInt = x5.toInt + 1 := z_tadd h5 (zr_c (lo := 1) (hi := 1) (x := 1) (by decide)) (by decide)
      have one : zp2 (fX11_run_65 (fX11_run_15 n) s x1 x3 x5 (s.1 36 19)) (fX12_step_52 (fX12_step_29 m) t x1 x5) (fun r r' => (∃ C : Int × Int × Int, C.1 ≤ B.1 + (x1.toInt - x5.toInt) ∧ C.2.1 ≤ P0 + x1.toInt ∧ C.2.2 = 0 ∧ zNow C r.1 r'.1 ∧ J (N + 64 * (x1.toInt - x5.toInt)) r.1 r'.1) ∧ r'.2 = r.2) := by
        unfold fX12_step_52
        refine zp2_burp (t_stepJ hJ (n := N) (by have := hx1.2; omega) zLe_all hNj.tt hF hW (by omega) (by omega) (Q := fun a t' => zp2 (some a) (zbv (x5 + 1) (fun v2 => fX12_step_29 m t' x1 v2)) (fun r r' => (∃ C : Int × Int × Int, C.1 ≤ B.1 + (x1.toInt - x5.toInt) ∧ C.2.1 ≤ P0 + x1.toInt ∧ C.2.2 = 0 ∧ zNow C r.1 r'.1 ∧ J (N + 64 * (x1.toInt - x5.toInt)) r.1 r'.1) ∧ r'.2 = r.2)) (fun s' t' r1 r2 r3 => ?_)) (fun a t' q => q)
        refine zp2_in (g := fun t' => zbv (x5 + 1) (fun v2 => fX12_step_29 m t' x1 v2)) (zp2_bvl (fun v ev => zp2_bvr (fun w ew => ?_)))
        rw [ev, ew]
        refine zp2_mono (ih m (N + 64) (B.1 + 1, B.2.1 + 1, B.2.2 + 1) s' t' (x5 + 1) (by omega) ⟨by omega, by have := hx1.2; omega⟩ (by omega) (by show B.2.1 + 1 ≤ _; omega) hP0 (by show B.1 + 1 + _ ≤ _; omega) (zNj.of r1 r2 r3)) (fun r r' q => ?_)
        obtain ⟨⟨C, d1, d2, d3, d4, d6⟩, d5⟩ := q
        have d1 : C.1 ≤ B.1 + 1 + (x1.toInt - (x5 + 1).toInt) := d1
        refine ⟨⟨C, by omega, d2, d3, d4, ?_⟩, d5⟩
        rw [t1, show N + 64 + 64 * (x1.toInt - (x5.toInt + 1)) = N + 64 * (x1.toInt - x5.toInt) by omega] at d6
        exact d6
      have z5 : x5 ≤ 0 ↔ x5 = 0 := by
        rw [Int32.le_iff_toInt_le, ← Int32.toInt_inj, show (0 : Int32).toInt = 0 from rfl]
        omega
      refine zp2_iff z5 (fun _ _ => one) (fun _ _ => zp2_ckr ?_)
      have e19 : zgi t 3 (19 : Int32).toNatClampNeg = s.1 36 19 := hT.eq (by decide)
      rw [e19]
      refine zp2_sm (t_isStop hv) (fun v _ => ?_)
      exact zp2_if (fun _ => one) (fun _ => zp2_some ⟨done, rfl⟩)
theorem t_run2J (hJ : zJok J) {x3 : Int64} {P0 Nl M0 : Int} {kd : Int32} (hN : Nl = (if kd = 1 then 313 else 262)) (hM : M0 = P0 * Nl * 228) (h0 : 0 ≤ P0) (h3 : P0 ≤ x3.toInt ∧ x3.toInt ≤ P0 + 3) : ∀ (n m : Nat) (N : Int) (B : Int × Int × Int) (s t : zSt) (x5 : Int32), N + 64 * (1000000 - x5.toInt) ≤ 1000000000000000 → zr 0 1000000 x5 → B.2.2 = M0 + x5.toInt → t.1 0 3 = kd → B.1 + (1000000 - x5.toInt) ≤ 1000000000000000 → B.2.1 ≤ P0 + x5.toInt → P0 ≤ 999999990000000 → zNj J N B s t → zp2 (fX11_run_15 n s 1000000 x3 x5) (fX12_picture_40 m t x3 x5) (fun r r' => (∃ C : Int × Int × Int, C.1 ≤ B.1 + (1000000 - x5.toInt) ∧ zNow C r.1 r'.1 ∧ J (N + 64 * (1000000 - x5.toInt)) r.1 r'.1) ∧ r'.2 = r.2) := by
  intro n
  induction n with
  | zero => intro m N B s t x5 _ _ _ _ _ _ _ _; exact zp2_nl
  | succ n ih =>
    intro m N B s t x5 hN64 h5 hms hk hB hP hP0 hNj
    cases m with
    | zero => exact zp2_nr
    | succ m =>
      show zp2 (fX11_run_15_body (fX11_run_15 n) s 1000000 x3 x5) (fX12_picture_40_body (fX12_picture_40 m) t x3 x5) _
      have hNow := hNj.1
      have hjN := hNj.2
      obtain ⟨hT, hF, hW⟩ := hNj.1
      have hv := hT.2.2.2.1
      obtain ⟨c0, c1, c2, c3, c4⟩ := hT.2.2.2.2.2.2.1
      have ms : zMs B.2.2 t := hT.2.2.2.2.2.2.2
      have x50 := h5.1
      have done : (∃ C : Int × Int × Int, C.1 ≤ B.1 + (1000000 - x5.toInt) ∧ zNow C s t ∧ J (N + 64 * (1000000 - x5.toInt)) s t) := ⟨B, by have := h5.2; omega, hNow, hJ.2.2.1 N _ s t (by have := h5.2; omega) hjN⟩
      have r20 := hv.2.1.at (k := 23) (j := 20) rfl
      have r21 := hv.2.1.at (k := 23) (j := 21) rfl
      have ln : (s.1 23 20).toInt < (s.1 2 1).toInt := hv.2.2.2
      obtain ⟨k0, k1, k2, k3, k4, k5⟩ := hv.2.2.1
      -- the steps are few
      have few : (t.2 4 2).toInt < x3.toInt → x5.toInt < 1000000 := fun lt => by
        unfold zMs zMt at ms
        rw [hms, hk, hv.e20, hv.e21] at ms
        have r21' := r21.2
        rw [k5, hk] at ln
        by_cases q : kd = 1
        · rw [if_pos q] at ms hN ln
          rw [show (313 : Int32).toInt = 313 from rfl] at ln
          rw [hN] at hM
          omega
        · rw [if_neg q] at ms hN ln
          rw [show (262 : Int32).toInt = 262 from rfl] at ln
          rw [hN] at hM
          omega
      unfold fX11_run_15_body fX12_picture_40_body fX11_run_135 fX12_picture_80
      refine zp2_ckr ?_
      by_cases p : 0 ≤ lg_cmp (t.2 4 2) x3
      · refine zp2_ifr (fun _ => ?_) (fun z => absurd p z)
        refine zp2_ifl (fun _ => zp2_some ⟨done, rfl⟩) (fun _ => zp2_bll p_cnt2 (fun s1 v1 e1 => ?_))
        cases e1
        rw [c2]
        exact zp2_ifl (fun _ => zp2_some ⟨done, rfl⟩) (fun z => absurd p z)
      have lt : (t.2 4 2).toInt < x3.toInt := by
        have : ¬ x3.toInt ≤ (t.2 4 2).toInt := fun z => p (z_cmp_ge.mpr z)
        omega
      have x5l := few lt
      refine zp2_ifr (fun z => absurd z p) (fun _ => ?_)
      have nq : ¬ (1000000 : Int32) ≤ x5 := fun z => by
        have := Int32.le_iff_toInt_le.mp z
        rw [show (1000000 : Int32).toInt = 1000000 from rfl] at this
        omega
      refine zp2_ifl (fun z => absurd z nq) (fun _ => zp2_bll p_cnt2 (fun s1 v1 e1 => ?_))
      cases e1
      rw [c2]
      refine zp2_ifl (fun z => absurd z p) (fun _ => zp2_bil p_pc (fun s1 v1 e1 => ?_))
      cases e1
      have t1 : (x5 + 1).toInt = x5.toInt + 1 := z_tadd h5 (zr_c (lo := 1) (hi := 1) (x := 1) (by decide)) (by decide)
      have one : zp2 (fX11_run_65 (fX11_run_15 n) s 1000000 x3 x5 (s.1 36 19)) (fX12_picture_70 (fX12_picture_40 m) t x3 x5) (fun r r' => (∃ C : Int × Int × Int, C.1 ≤ B.1 + (1000000 - x5.toInt) ∧ zNow C r.1 r'.1 ∧ J (N + 64 * (1000000 - x5.toInt)) r.1 r'.1) ∧ r'.2 = r.2) := by
        unfold fX12_picture_70
        refine zp2_burp (zp2_andr (t_stepJ hJ (n := N) (by omega) zLe_all hNj.tt hF hW (by omega) (by omega) (Q := fun a t' => t'.1 0 3 = kd → zp2 (some a) (zbv (x5 + 1) (fun v2 => fX12_picture_40 m t' x3 v2)) (fun r r' => (∃ C : Int × Int × Int, C.1 ≤ B.1 + (1000000 - x5.toInt) ∧ zNow C r.1 r'.1 ∧ J (N + 64 * (1000000 - x5.toInt)) r.1 r'.1) ∧ r'.2 = r.2)) (fun s' t' r1 r2 r3 => ?_)) (fk_fX12_once (σ0 := t) zQ.rf)) (fun a t' q => q.1 ((zQ.o q.2 (k := 0) (a := 3) (b := 3) rfl (by decide) (by decide)).trans hk))
        intro a b ea eb hkb
        cases eb
        refine zp2_in (g := fun t' => zbv (x5 + 1) (fun v2 => fX12_picture_40 m t' x3 v2)) (o := zbv (x5 + 1) (fun v2 => fX11_run_15 n s' 1000000 x3 v2)) (t := t') ?_ a t' ea rfl
        refine zp2_bvl (fun v ev => zp2_bvr (fun w ew => ?_))
        rw [ev, ew]
        refine zp2_mono (ih m (N + 64) (B.1 + 1, B.2.1 + 1, B.2.2 + 1) s' t' (x5 + 1) (by omega) ⟨by omega, by omega⟩ (by show B.2.2 + 1 = _; omega) hkb (by show B.1 + 1 + _ ≤ _; omega) (by show B.2.1 + 1 ≤ _; omega) hP0 (zNj.of r1 r2 r3)) (fun r r' q => ?_)
        obtain ⟨⟨C, d1, d2, d6⟩, d3⟩ := q
        have d1 : C.1 ≤ B.1 + 1 + (1000000 - (x5 + 1).toInt) := d1
        refine ⟨⟨C, by omega, d2, ?_⟩, d3⟩
        rw [t1, show N + 64 + 64 * (1000000 - (x5.toInt + 1)) = N + 64 * (1000000 - x5.toInt) by omega] at d6
        exact d6
      have z5 : x5 ≤ 0 ↔ x5 = 0 := by
        rw [Int32.le_iff_toInt_le, ← Int32.toInt_inj, show (0 : Int32).toInt = 0 from rfl]
        omega
      refine zp2_iff z5 (fun _ _ => one) (fun _ _ => zp2_ckr ?_)
      have e19 : zgi t 3 (19 : Int32).toNatClampNeg = s.1 36 19 := hT.eq (by decide)
      rw [e19]
      refine zp2_sm (t_isStop hv) (fun v _ => ?_)
      exact zp2_if (fun _ => one) (fun _ => zp2_some ⟨done, rfl⟩)
noncomputable def zCaj (J : Int → zSt → zSt → Prop) (K : Nat) (B N : Int) (r : zRi) (b : zSt × Int32) : Prop := (∃ C : Int × Int × Int, C.1 ≤ B ∧ zNow C (zRis r) b.1 ∧ J N (zRis r) b.1) ∧ zAns K r b
theorem a_stepJ (hJ : zJok J) {N : Int} (hN : N ≤ 900000000000000) (h : zNow B s t) (hj : J N s t) (hB : B.1 ≤ 999999999000000) (hP : (t.2 4 2).toInt ≤ 999999999000000) {x : Int32} : zp2 (fX11_step s x) (fX12_step t x) (zCaj J 1 (B.1 + 20000) (N + 1280000)) := by
  unfold fX11_step fX12_step fX11_step_12 fX12_step_18
  have m0 := h.mt
  refine zp2_within (fun w1 w2 => ?_) (fun w => ?_)
  · have hx := z_wir w1 w2 (zrl_c (lo := 1) (hi := 1) (by decide)) (zrl_c (lo := 20000) (hi := 20000) (by decide))
    refine zp2_ifr (fun q => absurd q (by decide)) (fun _ => zp2_fails0 (fun t1 e1 => ?_))
    refine zp2_ifr (fun _ => ?_) (fun q => absurd rfl q)
    refine zp2_ifl (fun q => absurd q (zq_lt hx rfl (by decide))) (fun _ => zp2_ifl (fun _ => ?_) (fun q => absurd (zq_le hx rfl (by decide)) q))
    have h1 : zNow B s t1 := by rw [e1]; exact h.th
    have e42 : t1.2 4 2 = t.2 4 2 := by rw [e1]; rfl
    obtain ⟨c0, c1, c2, c3, c4⟩ := h1.1.2.2.2.2.2.2.1
    have hj1 : J N s t1 := by rw [e1]; exact hJ.th hj
    have h2 : zNow (B.1, (t.2 4 2).toInt, 0) s t1 := h1.bd (Int.le_refl _) (by rw [e42]; exact Int.le_refl _) h1.mt.1
    unfold fX11_run
    refine zp2_bilp (P := fun r r' => ((∃ C : Int × Int × Int, C.1 ≤ B.1 + 20000 ∧ zNow C r.1 r'.1 ∧ J (N + 1280000) r.1 r'.1) ∧ r'.2 = r.2) ∧ zQ [3, 5, 6, 7, 8, 9, 21, 22, 23, 24, 25] [(0, 31, 33)] [4, 10, 11] [(0, 30, 30)] t1 r'.1) ?_ (fun r v b q => ?_)
    · refine zp2_bll p_cnt2 (fun s1 v1 ev1 => zp2_bvl (fun v21 e21 => ?_))
      cases ev1
      have hx1 := hx.1
      have hx2 := hx.2
      have tx : (x + 1).toInt = x.toInt + 1 := z_tadd hx (zr_c (lo := 1) (hi := 1) (x := 1) (by decide)) (by decide)
      have t21 : v21.toInt = (t.2 4 2).toInt + x.toInt + 1 := by
        rw [e21, c2, e42]
        have z := z_tladd (x := t.2 4 2) (y := (x + 1).toInt64) (a := 0) (b := 999999999000000) (c := 0) (d := 20001) ⟨m0.2, hP⟩ (by unfold zrl; rw [Int32.toInt_toInt64, tx]; omega) (by decide)
        rw [z, Int32.toInt_toInt64, tx]
        omega
      refine zp2_andr (zp2_mono (t_run1J hJ (P0 := (t.2 4 2).toInt) hx t21 zfuel zfuel N (B.1, (t.2 4 2).toInt, 0) s t1 0 (by rw [show (0 : Int32).toInt = 0 from rfl]; omega) (zr_c (by decide)) (by rw [show (0 : Int32).toInt = 0 from rfl]; omega) (by show (t.2 4 2).toInt ≤ _; rw [show (0 : Int32).toInt = 0 from rfl]; omega) (by omega) (by rw [show (0 : Int32).toInt = 0 from rfl]; show B.1 + _ ≤ _; omega) ⟨h2, hj1⟩) (fun r r' q => ?_)) (fk_fX12_step_29 (σ0 := t1) zfuel t1 x 0 zQ.rf)
      obtain ⟨⟨C, d1, d2, d3, d4, d6⟩, d5⟩ := q
      have d1 : C.1 ≤ B.1 + (x.toInt - (0 : Int32).toInt) := d1
      rw [show (0 : Int32).toInt = 0 from rfl] at d1
      rw [show (0 : Int32).toInt = 0 from rfl] at d6
      exact ⟨⟨C, by omega, d4, hJ.2.2.1 _ _ _ _ (by omega) d6⟩, d5⟩
    · obtain ⟨⟨⟨C, d1, d2, d6⟩, d3⟩, d4⟩ := q
      refine zp2_some ⟨⟨C, d1, d2, d6⟩, Or.inr ⟨r, ?_, ?_⟩⟩
      · have d3 : b.2 = v := d3
        rw [d3]
      · have z : b.1.1 0 0 = t1.1 0 0 := zQ.o d4 (k := 0) (a := 0) (b := 0) (j := 0) rfl (by decide) (by decide)
        have y : t1.1 0 0 = 0 := by rw [e1]; exact zsi_ej
        exact z.trans y
  · have hn := z_nin w (a := 1) (b := 20000) rfl rfl
    refine zp2_ifr (fun _ => zp2_fails1 (fun t1 e1 => ?_)) (fun q => absurd rfl q)
    refine zp2_ifr (fun q => absurd q (by decide)) (fun _ => ?_)
    have c1 : (1 : Int32).toInt = 1 := rfl
    have c2 : (20000 : Int32).toInt = 20000 := rfl
    have fin : zp2 (some (Sum.inr (s, 1) : zRi)) (some (t1, (0 : Int32))) (zCaj J 1 (B.1 + 20000) (N + 1280000)) := zp2_some ⟨⟨B, by omega, by rw [e1]; exact h.th, by rw [e1]; exact hJ.th (hJ.2.2.1 N _ s t (by omega) hj)⟩, Or.inl ⟨s, rfl, by rw [e1]; exact zTh_own⟩⟩
    refine zp2_ifl (fun _ => fin) (fun q => zp2_ifl (fun q1 => ?_) (fun _ => fin))
    have r1 := Int32.le_iff_toInt_le.mp (z_nlt q)
    have r2 := Int32.le_iff_toInt_le.mp q1
    exfalso; omega
theorem a_pictureJ (hJ : zJok J) {N : Int} (hN : N ≤ 900000000000000) (h : zNow B s t) (hj : J N s t) (hB : B.1 ≤ 999999990000000) (hP : (t.2 4 2).toInt ≤ 999999900000000) {x : Int32} : zp2 (fX11_picture s x) (fX12_picture t x) (zCaj J 1 (B.1 + 1000000) (N + 64000000)) := by
  unfold fX11_picture fX12_picture fX11_picture_10 fX12_picture_18
  have m0 := h.mt
  refine zp2_within (fun w1 w2 => ?_) (fun w => ?_)
  · have hx := z_wir w1 w2 (zrl_c (lo := 1) (hi := 1) (by decide)) (zrl_c (lo := 3) (hi := 3) (by decide))
    refine zp2_ifr (fun q => absurd q (by decide)) (fun _ => zp2_fails0 (fun t1 e1 => ?_))
    refine zp2_ifr (fun _ => zp2_ckr (zp2_bvr (fun v7 e7 => ?_))) (fun q => absurd rfl q)
    refine zp2_ifl (fun q => absurd q (zq_lt hx rfl (by decide))) (fun _ => zp2_ifl (fun _ => ?_) (fun q => absurd (zq_le hx rfl (by decide)) q))
    have h1 : zNow B s t1 := by rw [e1]; exact h.th
    have e42 : t1.2 4 2 = t.2 4 2 := by rw [e1]; rfl
    obtain ⟨c0, c1, c2, c3, c4⟩ := h1.1.2.2.2.2.2.2.1
    have e7 : v7 = t.2 4 2 + x.toInt64 := by rw [e7, show zgl t1 4 (2 : Int32).toNatClampNeg = t.2 4 2 from e42]
    have hx1 := hx.1
    have hx2 := hx.2
    have t7 : v7.toInt = (t.2 4 2).toInt + x.toInt := by
      rw [e7]
      have z := z_tladd (x := t.2 4 2) (y := x.toInt64) (a := 0) (b := 999999900000000) (c := 0) (d := 3) ⟨m0.2, hP⟩ (by unfold zrl; rw [Int32.toInt_toInt64]; omega) (by decide)
      rw [z, Int32.toInt_toInt64]
    obtain ⟨Nl, hNl⟩ : ∃ Nl : Int, Nl = (if t1.1 0 3 = 1 then 313 else 262) := ⟨_, rfl⟩
    obtain ⟨M0, hM0⟩ : ∃ M0 : Int, M0 = (t.2 4 2).toInt * Nl * 228 := ⟨_, rfl⟩
    have hv := h1.1.2.2.2.1
    have b67 : 0 ≤ (t1.1 3 67).toInt := by rw [hv.e21]; exact (hv.2.1.at (k := 23) (j := 21) rfl).1
    have b66 : 0 ≤ (t1.1 3 66).toInt := by rw [hv.e20]; exact (hv.2.1.at (k := 23) (j := 20) rfl).1
    have hm : M0 ≤ zMt t1 := by
      unfold zMt
      rw [e42, hM0, hNl]
      by_cases q : t1.1 0 3 = 1
      · rw [if_pos q]; omega
      · rw [if_neg q]; omega
    have hj1 : J N s t1 := by rw [e1]; exact hJ.th hj
    have h2 : zNow (B.1, (t.2 4 2).toInt, M0) s t1 := h1.bd (Int.le_refl _) (by rw [e42]; exact Int.le_refl _) hm
    have z0 : (0 : Int32).toInt = 0 := rfl
    unfold fX11_run
    refine zp2_bilp (P := fun r r' => ((∃ C : Int × Int × Int, C.1 ≤ B.1 + 1000000 ∧ zNow C r.1 r'.1 ∧ J (N + 64000000) r.1 r'.1) ∧ r'.2 = r.2) ∧ zQ [3, 5, 6, 7, 8, 9, 21, 22, 23, 24, 25] [(0, 31, 33)] [4, 10, 11] [(0, 30, 30)] t1 r'.1) ?_ (fun r v b q => ?_)
    · refine zp2_bll p_cnt2 (fun s1 v1 ev1 => zp2_bvl (fun v21 e21 => ?_))
      cases ev1
      have e21 : v21 = v7 := by rw [e21, e7, c2, e42]
      rw [e21]
      refine zp2_andr (zp2_mono (t_run2J hJ (P0 := (t.2 4 2).toInt) (M0 := M0) hNl hM0 m0.2 ⟨by omega, by omega⟩ zfuel zfuel N (B.1, (t.2 4 2).toInt, M0) s t1 0 (by rw [z0]; omega) (zr_c (by decide)) (by rw [z0]; show M0 = M0 + 0; omega) rfl (by rw [z0]; show B.1 + _ ≤ _; omega) (by rw [z0]; show (t.2 4 2).toInt ≤ _; omega) (by omega) ⟨h2, hj1⟩) (fun r r' q => ?_)) (fk_fX12_picture_40 (σ0 := t1) zfuel t1 v7 0 zQ.rf)
      obtain ⟨⟨C, d1, d4, d6⟩, d5⟩ := q
      have d1 : C.1 ≤ B.1 + (1000000 - (0 : Int32).toInt) := d1
      rw [z0] at d1
      rw [z0] at d6
      exact ⟨⟨C, by omega, d4, hJ.2.2.1 _ _ _ _ (by omega) d6⟩, d5⟩
    · obtain ⟨⟨⟨C, d1, d2, d6⟩, d3⟩, d4⟩ := q
      refine zp2_some ⟨⟨C, d1, d2, d6⟩, Or.inr ⟨r, ?_, ?_⟩⟩
      · have d3 : b.2 = v := d3
        rw [d3]
      · have z : b.1.1 0 0 = t1.1 0 0 := zQ.o d4 (k := 0) (a := 0) (b := 0) (j := 0) rfl (by decide) (by decide)
        have y : t1.1 0 0 = 0 := by rw [e1]; exact zsi_ej
        exact z.trans y
  · have hn := z_nin w (a := 1) (b := 3) rfl rfl
    refine zp2_ifr (fun _ => zp2_fails1 (fun t1 e1 => ?_)) (fun q => absurd rfl q)
    refine zp2_ifr (fun q => absurd q (by decide)) (fun _ => ?_)
    have c1 : (1 : Int32).toInt = 1 := rfl
    have c2 : (3 : Int32).toInt = 3 := rfl
    have fin : zp2 (some (Sum.inr (s, 1) : zRi)) (some (t1, (0 : Int32))) (zCaj J 1 (B.1 + 1000000) (N + 64000000)) := zp2_some ⟨⟨B, by omega, by rw [e1]; exact h.th, by rw [e1]; exact hJ.th (hJ.2.2.1 N _ s t (by omega) hj)⟩, Or.inl ⟨s, rfl, by rw [e1]; exact zTh_own⟩⟩
    refine zp2_ifl (fun _ => fin) (fun q => zp2_ifl (fun q1 => ?_) (fun _ => fin))
    have r1 := Int32.le_iff_toInt_le.mp (z_nlt q)
    have r2 := Int32.le_iff_toInt_le.mp q1
    exfalso; omega
end ZJ9
end ZJN13
section ZJN14
/-! CALLS, SOUNDS BESIDE THEM -/
section ZCJ
variable {σ μ s t : zSt} {B : Int × Int × Int} {N : Int} {J : { J : Int → zSt → zSt → Prop // zJok J }}
noncomputable def zNk (J : { J : Int → zSt → zSt → Prop // zJok J }) (N : Int) (B : Int × Int × Int) (σ μ : zSt) : Prop := zNow B σ μ ∧ J.1 N σ μ
theorem zNk.th (h : zNk J N B s t) {v : Int32} : zNk J N B s (zsi t 0 0 v) := ⟨h.1.th, J.2.th h.2⟩
theorem zNk.po (h : zNk J N B σ μ) (q : zPo σ μ s t) : zNk J N B s t := ⟨h.1.po q, J.2.po h.2 q⟩
theorem zNk.ve (h : zNk J N B s t) : zVe s t := h.1.ve
theorem zNk.reg (h : zNk J N B s t) {j : Nat} (hj : j ≤ 26) {v : Int32} (hv : zrg j v) : zNk J N B (zsi s 36 j v) (zsi t 3 j v) := ⟨h.1.reg hj hv, J.2.1 N s t _ _ h.2 (zQ.wi zQ.rf rfl) (zQ.wi zQ.rf (by
  have key : ∀ i : Fin 27, zcv [5, 6, 7, 8, 9, 21, 22, 23, 24, 25] [(0, 0, 0), (0, 31, 33), (3, 0, 71), (3, 78, 82), (3, 86, 86), (3, 89, 163), (3, 171, 171), (3, 280, 1047)] 3 i.val = true := by decide
  exact key ⟨j, by omega⟩))⟩
theorem zNk.bat (h : zNk J N B σ μ) (a : zQ [17] [] [] [] σ s) (b : zQ [6] [] [] [] μ t) (e : ∀ j : Nat, j < 32768 → s.1 17 j = t.1 6 j &&& 255) : zNk J N B s t := ⟨h.1.bat a b e, J.2.1 N σ μ s t h.2 (a.mono rfl rfl) (b.mono rfl rfl)⟩
theorem zNk.stp (h : zNk J N B σ μ) (v : zVe s t) (a : zQ [40] [] [] [] σ s) (b : zQ [] [(3, 89, 97)] [] [] μ t) : zNk J N B s t := ⟨h.1.stp v a b, J.2.1 N σ μ s t h.2 (a.mono rfl rfl) (b.mono rfl rfl)⟩
theorem zNk.pln (h : zNk J N B σ μ) (v : zPlr s t) (a : zQ [42] [] [] [] σ s) (b : zQ [] [(3, 171, 171), (3, 280, 1047)] [] [] μ t) : zNk J N B s t := ⟨h.1.pln v a b, J.2.1 N σ μ s t h.2 (a.mono rfl rfl) (b.mono rfl rfl)⟩
noncomputable def zPlK (J : { J : Int → zSt → zSt → Prop // zJok J }) (N : Int) (B : Int × Int × Int) (r : zRi) (b : zSt × Int32) : Prop := zNk J N B (zRis r) b.1 ∧ zAn2 r b

theorem bj_out (h : zNk J N B s t) {x y : Int32} : zp2 (fX11_out s x y) (fX12_out t x y) (zNk J N B) := by
  unfold fX11_out fX12_out
  refine zp2_bvr (fun t1 e1 => ?_)
  have h1 : zNk J N B s t1 := by rw [e1]; exact h.th
  exact zp2_buu (t_out h1.ve (z_r8 _) (z_r8 _)) (fun r r' q => zp2_some (h1.po q))

theorem bj_in (h : zNk J N B s t) {x : Int32} : zp2 (fX11_in s x) (fX12_in t x) (fun r r' => zNk J N B r.1 r'.1 ∧ r.2 = r'.2) := by
  unfold fX11_in fX12_in
  refine zp2_bvr (fun t1 e1 => ?_)
  have h1 : zNk J N B s t1 := by rw [e1]; exact h.th
  refine zp2_bii (t_in h1.ve (z_r8 _)) (fun r v r' w q => zp2_some ⟨h1.po q.1, ?_⟩)
  exact q.2.1.symm

theorem bj_poke (h : zNk J N B s t) {x y : Int32} : zp2 (fX11_poke s x y) (fX12_poke t x y) (zNk J N B) := by
  unfold fX11_poke fX12_poke
  refine zp2_bvr (fun t1 e1 => ?_)
  have h1 : zNk J N B s t1 := by rw [e1]; exact h.th
  obtain ⟨⟨hT, hF, hW⟩, hJ⟩ := h1
  refine zp2_wr hT.1 (v := y &&& 255) (by rw [Int32.and_assoc]; rfl) rfl (z_r8 _) (fun r r' q1 q2 q3 => zp2_some ?_)
  refine ⟨⟨hT.fin zIoK_a [] q1 (q2.mono rfl rfl) (q3.mono rfl rfl) rfl zAl0 ?_, ?_, ?_⟩, J.2.1 N s t1 _ _ hJ (q2.mono rfl rfl) (q3.mono rfl rfl)⟩
  · unfold zJp
    rw [q2.ro (k := 7) rfl, q3.o (k := 0) (a := 31) (b := 31) rfl (j := 31) (by decide) (by decide)]
    exact hT.2.2.1
  · exact hF.of (by rw [q2.ro (k := 36) rfl]) (q3.o (k := 3) (a := 1) (b := 1) rfl (by decide) (by decide))
  · exact hW.of (by rw [q2.ro (k := 36) rfl]) (q3.o (k := 3) (a := 20) (b := 20) rfl (by decide) (by decide))

theorem bj_start (h : zNk J N B s t) {x : Int32} : zp2 (fX11_start s x) (fX12_start t x) (zNk J N B) := by
  unfold fX11_start fX12_start fX4_holdStart fX4_holdStart_15 fX12_start_20
  refine zp2_bvr (fun t1 e1 => ?_)
  have h1 : zNk J N B s t1 := by rw [e1]; exact h.th
  refine zp2_bulp (P := zNk J N B) ?_ (fun a b q => zp2_some q)
  refine zp2_if (fun _ => ?_) (fun _ => ?_)
  · refine zp2_ckl (zp2_bvl (fun s2 f2 => zp2_ckr (zp2_bvr (fun t2 g2 => zp2_some ?_))))
    rw [f2, g2]
    exact h1.po ((zPo.rf h1.ve).w1 (z_pn34_7 (d := 2) (by decide)) rfl (zGo.r rfl (show zr 0 1 (0 : Int32) from zr_c (by decide))) rfl rfl rfl)
  · refine zp2_ckl (zp2_bvl (fun s2 f2 => zp2_ckr (zp2_bvr (fun t2 g2 => zp2_some ?_))))
    rw [f2, g2]
    exact h1.po ((zPo.rf h1.ve).w1 (z_pn34_7 (d := 2) (by decide)) rfl (zGo.r rfl (show zr 0 1 (1 : Int32) from zr_c (by decide))) rfl rfl rfl)

theorem bj_pause (h : zNk J N B s t) : zp2 (fX11_pause s ) (fX12_pause t ) (fun r r' => zNk J N B r.1 r'.1) := by
  unfold fX11_pause fX12_pause fX11_pause_14 fX11_pause_26
  refine zp2_bvr (fun t1 e1 => ?_)
  have h1 : zNk J N B s t1 := by rw [e1]; exact h.th
  obtain ⟨k0, k1, k2, k3, k4, k5⟩ := h1.ve.2.2.1
  obtain ⟨⟨hT, hF, hW⟩, hJ⟩ := h1
  by_cases q : t1.1 0 3 = 2
  · rw [if_pos q] at k1
    have n0 : ¬ zgi s 0 0 = 0 := fun z => by rw [show zgi s 0 0 = 1 from k1] at z; exact absurd z (by decide)
    refine zp2_ifr (fun _ => zp2_ckr ?_) (fun z => absurd q z)
    exact zp2_ifl (fun z => absurd z n0) (fun _ => zp2_ifl (fun z => absurd z n0) (fun _ => zp2_ckl (zp2_some ⟨⟨hT, hF, hW⟩, hJ⟩)))
  · rw [if_neg q] at k1
    refine zp2_ifr (fun z => absurd z q) (fun _ => zp2_ckr (zp2_bvr (fun t2 g2 => zp2_ckr ?_)))
    refine zp2_ifl (fun _ => ?_) (fun z => absurd k1 z)
    refine zp2_bul (P := fun r => r = zsi s 36 27 1) (by unfold fX5_askForPause; exact zpc_ck (zpc_bv (fun s1 f1 => zpc_some f1))) (fun s1 f1 => ?_)
    have k1' : zgi s1 0 0 = 0 := by rw [f1]; exact k1
    refine zp2_ifl (fun _ => zp2_ckl (zp2_some ?_)) (fun z => absurd k1' z)
    rw [f1, g2]
    refine ⟨⟨hT.pq zIoK_a (zr_c (by decide)), hF, hW⟩, J.2.1 N s t1 _ _ hJ (zQ.wi zQ.rf rfl) (zQ.wi zQ.rf rfl)⟩

theorem bj_press (h : zNk J N B s t) {x y : Int32} : zp2 (fX11_press s x y) (fX12_press t x y) (fun r r' => zNk J N B (zRus r) r') := by
  unfold fX11_press fX12_press fX12_press_23 fX12_press_28
  have no : zp2 (some (Sum.inr (s, 1) : zRu)) (zbi (fX12_fails t 1 1) (fun σ1 v2 => if v2 = 0 then zck (zin (42 + x) 1048) (zbv (zsi σ1 3 ((42 + x).toNatClampNeg) y) (fun σ3 => some σ3)) else some σ1)) (fun r r' => zNk J N B (zRus r) r') := by
    refine zp2_fails1 (fun t1 e1 => zp2_ifr (fun q => absurd q (by decide)) (fun _ => zp2_some ?_))
    rw [e1]
    exact h.th
  have cp : ∀ v : Int32, v = (if 0 ≤ x.toInt ∧ x.toInt ≤ 1 ∧ 0 ≤ y.toInt ∧ y.toInt ≤ 63 then 1 else 0) → zpc (fX4_canPress s x y) (fun r => r = (s, v)) := fun v ev => by
    have z0 : (0 : Int32).toInt = 0 := rfl
    have z1 : (1 : Int32).toInt = 1 := rfl
    have z63 : (63 : Int32).toInt = 63 := rfl
    unfold fX4_canPress fX4_canPress_23 fX4_canPress_24
    refine zpc_if (fun q => zpc_ck (zpc_some ?_)) (fun q1 => zpc_if (fun q => zpc_ck (zpc_some ?_)) (fun q2 => zpc_if (fun q => zpc_ck (zpc_some ?_)) (fun q3 => zpc_if (fun q => zpc_ck (zpc_some ?_)) (fun q4 => zpc_ck (zpc_some ?_)))))
    · have := Int32.lt_iff_toInt_lt.mp q
      rw [ev, if_neg (fun z => by omega)]
    · have := Int32.lt_iff_toInt_lt.mp q
      rw [ev, if_neg (fun z => by omega)]
    · have := Int32.lt_iff_toInt_lt.mp q
      rw [ev, if_neg (fun z => by omega)]
    · have := Int32.lt_iff_toInt_lt.mp q
      rw [ev, if_neg (fun z => by omega)]
    · have a1 := Int32.le_iff_toInt_le.mp (z_nlt q1)
      have a2 := Int32.le_iff_toInt_le.mp (z_nlt q2)
      have a3 := Int32.le_iff_toInt_le.mp (z_nlt q3)
      have a4 := Int32.le_iff_toInt_le.mp (z_nlt q4)
      rw [ev, if_pos (by omega)]
  refine zp2_within (fun w1 w2 => ?_) (fun w => ?_)
  · have hx := z_wir w1 w2 (zrl_c (lo := 0) (hi := 0) (by decide)) (zrl_c (lo := 1) (hi := 1) (by decide))
    refine zp2_ifr (fun q => absurd q (by decide)) (fun _ => ?_)
    refine zp2_within (fun v1 v2 => ?_) (fun v => ?_)
    · have hy := z_wir v1 v2 (zrl_c (lo := 0) (hi := 0) (by decide)) (zrl_c (lo := 63) (hi := 63) (by decide))
      refine zp2_ifr (fun q => absurd q (by decide)) (fun _ => zp2_fails0 (fun t1 e1 => zp2_ifr (fun _ => ?_) (fun q => absurd rfl q)))
      have h1 : zNk J N B s t1 := by rw [e1]; exact h.th
      refine zp2_bil (cp 1 (by rw [if_pos ⟨hx.1, hx.2, hy.1, hy.2⟩])) (fun s1 v e => ?_)
      cases e
      refine zp2_ifl (fun q => absurd q (by decide)) (fun _ => ?_)
      unfold fX4_holdButtons
      obtain ⟨i, ei⟩ := z_F (m := 2) hx (by decide)
      have m1 : x &&& 1 = x := by rw [ei]; exact v_bit1 i
      have kx := z_clamp hx.1
      have x1 := hx.2
      rw [m1, z_off hx (k := 7) rfl (by decide), z_off hx (k := 42) rfl (by decide)]
      refine zp2_bulp (P := zNk J N B) (zp2_ckl (zp2_bvl (fun s2 f2 => zp2_ckr (zp2_bvr (fun t2 g2 => zp2_some ?_))))) (fun a b q => zp2_some q)
      rw [f2, g2]
      refine h1.po ((zPo.rf h1.ve).w1 (z_pn34_7 (d := x.toNatClampNeg) (by omega)) rfl (zGo.r (a := 0) (b := 63) ?_ hy) rfl rfl (zcv_m (a := 33) (b := 65) (by decide) (by omega) (by omega)))
      rw [ei]
      exact zg_347 i
    · have hn := z_nin v (a := 0) (b := 63) rfl rfl
      refine zp2_ifr (fun _ => ?_) (fun q => absurd rfl q)
      refine zp2_bil (cp 0 (by rw [if_neg (fun z => by omega)])) (fun s1 v e => ?_)
      cases e
      exact zp2_ifl (fun _ => no) (fun q => absurd rfl q)
  · have hn := z_nin w (a := 0) (b := 1) rfl rfl
    refine zp2_ifr (fun _ => ?_) (fun q => absurd rfl q)
    refine zp2_bil (cp 0 (by rw [if_neg (fun z => by omega)])) (fun s1 v e => ?_)
    cases e
    exact zp2_ifl (fun _ => no) (fun q => absurd rfl q)

theorem bj_line (h : zNk J N B s t) {x y : Int32} : zp2 (fX11_line s x y) (fX12_line t x y) (fun r r' => zNk J N B (zRus r) r') := by
  unfold fX11_line fX12_line fX11_line_9 fX12_line_16
  refine zp2_within (fun w1 w2 => ?_) (fun w => ?_)
  · have hx := z_wir w1 w2 (zrl_c (lo := 0) (hi := 0) (by decide)) (zrl_c (lo := 1) (hi := 1) (by decide))
    refine zp2_ifr (fun q => absurd q (by decide)) (fun _ => zp2_fails0 (fun t1 e1 => zp2_ifr (fun _ => ?_) (fun q => absurd rfl q)))
    have h1 : zNk J N B s t1 := by rw [e1]; exact h.th
    refine zp2_ifl (fun q => absurd q (zq_lt hx rfl (by decide))) (fun _ => zp2_ifl (fun _ => ?_) (fun q => absurd (zq_le hx rfl (by decide)) q))
    refine zp2_bulp (P := zNk J N B) ?_ (fun a b q => zp2_some q)
    unfold fX4_moveLine fX4_moveLine_16
    have h01 := zx_01 hx
    by_cases y0 : y = 0
    · refine zp2_ifl (fun _ => ?_) (fun q => absurd y0 q)
      refine zp2_bulp (P := zNk J N B) ?_ (fun a b q => zp2_some q)
      rw [show (fun (σ9 : zSt) (v10 : Int32) => if y = 0 then fX12_line_47 σ9 x v10 0 (45 + x) else fX12_line_47 σ9 x v10 1 (45 + x)) = (fun σ9 v10 => fX12_line_47 σ9 x v10 0 (45 + x)) from funext fun _ => funext fun _ => if_pos y0]
      exact zp2_mono (t_moveL h1.ve h01 (zr_c (by decide))) (fun r r' q => h1.po q)
    · refine zp2_ifl (fun q => absurd q y0) (fun _ => ?_)
      refine zp2_bulp (P := zNk J N B) ?_ (fun a b q => zp2_some q)
      rw [show (fun (σ9 : zSt) (v10 : Int32) => if y = 0 then fX12_line_47 σ9 x v10 0 (45 + x) else fX12_line_47 σ9 x v10 1 (45 + x)) = (fun σ9 v10 => fX12_line_47 σ9 x v10 1 (45 + x)) from funext fun _ => funext fun _ => if_neg y0]
      exact zp2_mono (t_moveL h1.ve h01 (zr_c (by decide))) (fun r r' q => h1.po q)
  · have hn := z_nin w (a := 0) (b := 1) rfl rfl
    refine zp2_ifr (fun _ => zp2_fails1 (fun t1 e1 => ?_)) (fun q => absurd rfl q)
    refine zp2_ifr (fun q => absurd q (by decide)) (fun _ => ?_)
    have c0 : (0 : Int32).toInt = 0 := rfl
    have c1 : (1 : Int32).toInt = 1 := rfl
    have fin : zp2 (some (Sum.inr (s, 1) : zRu)) (some t1) (fun r r' => zNk J N B (zRus r) r') := zp2_some (by rw [e1]; exact h.th)
    refine zp2_ifl (fun _ => fin) (fun q => zp2_ifl (fun q1 => ?_) (fun _ => fin))
    have r1 := Int32.le_iff_toInt_le.mp (z_nlt q)
    have r2 := Int32.le_iff_toInt_le.mp q1
    exfalso; omega

theorem bj_set (h : zNk J N B s t) {x y : Int32} : zp2 (fX11_set s x y) (fX12_set t x y) (fun r r' => zNk J N B (zRus r) r') := by
  unfold fX11_set fX12_set fX11_set_10 fX12_set_18
  refine zp2_within (fun w1 w2 => ?_) (fun w => ?_)
  · have hx := z_wir w1 w2 (zrl_c (lo := 0) (hi := 0) (by decide)) (zrl_c (lo := 25) (hi := 25) (by decide))
    refine zp2_ifr (fun q => absurd q (by decide)) (fun _ => zp2_fails0 (fun t1 e1 => zp2_ifr (fun _ => ?_) (fun q => absurd rfl q)))
    have h1 : zNk J N B s t1 := by rw [e1]; exact h.th
    refine zp2_ifl (fun q => absurd q (zq_lt hx rfl (by decide))) (fun _ => zp2_ifl (fun _ => ?_) (fun q => absurd (zq_le hx rfl (by decide)) q))
    refine zp2_bulp (P := zNk J N B) ?_ (fun a b q => zp2_some q)
    unfold fX5_change fX5_change_75 fX5_change_80 fX5_change_81 fX12_set_51 fX12_set_104 fX12_set_105
    have kx := z_clamp hx.1
    have x2 := hx.2
    have x1 := hx.1
    have go : ∀ {c1 c2 : Bool} (v w : Int32), v = w → zrg x.toNatClampNeg v → zp2 (zck c1 (zbv (zsi s 36 (x.toNatClampNeg) v) (fun σ1 => some σ1))) (zck c2 (zbv (zsi t1 3 (x.toNatClampNeg) w) (fun σ1 => some σ1))) (zNk J N B) := fun v w e hr => zp2_ckl (zp2_bvl (fun s2 f2 => zp2_ckr (zp2_bvr (fun t2 g2 => zp2_some (by rw [f2, g2, ← e]; exact h1.reg (by omega) hr)))))
    have r3 : zr 0 3 (y &&& 3) := zr_andr (lo := 0) (hi := 3) (zr_c (lo := 3) (hi := 3) (by decide)) (by decide)
    have r1 : zr 0 1 (y &&& 1) := zr_andr (lo := 0) (hi := 1) (zr_c (lo := 1) (hi := 1) (by decide)) (by decide)
    have r16 : zr 0 65535 (y &&& 65535) := zr_andr (lo := 0) (hi := 65535) (zr_c (lo := 65535) (hi := 65535) (by decide)) (by decide)
    refine zp2_ifl (fun q => absurd q (zq_lt hx rfl (by decide))) (fun _ => zp2_ifl (fun _ => ?_) (fun q => absurd (zq_le hx rfl (by decide)) q))
    have c16 : (16 : Int32).toInt = 16 := rfl
    have c20 : (20 : Int32).toInt = 20 := rfl
    have c22 : (22 : Int32).toInt = 22 := rfl
    have c23 : (23 : Int32).toInt = 23 := rfl
    have c25 : (25 : Int32).toInt = 25 := rfl
    refine zp2_if (fun q => ?_) (fun q => ?_)
    · obtain ⟨c, ec⟩ := z_F (m := 4) r3 (by decide)
      obtain ⟨m1, m2⟩ := v_min3 c
      rw [← ec] at m1 m2
      have ex : x.toNatClampNeg = 25 := by rw [q]; rfl
      have rr : zrg x.toNatClampNeg (zmin 2 (y &&& 3)) := by
        rw [ex]
        exact ⟨fun z => absurd z (by decide), fun _ z => absurd z (by decide), fun _ z => absurd z (by decide), fun _ z => absurd z (by decide), fun _ => m2, fun z => absurd z (by decide)⟩
      refine zp2_ifr (fun z => go _ _ ?_ rr) (fun z => go _ _ ?_ rr)
      · rw [m1, if_pos z]
      · rw [m1, if_neg z]
    · have nx : ¬ x.toInt = 25 := fun z => q (Int32.toInt_inj.mp z)
      by_cases a : x < 16
      · have a' := Int32.lt_iff_toInt_lt.mp a
        have b : ¬ 16 ≤ x := fun z => by have := Int32.le_iff_toInt_le.mp z; omega
        have c : x < 23 := Int32.lt_iff_toInt_lt.mpr (by omega)
        refine zp2_ifl (fun _ => zp2_ifl (fun _ => ?_) (fun z => absurd a z)) (fun z => absurd c z)
        exact zp2_ifr (fun z => absurd z b) (fun _ => go _ _ rfl (zrg_b (Or.inl (by omega)) (z_r8 _)))
      · have a' := Int32.le_iff_toInt_le.mp (z_nlt a)
        have b : 16 ≤ x := z_nlt a
        by_cases c : 20 < x
        · have c' := Int32.lt_iff_toInt_lt.mp c
          by_cases d : 22 < x
          · have d' := Int32.lt_iff_toInt_lt.mp d
            have e : ¬ x < 23 := fun z => by have := Int32.lt_iff_toInt_lt.mp z; omega
            refine zp2_ifl (fun z => absurd z e) (fun _ => ?_)
            exact zp2_ifr (fun _ => zp2_ifr (fun _ => zp2_ifr (fun _ => go _ _ rfl (zrg_1 (by omega) (by omega) r1)) (fun z => absurd d z)) (fun z => absurd c z)) (fun z => absurd b z)
          · have d' := Int32.le_iff_toInt_le.mp (z_nlt d)
            have e : x < 23 := Int32.lt_iff_toInt_lt.mpr (by omega)
            refine zp2_ifl (fun _ => zp2_ifl (fun z => absurd z a) (fun _ => zp2_ifl (fun _ => ?_) (fun z => absurd c z))) (fun z => absurd e z)
            exact zp2_ifr (fun _ => zp2_ifr (fun _ => zp2_ifr (fun z => absurd z d) (fun _ => go _ _ rfl (zrg_b (Or.inr (by omega)) (z_r8 _)))) (fun z => absurd c z)) (fun z => absurd b z)
        · have c' := Int32.le_iff_toInt_le.mp (z_nlt c)
          have e : x < 23 := Int32.lt_iff_toInt_lt.mpr (by omega)
          refine zp2_ifl (fun _ => zp2_ifl (fun z => absurd z a) (fun _ => zp2_ifl (fun z => absurd z c) (fun _ => ?_))) (fun z => absurd e z)
          exact zp2_ifr (fun _ => zp2_ifr (fun z => absurd z c) (fun _ => go _ _ rfl (zrg_w (by omega) (by omega) r16))) (fun z => absurd b z)
  · have hn := z_nin w (a := 0) (b := 25) rfl rfl
    refine zp2_ifr (fun _ => zp2_fails1 (fun t1 e1 => ?_)) (fun q => absurd rfl q)
    refine zp2_ifr (fun q => absurd q (by decide)) (fun _ => ?_)
    have c0 : (0 : Int32).toInt = 0 := rfl
    have c1 : (25 : Int32).toInt = 25 := rfl
    have fin : zp2 (some (Sum.inr (s, 1) : zRu)) (some t1) (fun r r' => zNk J N B (zRus r) r') := zp2_some (by rw [e1]; exact h.th)
    refine zp2_ifl (fun _ => fin) (fun q => zp2_ifl (fun q1 => ?_) (fun _ => fin))
    have r1 := Int32.le_iff_toInt_le.mp (z_nlt q)
    have r2 := Int32.le_iff_toInt_le.mp q1
    exfalso; omega

theorem bj_wipe (h : zNk J N B s t) : zp2 (fX11_wipe s ) (fX12_wipe t ) (zNk J N B) := by
  unfold fX11_wipe fX12_wipe fX2_clearBattery fJ7_fill_53178_k17
  refine zp2_bvr (fun t1 e1 => ?_)
  have h1 : zNk J N B s t1 := by rw [e1]; exact h.th
  refine zp2_of (P := fun r => zQ [17] [] [] [] s r ∧ ∀ j : Nat, j < 32768 → r.1 17 j = 0) (zpc_bu (zpc_bu (c_wipeL (σ := s) zfuel 0 s (by decide) zQ.rf (fun j hj => absurd hj (by omega))) (fun r q => zpc_some q)) (fun r q => zpc_some q)) (m_wipeL (μ := t1) zfuel 0 t1 (by decide) zQ.rf (fun j hj => absurd hj (by omega))) (fun r r' q q' => ?_)
  exact h1.bat q.1 q'.1 (fun j hj => by rw [q.2 j hj, q'.2 j hj])

theorem bj_stop (h : zNk J N B s t) {x y : Int32} : zp2 (fX11_stop s x y) (fX12_stop t x y) (fun r r' => zNk J N B (zRis r) r'.1) := by
  have hv0 := h.ve
  have r8 : zr 0 8 (s.1 40 8) := hv0.2.1.at (k := 40) (j := 8) rfl
  have k8 := z_clamp r8.1
  have r82 := r8.2
  have r80 := r8.1
  have c8 : (8 : Int32).toInt = 8 := rfl
  have cpl : zpc (fX1_placeOfStop s x) (fun r => r.1 = s ∧ zPs s x r.2) := by
    unfold fX1_placeOfStop
    exact c_place r8 zfuel 0 (by decide) (fun j hj => absurd hj (by omega))
  unfold fX11_stop fX12_stop fX11_stop_10
  refine zp2_bir (by unfold fX12_isStop; exact m_isS hv0 zfuel 0 (by decide) (fun j hj => absurd hj (by omega))) (fun t0 v11 q0 => ?_)
  obtain ⟨q0, qv⟩ := q0
  have q0 : t0 = t := q0
  subst q0
  have qv : (v11 = 0 ∧ ∀ j : Nat, (j : Int) < (s.1 40 8).toInt → ¬ s.1 40 j = x) ∨ (v11 = 1 ∧ ∃ p : Nat, (p : Int) < (s.1 40 8).toInt ∧ s.1 40 p = x ∧ ∀ j : Nat, j < p → ¬ s.1 40 j = x) := qv
  unfold fX12_stop_24 fX12_stop_64
  refine zp2_within (fun w1 w2 => ?_) (fun w => ?_)
  · have hx := z_wir w1 w2 (zrl_c (lo := 0) (hi := 0) (by decide)) (zrl_c (lo := 65535) (hi := 65535) (by decide))
    refine zp2_ifr (fun q => absurd q (by decide)) (fun _ => zp2_fails0 (fun t1 e1 => zp2_ifr (fun _ => ?_) (fun q => absurd rfl q)))
    have h1 : zNk J N B s t1 := by rw [e1]; exact h.th
    have hv := h1.ve
    have e89 : zgi t1 3 (89 : Int32).toNatClampNeg = s.1 40 8 := hv.n8
    refine zp2_ifl (fun q => absurd q (zq_lt hx rfl (by decide))) (fun _ => zp2_ifl (fun _ => ?_) (fun q => absurd (zq_le hx rfl (by decide)) q))
    unfold fX1_stopsBeside fX1_isStop fX1_isStop_13 fX1_stopsBeside_20
    -- what the class sees
    have cS : zpc (zbi (fX1_placeOfStop s x) (fun σ1 v2 => if v2 < 0 then zck (zbo 0) (some (σ1, (0 : Int32))) else zck (zbo 1) (some (σ1, (1 : Int32))))) (fun r => r = (s, v11)) := by
      refine zpc_bi cpl (fun s1 v q => ?_)
      obtain ⟨a1, a2⟩ := q
      have a1 : s1 = s := a1
      subst a1
      rcases a2 with ⟨b1, b2⟩ | ⟨p, b1, b2, b3, b4⟩
      · have b1 : v = -1 := b1
        rw [b1]
        refine zpc_if (fun _ => zpc_ck (zpc_some ?_)) (fun z => absurd (by decide) z)
        rcases qv with ⟨c1, c2⟩ | ⟨c1, p, c2, c3, c4⟩
        · rw [c1]
        · exact absurd c3 (b2 p c2)
      · have b1 : v = Int32.ofNat p := b1
        rw [b1]
        refine zpc_if (fun z => ?_) (fun _ => zpc_ck (zpc_some ?_))
        · exact absurd z (zq_lt (z_ofr (i := p) (b := 8) (by omega) (by omega)) rfl (by decide))
        · rcases qv with ⟨c1, c2⟩ | ⟨c1, c2⟩
          · exact absurd b3 (c2 p b2)
          · rw [c1]
    have sub0 : ∀ z : Int32, z - 0 = z := fun z => Int32.sub_zero z
    have same : zNk J N B s (zsi t1 0 0 0) := h1.th
    rcases qv with ⟨v0, none_⟩ | ⟨v1, p, p1, p2, p3⟩
    · -- x is no stop
      subst v0
      have pl : zpc (fX1_placeOfStop s x) (fun r => r = (s, -1)) := zpc_mono cpl (fun r q => by
        obtain ⟨a1, a2⟩ := q
        rcases a2 with ⟨b1, b2⟩ | ⟨p, b1, b2, b3, b4⟩
        · exact Prod.ext a1 b1
        · exact absurd b3 (none_ p b2))
      refine zp2_bil (P := fun r => r = (s, s.1 40 8 - 0)) (zpc_ck (zpc_bi cS (fun s1 v e => ?_))) (fun s1 v e => ?_)
      · cases e
        exact zpc_if (fun _ => zpc_some rfl) (fun z => absurd rfl z)
      cases e
      rw [sub0]
      by_cases y0 : y = 0
      · -- nothing to take away
        refine zp2_ifr (fun _ => ?_) (fun z => absurd y0 z)
        unfold fX12_stop_56 fX12_stop_57 fX12_stop_101 fX12_stop_168
        refine zp2_fails0 (fun t2 e2 => zp2_ifr (fun _ => zp2_ifr (fun _ => zp2_ifr (fun _ => zp2_ifr (fun _ => zp2_ckr ?_) (fun z => absurd rfl z)) (fun z => absurd y0 z)) (fun z => absurd y0 z)) (fun z => absurd rfl z))
        refine zp2_ifl (fun _ => ?_) (fun _ => zp2_some (by rw [e2]; exact same))
        refine zp2_bil (P := fun r => r.1 = s) ?_ (fun s1 v e => zp2_some ?_)
        · unfold fX1_changeStop fX1_changeStop_50 fX1_changeStop_87
          refine zpc_ck (zpc_bv (fun v3 e3 => zpc_bi pl (fun s1 v e => ?_)))
          cases e
          exact zpc_if (fun _ => zpc_if (fun _ => zpc_if (fun _ => zpc_ck (zpc_some rfl)) (fun z => absurd (by decide) z)) (fun z => absurd y0 z)) (fun z => absurd y0 z)
        · have e : s1 = s := e
          rw [e, e2]
          exact same
      · refine zp2_ifr (fun z => absurd z y0) (fun _ => zp2_ifr (fun _ => zp2_ckr ?_) (fun z => absurd rfl z))
        rw [e89]
        by_cases c : s.1 40 8 = 8
        · -- no room
          refine zp2_ifr (fun _ => ?_) (fun z => absurd c z)
          unfold fX12_stop_57 fX12_stop_64
          refine zp2_fails1 (fun t2 e2 => zp2_ifr (fun z => absurd z (by decide)) (fun _ => ?_))
          have nl : ¬ s.1 40 8 < 8 := by rw [c]; decide
          refine zp2_ifl (fun z => absurd z nl) (fun _ => zp2_some ?_)
          rw [e2]
          exact h1.th
        · refine zp2_ifr (fun z => absurd z c) (fun _ => ?_)
          have c' : ¬ (s.1 40 8).toInt = 8 := fun z => c (Int32.toInt_inj.mp z)
          have lt : s.1 40 8 < 8 := Int32.lt_iff_toInt_lt.mpr (by omega)
          have n8 : ¬ 8 ≤ s.1 40 8 := fun z => by have := Int32.le_iff_toInt_le.mp z; omega
          have tc : (s.1 40 8 + 1).toInt = (s.1 40 8).toInt + 1 := z_tadd r8 (zr_c (lo := 1) (hi := 1) (x := 1) (by decide)) (by decide)
          unfold fX12_stop_56 fX12_stop_57 fX12_stop_101 fX12_stop_168
          refine zp2_fails0 (fun t2 e2 => zp2_ifr (fun _ => zp2_ifr (fun z => absurd z y0) (fun _ => zp2_ifr (fun _ => zp2_ckr (zp2_ckr (zp2_bvr (fun t3 g3 => zp2_ckr (zp2_ckr (zp2_bvr (fun t4 g4 => zp2_ifr (fun z => absurd z y0) (fun _ => zp2_ckr ?_)))))))) (fun z => absurd rfl z))) (fun z => absurd rfl z))
          have hv2 : zVe s t2 := by rw [e2]; exact same.ve
          have g3 : t3 = zsi t2 3 89 (s.1 40 8 + 1) := by rw [g3, show zgi t2 3 (89 : Int32).toNatClampNeg = s.1 40 8 from hv2.n8]; rfl
          have d3 : zgi t3 3 (89 : Int32).toNatClampNeg = s.1 40 8 + 1 := by rw [g3]; exact zsi_ej
          have rc1 : zr 1 9 (s.1 40 8 + 1) := ⟨by omega, by omega⟩
          have kc := z_clamp (x := s.1 40 8 + 1) (by omega)
          have o1 : (89 + (s.1 40 8 + 1)).toNatClampNeg = 90 + (s.1 40 8).toNatClampNeg := by
            rw [z_off (x := s.1 40 8 + 1) (c := 89) (k := 89) (a := 0) (b := 9) (zr_w rc1 (by decide)) rfl (by decide)]
            omega
          rw [d3, o1] at g4
          refine zp2_ifl (fun _ => ?_) (fun z => absurd lt z)
          refine zp2_bil (P := fun r => r.1 = zsi (zsi s 40 (s.1 40 8).toNatClampNeg x) 40 8 (s.1 40 8 + 1)) ?_ (fun s1 v e => zp2_some ?_)
          · unfold fX1_changeStop fX1_changeStop_87
            refine zpc_ck (zpc_bv (fun v3 e3 => zpc_bi pl (fun s1 v e => ?_)))
            cases e
            have e3 : v3 = s.1 40 8 := e3
            subst e3
            refine zpc_if (fun z => absurd z y0) (fun _ => zpc_if (fun z => absurd z (by decide)) (fun _ => zpc_if (fun z => absurd z n8) (fun _ => zpc_ck (zpc_bv (fun s2 f2 => zpc_ck (zpc_bv (fun s3 f3 => zpc_ck (zpc_some ?_))))))))
            show s3 = _
            rw [f3, f2]
            rfl
          · have e : s1 = zsi (zsi s 40 (s.1 40 8).toNatClampNeg x) 40 8 (s.1 40 8 + 1) := e
            have et : t4 = zsi (zsi t2 3 (90 + (s.1 40 8).toNatClampNeg) x) 3 89 (s.1 40 8 + 1) := by
              rw [g4, g3]
              exact zsi_comm (by omega)
            show zNk J N B s1 t4
            rw [e, et]
            have h2 : zNk J N B s t2 := by rw [e2]; exact same
            exact h2.stp ((hv2.w40 (j := (s.1 40 8).toNatClampNeg) (by omega)).w408 ⟨by omega, by omega⟩) (zQ.wi (zQ.wi zQ.rf rfl) rfl) (zQ.wi (zQ.wi zQ.rf (zcv_m (a := 89) (b := 97) (by decide) (by omega) (by omega))) rfl)
    · -- x is a stop
      subst v1
      have pl : zpc (fX1_placeOfStop s x) (fun r => r = (s, Int32.ofNat p)) := zpc_mono cpl (fun r q => by
        obtain ⟨a1, a2⟩ := q
        rcases a2 with ⟨b1, b2⟩ | ⟨p', b1, b2, b3, b4⟩
        · exact absurd p2 (b2 p p1)
        · have ep : p' = p := by
            rcases Nat.lt_trichotomy p' p with z | z | z
            · exact absurd b3 (p3 p' z)
            · exact z
            · exact absurd p2 (b4 p z)
          rw [ep] at b1
          exact Prod.ext a1 b1)
      have ts : (s.1 40 8 - 1).toInt = (s.1 40 8).toInt - 1 := z_tsub (a := 1) (b := 8) ⟨by omega, r82⟩ (zr_c (lo := 1) (hi := 1) (x := 1) (by decide)) (by decide)
      refine zp2_bil (P := fun r => r = (s, s.1 40 8 - 1)) (zpc_ck (zpc_bi cS (fun s1 v e => ?_))) (fun s1 v e => ?_)
      · cases e
        exact zpc_if (fun z => absurd z (by decide)) (fun _ => zpc_some rfl)
      cases e
      have lt : s.1 40 8 - 1 < 8 := Int32.lt_iff_toInt_lt.mpr (by omega)
      have rp : zr 0 7 (Int32.ofNat p) := z_ofr (by omega) (by omega)
      have np : ¬ Int32.ofNat p < 0 := zq_lt rp rfl (by decide)
      have n56 : zp2 (zbi (fX1_changeStop s x y) (fun σ3 v4 => some (Sum.inl (σ3, v4) : zRi))) (fX12_stop_56 t1 x y 1) (fun r r' => zNk J N B (zRis r) r'.1) := by
        unfold fX12_stop_56 fX12_stop_57
        refine zp2_fails0 (fun t2 e2 => zp2_ifr (fun _ => ?_) (fun z => absurd rfl z))
        have h2 : zNk J N B s t2 := by rw [e2]; exact same
        have hv2 := h2.ve
        by_cases y0 : y = 0
        · refine zp2_ifr (fun _ => ?_) (fun z => absurd y0 z)
          unfold fX12_stop_101
          refine zp2_ifr (fun _ => zp2_ifr (fun z => absurd z (by decide)) (fun _ => ?_)) (fun z => absurd y0 z)
          have kq := z_clamp (x := s.1 40 8 - 1) (by omega)
          have m7 : (s.1 40 8 - 1) &&& 7 = s.1 40 8 - 1 := Int32.toInt_inj.mp (by
            rw [z_mask (k := 3) (by omega) rfl (by decide)]
            show (s.1 40 8 - 1).toInt % 8 = _
            omega)
          refine zp2_of (P := fun r => zRis r = zsi (zsi s 40 p (s.1 40 (s.1 40 8 - 1).toNatClampNeg)) 40 8 (s.1 40 8 - 1)) ?_ (m_112 hv2 p1 p2 p3 zfuel 0 (by omega)) (fun r r' q q' => ?_)
          · refine zpc_bi (P := fun r => r.1 = zsi (zsi s 40 p (s.1 40 (s.1 40 8 - 1).toNatClampNeg)) 40 8 (s.1 40 8 - 1)) ?_ (fun s1 v e => zpc_some e)
            unfold fX1_changeStop fX1_changeStop_50 fX1_changeStop_87
            refine zpc_ck (zpc_bv (fun v3 e3 => zpc_bi pl (fun s1 v e => ?_)))
            cases e
            have e3 : v3 = s.1 40 8 := e3
            subst e3
            rw [m7]
            refine zpc_if (fun _ => zpc_if (fun _ => zpc_if (fun z => absurd z np) (fun _ => zpc_ck (zpc_ck (zpc_bv (fun s2 f2 => zpc_ck (zpc_bv (fun s3 f3 => zpc_ck (zpc_some ?_)))))))) (fun z => absurd y0 z)) (fun z => absurd y0 z)
            rw [z_ofC (by omega)] at f2
            show s3 = _
            rw [f3, f2]
            rfl
          · rw [q, q']
            have ev : t2.1 3 (89 + (s.1 40 8).toNatClampNeg) = s.1 40 (s.1 40 8 - 1).toNatClampNeg := by
              have z := hv2.sj (j := (s.1 40 8 - 1).toNatClampNeg) (by omega)
              rw [← z, show 90 + (s.1 40 8 - 1).toNatClampNeg = 89 + (s.1 40 8).toNatClampNeg by omega]
            rw [ev]
            exact h2.stp ((hv2.w40 (j := p) (by omega)).w408 ⟨by omega, by omega⟩) (zQ.wi (zQ.wi zQ.rf rfl) rfl) (zQ.wi (zQ.wi zQ.rf (zcv_m (a := 89) (b := 97) (by decide) (by omega) (by omega))) rfl)
        · unfold fX12_stop_101 fX12_stop_168
          refine zp2_ifr (fun z => absurd z y0) (fun _ => zp2_ifr (fun z => absurd z (by decide)) (fun _ => zp2_ifr (fun z => absurd z y0) (fun _ => zp2_ckr ?_)))
          refine zp2_bil (P := fun r => r.1 = s) ?_ (fun s1 v e => zp2_some ?_)
          · unfold fX1_changeStop fX1_changeStop_50 fX1_changeStop_87
            refine zpc_ck (zpc_bv (fun v3 e3 => zpc_bi pl (fun s1 v e => ?_)))
            cases e
            exact zpc_if (fun z => absurd z y0) (fun _ => zpc_if (fun _ => zpc_if (fun z => absurd z y0) (fun _ => zpc_ck (zpc_some rfl))) (fun z => absurd (z_nlt np) z))
          · have e : s1 = s := e
            rw [e]
            exact h2
      refine zp2_ifl (fun _ => ?_) (fun z => absurd lt z)
      exact zp2_ifr (fun _ => n56) (fun _ => zp2_ifr (fun z => absurd z (by decide)) (fun _ => n56))
  · have hn := z_nin w (a := 0) (b := 65535) rfl rfl
    refine zp2_ifr (fun _ => zp2_fails1 (fun t1 e1 => ?_)) (fun q => absurd rfl q)
    refine zp2_ifr (fun q => absurd q (by decide)) (fun _ => ?_)
    have c0 : (0 : Int32).toInt = 0 := rfl
    have c1 : (65535 : Int32).toInt = 65535 := rfl
    have fin : zp2 (some (Sum.inr (s, 1) : zRi)) (some (t1, (0 : Int32))) (fun r r' => zNk J N B (zRis r) r'.1) := zp2_some (by rw [e1]; exact h.th)
    refine zp2_ifl (fun _ => fin) (fun q => zp2_ifl (fun q1 => ?_) (fun _ => fin))
    have r1 := Int32.le_iff_toInt_le.mp (z_nlt q)
    have r2 := Int32.le_iff_toInt_le.mp q1
    exfalso; omega

theorem bj_plan (h : zNk J N B s t) {x1 x2 x3 : Int32} : zp2 (fX11_plan s x1 x2 x3) (fX12_plan t x1 x2 x3) (zPlK J N B) := by
  obtain ⟨p1, p2, p3, p4, p5⟩ := h.1.1.2.2.2.2.1
  have c0 := p2.1
  have c1 := p2.2
  have s0 := p3.1
  have s1' := p3.2
  have kst := z_clamp p3.1
  have kc := z_clamp p2.1
  have z0 : (0 : Int32).toInt = 0 := rfl
  have e171 : zgi t 3 (171 : Int32).toNatClampNeg = s.1 42 769 := p1.symm
  rw [← p1] at c0 c1 kc
  -- the least time
  obtain ⟨lp, hl0, hlC, hlM⟩ : ∃ lp : Int32, 0 ≤ lp.toInt ∧ zpc (fX1_leastPlan s ) (fun r => r = (s, lp)) ∧ (∀ O : Option zRi, zp2 O (fX12_plan_36 t x1 x2 x3 lp) (zPlK J N B) → zp2 O (fX12_plan t x1 x2 x3) (zPlK J N B)) := by
    by_cases q : s.1 42 769 = 0
    · refine ⟨0, by rw [z0]; exact Int.le_refl _, ?_, fun O H => ?_⟩
      · unfold fX1_leastPlan fX1_leastPlan_34
        exact zpc_ck (zpc_if (fun _ => zpc_some rfl) (fun z => absurd q z))
      · unfold fX12_plan
        rw [e171]
        exact zp2_ckr (zp2_ifr (fun _ => H) (fun z => absurd q z))
    · have c2 : 1 ≤ (s.1 42 769).toInt := by
        have : ¬ (s.1 42 769).toInt = 0 := fun z => q (Int32.toInt_inj.mp z)
        omega
      have tq : (s.1 42 769 - 1).toInt = (s.1 42 769).toInt - 1 := z_tsub (a := 1) (b := 256) ⟨c2, c1⟩ (zr_c (lo := 1) (hi := 1) (x := 1) (by decide)) (by decide)
      have kq := z_clamp (x := s.1 42 769 - 1) (by omega)
      obtain ⟨w1, w2⟩ := z_pp (k := (s.1 42 769 - 1).toNatClampNeg) p3 (c := s.1 42 769 - 1) (by omega) (by omega)
      have kw := z_clamp w2.1
      have p4' := p4 (s.1 42 769 - 1).toNatClampNeg 0 (by rw [← p1]; omega) (by decide)
      have i1 : (3 * ((s.1 42 768 + (s.1 42 769 - 1)) &&& 255)).toNatClampNeg = 3 * (((s.1 42 768).toNatClampNeg + (s.1 42 769 - 1).toNatClampNeg) % 256) := by omega
      have t3 : (3 * (s.1 42 769 - 1)).toInt = 3 * (s.1 42 769 - 1).toInt := z_tmul (c := 0) (d := 255) (zr_c (lo := 3) (hi := 3) (x := 3) (by decide)) ⟨by omega, by omega⟩ (by decide)
      have i2 : (280 + (3 * (s.1 42 769 - 1))).toNatClampNeg = 280 + 3 * (s.1 42 769 - 1).toNatClampNeg := by
        have k3 := z_clamp (x := 3 * (s.1 42 769 - 1)) (by omega)
        rw [z_off (x := 3 * (s.1 42 769 - 1)) (c := 280) (k := 280) (a := 0) (b := 765) ⟨by omega, by omega⟩ rfl (by decide)]
        omega
      refine ⟨t.1 3 (280 + 3 * (s.1 42 769 - 1).toNatClampNeg), (p5 (s.1 42 769 - 1).toNatClampNeg (by rw [← p1]; omega)).2.2, ?_, fun O H => ?_⟩
      · unfold fX1_leastPlan fX1_leastPlan_34 fX1_placeOfPlan
        refine zpc_ck (zpc_if (fun z => absurd z q) (fun _ => zpc_ck (zpc_bi (P := fun r => r = (s, 3 * ((s.1 42 768 + (s.1 42 769 - 1)) &&& 255))) (zpc_ck (zpc_some rfl)) (fun s1 v e => zpc_ck (zpc_some ?_)))))
        cases e
        show (s, s.1 42 (3 * ((s.1 42 768 + (s.1 42 769 - 1)) &&& 255)).toNatClampNeg) = _
        rw [i1]
        have z := p4'
        rw [Nat.add_zero] at z
        rw [z]
        rfl
      · unfold fX12_plan
        rw [e171, i2]
        exact zp2_ckr (zp2_ifr (fun z => absurd z q) (fun _ => zp2_ckr (zp2_ckr H)))
  refine hlM _ ?_
  unfold fX11_plan fX11_plan_19
  refine zp2_bil hlC (fun s1 v e => ?_)
  cases e
  unfold fX12_plan_36 fX12_plan_71
  have no : ∀ O : Option zRi, O = some (Sum.inr (s, 1)) → zp2 O (fX12_plan_76 t x1 x2 x3 1) (zPlK J N B) := fun O eO => by
    unfold fX12_plan_76 fX12_plan_110
    refine zp2_fails1 (fun t1 e1 => zp2_ifr (fun z => absurd z (by decide)) (fun _ => ?_))
    rw [eO]
    refine zp2_some ⟨?_, Or.inl ⟨s, rfl, ?_⟩⟩
    · rw [e1]; exact h.th
    · rw [e1]; exact zTh_own
  refine zp2_if (fun _ => no _ rfl) (fun q => ?_)
  have ql := Int32.le_iff_toInt_le.mp (z_nlt q)
  have n0 : ¬ x1 < 0 := fun z => by have := Int32.lt_iff_toInt_lt.mp z; omega
  refine zp2_ifr (fun z => absurd z n0) (fun _ => ?_)
  refine zp2_bil c_can (fun s1 v e => ?_)
  obtain ⟨e1, e2⟩ := e
  have e1 : s1 = s := e1
  subst e1
  have e2 : (v = 1 ∧ 0 ≤ x2.toInt ∧ x2.toInt ≤ 1 ∧ 0 ≤ x3.toInt ∧ x3.toInt ≤ 63) ∨ (v = 0 ∧ ¬ (0 ≤ x2.toInt ∧ x2.toInt ≤ 1 ∧ 0 ≤ x3.toInt ∧ x3.toInt ≤ 63)) := e2
  refine zp2_within (fun w1 w2 => ?_) (fun w => ?_)
  · have hx := z_wir w1 w2 (zrl_c (lo := 0) (hi := 0) (by decide)) (zrl_c (lo := 1) (hi := 1) (by decide))
    refine zp2_ifr (fun z => absurd z (by decide)) (fun _ => zp2_within (fun v1 v2 => ?_) (fun v' => ?_))
    · have hy := z_wir v1 v2 (zrl_c (lo := 0) (hi := 0) (by decide)) (zrl_c (lo := 63) (hi := 63) (by decide))
      have ev : v = 1 := by
        rcases e2 with z | z
        · exact z.1
        · exact absurd ⟨hx.1, hx.2, hy.1, hy.2⟩ z.2
      refine zp2_ifr (fun z => absurd z (by decide)) (fun _ => zp2_ifl (fun z => absurd (ev.symm.trans z) (by decide)) (fun _ => ?_))
      unfold fX12_plan_76
      refine zp2_fails0 (fun t1 e1 => zp2_ifr (fun _ => zp2_ckr ?_) (fun z => absurd rfl z))
      have h1 : zNk J N B s1 t1 := by rw [e1]; exact h.th
      have f171 : zgi t1 3 (171 : Int32).toNatClampNeg = s1.1 42 769 := by rw [e1]; exact e171
      rw [f171]
      refine zp2_bil (P := fun r => r = (s1, s1.1 42 769)) (by unfold fX1_plansWaiting; exact zpc_ck (zpc_some rfl)) (fun s2 v2 e3 => ?_)
      cases e3
      have e256 : s1.1 42 769 < 256 ↔ ¬ s1.1 42 769 = 256 := by
        rw [Int32.lt_iff_toInt_lt, ← Int32.toInt_inj, show (256 : Int32).toInt = 256 from rfl]
        omega
      unfold fX12_plan_103 fX12_plan_110
      refine zp2_ifn e256 (fun lt _ => ?_) (fun _ _ => ?_)
      · have lt' := Int32.lt_iff_toInt_lt.mp lt
        rw [show (256 : Int32).toInt = 256 from rfl] at lt'
        refine zp2_fails0 (fun t2 e2' => zp2_ifr (fun _ => ?_) (fun z => absurd rfl z))
        have h2 : zNk J N B s1 t2 := by rw [e2']; exact h1.th
        obtain ⟨P1, P2, P3, P4, P5⟩ := h2.1.1.2.2.2.2.1
        have g171 : zgi t2 3 (171 : Int32).toNatClampNeg = s1.1 42 769 := P1.symm
        rw [g171]
        obtain ⟨n, en⟩ : ∃ n : Nat, (s1.1 42 769).toNatClampNeg = n := ⟨_, rfl⟩
        have hn : (s1.1 42 769).toInt = n := by omega
        obtain ⟨w1, w2⟩ := z_pp (k := n) P3 (c := s1.1 42 769) hn (by omega)
        obtain ⟨W, eW⟩ : ∃ W, W = 3 * ((s1.1 42 768 + s1.1 42 769) &&& 255) := ⟨_, rfl⟩
        rw [← eW] at w1 w2
        have kW := z_clamp w2.1
        have k68 := z_clamp P3.1
        have iW : W.toNatClampNeg = 3 * (((s1.1 42 768).toNatClampNeg + n) % 256) := by omega
        have W1 : (W + 1).toNatClampNeg = W.toNatClampNeg + 1 := by
          have ta := z_tadd w2 (zr_c (lo := 1) (hi := 1) (x := 1) (by decide)) (by decide)
          rw [show (1 : Int32).toInt = 1 from rfl] at ta
          have kk := z_clamp (x := W + 1) (by have := w2.1; omega)
          omega
        have W2 : (W + 2).toNatClampNeg = W.toNatClampNeg + 2 := by
          have ta := z_tadd w2 (zr_c (lo := 2) (hi := 2) (x := 2) (by decide)) (by decide)
          rw [show (2 : Int32).toInt = 2 from rfl] at ta
          have kk := z_clamp (x := W + 2) (by have := w2.1; omega)
          omega
        have t3 : (3 * s1.1 42 769).toInt = 3 * (s1.1 42 769).toInt := z_tmul (c := 0) (d := 255) (zr_c (lo := 3) (hi := 3) (x := 3) (by decide)) ⟨by omega, by omega⟩ (by decide)
        have r3 : zr 0 765 (3 * s1.1 42 769) := ⟨by omega, by omega⟩
        obtain ⟨V, eV⟩ : ∃ V, V = 280 + 3 * s1.1 42 769 := ⟨_, rfl⟩
        have rV : zr 280 1045 V := by rw [eV]; exact zr_add (zr_c (lo := 280) (hi := 280) (x := 280) (by decide)) r3 (by decide)
        have V0 : V.toNatClampNeg = 280 + 3 * n := by
          rw [eV, z_off r3 (k := 280) rfl (by decide)]
          have := z_clamp r3.1
          omega
        have kV := z_clamp (x := V) (by have := rV.1; omega)
        have V1 : (V + 1).toNatClampNeg = V.toNatClampNeg + 1 := by
          have ta := z_tadd rV (zr_c (lo := 1) (hi := 1) (x := 1) (by decide)) (by decide)
          rw [show (1 : Int32).toInt = 1 from rfl] at ta
          have kk := z_clamp (x := V + 1) (by have := rV.1; omega)
          omega
        have V2 : (V + 2).toNatClampNeg = V.toNatClampNeg + 2 := by
          have ta := z_tadd rV (zr_c (lo := 2) (hi := 2) (x := 2) (by decide)) (by decide)
          rw [show (2 : Int32).toInt = 2 from rfl] at ta
          have kk := z_clamp (x := V + 2) (by have := rV.1; omega)
          omega
        refine zp2_ckr (zp2_bvr (fun v3 ev3 => ?_))
        have ev3 : v3 = V := by rw [ev3, eV]
        subst ev3
        rw [V1, V2, V0]
        refine zp2_ckr (zp2_bvr (fun t4 g4 => zp2_ckr (zp2_bvr (fun t5 g5 => zp2_ckr (zp2_bvr (fun t6 g6 => zp2_ckr (zp2_ckr (zp2_bvr (fun t7 g7 => zp2_ckr ?_)))))))))
        have c171 : zgi t6 3 (171 : Int32).toNatClampNeg = s1.1 42 769 := by
          rw [g6, g5, g4]
          show (zsi (zsi (zsi t2 3 (280 + 3 * n) x1) 3 (280 + 3 * n + 1) x2) 3 (280 + 3 * n + 2) x3).1 3 171 = _
          rw [zsi_nj (by omega), zsi_nj (by omega), zsi_nj (by omega)]
          exact g171
        rw [c171] at g7
        have g7 : t7 = zsi (zsi (zsi (zsi t2 3 (280 + 3 * n) x1) 3 (280 + 3 * n + 1) x2) 3 (280 + 3 * n + 2) x3) 3 171 (s1.1 42 769 + 1) := by rw [g7, g6, g5, g4]; rfl
        refine zp2_bil (P := fun r => r.1 = zsi (zsi (zsi (zsi s1 42 W.toNatClampNeg x1) 42 (W.toNatClampNeg + 1) x2) 42 (W.toNatClampNeg + 2) x3) 42 769 (s1.1 42 769 + 1) ∧ r.2 = s1.1 42 769 + 1) ?_ (fun s8 v8 e8 => zp2_some ?_)
        · unfold fX1_addPlan fX1_placeOfPlan
          refine zpc_ck (zpc_bi (P := fun r => r = (s1, W)) (zpc_ck (zpc_some (by rw [eW]; rfl))) (fun s2 v2 e2 => ?_))
          cases e2
          rw [W1, W2]
          refine zpc_ck (zpc_bv (fun s3 f3 => zpc_ck (zpc_bv (fun s4 f4 => zpc_ck (zpc_bv (fun s5 f5 => zpc_ck (zpc_ck (zpc_bv (fun s6 f6 => zpc_ck (zpc_some ?_))))))))))
          have c769 : zgi s5 42 (769 : Int32).toNatClampNeg = s1.1 42 769 := by
            rw [f5, f4, f3]
            show (zsi (zsi (zsi s1 42 W.toNatClampNeg x1) 42 (W.toNatClampNeg + 1) x2) 42 (W.toNatClampNeg + 2) x3).1 42 769 = _
            rw [zsi_nj (by omega), zsi_nj (by omega), zsi_nj (by omega)]
          rw [c769] at f6
          refine ⟨?_, ?_⟩
          · show s6 = _
            rw [f6, f5, f4, f3]
            rfl
          · show s6.1 42 769 = _
            rw [f6]
            exact zsi_ej
        · obtain ⟨e8, e8v⟩ := e8
          have e8v : v8 = s1.1 42 769 + 1 := e8v
          have e8 : s8 = zsi (zsi (zsi (zsi s1 42 W.toNatClampNeg x1) 42 (W.toNatClampNeg + 1) x2) 42 (W.toNatClampNeg + 2) x3) 42 769 (s1.1 42 769 + 1) := e8
          have tc : (s1.1 42 769 + 1).toInt = (s1.1 42 769).toInt + 1 := z_tadd (a := 0) (b := 255) ⟨by omega, by omega⟩ (zr_c (lo := 1) (hi := 1) (x := 1) (by decide)) (by decide)
          have mt : ∀ j, t7.1 3 j = if j = 171 then s1.1 42 769 + 1 else if j = 280 + 3 * n + 2 then x3 else if j = 280 + 3 * n + 1 then x2 else if j = 280 + 3 * n then x1 else t2.1 3 j := fun j => by
            rw [g7]
            by_cases a1 : j = 171
            · rw [a1, zsi_ej, if_pos rfl]
            rw [zsi_nj a1, if_neg a1]
            by_cases a2 : j = 280 + 3 * n + 2
            · rw [a2, zsi_ej, if_pos rfl]
            rw [zsi_nj a2, if_neg a2]
            by_cases a3 : j = 280 + 3 * n + 1
            · rw [a3, zsi_ej, if_pos rfl]
            rw [zsi_nj a3, if_neg a3]
            by_cases a4 : j = 280 + 3 * n
            · rw [a4, zsi_ej, if_pos rfl]
            rw [zsi_nj a4, if_neg a4]
          have ct : ∀ j, s8.1 42 j = if j = 769 then s1.1 42 769 + 1 else if j = W.toNatClampNeg + 2 then x3 else if j = W.toNatClampNeg + 1 then x2 else if j = W.toNatClampNeg then x1 else s1.1 42 j := fun j => by
            rw [e8]
            by_cases a1 : j = 769
            · rw [a1, zsi_ej, if_pos rfl]
            rw [zsi_nj a1, if_neg a1]
            by_cases a2 : j = W.toNatClampNeg + 2
            · rw [a2, zsi_ej, if_pos rfl]
            rw [zsi_nj a2, if_neg a2]
            by_cases a3 : j = W.toNatClampNeg + 1
            · rw [a3, zsi_ej, if_pos rfl]
            rw [zsi_nj a3, if_neg a3]
            by_cases a4 : j = W.toNatClampNeg
            · rw [a4, zsi_ej, if_pos rfl]
            rw [zsi_nj a4, if_neg a4]
          have w765 := w2.2
          have t171 : t7.1 3 171 = s1.1 42 769 + 1 := by rw [mt, if_pos rfl]
          have c768 : s8.1 42 768 = s1.1 42 768 := by rw [ct, if_neg (by decide), if_neg (by omega), if_neg (by omega), if_neg (by omega)]
          have th2 : zTh 0 t2 := by rw [e2']; exact zTh_own
          refine ⟨?_, Or.inr (Or.inr ⟨s8, ?_, ?_⟩)⟩
          rotate_left
          · show Sum.inl (s8, v8) = Sum.inl (s8, t7.1 3 171)
            rw [e8v, t171]
          · show t7.1 0 0 = 0
            rw [g7, zsi_ne (by decide), zsi_ne (by decide), zsi_ne (by decide), zsi_ne (by decide)]
            exact th2
          show zNk J N B s8 t7
          refine h2.pln ⟨?_, ?_, ?_, fun k r hk hr => ?_, fun k hk => ?_⟩ (by rw [e8]; exact zQ.wi (zQ.wi (zQ.wi (zQ.wi zQ.rf rfl) rfl) rfl) rfl) (by rw [g7]; exact zQ.wi (zQ.wi (zQ.wi (zQ.wi zQ.rf (zcv_m (a := 280) (b := 1047) (by decide) (by omega) (by omega))) (zcv_m (a := 280) (b := 1047) (by decide) (by omega) (by omega))) (zcv_m (a := 280) (b := 1047) (by decide) (by omega) (by omega))) rfl)
          · rw [ct, if_pos rfl, t171]
          · rw [t171]; exact ⟨by omega, by omega⟩
          · rw [c768]; exact P3
          · rw [t171] at hk
            rw [c768, ct, mt]
            by_cases kn : k = n
            · subst kn
              rw [← iW]
              rcases (show r = 0 ∨ r = 1 ∨ r = 2 by omega) with z | z | z
              · subst z
                rw [if_neg (by omega), if_neg (by omega), if_neg (by omega), if_pos (by omega), if_neg (by omega), if_neg (by omega), if_neg (by omega), if_pos (by omega)]
              · subst z
                rw [if_neg (by omega), if_neg (by omega), if_pos (by omega), if_neg (by omega), if_neg (by omega), if_pos (by omega)]
              · subst z
                rw [if_neg (by omega), if_pos (by omega), if_neg (by omega), if_pos (by omega)]
            · have df : ¬ ((s1.1 42 768).toNatClampNeg + k) % 256 = ((s1.1 42 768).toNatClampNeg + n) % 256 := by omega
              rw [if_neg (by omega), if_neg (by omega), if_neg (by omega), if_neg (by omega), if_neg (by omega), if_neg (by omega), if_neg (by omega), if_neg (by omega)]
              exact P4 k r (by rw [← P1]; omega) hr
          · rw [t171] at hk
            rw [mt, mt, mt]
            by_cases kn : k = n
            · subst kn
              rw [if_neg (by omega), if_neg (by omega), if_pos (by omega), if_neg (by omega), if_pos (by omega), if_neg (by omega), if_neg (by omega), if_neg (by omega), if_pos (by omega)]
              exact ⟨hx, hy, by omega⟩
            · rw [if_neg (by omega), if_neg (by omega), if_neg (by omega), if_neg (by omega), if_neg (by omega), if_neg (by omega), if_neg (by omega), if_neg (by omega), if_neg (by omega), if_neg (by omega), if_neg (by omega), if_neg (by omega)]
              exact P5 k (by rw [← P1]; omega)
      · refine zp2_fails1 (fun t2 e2' => zp2_ifr (fun z => absurd z (by decide)) (fun _ => zp2_some ⟨?_, Or.inr (Or.inl ⟨s1, rfl, ?_⟩)⟩))
        · rw [e2']; exact h1.th
        · rw [e2']; exact zTh_own
    · have hn := z_nin v' (a := 0) (b := 63) rfl rfl
      have ev : v = 0 := by
        rcases e2 with z | z
        · omega
        · exact z.1
      refine zp2_ifr (fun _ => zp2_ifl (fun _ => no _ rfl) (fun z => absurd ev z)) (fun z => absurd rfl z)
  · have hn := z_nin w (a := 0) (b := 1) rfl rfl
    have ev : v = 0 := by
      rcases e2 with z | z
      · omega
      · exact z.1
    exact zp2_ifr (fun _ => zp2_ifl (fun _ => no _ rfl) (fun z => absurd ev z)) (fun z => absurd rfl z)

end ZCJ
end ZJN14
section ZJN15
/-! WHAT SOUNDS REST ON -/
section ZSU
variable {R R' S S' : List Nat} {A A' D D' : List (Nat × Nat × Nat)} {σ μ s t : zSt} {n : Int}
noncomputable def zSc (σ s : zSt) : Prop := (∀ j : Nat, 3 ≤ j → j ≤ 8 → s.1 30 j = σ.1 30 j) ∧ (∀ j : Nat, 14 ≤ j → j ≤ 16 → s.1 30 j = σ.1 30 j) ∧ (∀ j : Nat, 65 ≤ j → j ≤ 67 → s.1 32 j = σ.1 32 j) ∧ (∀ j : Nat, 128 ≤ j → j ≤ 271 → s.1 32 j = σ.1 32 j) ∧ (∀ j : Nat, 2 ≤ j → j ≤ 3 → s.1 11 j = σ.1 11 j) ∧ (∀ j : Nat, 2 ≤ j → j ≤ 3 → s.1 12 j = σ.1 12 j) ∧ (∀ j : Nat, 0 ≤ j → j ≤ 0 → s.2 38 j = σ.2 38 j) ∧ (∀ j : Nat, 3 ≤ j → j ≤ 6 → s.2 38 j = σ.2 38 j) ∧ (∀ j : Nat, j < 4096 → s.2 46 j = σ.2 46 j) ∧ (∀ j : Nat, j < 4096 → s.2 48 j = σ.2 48 j)
noncomputable def zSrm (μ t : zSt) : Prop := (∀ j : Nat, 72 ≤ j → j ≤ 77 → t.1 3 j = μ.1 3 j) ∧ (∀ j : Nat, 83 ≤ j → j ≤ 85 → t.1 3 j = μ.1 3 j) ∧ (∀ j : Nat, 87 ≤ j → j ≤ 88 → t.1 3 j = μ.1 3 j) ∧ (∀ j : Nat, 164 ≤ j → j ≤ 170 → t.1 3 j = μ.1 3 j) ∧ (∀ j : Nat, 172 ≤ j → j ≤ 279 → t.1 3 j = μ.1 3 j) ∧ (∀ j : Nat, 3 ≤ j → j ≤ 4 → t.2 4 j = μ.2 4 j) ∧ (∀ j : Nat, j < 4096 → t.2 10 j = μ.2 10 j) ∧ (∀ j : Nat, j < 4096 → t.2 11 j = μ.2 11 j)
noncomputable def zScb (R : List Nat) (A : List (Nat × Nat × Nat)) (S : List Nat) (D : List (Nat × Nat × Nat)) : Bool := zof R A 30 3 8 && (zof R A 30 14 16 && (zof R A 32 65 67 && (zof R A 32 128 271 && (zof R A 11 2 3 && (zof R A 12 2 3 && (zof S D 38 0 0 && (zof S D 38 3 6 && (zrw S D 46 && (zrw S D 48)))))))))
noncomputable def zSrmb (R : List Nat) (A : List (Nat × Nat × Nat)) (S : List Nat) (D : List (Nat × Nat × Nat)) : Bool := zof R A 3 72 77 && (zof R A 3 83 85 && (zof R A 3 87 88 && (zof R A 3 164 170 && (zof R A 3 172 279 && (zof S D 4 3 4 && (zrw S D 10 && (zrw S D 11)))))))
theorem zSc.of (a : zQ R A S D σ s) (c : zScb R A S D = true) : zSc σ s := by
  unfold zScb at c
  rw [Bool.and_eq_true, Bool.and_eq_true, Bool.and_eq_true, Bool.and_eq_true, Bool.and_eq_true, Bool.and_eq_true, Bool.and_eq_true, Bool.and_eq_true, Bool.and_eq_true] at c
  obtain ⟨c0, c1, c2, c3, c4, c5, c6, c7, c8, c9⟩ := c
  exact ⟨fun j x y => a.o c0 x y, fun j x y => a.o c1 x y, fun j x y => a.o c2 x y, fun j x y => a.o c3 x y, fun j x y => a.o c4 x y, fun j x y => a.o c5 x y, fun j x y => a.lo c6 x y, fun j x y => a.lo c7 x y, fun j _ => by rw [a.rlo c8], fun j _ => by rw [a.rlo c9]⟩
theorem zSrm.of (a : zQ R A S D μ t) (c : zSrmb R A S D = true) : zSrm μ t := by
  unfold zSrmb at c
  rw [Bool.and_eq_true, Bool.and_eq_true, Bool.and_eq_true, Bool.and_eq_true, Bool.and_eq_true, Bool.and_eq_true, Bool.and_eq_true] at c
  obtain ⟨c0, c1, c2, c3, c4, c5, c6, c7⟩ := c
  exact ⟨fun j x y => a.o c0 x y, fun j x y => a.o c1 x y, fun j x y => a.o c2 x y, fun j x y => a.o c3 x y, fun j x y => a.o c4 x y, fun j x y => a.lo c5 x y, fun j _ => by rw [a.rlo c6], fun j _ => by rw [a.rlo c7]⟩
/-- sounds as they were kept -/
noncomputable def zKsn (σ : zSt) : zSt := (fun k j => bif Nat.beq k 30 then σ.1 31 j else bif Nat.beq k 32 then σ.1 33 j else bif Nat.beq k 11 then σ.1 11 (j + 2) else bif Nat.beq k 12 then σ.1 12 (j + 2) else σ.1 k j, fun k j => bif Nat.beq k 38 then σ.2 39 j else bif Nat.beq k 46 then σ.2 47 j else bif Nat.beq k 48 then σ.2 49 j else σ.2 k j)
noncomputable def zKtn (μ : zSt) : zSt := (fun k j => bif Nat.beq k 3 then μ.1 12 j else μ.1 k j, fun k j => bif Nat.beq k 4 then μ.2 13 j else bif Nat.beq k 10 then μ.2 19 j else bif Nat.beq k 11 then μ.2 20 j else μ.2 k j)
theorem zKsn.of (a : zQ R A S D σ s) (c : (zrw R A 31 && (zrw R A 33 && (zof R A 11 4 5 && (zof R A 12 4 5 && (zrw S D 39 && (zrw S D 47 && zrw S D 49)))))) = true) : zSc (zKsn σ) (zKsn s) := by
  rw [Bool.and_eq_true, Bool.and_eq_true, Bool.and_eq_true, Bool.and_eq_true, Bool.and_eq_true, Bool.and_eq_true] at c
  obtain ⟨c0, c1, c2, c3, c4, c5, c6⟩ := c
  have e0 := a.ro c0
  have e1 := a.ro c1
  have e4 := a.rlo c4
  have e5 := a.rlo c5
  have e6 := a.rlo c6
  refine ⟨fun j _ _ => ?_, fun j _ _ => ?_, fun j _ _ => ?_, fun j _ _ => ?_, fun j x y => ?_, fun j x y => ?_, fun j _ _ => ?_, fun j _ _ => ?_, fun j _ => ?_, fun j _ => ?_⟩
  · show s.1 31 j = σ.1 31 j
    rw [e0]
  · show s.1 31 j = σ.1 31 j
    rw [e0]
  · show s.1 33 j = σ.1 33 j
    rw [e1]
  · show s.1 33 j = σ.1 33 j
    rw [e1]
  · show s.1 11 (j + 2) = σ.1 11 (j + 2)
    exact a.o c2 (by omega) (by omega)
  · show s.1 12 (j + 2) = σ.1 12 (j + 2)
    exact a.o c3 (by omega) (by omega)
  · show s.2 39 j = σ.2 39 j
    rw [e4]
  · show s.2 39 j = σ.2 39 j
    rw [e4]
  · show s.2 47 j = σ.2 47 j
    rw [e5]
  · show s.2 49 j = σ.2 49 j
    rw [e6]
theorem zKtn.of (a : zQ R A S D μ t) (c : (zrw R A 12 && (zrw S D 13 && (zrw S D 19 && zrw S D 20))) = true) : zSrm (zKtn μ) (zKtn t) := by
  rw [Bool.and_eq_true, Bool.and_eq_true, Bool.and_eq_true] at c
  obtain ⟨c0, c1, c2, c3⟩ := c
  have e0 := a.ro c0
  have e1 := a.rlo c1
  have e2 := a.rlo c2
  have e3 := a.rlo c3
  refine ⟨fun j _ _ => ?_, fun j _ _ => ?_, fun j _ _ => ?_, fun j _ _ => ?_, fun j _ _ => ?_, fun j _ _ => ?_, fun j _ => ?_, fun j _ => ?_⟩
  · show t.1 12 j = μ.1 12 j
    rw [e0]
  · show t.1 12 j = μ.1 12 j
    rw [e0]
  · show t.1 12 j = μ.1 12 j
    rw [e0]
  · show t.1 12 j = μ.1 12 j
    rw [e0]
  · show t.1 12 j = μ.1 12 j
    rw [e0]
  · show t.2 13 j = μ.2 13 j
    rw [e1]
  · show t.2 19 j = μ.2 19 j
    rw [e2]
  · show t.2 20 j = μ.2 20 j
    rw [e3]
/-- what calls want of a part of the state -/
noncomputable def zJw (J : Int → zSt → zSt → Prop) : Prop := zJok J ∧ (∀ n σ μ s t, J n σ μ → zSc σ s → zSrm μ t → J n s t) ∧ (∀ n σ μ s t, J n σ μ → zCx σ s → zAx μ t → J n s t) ∧ (∀ n σ μ, J n σ μ → zp2 (fX11_hear σ ) (fX12_hear μ ) (fun r r' => J n (zRls r) r'.1)) ∧ (∀ n σ μ, J n σ μ → zp2 (fX11_mix σ ) (fX12_mix μ ) (fun r r' => J n (zRls r) r'.1))
theorem v_hear (h : zRg 11 46 88 87 10 σ μ) : zp2 (fX11_hear σ ) (fX12_hear μ ) (fun r r' => zAnl 3 r r' ∧ zRg 11 46 88 87 10 (zRls r) r'.1 ∧ zQ [] [(11, 2, 3)] [] [] σ (zRls r) ∧ zQ [] [(0, 0, 0), (3, 87, 88)] [] [] μ r'.1) := by
  obtain ⟨e2, e3, ev, r2, r3⟩ := h
  have r2' : zr 0 4095 (σ.1 11 2) := by rw [e2]; exact r2
  have r3' : zr 0 4096 (σ.1 11 3) := by rw [e3]; exact r3
  have x0 := r2'.1
  have x1 := r2'.2
  have y0 := r3'.1
  have y1 := r3'.2
  have c1 : (1 : Int32).toInt = 1 := rfl
  have mm : σ.1 11 2 &&& 4095 = σ.1 11 2 := Int32.toInt_inj.mp (by
    rw [(z_4095 (x := σ.1 11 2) (b := 100000) ⟨x0, by omega⟩ (by decide)).1]
    omega)
  have t2 := z_tadd r2' (zr_c (lo := 1) (hi := 1) (x := 1) (by decide)) (by decide)
  have t3 := z_tsub r3' (zr_c (lo := 1) (hi := 1) (x := 1) (by decide)) (by decide)
  obtain ⟨wi, wr⟩ := z_4095 (x := σ.1 11 2 + 1) (b := 100000) ⟨by omega, by omega⟩ (by decide)
  unfold fX11_hear fX12_hear fX6_size_k11
  refine zp2_bil (P := fun r => r = (σ, σ.1 11 3)) (zpc_some rfl) (fun s1 v1 e => ?_)
  cases e
  rw [show zgi μ 3 (87 : Int32).toNatClampNeg = σ.1 11 3 from e3.symm]
  refine zp2_ckr (zp2_if (fun q => ?_) (fun q => ?_))
  · unfold fX12_hear_16
    refine zp2_fails1 (fun t1 f1 => zp2_ifr (fun z => absurd z (by decide)) (fun _ => zp2_some ?_))
    refine ⟨Or.inl ⟨σ, rfl, by rw [f1]; exact zTh_own⟩, ?_, zQ.rf, by rw [f1]; exact zQ.wi zQ.rf rfl⟩
    show zRg 11 46 88 87 10 σ t1
    rw [f1]
    exact ⟨e2, e3, ev, r2, r3⟩
  · refine zp2_bll (P := fun r => r = (zsi (zsi σ 11 2 ((σ.1 11 2 + 1) &&& 4095)) 11 3 (σ.1 11 3 - 1), σ.2 46 (σ.1 11 2).toNatClampNeg)) ?_ (fun s3 v3 e => ?_)
    · unfold fX6_takeFirst_k11
      refine zpc_if (fun z => absurd z q) (fun _ => ?_)
      rw [show zgi σ 11 2 = σ.1 11 2 from rfl, mm]
      refine zpc_ck (zpc_bv (fun v1 f1 => zpc_bv (fun s2 f2 => zpc_bv (fun s3 f3 => zpc_some ?_))))
      rw [f1, f3, f2]
      rfl
    cases e
    unfold fX12_hear_16
    refine zp2_fails0 (fun t1 f1 => zp2_ifr (fun _ => ?_) (fun z => absurd rfl z))
    have g88 : zgi t1 3 (88 : Int32).toNatClampNeg = σ.1 11 2 := by
      rw [f1]
      show (zsi μ 0 0 0).1 3 88 = _
      rw [zsi_ne (by decide)]
      exact e2.symm
    have g87 : ∀ v : Int32, zgi (zsi t1 3 (88 : Int32).toNatClampNeg v) 3 (87 : Int32).toNatClampNeg = σ.1 11 3 := fun v => by
      rw [f1]
      show (zsi (zsi μ 0 0 0) 3 88 v).1 3 87 = _
      rw [zsi_nj (by decide), zsi_ne (by decide)]
      exact e3.symm
    rw [g88]
    refine zp2_ckr (zp2_ckr (zp2_bvr (fun v3 h3 => zp2_ckr (zp2_ckr (zp2_ckr (zp2_bvr (fun t4 h4 => zp2_ckr (zp2_ckr (zp2_bvr (fun t5 h5 => zp2_some ?_))))))))))
    rw [wr] at h4
    rw [h4, g87] at h5
    have k4 : v3 = σ.2 46 (σ.1 11 2).toNatClampNeg := by
      rw [h3, f1]
      exact (ev _ (by have := z_clamp x0; omega)).symm
    have h5 : t5 = zsi (zsi t1 3 88 ((σ.1 11 2 + 1) &&& 4095)) 3 87 (σ.1 11 3 - 1) := h5
    have w88 : t5.1 3 88 = (σ.1 11 2 + 1) &&& 4095 := by rw [h5, zsi_nj (by decide), zsi_ej]
    have w87 : t5.1 3 87 = σ.1 11 3 - 1 := by rw [h5, zsi_ej]
    have q0 : ¬ (σ.1 11 3).toInt = 0 := fun z => q (Int32.toInt_inj.mp (by rw [z]; rfl))
    refine ⟨Or.inr ⟨zsi (zsi σ 11 2 ((σ.1 11 2 + 1) &&& 4095)) 11 3 (σ.1 11 3 - 1), ?_, ?_⟩, ⟨?_, ?_, fun j hj => ?_, ?_, ?_⟩, zQ.wi (zQ.wi zQ.rf rfl) rfl, ?_⟩
    · show _ = Sum.inl (zsi (zsi σ 11 2 ((σ.1 11 2 + 1) &&& 4095)) 11 3 (σ.1 11 3 - 1), v3)
      rw [k4]
    · show t5.1 0 0 = 0
      rw [h5, zsi_ne (by decide), zsi_ne (by decide), f1, zsi_ej]
    · show (zsi (zsi σ 11 2 ((σ.1 11 2 + 1) &&& 4095)) 11 3 (σ.1 11 3 - 1)).1 11 2 = t5.1 3 88
      rw [zsi_nj (by decide), zsi_ej, w88]
    · show (zsi (zsi σ 11 2 ((σ.1 11 2 + 1) &&& 4095)) 11 3 (σ.1 11 3 - 1)).1 11 3 = t5.1 3 87
      rw [zsi_ej, w87]
    · show σ.2 46 j = t5.2 10 j
      rw [h5, f1]
      exact ev j hj
    · show zr 0 4095 (t5.1 3 88)
      rw [w88]
      exact ⟨by rw [wi]; omega, by rw [wi]; omega⟩
    · show zr 0 4096 (t5.1 3 87)
      rw [w87]
      exact ⟨by omega, by omega⟩
    · show zQ _ _ _ _ μ t5
      rw [h5, f1]
      exact zQ.wi (zQ.wi (zQ.wi zQ.rf rfl) rfl) rfl
theorem v_mix (h : zRg 12 48 170 169 11 σ μ) : zp2 (fX11_mix σ ) (fX12_mix μ ) (fun r r' => zAnl 3 r r' ∧ zRg 12 48 170 169 11 (zRls r) r'.1 ∧ zQ [] [(12, 2, 3)] [] [] σ (zRls r) ∧ zQ [] [(0, 0, 0), (3, 169, 170)] [] [] μ r'.1) := by
  obtain ⟨e2, e3, ev, r2, r3⟩ := h
  have r2' : zr 0 4095 (σ.1 12 2) := by rw [e2]; exact r2
  have r3' : zr 0 4096 (σ.1 12 3) := by rw [e3]; exact r3
  have x0 := r2'.1
  have x1 := r2'.2
  have y0 := r3'.1
  have y1 := r3'.2
  have c1 : (1 : Int32).toInt = 1 := rfl
  have mm : σ.1 12 2 &&& 4095 = σ.1 12 2 := Int32.toInt_inj.mp (by
    rw [(z_4095 (x := σ.1 12 2) (b := 100000) ⟨x0, by omega⟩ (by decide)).1]
    omega)
  have t2 := z_tadd r2' (zr_c (lo := 1) (hi := 1) (x := 1) (by decide)) (by decide)
  have t3 := z_tsub r3' (zr_c (lo := 1) (hi := 1) (x := 1) (by decide)) (by decide)
  obtain ⟨wi, wr⟩ := z_4095 (x := σ.1 12 2 + 1) (b := 100000) ⟨by omega, by omega⟩ (by decide)
  unfold fX11_mix fX12_mix fX6_size_k12
  refine zp2_bil (P := fun r => r = (σ, σ.1 12 3)) (zpc_some rfl) (fun s1 v1 e => ?_)
  cases e
  rw [show zgi μ 3 (169 : Int32).toNatClampNeg = σ.1 12 3 from e3.symm]
  refine zp2_ckr (zp2_if (fun q => ?_) (fun q => ?_))
  · unfold fX12_mix_17
    refine zp2_fails1 (fun t1 f1 => zp2_ifr (fun z => absurd z (by decide)) (fun _ => zp2_some ?_))
    refine ⟨Or.inl ⟨σ, rfl, by rw [f1]; exact zTh_own⟩, ?_, zQ.rf, by rw [f1]; exact zQ.wi zQ.rf rfl⟩
    show zRg 12 48 170 169 11 σ t1
    rw [f1]
    exact ⟨e2, e3, ev, r2, r3⟩
  · refine zp2_bll (P := fun r => r = (zsi (zsi σ 12 2 ((σ.1 12 2 + 1) &&& 4095)) 12 3 (σ.1 12 3 - 1), σ.2 48 (σ.1 12 2).toNatClampNeg)) ?_ (fun s3 v3 e => ?_)
    · unfold fX6_takeFirst_k12
      refine zpc_if (fun z => absurd z q) (fun _ => ?_)
      rw [show zgi σ 12 2 = σ.1 12 2 from rfl, mm]
      refine zpc_ck (zpc_bv (fun v1 f1 => zpc_bv (fun s2 f2 => zpc_bv (fun s3 f3 => zpc_some ?_))))
      rw [f1, f3, f2]
      rfl
    cases e
    unfold fX12_mix_17
    refine zp2_fails0 (fun t1 f1 => zp2_ifr (fun _ => ?_) (fun z => absurd rfl z))
    have g88 : zgi t1 3 (170 : Int32).toNatClampNeg = σ.1 12 2 := by
      rw [f1]
      show (zsi μ 0 0 0).1 3 170 = _
      rw [zsi_ne (by decide)]
      exact e2.symm
    have g87 : ∀ v : Int32, zgi (zsi t1 3 (170 : Int32).toNatClampNeg v) 3 (169 : Int32).toNatClampNeg = σ.1 12 3 := fun v => by
      rw [f1]
      show (zsi (zsi μ 0 0 0) 3 170 v).1 3 169 = _
      rw [zsi_nj (by decide), zsi_ne (by decide)]
      exact e3.symm
    rw [g88]
    refine zp2_ckr (zp2_ckr (zp2_bvr (fun v3 h3 => zp2_ckr (zp2_ckr (zp2_ckr (zp2_bvr (fun t4 h4 => zp2_ckr (zp2_ckr (zp2_bvr (fun t5 h5 => zp2_some ?_))))))))))
    rw [wr] at h4
    rw [h4, g87] at h5
    have k4 : v3 = σ.2 48 (σ.1 12 2).toNatClampNeg := by
      rw [h3, f1]
      exact (ev _ (by have := z_clamp x0; omega)).symm
    have h5 : t5 = zsi (zsi t1 3 170 ((σ.1 12 2 + 1) &&& 4095)) 3 169 (σ.1 12 3 - 1) := h5
    have w88 : t5.1 3 170 = (σ.1 12 2 + 1) &&& 4095 := by rw [h5, zsi_nj (by decide), zsi_ej]
    have w87 : t5.1 3 169 = σ.1 12 3 - 1 := by rw [h5, zsi_ej]
    have q0 : ¬ (σ.1 12 3).toInt = 0 := fun z => q (Int32.toInt_inj.mp (by rw [z]; rfl))
    refine ⟨Or.inr ⟨zsi (zsi σ 12 2 ((σ.1 12 2 + 1) &&& 4095)) 12 3 (σ.1 12 3 - 1), ?_, ?_⟩, ⟨?_, ?_, fun j hj => ?_, ?_, ?_⟩, zQ.wi (zQ.wi zQ.rf rfl) rfl, ?_⟩
    · show _ = Sum.inl (zsi (zsi σ 12 2 ((σ.1 12 2 + 1) &&& 4095)) 12 3 (σ.1 12 3 - 1), v3)
      rw [k4]
    · show t5.1 0 0 = 0
      rw [h5, zsi_ne (by decide), zsi_ne (by decide), f1, zsi_ej]
    · show (zsi (zsi σ 12 2 ((σ.1 12 2 + 1) &&& 4095)) 12 3 (σ.1 12 3 - 1)).1 12 2 = t5.1 3 170
      rw [zsi_nj (by decide), zsi_ej, w88]
    · show (zsi (zsi σ 12 2 ((σ.1 12 2 + 1) &&& 4095)) 12 3 (σ.1 12 3 - 1)).1 12 3 = t5.1 3 169
      rw [zsi_ej, w87]
    · show σ.2 48 j = t5.2 11 j
      rw [h5, f1]
      exact ev j hj
    · show zr 0 4095 (t5.1 3 170)
      rw [w88]
      exact ⟨by rw [wi]; omega, by rw [wi]; omega⟩
    · show zr 0 4096 (t5.1 3 169)
      rw [w87]
      exact ⟨by omega, by omega⟩
    · show zQ _ _ _ _ μ t5
      rw [h5, f1]
      exact zQ.wi (zQ.wi (zQ.wi zQ.rf rfl) rfl) rfl
/-! tones -/
theorem zJ1_w (h : zJ1 n σ μ) (a : zSc σ s) (b : zSrm μ t) : zJ1 n s t := by
  obtain ⟨⟨⟨h1, h2, h3, h4, h5, h6, h7⟩, ⟨e2, e3, ev, r2, r3⟩, h8, h9⟩, h10, h11⟩ := h
  obtain ⟨a1, a2, a3, a4, a5, a6, a7, a8, a9, a10⟩ := a
  obtain ⟨b1, b2, b3, b4, b5, b6, b7, b8⟩ := b
  have a7 : s.2 38 0 = σ.2 38 0 := a7 0 (by decide) (by decide)
  refine ⟨⟨⟨fun j x y => ?_, fun j x y => ?_, fun j x y => ?_, fun j x y => ?_, ?_, ?_, ?_⟩, ⟨?_, ?_, fun j hj => ?_, ?_, ?_⟩, ?_, ?_⟩, ?_, ?_⟩
  · rw [a1 j x y, b1 (69 + j) (by omega) (by omega)]; exact h1 j x y
  · rw [a2 j x y, b2 (69 + j) (by omega) (by omega)]; exact h2 j x y
  · rw [a1 j (by omega) (by omega)]; exact h3 j x y
  · rw [a1 j (by omega) (by omega)]; exact h4 j x y
  · rw [a2 14 (by decide) (by decide)]; exact h5
  · rw [a2 15 (by decide) (by decide)]; exact h6
  · rw [a2 16 (by decide) (by decide)]; exact h7
  · rw [a5 2 (by decide) (by decide), b3 88 (by decide) (by decide)]; exact e2
  · rw [a5 3 (by decide) (by decide), b3 87 (by decide) (by decide)]; exact e3
  · rw [a9 j hj, b7 j hj]; exact ev j hj
  · rw [b3 88 (by decide) (by decide)]; exact r2
  · rw [b3 87 (by decide) (by decide)]; exact r3
  · rw [a8 3 (by decide) (by decide), b6 3 (by decide) (by decide)]; exact h8
  · unfold zSmn
    rw [a7, a8 4 (by decide) (by decide), a8 5 (by decide) (by decide), a8 6 (by decide) (by decide), b4 166 (by decide) (by decide), b4 167 (by decide) (by decide), b4 168 (by decide) (by decide)]
    exact h9
  · rw [a7]; exact h10
  · rw [a7]; exact h11
theorem zTo_new (c30 : ∀ j : Nat, j < 19 → s.1 30 j = if j = 18 then 255 else if j = 16 then 32768 else if 9 ≤ j ∧ j ≤ 12 then 15 else 0) (m3 : ∀ j : Nat, 47 ≤ j → j ≤ 86 → t.1 3 j = if 78 ≤ j ∧ j ≤ 81 then 15 else if j = 85 then 32768 else 0) : zTo s t := by
  have k3 : ∀ j : Nat, 3 ≤ j → j ≤ 8 → s.1 30 j = 0 := fun j x y => by rw [c30 j (by omega), if_neg (by omega), if_neg (by omega), if_neg (by omega)]
  have k14 : s.1 30 14 = 0 := (c30 14 (by decide)).trans rfl
  have k15 : s.1 30 15 = 0 := (c30 15 (by decide)).trans rfl
  have k16 : s.1 30 16 = 32768 := (c30 16 (by decide)).trans rfl
  have l3 : ∀ j : Nat, 72 ≤ j → j ≤ 77 → t.1 3 j = 0 := fun j x y => by rw [m3 j (by omega) (by omega), if_neg (by omega), if_neg (by omega)]
  have l83 : t.1 3 83 = 0 := (m3 83 (by decide) (by decide)).trans rfl
  have l84 : t.1 3 84 = 0 := (m3 84 (by decide) (by decide)).trans rfl
  have l85 : t.1 3 85 = 32768 := (m3 85 (by decide) (by decide)).trans rfl
  refine ⟨fun j x y => ?_, fun j x y => ?_, fun j x y => ?_, fun j x y => ?_, ?_, ?_, ?_⟩
  · rw [k3 j x y, l3 (69 + j) (by omega) (by omega)]
  · rcases (show j = 14 ∨ j = 15 ∨ j = 16 by omega) with rfl | rfl | rfl
    · exact l83.trans k14.symm
    · exact l84.trans k15.symm
    · exact l85.trans k16.symm
  · rw [k3 j (by omega) (by omega)]; exact zr_c (by decide)
  · rw [k3 j (by omega) (by omega)]; exact zr_c (by decide)
  · rw [k14]; exact zr_c (by decide)
  · rw [k15]; exact zr_c (by decide)
  · rw [k16]; exact zr_c (by decide)
theorem zJ1_r (h : zJ1 n σ μ) (a : zCx σ s) (b : zAx μ t) : zJ1 n s t := by
  obtain ⟨⟨_, h2, h3, h4⟩, h5, h6⟩ := h
  obtain ⟨q1, _, _, _, c30, _⟩ := a
  obtain ⟨q2, _, m3, _⟩ := b
  have e38 : s.2 38 = σ.2 38 := q1.rlo (k := 38) rfl
  refine ⟨⟨zTo_new c30 m3, h2.kp q1 q2 rfl rfl rfl rfl rfl, ?_, ?_⟩, ?_, ?_⟩
  · rw [e38, q2.rlo (k := 4) rfl]; exact h3
  · rw [e38]; exact h4.kp q1 q2 rfl rfl
  · rw [e38]; exact h5
  · rw [e38]; exact h6
theorem zJ1_h (h : zJ1 n σ μ) : zp2 (fX11_hear σ ) (fX12_hear μ ) (fun r r' => zJ1 n (zRls r) r'.1) := zp2_mono (v_hear h.1.2.1) (fun r r' q => by
  obtain ⟨_, q2, q3, q4⟩ := q
  obtain ⟨⟨h1, _, h3, h4⟩, h5, h6⟩ := h
  have e38 : (zRls r).2 38 = σ.2 38 := q3.rlo (k := 38) rfl
  refine ⟨⟨h1.kp q3 q4 rfl rfl, q2, ?_, ?_⟩, ?_, ?_⟩
  · rw [e38, q4.rlo (k := 4) rfl]; exact h3
  · rw [e38]; exact h4.kp q3 q4 rfl rfl
  · rw [e38]; exact h5
  · rw [e38]; exact h6)
theorem zJ1_m (h : zJ1 n σ μ) : zp2 (fX11_mix σ ) (fX12_mix μ ) (fun r r' => zJ1 n (zRls r) r'.1) := fun a b ea eb => by
  have q3 := fh_fX11_mix (σ0 := σ) zQ.rf a ea
  have q4 := fH_fX12_mix (σ0 := μ) zQ.rf b eb
  obtain ⟨h1, h5, h6⟩ := h
  have e38 : (zRls a).2 38 = σ.2 38 := q3.rlo (k := 38) rfl
  refine ⟨?_, ?_, ?_⟩
  · rw [e38]; exact h1.kp q3 q4 rfl rfl
  · rw [e38]; exact h5
  · rw [e38]; exact h6
theorem zJ1_jw : zJw zJ1 := ⟨zJ1_ok, fun _ _ _ _ _ h a b => zJ1_w h a b, fun _ _ _ _ _ h a b => zJ1_r h a b, fun _ _ _ h => zJ1_h h, fun _ _ _ h => zJ1_m h⟩
end ZSU
end ZJN15
