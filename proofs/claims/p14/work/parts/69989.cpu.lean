/-! WHAT IS KEPT -/
def zkp {α : Type} (g : Nat → α → α) (f : Nat → Nat → α) (k j : Nat) : List (Nat × Nat × Nat) → α
  | [] => f k j
  | t :: l => bif (Nat.beq t.1 k && Nat.blt j t.2.2) then g k (f t.2.1 j) else zkp g f k j l
def zsv : List (Nat × Nat × Nat) := [(42, 43, 770), (40, 41, 9), (36, 37, 29), (34, 35, 12), (32, 33, 272), (30, 31, 19), (25, 26, 61440), (23, 24, 96), (21, 22, 16384), (19, 20, 4), (17, 18, 32768), (15, 16, 8192)]
def zsm : List (Nat × Nat × Nat) := [(9, 18, 61440), (8, 17, 64), (7, 16, 16384), (6, 15, 32768), (5, 14, 8192), (3, 12, 1048)]
def zid {α : Type} (_ : Nat) (v : α) : α := v
def zmb (k : Nat) (v : Int32) : Int32 := bif (Nat.ble 5 k && Nat.ble k 8) then vp_nar .byte v else v
/-- the class, the reference as they were kept -/
def zKc (σ : zSt) : zSt := (fun k j => zkp zid σ.1 k j zsv, fun k j => zkp zid σ.2 k j [(38, 39, 7)])
def zKm (μ : zSt) : zSt := (fun k j => zkp zmb μ.1 k j zsm, fun k j => zkp zid μ.2 k j [(4, 13, 5)])
theorem zkp_of {α : Type} {g : Nat → α → α} {f f0 : Nat → Nat → α} {k j : Nat} (h0 : f k j = f0 k j) : ∀ {l : List (Nat × Nat × Nat)}, (∀ t ∈ l, ∀ i : Nat, i < t.2.2 → g t.1 (f t.2.1 i) = f0 t.1 i) → zkp g f k j l = f0 k j
  | [], _ => h0
  | t :: l, h => by
    unfold zkp
    cases q : (Nat.beq t.1 k && Nat.blt j t.2.2) with
    | true =>
      rw [Bool.and_eq_true] at q
      have e : t.1 = k := Nat.eq_of_beq_eq_true q.1
      have z := h t List.mem_cons_self j (Nat.le_of_ble_eq_true q.2)
      rw [e] at z
      exact z
    | false => exact zkp_of h0 (fun t ht => h t (List.mem_cons_of_mem _ ht))
theorem zkp_rev {α : Type} {g : Nat → α → α} {f r : Nat → Nat → α} {k j : Nat} : ∀ {l : List (Nat × Nat × Nat)}, (∀ t ∈ l, ∀ i : Nat, i < t.2.2 → r t.1 i = g t.1 (f t.2.1 i)) → ((∀ t ∈ l, t.1 = k → ¬ j < t.2.2) → r k j = f k j) → r k j = zkp g f k j l
  | [], _, h0 => h0 (fun _ h => absurd h List.not_mem_nil)
  | t :: l, h, h0 => by
    unfold zkp
    cases q : (Nat.beq t.1 k && Nat.blt j t.2.2) with
    | true =>
      rw [Bool.and_eq_true] at q
      have e : t.1 = k := Nat.eq_of_beq_eq_true q.1
      have z := h t List.mem_cons_self j (Nat.le_of_ble_eq_true q.2)
      rw [e] at z
      exact z
    | false =>
      refine zkp_rev (fun t ht => h t (List.mem_cons_of_mem _ ht)) (fun z => h0 (fun u hu e => ?_))
      rcases List.mem_cons.mp hu with x | x
      · subst x
        intro l
        rw [show Nat.beq u.1 k = true by rw [e]; exact Nat.beq_refl k, show Nat.blt j u.2.2 = true from Nat.ble_eq.mpr l] at q
        cases q
      · exact z u x e
theorem zkp_skip {α : Type} {g : Nat → α → α} {f : Nat → Nat → α} {k j : Nat} {t : Nat × Nat × Nat} {l : List (Nat × Nat × Nat)} (h : Nat.beq t.1 k = false) : zkp g f k j (t :: l) = zkp g f k j l := by
  show (bif (Nat.beq t.1 k && Nat.blt j t.2.2) then g k (f t.2.1 j) else zkp g f k j l) = _
  rw [h]
  rfl
theorem zkp_hit {α : Type} {g : Nat → α → α} {f : Nat → Nat → α} {k j : Nat} {t : Nat × Nat × Nat} {l : List (Nat × Nat × Nat)} (h : Nat.beq t.1 k = true) (hj : j < t.2.2) : zkp g f k j (t :: l) = g k (f t.2.1 j) := by
  have e : Nat.blt j t.2.2 = true := Nat.ble_eq.mpr hj
  show (bif (Nat.beq t.1 k && Nat.blt j t.2.2) then g k (f t.2.1 j) else zkp g f k j l) = _
  rw [h, e]
  rfl
section ZKC
variable {σ μ s t r : zSt} {B : Int × Int × Int} {Q : zSt → Prop}
theorem zKc_42 {j : Nat} (h : j < 770) : (zKc σ).1 42 j = σ.1 43 j := zkp_hit (g := zid) (f := σ.1) (k := 42) (j := j) (t := (42, 43, 770)) (l := [(40, 41, 9), (36, 37, 29), (34, 35, 12), (32, 33, 272), (30, 31, 19), (25, 26, 61440), (23, 24, 96), (21, 22, 16384), (19, 20, 4), (17, 18, 32768), (15, 16, 8192)]) rfl h
theorem zKc_40 {j : Nat} (h : j < 9) : (zKc σ).1 40 j = σ.1 41 j := (zkp_skip (g := zid) (f := σ.1) (k := 40) (j := j) (t := (42, 43, 770)) (l := [(40, 41, 9), (36, 37, 29), (34, 35, 12), (32, 33, 272), (30, 31, 19), (25, 26, 61440), (23, 24, 96), (21, 22, 16384), (19, 20, 4), (17, 18, 32768), (15, 16, 8192)]) rfl).trans (zkp_hit (g := zid) (f := σ.1) (k := 40) (j := j) (t := (40, 41, 9)) (l := [(36, 37, 29), (34, 35, 12), (32, 33, 272), (30, 31, 19), (25, 26, 61440), (23, 24, 96), (21, 22, 16384), (19, 20, 4), (17, 18, 32768), (15, 16, 8192)]) rfl h)
theorem zKc_36 {j : Nat} (h : j < 29) : (zKc σ).1 36 j = σ.1 37 j := (zkp_skip (g := zid) (f := σ.1) (k := 36) (j := j) (t := (42, 43, 770)) (l := [(40, 41, 9), (36, 37, 29), (34, 35, 12), (32, 33, 272), (30, 31, 19), (25, 26, 61440), (23, 24, 96), (21, 22, 16384), (19, 20, 4), (17, 18, 32768), (15, 16, 8192)]) rfl).trans ((zkp_skip (g := zid) (f := σ.1) (k := 36) (j := j) (t := (40, 41, 9)) (l := [(36, 37, 29), (34, 35, 12), (32, 33, 272), (30, 31, 19), (25, 26, 61440), (23, 24, 96), (21, 22, 16384), (19, 20, 4), (17, 18, 32768), (15, 16, 8192)]) rfl).trans (zkp_hit (g := zid) (f := σ.1) (k := 36) (j := j) (t := (36, 37, 29)) (l := [(34, 35, 12), (32, 33, 272), (30, 31, 19), (25, 26, 61440), (23, 24, 96), (21, 22, 16384), (19, 20, 4), (17, 18, 32768), (15, 16, 8192)]) rfl h))
theorem zKc_34 {j : Nat} (h : j < 12) : (zKc σ).1 34 j = σ.1 35 j := (zkp_skip (g := zid) (f := σ.1) (k := 34) (j := j) (t := (42, 43, 770)) (l := [(40, 41, 9), (36, 37, 29), (34, 35, 12), (32, 33, 272), (30, 31, 19), (25, 26, 61440), (23, 24, 96), (21, 22, 16384), (19, 20, 4), (17, 18, 32768), (15, 16, 8192)]) rfl).trans ((zkp_skip (g := zid) (f := σ.1) (k := 34) (j := j) (t := (40, 41, 9)) (l := [(36, 37, 29), (34, 35, 12), (32, 33, 272), (30, 31, 19), (25, 26, 61440), (23, 24, 96), (21, 22, 16384), (19, 20, 4), (17, 18, 32768), (15, 16, 8192)]) rfl).trans ((zkp_skip (g := zid) (f := σ.1) (k := 34) (j := j) (t := (36, 37, 29)) (l := [(34, 35, 12), (32, 33, 272), (30, 31, 19), (25, 26, 61440), (23, 24, 96), (21, 22, 16384), (19, 20, 4), (17, 18, 32768), (15, 16, 8192)]) rfl).trans (zkp_hit (g := zid) (f := σ.1) (k := 34) (j := j) (t := (34, 35, 12)) (l := [(32, 33, 272), (30, 31, 19), (25, 26, 61440), (23, 24, 96), (21, 22, 16384), (19, 20, 4), (17, 18, 32768), (15, 16, 8192)]) rfl h)))
theorem zKc_32 {j : Nat} (h : j < 272) : (zKc σ).1 32 j = σ.1 33 j := (zkp_skip (g := zid) (f := σ.1) (k := 32) (j := j) (t := (42, 43, 770)) (l := [(40, 41, 9), (36, 37, 29), (34, 35, 12), (32, 33, 272), (30, 31, 19), (25, 26, 61440), (23, 24, 96), (21, 22, 16384), (19, 20, 4), (17, 18, 32768), (15, 16, 8192)]) rfl).trans ((zkp_skip (g := zid) (f := σ.1) (k := 32) (j := j) (t := (40, 41, 9)) (l := [(36, 37, 29), (34, 35, 12), (32, 33, 272), (30, 31, 19), (25, 26, 61440), (23, 24, 96), (21, 22, 16384), (19, 20, 4), (17, 18, 32768), (15, 16, 8192)]) rfl).trans ((zkp_skip (g := zid) (f := σ.1) (k := 32) (j := j) (t := (36, 37, 29)) (l := [(34, 35, 12), (32, 33, 272), (30, 31, 19), (25, 26, 61440), (23, 24, 96), (21, 22, 16384), (19, 20, 4), (17, 18, 32768), (15, 16, 8192)]) rfl).trans ((zkp_skip (g := zid) (f := σ.1) (k := 32) (j := j) (t := (34, 35, 12)) (l := [(32, 33, 272), (30, 31, 19), (25, 26, 61440), (23, 24, 96), (21, 22, 16384), (19, 20, 4), (17, 18, 32768), (15, 16, 8192)]) rfl).trans (zkp_hit (g := zid) (f := σ.1) (k := 32) (j := j) (t := (32, 33, 272)) (l := [(30, 31, 19), (25, 26, 61440), (23, 24, 96), (21, 22, 16384), (19, 20, 4), (17, 18, 32768), (15, 16, 8192)]) rfl h))))
theorem zKc_30 {j : Nat} (h : j < 19) : (zKc σ).1 30 j = σ.1 31 j := (zkp_skip (g := zid) (f := σ.1) (k := 30) (j := j) (t := (42, 43, 770)) (l := [(40, 41, 9), (36, 37, 29), (34, 35, 12), (32, 33, 272), (30, 31, 19), (25, 26, 61440), (23, 24, 96), (21, 22, 16384), (19, 20, 4), (17, 18, 32768), (15, 16, 8192)]) rfl).trans ((zkp_skip (g := zid) (f := σ.1) (k := 30) (j := j) (t := (40, 41, 9)) (l := [(36, 37, 29), (34, 35, 12), (32, 33, 272), (30, 31, 19), (25, 26, 61440), (23, 24, 96), (21, 22, 16384), (19, 20, 4), (17, 18, 32768), (15, 16, 8192)]) rfl).trans ((zkp_skip (g := zid) (f := σ.1) (k := 30) (j := j) (t := (36, 37, 29)) (l := [(34, 35, 12), (32, 33, 272), (30, 31, 19), (25, 26, 61440), (23, 24, 96), (21, 22, 16384), (19, 20, 4), (17, 18, 32768), (15, 16, 8192)]) rfl).trans ((zkp_skip (g := zid) (f := σ.1) (k := 30) (j := j) (t := (34, 35, 12)) (l := [(32, 33, 272), (30, 31, 19), (25, 26, 61440), (23, 24, 96), (21, 22, 16384), (19, 20, 4), (17, 18, 32768), (15, 16, 8192)]) rfl).trans ((zkp_skip (g := zid) (f := σ.1) (k := 30) (j := j) (t := (32, 33, 272)) (l := [(30, 31, 19), (25, 26, 61440), (23, 24, 96), (21, 22, 16384), (19, 20, 4), (17, 18, 32768), (15, 16, 8192)]) rfl).trans (zkp_hit (g := zid) (f := σ.1) (k := 30) (j := j) (t := (30, 31, 19)) (l := [(25, 26, 61440), (23, 24, 96), (21, 22, 16384), (19, 20, 4), (17, 18, 32768), (15, 16, 8192)]) rfl h)))))
theorem zKc_25 {j : Nat} (h : j < 61440) : (zKc σ).1 25 j = σ.1 26 j := (zkp_skip (g := zid) (f := σ.1) (k := 25) (j := j) (t := (42, 43, 770)) (l := [(40, 41, 9), (36, 37, 29), (34, 35, 12), (32, 33, 272), (30, 31, 19), (25, 26, 61440), (23, 24, 96), (21, 22, 16384), (19, 20, 4), (17, 18, 32768), (15, 16, 8192)]) rfl).trans ((zkp_skip (g := zid) (f := σ.1) (k := 25) (j := j) (t := (40, 41, 9)) (l := [(36, 37, 29), (34, 35, 12), (32, 33, 272), (30, 31, 19), (25, 26, 61440), (23, 24, 96), (21, 22, 16384), (19, 20, 4), (17, 18, 32768), (15, 16, 8192)]) rfl).trans ((zkp_skip (g := zid) (f := σ.1) (k := 25) (j := j) (t := (36, 37, 29)) (l := [(34, 35, 12), (32, 33, 272), (30, 31, 19), (25, 26, 61440), (23, 24, 96), (21, 22, 16384), (19, 20, 4), (17, 18, 32768), (15, 16, 8192)]) rfl).trans ((zkp_skip (g := zid) (f := σ.1) (k := 25) (j := j) (t := (34, 35, 12)) (l := [(32, 33, 272), (30, 31, 19), (25, 26, 61440), (23, 24, 96), (21, 22, 16384), (19, 20, 4), (17, 18, 32768), (15, 16, 8192)]) rfl).trans ((zkp_skip (g := zid) (f := σ.1) (k := 25) (j := j) (t := (32, 33, 272)) (l := [(30, 31, 19), (25, 26, 61440), (23, 24, 96), (21, 22, 16384), (19, 20, 4), (17, 18, 32768), (15, 16, 8192)]) rfl).trans ((zkp_skip (g := zid) (f := σ.1) (k := 25) (j := j) (t := (30, 31, 19)) (l := [(25, 26, 61440), (23, 24, 96), (21, 22, 16384), (19, 20, 4), (17, 18, 32768), (15, 16, 8192)]) rfl).trans (zkp_hit (g := zid) (f := σ.1) (k := 25) (j := j) (t := (25, 26, 61440)) (l := [(23, 24, 96), (21, 22, 16384), (19, 20, 4), (17, 18, 32768), (15, 16, 8192)]) rfl h))))))
theorem zKc_23 {j : Nat} (h : j < 96) : (zKc σ).1 23 j = σ.1 24 j := (zkp_skip (g := zid) (f := σ.1) (k := 23) (j := j) (t := (42, 43, 770)) (l := [(40, 41, 9), (36, 37, 29), (34, 35, 12), (32, 33, 272), (30, 31, 19), (25, 26, 61440), (23, 24, 96), (21, 22, 16384), (19, 20, 4), (17, 18, 32768), (15, 16, 8192)]) rfl).trans ((zkp_skip (g := zid) (f := σ.1) (k := 23) (j := j) (t := (40, 41, 9)) (l := [(36, 37, 29), (34, 35, 12), (32, 33, 272), (30, 31, 19), (25, 26, 61440), (23, 24, 96), (21, 22, 16384), (19, 20, 4), (17, 18, 32768), (15, 16, 8192)]) rfl).trans ((zkp_skip (g := zid) (f := σ.1) (k := 23) (j := j) (t := (36, 37, 29)) (l := [(34, 35, 12), (32, 33, 272), (30, 31, 19), (25, 26, 61440), (23, 24, 96), (21, 22, 16384), (19, 20, 4), (17, 18, 32768), (15, 16, 8192)]) rfl).trans ((zkp_skip (g := zid) (f := σ.1) (k := 23) (j := j) (t := (34, 35, 12)) (l := [(32, 33, 272), (30, 31, 19), (25, 26, 61440), (23, 24, 96), (21, 22, 16384), (19, 20, 4), (17, 18, 32768), (15, 16, 8192)]) rfl).trans ((zkp_skip (g := zid) (f := σ.1) (k := 23) (j := j) (t := (32, 33, 272)) (l := [(30, 31, 19), (25, 26, 61440), (23, 24, 96), (21, 22, 16384), (19, 20, 4), (17, 18, 32768), (15, 16, 8192)]) rfl).trans ((zkp_skip (g := zid) (f := σ.1) (k := 23) (j := j) (t := (30, 31, 19)) (l := [(25, 26, 61440), (23, 24, 96), (21, 22, 16384), (19, 20, 4), (17, 18, 32768), (15, 16, 8192)]) rfl).trans ((zkp_skip (g := zid) (f := σ.1) (k := 23) (j := j) (t := (25, 26, 61440)) (l := [(23, 24, 96), (21, 22, 16384), (19, 20, 4), (17, 18, 32768), (15, 16, 8192)]) rfl).trans (zkp_hit (g := zid) (f := σ.1) (k := 23) (j := j) (t := (23, 24, 96)) (l := [(21, 22, 16384), (19, 20, 4), (17, 18, 32768), (15, 16, 8192)]) rfl h)))))))
theorem zKc_21 {j : Nat} (h : j < 16384) : (zKc σ).1 21 j = σ.1 22 j := (zkp_skip (g := zid) (f := σ.1) (k := 21) (j := j) (t := (42, 43, 770)) (l := [(40, 41, 9), (36, 37, 29), (34, 35, 12), (32, 33, 272), (30, 31, 19), (25, 26, 61440), (23, 24, 96), (21, 22, 16384), (19, 20, 4), (17, 18, 32768), (15, 16, 8192)]) rfl).trans ((zkp_skip (g := zid) (f := σ.1) (k := 21) (j := j) (t := (40, 41, 9)) (l := [(36, 37, 29), (34, 35, 12), (32, 33, 272), (30, 31, 19), (25, 26, 61440), (23, 24, 96), (21, 22, 16384), (19, 20, 4), (17, 18, 32768), (15, 16, 8192)]) rfl).trans ((zkp_skip (g := zid) (f := σ.1) (k := 21) (j := j) (t := (36, 37, 29)) (l := [(34, 35, 12), (32, 33, 272), (30, 31, 19), (25, 26, 61440), (23, 24, 96), (21, 22, 16384), (19, 20, 4), (17, 18, 32768), (15, 16, 8192)]) rfl).trans ((zkp_skip (g := zid) (f := σ.1) (k := 21) (j := j) (t := (34, 35, 12)) (l := [(32, 33, 272), (30, 31, 19), (25, 26, 61440), (23, 24, 96), (21, 22, 16384), (19, 20, 4), (17, 18, 32768), (15, 16, 8192)]) rfl).trans ((zkp_skip (g := zid) (f := σ.1) (k := 21) (j := j) (t := (32, 33, 272)) (l := [(30, 31, 19), (25, 26, 61440), (23, 24, 96), (21, 22, 16384), (19, 20, 4), (17, 18, 32768), (15, 16, 8192)]) rfl).trans ((zkp_skip (g := zid) (f := σ.1) (k := 21) (j := j) (t := (30, 31, 19)) (l := [(25, 26, 61440), (23, 24, 96), (21, 22, 16384), (19, 20, 4), (17, 18, 32768), (15, 16, 8192)]) rfl).trans ((zkp_skip (g := zid) (f := σ.1) (k := 21) (j := j) (t := (25, 26, 61440)) (l := [(23, 24, 96), (21, 22, 16384), (19, 20, 4), (17, 18, 32768), (15, 16, 8192)]) rfl).trans ((zkp_skip (g := zid) (f := σ.1) (k := 21) (j := j) (t := (23, 24, 96)) (l := [(21, 22, 16384), (19, 20, 4), (17, 18, 32768), (15, 16, 8192)]) rfl).trans (zkp_hit (g := zid) (f := σ.1) (k := 21) (j := j) (t := (21, 22, 16384)) (l := [(19, 20, 4), (17, 18, 32768), (15, 16, 8192)]) rfl h))))))))
theorem zKc_19 {j : Nat} (h : j < 4) : (zKc σ).1 19 j = σ.1 20 j := (zkp_skip (g := zid) (f := σ.1) (k := 19) (j := j) (t := (42, 43, 770)) (l := [(40, 41, 9), (36, 37, 29), (34, 35, 12), (32, 33, 272), (30, 31, 19), (25, 26, 61440), (23, 24, 96), (21, 22, 16384), (19, 20, 4), (17, 18, 32768), (15, 16, 8192)]) rfl).trans ((zkp_skip (g := zid) (f := σ.1) (k := 19) (j := j) (t := (40, 41, 9)) (l := [(36, 37, 29), (34, 35, 12), (32, 33, 272), (30, 31, 19), (25, 26, 61440), (23, 24, 96), (21, 22, 16384), (19, 20, 4), (17, 18, 32768), (15, 16, 8192)]) rfl).trans ((zkp_skip (g := zid) (f := σ.1) (k := 19) (j := j) (t := (36, 37, 29)) (l := [(34, 35, 12), (32, 33, 272), (30, 31, 19), (25, 26, 61440), (23, 24, 96), (21, 22, 16384), (19, 20, 4), (17, 18, 32768), (15, 16, 8192)]) rfl).trans ((zkp_skip (g := zid) (f := σ.1) (k := 19) (j := j) (t := (34, 35, 12)) (l := [(32, 33, 272), (30, 31, 19), (25, 26, 61440), (23, 24, 96), (21, 22, 16384), (19, 20, 4), (17, 18, 32768), (15, 16, 8192)]) rfl).trans ((zkp_skip (g := zid) (f := σ.1) (k := 19) (j := j) (t := (32, 33, 272)) (l := [(30, 31, 19), (25, 26, 61440), (23, 24, 96), (21, 22, 16384), (19, 20, 4), (17, 18, 32768), (15, 16, 8192)]) rfl).trans ((zkp_skip (g := zid) (f := σ.1) (k := 19) (j := j) (t := (30, 31, 19)) (l := [(25, 26, 61440), (23, 24, 96), (21, 22, 16384), (19, 20, 4), (17, 18, 32768), (15, 16, 8192)]) rfl).trans ((zkp_skip (g := zid) (f := σ.1) (k := 19) (j := j) (t := (25, 26, 61440)) (l := [(23, 24, 96), (21, 22, 16384), (19, 20, 4), (17, 18, 32768), (15, 16, 8192)]) rfl).trans ((zkp_skip (g := zid) (f := σ.1) (k := 19) (j := j) (t := (23, 24, 96)) (l := [(21, 22, 16384), (19, 20, 4), (17, 18, 32768), (15, 16, 8192)]) rfl).trans ((zkp_skip (g := zid) (f := σ.1) (k := 19) (j := j) (t := (21, 22, 16384)) (l := [(19, 20, 4), (17, 18, 32768), (15, 16, 8192)]) rfl).trans (zkp_hit (g := zid) (f := σ.1) (k := 19) (j := j) (t := (19, 20, 4)) (l := [(17, 18, 32768), (15, 16, 8192)]) rfl h)))))))))
theorem zKc_17 {j : Nat} (h : j < 32768) : (zKc σ).1 17 j = σ.1 18 j := (zkp_skip (g := zid) (f := σ.1) (k := 17) (j := j) (t := (42, 43, 770)) (l := [(40, 41, 9), (36, 37, 29), (34, 35, 12), (32, 33, 272), (30, 31, 19), (25, 26, 61440), (23, 24, 96), (21, 22, 16384), (19, 20, 4), (17, 18, 32768), (15, 16, 8192)]) rfl).trans ((zkp_skip (g := zid) (f := σ.1) (k := 17) (j := j) (t := (40, 41, 9)) (l := [(36, 37, 29), (34, 35, 12), (32, 33, 272), (30, 31, 19), (25, 26, 61440), (23, 24, 96), (21, 22, 16384), (19, 20, 4), (17, 18, 32768), (15, 16, 8192)]) rfl).trans ((zkp_skip (g := zid) (f := σ.1) (k := 17) (j := j) (t := (36, 37, 29)) (l := [(34, 35, 12), (32, 33, 272), (30, 31, 19), (25, 26, 61440), (23, 24, 96), (21, 22, 16384), (19, 20, 4), (17, 18, 32768), (15, 16, 8192)]) rfl).trans ((zkp_skip (g := zid) (f := σ.1) (k := 17) (j := j) (t := (34, 35, 12)) (l := [(32, 33, 272), (30, 31, 19), (25, 26, 61440), (23, 24, 96), (21, 22, 16384), (19, 20, 4), (17, 18, 32768), (15, 16, 8192)]) rfl).trans ((zkp_skip (g := zid) (f := σ.1) (k := 17) (j := j) (t := (32, 33, 272)) (l := [(30, 31, 19), (25, 26, 61440), (23, 24, 96), (21, 22, 16384), (19, 20, 4), (17, 18, 32768), (15, 16, 8192)]) rfl).trans ((zkp_skip (g := zid) (f := σ.1) (k := 17) (j := j) (t := (30, 31, 19)) (l := [(25, 26, 61440), (23, 24, 96), (21, 22, 16384), (19, 20, 4), (17, 18, 32768), (15, 16, 8192)]) rfl).trans ((zkp_skip (g := zid) (f := σ.1) (k := 17) (j := j) (t := (25, 26, 61440)) (l := [(23, 24, 96), (21, 22, 16384), (19, 20, 4), (17, 18, 32768), (15, 16, 8192)]) rfl).trans ((zkp_skip (g := zid) (f := σ.1) (k := 17) (j := j) (t := (23, 24, 96)) (l := [(21, 22, 16384), (19, 20, 4), (17, 18, 32768), (15, 16, 8192)]) rfl).trans ((zkp_skip (g := zid) (f := σ.1) (k := 17) (j := j) (t := (21, 22, 16384)) (l := [(19, 20, 4), (17, 18, 32768), (15, 16, 8192)]) rfl).trans ((zkp_skip (g := zid) (f := σ.1) (k := 17) (j := j) (t := (19, 20, 4)) (l := [(17, 18, 32768), (15, 16, 8192)]) rfl).trans (zkp_hit (g := zid) (f := σ.1) (k := 17) (j := j) (t := (17, 18, 32768)) (l := [(15, 16, 8192)]) rfl h))))))))))
theorem zKc_15 {j : Nat} (h : j < 8192) : (zKc σ).1 15 j = σ.1 16 j := (zkp_skip (g := zid) (f := σ.1) (k := 15) (j := j) (t := (42, 43, 770)) (l := [(40, 41, 9), (36, 37, 29), (34, 35, 12), (32, 33, 272), (30, 31, 19), (25, 26, 61440), (23, 24, 96), (21, 22, 16384), (19, 20, 4), (17, 18, 32768), (15, 16, 8192)]) rfl).trans ((zkp_skip (g := zid) (f := σ.1) (k := 15) (j := j) (t := (40, 41, 9)) (l := [(36, 37, 29), (34, 35, 12), (32, 33, 272), (30, 31, 19), (25, 26, 61440), (23, 24, 96), (21, 22, 16384), (19, 20, 4), (17, 18, 32768), (15, 16, 8192)]) rfl).trans ((zkp_skip (g := zid) (f := σ.1) (k := 15) (j := j) (t := (36, 37, 29)) (l := [(34, 35, 12), (32, 33, 272), (30, 31, 19), (25, 26, 61440), (23, 24, 96), (21, 22, 16384), (19, 20, 4), (17, 18, 32768), (15, 16, 8192)]) rfl).trans ((zkp_skip (g := zid) (f := σ.1) (k := 15) (j := j) (t := (34, 35, 12)) (l := [(32, 33, 272), (30, 31, 19), (25, 26, 61440), (23, 24, 96), (21, 22, 16384), (19, 20, 4), (17, 18, 32768), (15, 16, 8192)]) rfl).trans ((zkp_skip (g := zid) (f := σ.1) (k := 15) (j := j) (t := (32, 33, 272)) (l := [(30, 31, 19), (25, 26, 61440), (23, 24, 96), (21, 22, 16384), (19, 20, 4), (17, 18, 32768), (15, 16, 8192)]) rfl).trans ((zkp_skip (g := zid) (f := σ.1) (k := 15) (j := j) (t := (30, 31, 19)) (l := [(25, 26, 61440), (23, 24, 96), (21, 22, 16384), (19, 20, 4), (17, 18, 32768), (15, 16, 8192)]) rfl).trans ((zkp_skip (g := zid) (f := σ.1) (k := 15) (j := j) (t := (25, 26, 61440)) (l := [(23, 24, 96), (21, 22, 16384), (19, 20, 4), (17, 18, 32768), (15, 16, 8192)]) rfl).trans ((zkp_skip (g := zid) (f := σ.1) (k := 15) (j := j) (t := (23, 24, 96)) (l := [(21, 22, 16384), (19, 20, 4), (17, 18, 32768), (15, 16, 8192)]) rfl).trans ((zkp_skip (g := zid) (f := σ.1) (k := 15) (j := j) (t := (21, 22, 16384)) (l := [(19, 20, 4), (17, 18, 32768), (15, 16, 8192)]) rfl).trans ((zkp_skip (g := zid) (f := σ.1) (k := 15) (j := j) (t := (19, 20, 4)) (l := [(17, 18, 32768), (15, 16, 8192)]) rfl).trans ((zkp_skip (g := zid) (f := σ.1) (k := 15) (j := j) (t := (17, 18, 32768)) (l := [(15, 16, 8192)]) rfl).trans (zkp_hit (g := zid) (f := σ.1) (k := 15) (j := j) (t := (15, 16, 8192)) (l := []) rfl h)))))))))))
theorem zKm_9 {j : Nat} (h : j < 61440) : (zKm μ).1 9 j = μ.1 18 j := zkp_hit (g := zmb) (f := μ.1) (k := 9) (j := j) (t := (9, 18, 61440)) (l := [(8, 17, 64), (7, 16, 16384), (6, 15, 32768), (5, 14, 8192), (3, 12, 1048)]) rfl h
theorem zKm_8 {j : Nat} (h : j < 64) : (zKm μ).1 8 j = vp_nar .byte (μ.1 17 j) := (zkp_skip (g := zmb) (f := μ.1) (k := 8) (j := j) (t := (9, 18, 61440)) (l := [(8, 17, 64), (7, 16, 16384), (6, 15, 32768), (5, 14, 8192), (3, 12, 1048)]) rfl).trans (zkp_hit (g := zmb) (f := μ.1) (k := 8) (j := j) (t := (8, 17, 64)) (l := [(7, 16, 16384), (6, 15, 32768), (5, 14, 8192), (3, 12, 1048)]) rfl h)
theorem zKm_7 {j : Nat} (h : j < 16384) : (zKm μ).1 7 j = vp_nar .byte (μ.1 16 j) := (zkp_skip (g := zmb) (f := μ.1) (k := 7) (j := j) (t := (9, 18, 61440)) (l := [(8, 17, 64), (7, 16, 16384), (6, 15, 32768), (5, 14, 8192), (3, 12, 1048)]) rfl).trans ((zkp_skip (g := zmb) (f := μ.1) (k := 7) (j := j) (t := (8, 17, 64)) (l := [(7, 16, 16384), (6, 15, 32768), (5, 14, 8192), (3, 12, 1048)]) rfl).trans (zkp_hit (g := zmb) (f := μ.1) (k := 7) (j := j) (t := (7, 16, 16384)) (l := [(6, 15, 32768), (5, 14, 8192), (3, 12, 1048)]) rfl h))
theorem zKm_6 {j : Nat} (h : j < 32768) : (zKm μ).1 6 j = vp_nar .byte (μ.1 15 j) := (zkp_skip (g := zmb) (f := μ.1) (k := 6) (j := j) (t := (9, 18, 61440)) (l := [(8, 17, 64), (7, 16, 16384), (6, 15, 32768), (5, 14, 8192), (3, 12, 1048)]) rfl).trans ((zkp_skip (g := zmb) (f := μ.1) (k := 6) (j := j) (t := (8, 17, 64)) (l := [(7, 16, 16384), (6, 15, 32768), (5, 14, 8192), (3, 12, 1048)]) rfl).trans ((zkp_skip (g := zmb) (f := μ.1) (k := 6) (j := j) (t := (7, 16, 16384)) (l := [(6, 15, 32768), (5, 14, 8192), (3, 12, 1048)]) rfl).trans (zkp_hit (g := zmb) (f := μ.1) (k := 6) (j := j) (t := (6, 15, 32768)) (l := [(5, 14, 8192), (3, 12, 1048)]) rfl h)))
theorem zKm_5 {j : Nat} (h : j < 8192) : (zKm μ).1 5 j = vp_nar .byte (μ.1 14 j) := (zkp_skip (g := zmb) (f := μ.1) (k := 5) (j := j) (t := (9, 18, 61440)) (l := [(8, 17, 64), (7, 16, 16384), (6, 15, 32768), (5, 14, 8192), (3, 12, 1048)]) rfl).trans ((zkp_skip (g := zmb) (f := μ.1) (k := 5) (j := j) (t := (8, 17, 64)) (l := [(7, 16, 16384), (6, 15, 32768), (5, 14, 8192), (3, 12, 1048)]) rfl).trans ((zkp_skip (g := zmb) (f := μ.1) (k := 5) (j := j) (t := (7, 16, 16384)) (l := [(6, 15, 32768), (5, 14, 8192), (3, 12, 1048)]) rfl).trans ((zkp_skip (g := zmb) (f := μ.1) (k := 5) (j := j) (t := (6, 15, 32768)) (l := [(5, 14, 8192), (3, 12, 1048)]) rfl).trans (zkp_hit (g := zmb) (f := μ.1) (k := 5) (j := j) (t := (5, 14, 8192)) (l := [(3, 12, 1048)]) rfl h))))
theorem zKm_3 {j : Nat} (h : j < 1048) : (zKm μ).1 3 j = μ.1 12 j := (zkp_skip (g := zmb) (f := μ.1) (k := 3) (j := j) (t := (9, 18, 61440)) (l := [(8, 17, 64), (7, 16, 16384), (6, 15, 32768), (5, 14, 8192), (3, 12, 1048)]) rfl).trans ((zkp_skip (g := zmb) (f := μ.1) (k := 3) (j := j) (t := (8, 17, 64)) (l := [(7, 16, 16384), (6, 15, 32768), (5, 14, 8192), (3, 12, 1048)]) rfl).trans ((zkp_skip (g := zmb) (f := μ.1) (k := 3) (j := j) (t := (7, 16, 16384)) (l := [(6, 15, 32768), (5, 14, 8192), (3, 12, 1048)]) rfl).trans ((zkp_skip (g := zmb) (f := μ.1) (k := 3) (j := j) (t := (6, 15, 32768)) (l := [(5, 14, 8192), (3, 12, 1048)]) rfl).trans ((zkp_skip (g := zmb) (f := μ.1) (k := 3) (j := j) (t := (5, 14, 8192)) (l := [(3, 12, 1048)]) rfl).trans (zkp_hit (g := zmb) (f := μ.1) (k := 3) (j := j) (t := (3, 12, 1048)) (l := []) rfl h)))))
theorem zKc_l {j : Nat} (h : j < 7) : (zKc σ).2 38 j = σ.2 39 j := by
  have e : Nat.blt j 7 = true := Nat.ble_eq.mpr h
  show (bif (Nat.blt j 7) then σ.2 39 j else zkp zid σ.2 38 j []) = _
  rw [e]
  rfl
theorem zKm_l {j : Nat} (h : j < 5) : (zKm μ).2 4 j = μ.2 13 j := by
  have e : Nat.blt j 5 = true := Nat.ble_eq.mpr h
  show (bif (Nat.blt j 5) then μ.2 13 j else zkp zid μ.2 4 j []) = _
  rw [e]
  rfl
theorem zKc_all : ∀ p ∈ zsv, ∀ j : Nat, j < p.2.2 → (zKc σ).1 p.1 j = σ.1 p.2.1 j := by
  unfold zsv
  exact List.forall_mem_cons.2 ⟨fun j h => zKc_42 h, List.forall_mem_cons.2 ⟨fun j h => zKc_40 h, List.forall_mem_cons.2 ⟨fun j h => zKc_36 h, List.forall_mem_cons.2 ⟨fun j h => zKc_34 h, List.forall_mem_cons.2 ⟨fun j h => zKc_32 h, List.forall_mem_cons.2 ⟨fun j h => zKc_30 h, List.forall_mem_cons.2 ⟨fun j h => zKc_25 h, List.forall_mem_cons.2 ⟨fun j h => zKc_23 h, List.forall_mem_cons.2 ⟨fun j h => zKc_21 h, List.forall_mem_cons.2 ⟨fun j h => zKc_19 h, List.forall_mem_cons.2 ⟨fun j h => zKc_17 h, List.forall_mem_cons.2 ⟨fun j h => zKc_15 h, fun _ h => absurd h List.not_mem_nil⟩⟩⟩⟩⟩⟩⟩⟩⟩⟩⟩⟩
theorem zKm_all : ∀ p ∈ zsm, ∀ j : Nat, j < p.2.2 → (zKm μ).1 p.1 j = zmb p.1 (μ.1 p.2.1 j) := by
  unfold zsm
  exact List.forall_mem_cons.2 ⟨fun j h => zKm_9 h, List.forall_mem_cons.2 ⟨fun j h => zKm_8 h, List.forall_mem_cons.2 ⟨fun j h => zKm_7 h, List.forall_mem_cons.2 ⟨fun j h => zKm_6 h, List.forall_mem_cons.2 ⟨fun j h => zKm_5 h, List.forall_mem_cons.2 ⟨fun j h => zKm_3 h, fun _ h => absurd h List.not_mem_nil⟩⟩⟩⟩⟩⟩
/-! rows copied -/
theorem zcpl_ne {k0 k1 sp dp n k : Nat} (h : ¬ k = k1) : (zcpl σ k0 k1 sp dp n).2 k = σ.2 k := by
  have e : Nat.beq k k1 = false := Bool.eq_false_iff.mpr (fun r => h (Nat.eq_of_beq_eq_true r))
  show (bif Nat.beq k k1 then va_cpy (σ.2 k0) (σ.2 k) sp dp n else σ.2 k) = _
  rw [e]; rfl
theorem zcpl_eq {k0 k1 n j : Nat} : (zcpl σ k0 k1 0 0 n).2 k1 j = if j < n then σ.2 k0 j else σ.2 k1 j := by
  show (bif Nat.beq k1 k1 then va_cpy (σ.2 k0) (σ.2 k1) 0 0 n else σ.2 k1) j = _
  rw [show Nat.beq k1 k1 = true from Nat.beq_refl k1]
  show (if 0 ≤ j ∧ j < 0 + n then σ.2 k0 (0 + (j - 0)) else σ.2 k1 j) = _
  by_cases h : j < n
  · rw [if_pos h, if_pos ⟨Nat.zero_le _, by omega⟩, show 0 + (j - 0) = j by omega]
  · rw [if_neg h, if_neg (fun r => h (by omega))]
def zcw (R : List Nat) (A : List (Nat × Nat × Nat)) (k n : Nat) : Bool := R.any (Nat.beq k) || A.any (fun e => Nat.beq e.1 k && (Nat.beq e.2.1 0 && Nat.ble n (e.2.2 + 1)))
theorem zcw_cv {R : List Nat} {A : List (Nat × Nat × Nat)} {k n j : Nat} (c : zcw R A k n = true) (h : j < n) : zcv R A k j = true := by
  unfold zcw at c
  unfold zcv
  rw [Bool.or_eq_true] at c ⊢
  rcases c with c | c
  · exact Or.inl c
  · right
    rw [List.any_eq_true] at c ⊢
    obtain ⟨e, he, q⟩ := c
    rw [Bool.and_eq_true, Bool.and_eq_true] at q
    refine ⟨e, he, ?_⟩
    have a0 : e.2.1 = 0 := Nat.eq_of_beq_eq_true q.2.1
    have a1 := Nat.le_of_ble_eq_true q.2.2
    rw [Bool.and_eq_true, Bool.and_eq_true]
    exact ⟨q.1, Nat.ble_eq.mpr (by omega), Nat.ble_eq.mpr (by omega)⟩
/-- a frame, and rows that were copied so far: (to, from, how many) -/
def zSq (R : List Nat) (A : List (Nat × Nat × Nat)) (S : List Nat) (D : List (Nat × Nat × Nat)) (l : List (Nat × Nat × Nat)) (σ s : zSt) : Prop := zQ R A S D σ s ∧ ∀ p ∈ l, ∀ j : Nat, j < p.2.2 → s.1 p.1 j = σ.1 p.2.1 j
section ZSQ
variable {R S : List Nat} {A D : List (Nat × Nat × Nat)} {l : List (Nat × Nat × Nat)}
theorem zSq.rf : zSq R A S D [] σ σ := ⟨zQ.rf, fun _ h => absurd h List.not_mem_nil⟩
theorem zSq.cp (h : zSq R A S D l σ s) {k0 k1 n : Nat} (c : zcw R A k1 n = true) (d : zrw R A k0 = true) (e : l.all (fun p => !(Nat.beq p.1 k1)) = true) : zSq R A S D ((k1, k0, n) :: l) σ (zcpi s k0 k1 0 0 n) := by
  have q0 : s.1 k0 = σ.1 k0 := h.1.ro d
  refine ⟨⟨fun k j q => ?_, h.1.2⟩, fun p hp j hj => ?_⟩
  · by_cases z : k = k1
    · subst z
      rw [zcpi_eq, if_neg (fun y => by rw [zcw_cv c y] at q; cases q)]
      exact h.1.1 _ j q
    · rw [zcpi_ne z]
      exact h.1.1 k j q
  · rcases List.mem_cons.mp hp with x | x
    · subst x
      show (zcpi s k0 k1 0 0 n).1 k1 j = σ.1 k0 j
      rw [zcpi_eq, if_pos hj, q0]
    · have y := (List.all_eq_true.mp e) p x
      rw [zcpi_ne (fun z => by rw [z, Nat.beq_refl] at y; cases y)]
      exact h.2 p x j hj
theorem zSq.cl (h : zSq R A S D l σ s) {k0 k1 n : Nat} (c : zcw S D k1 n = true) : zSq R A S D l σ (zcpl s k0 k1 0 0 n) := by
  refine ⟨⟨h.1.1, fun k j q => ?_⟩, h.2⟩
  by_cases z : k = k1
  · subst z
    rw [zcpl_eq, if_neg (fun y => by rw [zcw_cv c y] at q; cases q)]
    exact h.1.2 _ j q
  · rw [zcpl_ne z]
    exact h.1.2 k j q
theorem zSq.wi (h : zSq R A S D l σ s) {k j : Nat} {v : Int32} (c : zcv R A k j = true) (e : l.all (fun p => !(Nat.beq p.1 k)) = true) : zSq R A S D l σ (zsi s k j v) := by
  refine ⟨zQ.wi h.1 c, fun p hp i hi => ?_⟩
  have y := (List.all_eq_true.mp e) p hp
  rw [zsi_ne (fun z => by rw [z, Nat.beq_refl] at y; cases y)]
  exact h.2 p hp i hi
end ZSQ
/-- one field of an object copied to another -/
def zWf (s : zSt) (k p q : Nat) : zSt := zsi s k p (zgi s k q)
def zKept (s : zSt) : zSt := (zcpi (zcpi (zWf (zWf (zcpl (zWf (zWf (zcpl (zcpl (zcpi (zcpi (zcpi (zcpi (zcpi (zcpi (zcpi (zcpi (zcpi (zcpi s 15 16 0 0 8192) 17 18 0 0 32768) 19 20 0 0 4) 21 22 0 0 16384) 23 24 0 0 96) 25 26 0 0 61440) 30 31 0 0 19) 32 33 0 0 272) 34 35 0 0 12) 36 37 0 0 29) 38 39 0 0 7) 46 47 0 0 4096) 11 4 2) 11 5 3) 48 49 0 0 4096) 12 4 2) 12 5 3) 40 41 0 0 9) 42 43 0 0 770)
def zBack (s : zSt) : zSt := (zcpi (zcpi (zWf (zWf (zcpl (zWf (zWf (zcpl (zcpl (zcpi (zcpi (zcpi (zcpi (zcpi (zcpi (zcpi (zcpi (zcpi (zcpi s 16 15 0 0 8192) 18 17 0 0 32768) 20 19 0 0 4) 22 21 0 0 16384) 24 23 0 0 96) 26 25 0 0 61440) 31 30 0 0 19) 33 32 0 0 272) 35 34 0 0 12) 37 36 0 0 29) 39 38 0 0 7) 47 46 0 0 4096) 11 2 4) 11 3 5) 49 48 0 0 4096) 12 2 4) 12 3 5) 41 40 0 0 9) 43 42 0 0 770)
theorem c_keep_X2 : zpc (fX2_keep s ) (fun r => r = (zcpi (zcpi (zcpi s 15 16 0 0 8192) 17 18 0 0 32768) 19 20 0 0 4)) := by
  unfold fX2_keep
  refine zpc_ck (zpc_bv (fun s0 e0 => zpc_ck (zpc_bv (fun s1 e1 => zpc_ck (zpc_bv (fun s2 e2 => zpc_some ?_))))))
  rw [e2, e1, e0]
  rfl
theorem c_keep_X9 : zpc (fX9_keep s ) (fun r => r = (zcpi (zcpi s 21 22 0 0 16384) 23 24 0 0 96)) := by
  unfold fX9_keep
  refine zpc_ck (zpc_bv (fun s0 e0 => zpc_ck (zpc_bv (fun s1 e1 => zpc_some ?_))))
  rw [e1, e0]
  rfl
theorem c_keep_X3 : zpc (fX3_keep s ) (fun r => r = (zcpi s 25 26 0 0 61440)) := by
  unfold fX3_keep
  refine zpc_ck (zpc_bv (fun s0 e0 => zpc_some ?_))
  rw [e0]
  rfl
theorem c_keep_X7 : zpc (fX7_keep s ) (fun r => r = (zcpi s 30 31 0 0 19)) := by
  unfold fX7_keep
  refine zpc_ck (zpc_bv (fun s0 e0 => zpc_some ?_))
  rw [e0]
  rfl
theorem c_keep_X10 : zpc (fX10_keep s ) (fun r => r = (zcpi s 32 33 0 0 272)) := by
  unfold fX10_keep
  refine zpc_ck (zpc_bv (fun s0 e0 => zpc_some ?_))
  rw [e0]
  rfl
theorem c_keep_X4 : zpc (fX4_keep s ) (fun r => r = (zcpi s 34 35 0 0 12)) := by
  unfold fX4_keep
  refine zpc_ck (zpc_bv (fun s0 e0 => zpc_some ?_))
  rw [e0]
  rfl
theorem c_keep_X5 : zpc (fX5_keep s ) (fun r => r = (zcpi s 36 37 0 0 29)) := by
  unfold fX5_keep
  refine zpc_ck (zpc_bv (fun s0 e0 => zpc_some ?_))
  rw [e0]
  rfl
theorem c_keep_X1 : zpc (fX1_keep s ) (fun r => r = (zcpi (zcpi s 40 41 0 0 9) 42 43 0 0 770)) := by
  unfold fX1_keep
  refine zpc_ck (zpc_bv (fun s0 e0 => zpc_ck (zpc_bv (fun s1 e1 => zpc_some ?_))))
  rw [e1, e0]
  rfl
theorem c_keep_k11 : zpc (fX6_keep_k11 s ) (fun r => r = (zWf (zWf (zcpl s 46 47 0 0 4096) 11 4 2) 11 5 3)) := by
  unfold fX6_keep_k11
  refine zpc_ck (zpc_bv (fun s1 e1 => zpc_bv (fun s2 e2 => zpc_bv (fun s3 e3 => zpc_some ?_))))
  rw [e3, e2, e1]
  rfl
theorem c_keep_k12 : zpc (fX6_keep_k12 s ) (fun r => r = (zWf (zWf (zcpl s 48 49 0 0 4096) 12 4 2) 12 5 3)) := by
  unfold fX6_keep_k12
  refine zpc_ck (zpc_bv (fun s1 e1 => zpc_bv (fun s2 e2 => zpc_bv (fun s3 e3 => zpc_some ?_))))
  rw [e3, e2, e1]
  rfl
theorem c_keep_X0 : zpc (fX0_keep s ) (fun r => r = (zWf (zWf (zcpl (zWf (zWf (zcpl (zcpl s 38 39 0 0 7) 46 47 0 0 4096) 11 4 2) 11 5 3) 48 49 0 0 4096) 12 4 2) 12 5 3)) := by
  unfold fX0_keep
  refine zpc_ck (zpc_bv (fun s1 e1 => zpc_bu c_keep_k11 (fun s2 e2 => zpc_bu c_keep_k12 (fun s3 e3 => zpc_some ?_))))
  rw [e3, e2, e1]
  rfl
theorem c_bringBack_X2 : zpc (fX2_bringBack s ) (fun r => r = (zcpi (zcpi (zcpi s 16 15 0 0 8192) 18 17 0 0 32768) 20 19 0 0 4)) := by
  unfold fX2_bringBack
  refine zpc_ck (zpc_bv (fun s0 e0 => zpc_ck (zpc_bv (fun s1 e1 => zpc_ck (zpc_bv (fun s2 e2 => zpc_some ?_))))))
  rw [e2, e1, e0]
  rfl
theorem c_bringBack_X9 : zpc (fX9_bringBack s ) (fun r => r = (zcpi (zcpi s 22 21 0 0 16384) 24 23 0 0 96)) := by
  unfold fX9_bringBack
  refine zpc_ck (zpc_bv (fun s0 e0 => zpc_ck (zpc_bv (fun s1 e1 => zpc_some ?_))))
  rw [e1, e0]
  rfl
theorem c_bringBack_X3 : zpc (fX3_bringBack s ) (fun r => r = (zcpi s 26 25 0 0 61440)) := by
  unfold fX3_bringBack
  refine zpc_ck (zpc_bv (fun s0 e0 => zpc_some ?_))
  rw [e0]
  rfl
theorem c_bringBack_X7 : zpc (fX7_bringBack s ) (fun r => r = (zcpi s 31 30 0 0 19)) := by
  unfold fX7_bringBack
  refine zpc_ck (zpc_bv (fun s0 e0 => zpc_some ?_))
  rw [e0]
  rfl
theorem c_bringBack_X10 : zpc (fX10_bringBack s ) (fun r => r = (zcpi s 33 32 0 0 272)) := by
  unfold fX10_bringBack
  refine zpc_ck (zpc_bv (fun s0 e0 => zpc_some ?_))
  rw [e0]
  rfl
theorem c_bringBack_X4 : zpc (fX4_bringBack s ) (fun r => r = (zcpi s 35 34 0 0 12)) := by
  unfold fX4_bringBack
  refine zpc_ck (zpc_bv (fun s0 e0 => zpc_some ?_))
  rw [e0]
  rfl
theorem c_bringBack_X5 : zpc (fX5_bringBack s ) (fun r => r = (zcpi s 37 36 0 0 29)) := by
  unfold fX5_bringBack
  refine zpc_ck (zpc_bv (fun s0 e0 => zpc_some ?_))
  rw [e0]
  rfl
theorem c_bringBack_X1 : zpc (fX1_bringBack s ) (fun r => r = (zcpi (zcpi s 41 40 0 0 9) 43 42 0 0 770)) := by
  unfold fX1_bringBack
  refine zpc_ck (zpc_bv (fun s0 e0 => zpc_ck (zpc_bv (fun s1 e1 => zpc_some ?_))))
  rw [e1, e0]
  rfl
theorem c_bringBack_k11 : zpc (fX6_bringBack_k11 s ) (fun r => r = (zWf (zWf (zcpl s 47 46 0 0 4096) 11 2 4) 11 3 5)) := by
  unfold fX6_bringBack_k11
  refine zpc_ck (zpc_bv (fun s1 e1 => zpc_bv (fun s2 e2 => zpc_bv (fun s3 e3 => zpc_some ?_))))
  rw [e3, e2, e1]
  rfl
theorem c_bringBack_k12 : zpc (fX6_bringBack_k12 s ) (fun r => r = (zWf (zWf (zcpl s 49 48 0 0 4096) 12 2 4) 12 3 5)) := by
  unfold fX6_bringBack_k12
  refine zpc_ck (zpc_bv (fun s1 e1 => zpc_bv (fun s2 e2 => zpc_bv (fun s3 e3 => zpc_some ?_))))
  rw [e3, e2, e1]
  rfl
theorem c_bringBack_X0 : zpc (fX0_bringBack s ) (fun r => r = (zWf (zWf (zcpl (zWf (zWf (zcpl (zcpl s 39 38 0 0 7) 47 46 0 0 4096) 11 2 4) 11 3 5) 49 48 0 0 4096) 12 2 4) 12 3 5)) := by
  unfold fX0_bringBack
  refine zpc_ck (zpc_bv (fun s1 e1 => zpc_bu c_bringBack_k11 (fun s2 e2 => zpc_bu c_bringBack_k12 (fun s3 e3 => zpc_some ?_))))
  rw [e3, e2, e1]
  rfl
theorem k_save : zpc (fX11_save s ) (fun r => r = zsi (zKept s) 0 11 1) := by
  unfold fX11_save
  refine zpc_bu c_keep_X2 (fun s0 e0 => zpc_bu c_keep_X9 (fun s1 e1 => zpc_bu c_keep_X3 (fun s2 e2 => zpc_bu c_keep_X7 (fun s3 e3 => zpc_bu c_keep_X10 (fun s4 e4 => zpc_bu c_keep_X4 (fun s5 e5 => zpc_bu c_keep_X5 (fun s6 e6 => zpc_bu c_keep_X0 (fun s7 e7 => zpc_bu c_keep_X1 (fun s8 e8 => zpc_ck (zpc_bv (fun sa ea => zpc_some ?_)))))))))))
  rw [ea, e8, e7, e6, e5, e4, e3, e2, e1, e0]
  rfl
theorem c_restore (h : ¬ s.1 0 11 = 0) : zpc (fX11_restore s ) (fun r => r = Sum.inl (zBack s)) := by
  unfold fX11_restore
  refine zpc_if (fun q => absurd q h) (fun _ => zpc_bu c_bringBack_X2 (fun s0 e0 => zpc_bu c_bringBack_X9 (fun s1 e1 => zpc_bu c_bringBack_X3 (fun s2 e2 => zpc_bu c_bringBack_X7 (fun s3 e3 => zpc_bu c_bringBack_X10 (fun s4 e4 => zpc_bu c_bringBack_X4 (fun s5 e5 => zpc_bu c_bringBack_X5 (fun s6 e6 => zpc_bu c_bringBack_X0 (fun s7 e7 => zpc_bu c_bringBack_X1 (fun s8 e8 => zpc_some ?_))))))))))
  rw [e8, e7, e6, e5, e4, e3, e2, e1, e0]
  rfl
theorem zKept_q : zSq [16, 18, 20, 22, 24, 26, 31, 33, 35, 37, 41, 43, 11, 12] [(0, 11, 11)] [39, 47, 49] [] [(43, 42, 770), (41, 40, 9), (37, 36, 29), (35, 34, 12), (33, 32, 272), (31, 30, 19), (26, 25, 61440), (24, 23, 96), (22, 21, 16384), (20, 19, 4), (18, 17, 32768), (16, 15, 8192)] σ (zKept σ) := by
  unfold zKept
  exact (((((((((((((((((((zSq.rf.cp rfl rfl rfl).cp rfl rfl rfl).cp rfl rfl rfl).cp rfl rfl rfl).cp rfl rfl rfl).cp rfl rfl rfl).cp rfl rfl rfl).cp rfl rfl rfl).cp rfl rfl rfl).cp rfl rfl rfl).cl rfl).cl rfl).wi rfl rfl).wi rfl rfl).cl rfl).wi rfl rfl).wi rfl rfl).cp rfl rfl rfl).cp rfl rfl rfl)
theorem zKept_l {j : Nat} (h : j < 7) : (zKept σ).2 39 j = σ.2 38 j := by
  have e : (zKept σ).2 39 = (zcpl (zcpl (zcpl σ 38 39 0 0 7) 46 47 0 0 4096) 48 49 0 0 4096).2 39 := rfl
  rw [e, zcpl_ne (by decide), zcpl_ne (by decide), zcpl_eq, if_pos h]
theorem zBack_q : zSq [11, 12] [(42, 0, 769), (40, 0, 8), (36, 0, 28), (34, 0, 11), (32, 0, 271), (30, 0, 18), (25, 0, 61439), (23, 0, 95), (21, 0, 16383), (19, 0, 3), (17, 0, 32767), (15, 0, 8191)] [46, 48] [(38, 0, 6)] zsv σ (zBack σ) := by
  unfold zBack
  exact (((((((((((((((((((zSq.rf.cp rfl rfl rfl).cp rfl rfl rfl).cp rfl rfl rfl).cp rfl rfl rfl).cp rfl rfl rfl).cp rfl rfl rfl).cp rfl rfl rfl).cp rfl rfl rfl).cp rfl rfl rfl).cp rfl rfl rfl).cl rfl).cl rfl).wi rfl rfl).wi rfl rfl).cl rfl).wi rfl rfl).wi rfl rfl).cp rfl rfl rfl).cp rfl rfl rfl)
theorem zBack_l {j : Nat} (h : j < 7) : (zBack σ).2 38 j = σ.2 39 j := by
  have e : (zBack σ).2 38 = (zcpl (zcpl (zcpl σ 39 38 0 0 7) 47 46 0 0 4096) 49 48 0 0 4096).2 38 := rfl
  rw [e, zcpl_ne (by decide), zcpl_ne (by decide), zcpl_eq, if_pos h]
/-- what was kept is what there was -/
theorem zKept_k {v : Int32} : zQ [16, 18, 20, 22, 24, 26, 31, 33, 35, 37, 41, 43, 11, 12] [(0, 11, 11)] [39, 47, 49] [] σ (zKc (zsi (zKept σ) 0 11 v)) := by
  obtain ⟨q1, q2⟩ := zKept_q (σ := σ)
  have q1 : zQ [16, 18, 20, 22, 24, 26, 31, 33, 35, 37, 41, 43, 11, 12] [(0, 11, 11)] [39, 47, 49] [] σ (zsi (zKept σ) 0 11 v) := zQ.wi q1 rfl
  refine ⟨fun k j c => zkp_of (q1.1 k j c) (fun p hp i hi => ?_), fun k j c => zkp_of (q1.2 k j c) (fun p hp i hi => ?_)⟩
  · have z : ∀ p ∈ zsv, ∀ i : Nat, i < p.2.2 → (zKept σ).1 p.2.1 i = σ.1 p.1 i := by
      unfold zsv
      exact List.forall_mem_cons.2 ⟨fun i hi => q2 (43, 42, 770) (by decide +kernel) i hi, List.forall_mem_cons.2 ⟨fun i hi => q2 (41, 40, 9) (by decide +kernel) i hi, List.forall_mem_cons.2 ⟨fun i hi => q2 (37, 36, 29) (by decide +kernel) i hi, List.forall_mem_cons.2 ⟨fun i hi => q2 (35, 34, 12) (by decide +kernel) i hi, List.forall_mem_cons.2 ⟨fun i hi => q2 (33, 32, 272) (by decide +kernel) i hi, List.forall_mem_cons.2 ⟨fun i hi => q2 (31, 30, 19) (by decide +kernel) i hi, List.forall_mem_cons.2 ⟨fun i hi => q2 (26, 25, 61440) (by decide +kernel) i hi, List.forall_mem_cons.2 ⟨fun i hi => q2 (24, 23, 96) (by decide +kernel) i hi, List.forall_mem_cons.2 ⟨fun i hi => q2 (22, 21, 16384) (by decide +kernel) i hi, List.forall_mem_cons.2 ⟨fun i hi => q2 (20, 19, 4) (by decide +kernel) i hi, List.forall_mem_cons.2 ⟨fun i hi => q2 (18, 17, 32768) (by decide +kernel) i hi, List.forall_mem_cons.2 ⟨fun i hi => q2 (16, 15, 8192) (by decide +kernel) i hi, fun _ h => absurd h List.not_mem_nil⟩⟩⟩⟩⟩⟩⟩⟩⟩⟩⟩⟩
    have n0 : ∀ p ∈ zsv, ¬ p.2.1 = 0 := by decide +kernel
    show (zsi (zKept σ) 0 11 v).1 p.2.1 i = σ.1 p.1 i
    rw [zsi_ne (n0 p hp)]
    exact z p hp i hi
  · rw [List.mem_singleton] at hp
    subst hp
    exact zKept_l hi
theorem zBack_k : zQ [11, 12] [] [46, 48] [] (zKc σ) (zBack σ) := by
  obtain ⟨q1, q2⟩ := zBack_q (σ := σ)
  refine ⟨fun k j c => zkp_rev q2 (fun z => q1.1 k j ?_), fun k j c => zkp_rev (fun p hp i hi => ?_) (fun z => q1.2 k j ?_)⟩
  · unfold zcv at c ⊢
    rw [Bool.or_eq_false_iff] at c ⊢
    refine ⟨c.1, List.any_eq_false.mpr (fun e he q => ?_)⟩
    rw [Bool.and_eq_true, Bool.and_eq_true] at q
    have n : ∀ e ∈ ([(42, 0, 769), (40, 0, 8), (36, 0, 28), (34, 0, 11), (32, 0, 271), (30, 0, 18), (25, 0, 61439), (23, 0, 95), (21, 0, 16383), (19, 0, 3), (17, 0, 32767), (15, 0, 8191)] : List (Nat × Nat × Nat)), ∃ p ∈ zsv, p.1 = e.1 ∧ e.2.2 < p.2.2 := by decide +kernel
    obtain ⟨p, hp, e1, e2⟩ := n e he
    have a3 := Nat.le_of_ble_eq_true q.2.2
    exact z p hp (e1.trans (Nat.eq_of_beq_eq_true q.1)) (by omega)
  · rw [List.mem_singleton] at hp
    subst hp
    exact zBack_l hi
  · unfold zcv at c ⊢
    rw [Bool.or_eq_false_iff] at c ⊢
    refine ⟨c.1, List.any_eq_false.mpr (fun e he q => ?_)⟩
    rw [List.mem_singleton] at he
    subst he
    rw [Bool.and_eq_true, Bool.and_eq_true] at q
    have a3 := Nat.le_of_ble_eq_true q.2.2
    exact z (38, 39, 7) List.mem_cons_self (Nat.eq_of_beq_eq_true q.1) (by show j < 7; have a3 : j ≤ 6 := a3; omega)
/-! the reference's loops -/
theorem zsl_ej {k j : Nat} {v : Int64} : (zsl s k j v).2 k j = v := by
  show (bif Nat.beq k k then vp_updL (s.2 k) j v else s.2 k) j = v
  rw [show Nat.beq k k = true from Nat.beq_refl k]
  show (if j = j then v else s.2 k j) = v
  rw [if_pos rfl]
theorem zsl_nj {k j i : Nat} {v : Int64} (h : ¬ j = i) : (zsl s k i v).2 k j = s.2 k j := zsl_off (fun q => h q.2)
theorem m_sv12 : ∀ (n i : Nat) (t : zSt), i ≤ 1048 → zQ [] [(12, 0, 1047)] [] [] μ t → (∀ j : Nat, j < i → t.1 12 j = μ.1 3 j) → (∀ t : zSt, zQ [] [(12, 0, 1047)] [] [] μ t → (∀ j : Nat, j < 1048 → t.1 12 j = μ.1 3 j) → zpc (fX12_save_39 zfuel t 0) Q) → zpc (fX12_save_12 n t (Int32.ofNat i)) Q := by
  intro n
  induction n with
  | zero => intro i t _ _ _ _; exact zpc_none
  | succ n ih =>
    intro i t hi hd hin k
    show zpc (fX12_save_12_body (fX12_save_12 n) t (Int32.ofNat i)) Q
    unfold fX12_save_12_body
    refine zpc_if (fun q => ?_) (fun q => ?_)
    · have := (z_ofL (k := 1048) (by omega) rfl).mp q
      exact k t hd (fun j h1 => hin j (by omega))
    have hi2 : i < 1048 := by
      have : ¬ 1048 ≤ i := fun z => q ((z_ofL (c := 1048) (k := 1048) (i := i) (by omega) rfl).mpr z)
      omega
    rw [z_ofC (by omega), z_ofS (by omega)]
    refine zpc_ck (zpc_ck (zpc_bv (fun t1 g1 => zpc_bv (fun x ex => ?_))))
    subst ex
    refine ih (i + 1) t1 (by omega) (by rw [g1]; exact zQ.wi hd (zcv_m (a := 0) (b := 1047) (by decide) (by omega) (by omega))) (fun j hj => ?_) k
    by_cases z : j = i
    · rw [z, g1, zsi_ej]
      show t.1 3 i = μ.1 3 i
      rw [hd.ro (k := 3) rfl]
    · rw [g1, zsi_nj z]; exact hin j (by omega)
theorem m_sv39 : ∀ (n i : Nat) (t : zSt), i ≤ 5 → zQ [] [] [] [(13, 0, 4)] μ t → (∀ j : Nat, j < i → t.2 13 j = μ.2 4 j) → (∀ t : zSt, zQ [] [] [] [(13, 0, 4)] μ t → (∀ j : Nat, j < 5 → t.2 13 j = μ.2 4 j) → zpc (fX12_save_64 zfuel t 0) Q) → zpc (fX12_save_39 n t (Int32.ofNat i)) Q := by
  intro n
  induction n with
  | zero => intro i t _ _ _ _; exact zpc_none
  | succ n ih =>
    intro i t hi hd hin k
    show zpc (fX12_save_39_body (fX12_save_39 n) t (Int32.ofNat i)) Q
    unfold fX12_save_39_body
    refine zpc_if (fun q => ?_) (fun q => ?_)
    · have := (z_ofL (k := 5) (by omega) rfl).mp q
      exact k t hd (fun j h1 => hin j (by omega))
    have hi2 : i < 5 := by
      have : ¬ 5 ≤ i := fun z => q ((z_ofL (c := 5) (k := 5) (i := i) (by omega) rfl).mpr z)
      omega
    rw [z_ofC (by omega), z_ofS (by omega)]
    refine zpc_ck (zpc_ck (zpc_bv (fun t1 g1 => zpc_bv (fun x ex => ?_))))
    subst ex
    refine ih (i + 1) t1 (by omega) (by rw [g1]; exact zQ.wl hd (zcv_m (a := 0) (b := 4) (by decide) (by omega) (by omega))) (fun j hj => ?_) k
    by_cases z : j = i
    · rw [z, g1, zsl_ej]
      show t.2 4 i = μ.2 4 i
      rw [hd.rlo (k := 4) rfl]
    · rw [g1, zsl_nj z]; exact hin j (by omega)
theorem m_sv64 : ∀ (n i : Nat) (t : zSt), i ≤ 8192 → zQ [] [(14, 0, 8191)] [] [] μ t → (∀ j : Nat, j < i → t.1 14 j = vp_nar .byte (μ.1 5 j)) → (∀ t : zSt, zQ [] [(14, 0, 8191)] [] [] μ t → (∀ j : Nat, j < 8192 → t.1 14 j = vp_nar .byte (μ.1 5 j)) → zpc (fX12_save_91 zfuel t 0) Q) → zpc (fX12_save_64 n t (Int32.ofNat i)) Q := by
  intro n
  induction n with
  | zero => intro i t _ _ _ _; exact zpc_none
  | succ n ih =>
    intro i t hi hd hin k
    show zpc (fX12_save_64_body (fX12_save_64 n) t (Int32.ofNat i)) Q
    unfold fX12_save_64_body
    refine zpc_if (fun q => ?_) (fun q => ?_)
    · have := (z_ofL (k := 8192) (by omega) rfl).mp q
      exact k t hd (fun j h1 => hin j (by omega))
    have hi2 : i < 8192 := by
      have : ¬ 8192 ≤ i := fun z => q ((z_ofL (c := 8192) (k := 8192) (i := i) (by omega) rfl).mpr z)
      omega
    rw [z_ofC (by omega), z_ofS (by omega)]
    refine zpc_ck (zpc_ck (zpc_bv (fun t1 g1 => zpc_bv (fun x ex => ?_))))
    subst ex
    refine ih (i + 1) t1 (by omega) (by rw [g1]; exact zQ.wi hd (zcv_m (a := 0) (b := 8191) (by decide) (by omega) (by omega))) (fun j hj => ?_) k
    by_cases z : j = i
    · rw [z, g1, zsi_ej]
      show vp_nar .byte (t.1 5 i) = vp_nar .byte (μ.1 5 i)
      rw [hd.ro (k := 5) rfl]
    · rw [g1, zsi_nj z]; exact hin j (by omega)
theorem m_sv91 : ∀ (n i : Nat) (t : zSt), i ≤ 32768 → zQ [] [(15, 0, 32767)] [] [] μ t → (∀ j : Nat, j < i → t.1 15 j = vp_nar .byte (μ.1 6 j)) → (∀ t : zSt, zQ [] [(15, 0, 32767)] [] [] μ t → (∀ j : Nat, j < 32768 → t.1 15 j = vp_nar .byte (μ.1 6 j)) → zpc (fX12_save_117 zfuel t 0) Q) → zpc (fX12_save_91 n t (Int32.ofNat i)) Q := by
  intro n
  induction n with
  | zero => intro i t _ _ _ _; exact zpc_none
  | succ n ih =>
    intro i t hi hd hin k
    show zpc (fX12_save_91_body (fX12_save_91 n) t (Int32.ofNat i)) Q
    unfold fX12_save_91_body
    refine zpc_if (fun q => ?_) (fun q => ?_)
    · have := (z_ofL (k := 32768) (by omega) rfl).mp q
      exact k t hd (fun j h1 => hin j (by omega))
    have hi2 : i < 32768 := by
      have : ¬ 32768 ≤ i := fun z => q ((z_ofL (c := 32768) (k := 32768) (i := i) (by omega) rfl).mpr z)
      omega
    rw [z_ofC (by omega), z_ofS (by omega)]
    refine zpc_ck (zpc_ck (zpc_bv (fun t1 g1 => zpc_bv (fun x ex => ?_))))
    subst ex
    refine ih (i + 1) t1 (by omega) (by rw [g1]; exact zQ.wi hd (zcv_m (a := 0) (b := 32767) (by decide) (by omega) (by omega))) (fun j hj => ?_) k
    by_cases z : j = i
    · rw [z, g1, zsi_ej]
      show vp_nar .byte (t.1 6 i) = vp_nar .byte (μ.1 6 i)
      rw [hd.ro (k := 6) rfl]
    · rw [g1, zsi_nj z]; exact hin j (by omega)
theorem m_sv117 : ∀ (n i : Nat) (t : zSt), i ≤ 16384 → zQ [] [(16, 0, 16383)] [] [] μ t → (∀ j : Nat, j < i → t.1 16 j = vp_nar .byte (μ.1 7 j)) → (∀ t : zSt, zQ [] [(16, 0, 16383)] [] [] μ t → (∀ j : Nat, j < 16384 → t.1 16 j = vp_nar .byte (μ.1 7 j)) → zpc (fX12_save_144 zfuel t 0) Q) → zpc (fX12_save_117 n t (Int32.ofNat i)) Q := by
  intro n
  induction n with
  | zero => intro i t _ _ _ _; exact zpc_none
  | succ n ih =>
    intro i t hi hd hin k
    show zpc (fX12_save_117_body (fX12_save_117 n) t (Int32.ofNat i)) Q
    unfold fX12_save_117_body
    refine zpc_if (fun q => ?_) (fun q => ?_)
    · have := (z_ofL (k := 16384) (by omega) rfl).mp q
      exact k t hd (fun j h1 => hin j (by omega))
    have hi2 : i < 16384 := by
      have : ¬ 16384 ≤ i := fun z => q ((z_ofL (c := 16384) (k := 16384) (i := i) (by omega) rfl).mpr z)
      omega
    rw [z_ofC (by omega), z_ofS (by omega)]
    refine zpc_ck (zpc_ck (zpc_bv (fun t1 g1 => zpc_bv (fun x ex => ?_))))
    subst ex
    refine ih (i + 1) t1 (by omega) (by rw [g1]; exact zQ.wi hd (zcv_m (a := 0) (b := 16383) (by decide) (by omega) (by omega))) (fun j hj => ?_) k
    by_cases z : j = i
    · rw [z, g1, zsi_ej]
      show vp_nar .byte (t.1 7 i) = vp_nar .byte (μ.1 7 i)
      rw [hd.ro (k := 7) rfl]
    · rw [g1, zsi_nj z]; exact hin j (by omega)
theorem m_sv144 : ∀ (n i : Nat) (t : zSt), i ≤ 64 → zQ [] [(17, 0, 63)] [] [] μ t → (∀ j : Nat, j < i → t.1 17 j = vp_nar .byte (μ.1 8 j)) → (∀ t : zSt, zQ [] [(17, 0, 63)] [] [] μ t → (∀ j : Nat, j < 64 → t.1 17 j = vp_nar .byte (μ.1 8 j)) → zpc (fX12_save_170 zfuel t 0) Q) → zpc (fX12_save_144 n t (Int32.ofNat i)) Q := by
  intro n
  induction n with
  | zero => intro i t _ _ _ _; exact zpc_none
  | succ n ih =>
    intro i t hi hd hin k
    show zpc (fX12_save_144_body (fX12_save_144 n) t (Int32.ofNat i)) Q
    unfold fX12_save_144_body
    refine zpc_if (fun q => ?_) (fun q => ?_)
    · have := (z_ofL (k := 64) (by omega) rfl).mp q
      exact k t hd (fun j h1 => hin j (by omega))
    have hi2 : i < 64 := by
      have : ¬ 64 ≤ i := fun z => q ((z_ofL (c := 64) (k := 64) (i := i) (by omega) rfl).mpr z)
      omega
    rw [z_ofC (by omega), z_ofS (by omega)]
    refine zpc_ck (zpc_ck (zpc_bv (fun t1 g1 => zpc_bv (fun x ex => ?_))))
    subst ex
    refine ih (i + 1) t1 (by omega) (by rw [g1]; exact zQ.wi hd (zcv_m (a := 0) (b := 63) (by decide) (by omega) (by omega))) (fun j hj => ?_) k
    by_cases z : j = i
    · rw [z, g1, zsi_ej]
      show vp_nar .byte (t.1 8 i) = vp_nar .byte (μ.1 8 i)
      rw [hd.ro (k := 8) rfl]
    · rw [g1, zsi_nj z]; exact hin j (by omega)
theorem m_sv170 : ∀ (n i : Nat) (t : zSt), i ≤ 61440 → zQ [] [(18, 0, 61439)] [] [] μ t → (∀ j : Nat, j < i → t.1 18 j = μ.1 9 j) → (∀ t : zSt, zQ [] [(18, 0, 61439)] [] [] μ t → (∀ j : Nat, j < 61440 → t.1 18 j = μ.1 9 j) → zpc (fX12_save_196 zfuel t 0) Q) → zpc (fX12_save_170 n t (Int32.ofNat i)) Q := by
  intro n
  induction n with
  | zero => intro i t _ _ _ _; exact zpc_none
  | succ n ih =>
    intro i t hi hd hin k
    show zpc (fX12_save_170_body (fX12_save_170 n) t (Int32.ofNat i)) Q
    unfold fX12_save_170_body
    refine zpc_if (fun q => ?_) (fun q => ?_)
    · have := (z_ofL (k := 61440) (by omega) rfl).mp q
      exact k t hd (fun j h1 => hin j (by omega))
    have hi2 : i < 61440 := by
      have : ¬ 61440 ≤ i := fun z => q ((z_ofL (c := 61440) (k := 61440) (i := i) (by omega) rfl).mpr z)
      omega
    rw [z_ofC (by omega), z_ofS (by omega)]
    refine zpc_ck (zpc_ck (zpc_bv (fun t1 g1 => zpc_bv (fun x ex => ?_))))
    subst ex
    refine ih (i + 1) t1 (by omega) (by rw [g1]; exact zQ.wi hd (zcv_m (a := 0) (b := 61439) (by decide) (by omega) (by omega))) (fun j hj => ?_) k
    by_cases z : j = i
    · rw [z, g1, zsi_ej]
      show t.1 9 i = μ.1 9 i
      rw [hd.ro (k := 9) rfl]
    · rw [g1, zsi_nj z]; exact hin j (by omega)
theorem m_sv196 : ∀ (n i : Nat) (t : zSt), i ≤ 4096 → zQ [] [] [19, 20] [] μ t → zpc (fX12_save_196 n t (Int32.ofNat i)) (fun r => zQ [] [] [19, 20] [] μ r) := by
  intro n
  induction n with
  | zero => intro i t _ _; exact zpc_none
  | succ n ih =>
    intro i t hi hd
    show zpc (fX12_save_196_body (fX12_save_196 n) t (Int32.ofNat i)) _
    unfold fX12_save_196_body
    refine zpc_if (fun q => zpc_some hd) (fun q => ?_)
    have hi2 : i < 4096 := by
      have : ¬ 4096 ≤ i := fun z => q ((z_ofL (c := 4096) (k := 4096) (i := i) (by omega) rfl).mpr z)
      omega
    rw [z_ofC (by omega), z_ofS (by omega)]
    refine zpc_ck (zpc_ck (zpc_bv (fun t1 g1 => zpc_ck (zpc_ck (zpc_bv (fun t2 g2 => zpc_bv (fun x ex => ?_)))))))
    subst ex
    exact ih (i + 1) t2 (by omega) (by rw [g2, g1]; exact zQ.wl (zQ.wl hd rfl) rfl)
theorem m_rs23 : ∀ (n i : Nat) (t : zSt), i ≤ 1048 → zQ [] [(3, 0, 1047)] [] [] μ t → (∀ j : Nat, j < i → t.1 3 j = μ.1 12 j) → (∀ t : zSt, zQ [] [(3, 0, 1047)] [] [] μ t → (∀ j : Nat, j < 1048 → t.1 3 j = μ.1 12 j) → zpc (fX12_restore_50 zfuel t 0) Q) → zpc (fX12_restore_23 n t (Int32.ofNat i)) Q := by
  intro n
  induction n with
  | zero => intro i t _ _ _ _; exact zpc_none
  | succ n ih =>
    intro i t hi hd hin k
    show zpc (fX12_restore_23_body (fX12_restore_23 n) t (Int32.ofNat i)) Q
    unfold fX12_restore_23_body
    refine zpc_if (fun q => ?_) (fun q => ?_)
    · have := (z_ofL (k := 1048) (by omega) rfl).mp q
      exact k t hd (fun j h1 => hin j (by omega))
    have hi2 : i < 1048 := by
      have : ¬ 1048 ≤ i := fun z => q ((z_ofL (c := 1048) (k := 1048) (i := i) (by omega) rfl).mpr z)
      omega
    rw [z_ofC (by omega), z_ofS (by omega)]
    refine zpc_ck (zpc_ck (zpc_bv (fun t1 g1 => zpc_bv (fun x ex => ?_))))
    subst ex
    refine ih (i + 1) t1 (by omega) (by rw [g1]; exact zQ.wi hd (zcv_m (a := 0) (b := 1047) (by decide) (by omega) (by omega))) (fun j hj => ?_) k
    by_cases z : j = i
    · rw [z, g1, zsi_ej]
      show t.1 12 i = μ.1 12 i
      rw [hd.ro (k := 12) rfl]
    · rw [g1, zsi_nj z]; exact hin j (by omega)
theorem m_rs50 : ∀ (n i : Nat) (t : zSt), i ≤ 5 → zQ [] [] [] [(4, 0, 4)] μ t → (∀ j : Nat, j < i → t.2 4 j = μ.2 13 j) → (∀ t : zSt, zQ [] [] [] [(4, 0, 4)] μ t → (∀ j : Nat, j < 5 → t.2 4 j = μ.2 13 j) → zpc (fX12_restore_75 zfuel t 0) Q) → zpc (fX12_restore_50 n t (Int32.ofNat i)) Q := by
  intro n
  induction n with
  | zero => intro i t _ _ _ _; exact zpc_none
  | succ n ih =>
    intro i t hi hd hin k
    show zpc (fX12_restore_50_body (fX12_restore_50 n) t (Int32.ofNat i)) Q
    unfold fX12_restore_50_body
    refine zpc_if (fun q => ?_) (fun q => ?_)
    · have := (z_ofL (k := 5) (by omega) rfl).mp q
      exact k t hd (fun j h1 => hin j (by omega))
    have hi2 : i < 5 := by
      have : ¬ 5 ≤ i := fun z => q ((z_ofL (c := 5) (k := 5) (i := i) (by omega) rfl).mpr z)
      omega
    rw [z_ofC (by omega), z_ofS (by omega)]
    refine zpc_ck (zpc_ck (zpc_bv (fun t1 g1 => zpc_bv (fun x ex => ?_))))
    subst ex
    refine ih (i + 1) t1 (by omega) (by rw [g1]; exact zQ.wl hd (zcv_m (a := 0) (b := 4) (by decide) (by omega) (by omega))) (fun j hj => ?_) k
    by_cases z : j = i
    · rw [z, g1, zsl_ej]
      show t.2 13 i = μ.2 13 i
      rw [hd.rlo (k := 13) rfl]
    · rw [g1, zsl_nj z]; exact hin j (by omega)
theorem m_rs75 : ∀ (n i : Nat) (t : zSt), i ≤ 8192 → zQ [] [(5, 0, 8191)] [] [] μ t → (∀ j : Nat, j < i → t.1 5 j = vp_nar .byte (μ.1 14 j)) → (∀ t : zSt, zQ [] [(5, 0, 8191)] [] [] μ t → (∀ j : Nat, j < 8192 → t.1 5 j = vp_nar .byte (μ.1 14 j)) → zpc (fX12_restore_102 zfuel t 0) Q) → zpc (fX12_restore_75 n t (Int32.ofNat i)) Q := by
  intro n
  induction n with
  | zero => intro i t _ _ _ _; exact zpc_none
  | succ n ih =>
    intro i t hi hd hin k
    show zpc (fX12_restore_75_body (fX12_restore_75 n) t (Int32.ofNat i)) Q
    unfold fX12_restore_75_body
    refine zpc_if (fun q => ?_) (fun q => ?_)
    · have := (z_ofL (k := 8192) (by omega) rfl).mp q
      exact k t hd (fun j h1 => hin j (by omega))
    have hi2 : i < 8192 := by
      have : ¬ 8192 ≤ i := fun z => q ((z_ofL (c := 8192) (k := 8192) (i := i) (by omega) rfl).mpr z)
      omega
    rw [z_ofC (by omega), z_ofS (by omega)]
    refine zpc_ck (zpc_ck (zpc_bv (fun t1 g1 => zpc_bv (fun x ex => ?_))))
    subst ex
    refine ih (i + 1) t1 (by omega) (by rw [g1]; exact zQ.wi hd (zcv_m (a := 0) (b := 8191) (by decide) (by omega) (by omega))) (fun j hj => ?_) k
    by_cases z : j = i
    · rw [z, g1, zsi_ej]
      show vp_nar .byte (t.1 14 i) = vp_nar .byte (μ.1 14 i)
      rw [hd.ro (k := 14) rfl]
    · rw [g1, zsi_nj z]; exact hin j (by omega)
theorem m_rs102 : ∀ (n i : Nat) (t : zSt), i ≤ 32768 → zQ [] [(6, 0, 32767)] [] [] μ t → (∀ j : Nat, j < i → t.1 6 j = vp_nar .byte (μ.1 15 j)) → (∀ t : zSt, zQ [] [(6, 0, 32767)] [] [] μ t → (∀ j : Nat, j < 32768 → t.1 6 j = vp_nar .byte (μ.1 15 j)) → zpc (fX12_restore_128 zfuel t 0) Q) → zpc (fX12_restore_102 n t (Int32.ofNat i)) Q := by
  intro n
  induction n with
  | zero => intro i t _ _ _ _; exact zpc_none
  | succ n ih =>
    intro i t hi hd hin k
    show zpc (fX12_restore_102_body (fX12_restore_102 n) t (Int32.ofNat i)) Q
    unfold fX12_restore_102_body
    refine zpc_if (fun q => ?_) (fun q => ?_)
    · have := (z_ofL (k := 32768) (by omega) rfl).mp q
      exact k t hd (fun j h1 => hin j (by omega))
    have hi2 : i < 32768 := by
      have : ¬ 32768 ≤ i := fun z => q ((z_ofL (c := 32768) (k := 32768) (i := i) (by omega) rfl).mpr z)
      omega
    rw [z_ofC (by omega), z_ofS (by omega)]
    refine zpc_ck (zpc_ck (zpc_bv (fun t1 g1 => zpc_bv (fun x ex => ?_))))
    subst ex
    refine ih (i + 1) t1 (by omega) (by rw [g1]; exact zQ.wi hd (zcv_m (a := 0) (b := 32767) (by decide) (by omega) (by omega))) (fun j hj => ?_) k
    by_cases z : j = i
    · rw [z, g1, zsi_ej]
      show vp_nar .byte (t.1 15 i) = vp_nar .byte (μ.1 15 i)
      rw [hd.ro (k := 15) rfl]
    · rw [g1, zsi_nj z]; exact hin j (by omega)
theorem m_rs128 : ∀ (n i : Nat) (t : zSt), i ≤ 16384 → zQ [] [(7, 0, 16383)] [] [] μ t → (∀ j : Nat, j < i → t.1 7 j = vp_nar .byte (μ.1 16 j)) → (∀ t : zSt, zQ [] [(7, 0, 16383)] [] [] μ t → (∀ j : Nat, j < 16384 → t.1 7 j = vp_nar .byte (μ.1 16 j)) → zpc (fX12_restore_155 zfuel t 0) Q) → zpc (fX12_restore_128 n t (Int32.ofNat i)) Q := by
  intro n
  induction n with
  | zero => intro i t _ _ _ _; exact zpc_none
  | succ n ih =>
    intro i t hi hd hin k
    show zpc (fX12_restore_128_body (fX12_restore_128 n) t (Int32.ofNat i)) Q
    unfold fX12_restore_128_body
    refine zpc_if (fun q => ?_) (fun q => ?_)
    · have := (z_ofL (k := 16384) (by omega) rfl).mp q
      exact k t hd (fun j h1 => hin j (by omega))
    have hi2 : i < 16384 := by
      have : ¬ 16384 ≤ i := fun z => q ((z_ofL (c := 16384) (k := 16384) (i := i) (by omega) rfl).mpr z)
      omega
    rw [z_ofC (by omega), z_ofS (by omega)]
    refine zpc_ck (zpc_ck (zpc_bv (fun t1 g1 => zpc_bv (fun x ex => ?_))))
    subst ex
    refine ih (i + 1) t1 (by omega) (by rw [g1]; exact zQ.wi hd (zcv_m (a := 0) (b := 16383) (by decide) (by omega) (by omega))) (fun j hj => ?_) k
    by_cases z : j = i
    · rw [z, g1, zsi_ej]
      show vp_nar .byte (t.1 16 i) = vp_nar .byte (μ.1 16 i)
      rw [hd.ro (k := 16) rfl]
    · rw [g1, zsi_nj z]; exact hin j (by omega)
theorem m_rs155 : ∀ (n i : Nat) (t : zSt), i ≤ 64 → zQ [] [(8, 0, 63)] [] [] μ t → (∀ j : Nat, j < i → t.1 8 j = vp_nar .byte (μ.1 17 j)) → (∀ t : zSt, zQ [] [(8, 0, 63)] [] [] μ t → (∀ j : Nat, j < 64 → t.1 8 j = vp_nar .byte (μ.1 17 j)) → zpc (fX12_restore_181 zfuel t 0) Q) → zpc (fX12_restore_155 n t (Int32.ofNat i)) Q := by
  intro n
  induction n with
  | zero => intro i t _ _ _ _; exact zpc_none
  | succ n ih =>
    intro i t hi hd hin k
    show zpc (fX12_restore_155_body (fX12_restore_155 n) t (Int32.ofNat i)) Q
    unfold fX12_restore_155_body
    refine zpc_if (fun q => ?_) (fun q => ?_)
    · have := (z_ofL (k := 64) (by omega) rfl).mp q
      exact k t hd (fun j h1 => hin j (by omega))
    have hi2 : i < 64 := by
      have : ¬ 64 ≤ i := fun z => q ((z_ofL (c := 64) (k := 64) (i := i) (by omega) rfl).mpr z)
      omega
    rw [z_ofC (by omega), z_ofS (by omega)]
    refine zpc_ck (zpc_ck (zpc_bv (fun t1 g1 => zpc_bv (fun x ex => ?_))))
    subst ex
    refine ih (i + 1) t1 (by omega) (by rw [g1]; exact zQ.wi hd (zcv_m (a := 0) (b := 63) (by decide) (by omega) (by omega))) (fun j hj => ?_) k
    by_cases z : j = i
    · rw [z, g1, zsi_ej]
      show vp_nar .byte (t.1 17 i) = vp_nar .byte (μ.1 17 i)
      rw [hd.ro (k := 17) rfl]
    · rw [g1, zsi_nj z]; exact hin j (by omega)
theorem m_rs181 : ∀ (n i : Nat) (t : zSt), i ≤ 61440 → zQ [] [(9, 0, 61439)] [] [] μ t → (∀ j : Nat, j < i → t.1 9 j = μ.1 18 j) → (∀ t : zSt, zQ [] [(9, 0, 61439)] [] [] μ t → (∀ j : Nat, j < 61440 → t.1 9 j = μ.1 18 j) → zpc (fX12_restore_207 zfuel t 0) Q) → zpc (fX12_restore_181 n t (Int32.ofNat i)) Q := by
  intro n
  induction n with
  | zero => intro i t _ _ _ _; exact zpc_none
  | succ n ih =>
    intro i t hi hd hin k
    show zpc (fX12_restore_181_body (fX12_restore_181 n) t (Int32.ofNat i)) Q
    unfold fX12_restore_181_body
    refine zpc_if (fun q => ?_) (fun q => ?_)
    · have := (z_ofL (k := 61440) (by omega) rfl).mp q
      exact k t hd (fun j h1 => hin j (by omega))
    have hi2 : i < 61440 := by
      have : ¬ 61440 ≤ i := fun z => q ((z_ofL (c := 61440) (k := 61440) (i := i) (by omega) rfl).mpr z)
      omega
    rw [z_ofC (by omega), z_ofS (by omega)]
    refine zpc_ck (zpc_ck (zpc_bv (fun t1 g1 => zpc_bv (fun x ex => ?_))))
    subst ex
    refine ih (i + 1) t1 (by omega) (by rw [g1]; exact zQ.wi hd (zcv_m (a := 0) (b := 61439) (by decide) (by omega) (by omega))) (fun j hj => ?_) k
    by_cases z : j = i
    · rw [z, g1, zsi_ej]
      show t.1 18 i = μ.1 18 i
      rw [hd.ro (k := 18) rfl]
    · rw [g1, zsi_nj z]; exact hin j (by omega)
theorem m_rs207 : ∀ (n i : Nat) (t : zSt), i ≤ 4096 → zQ [] [] [10, 11] [] μ t → zpc (fX12_restore_207 n t (Int32.ofNat i)) (fun r => zQ [] [] [10, 11] [] μ r) := by
  intro n
  induction n with
  | zero => intro i t _ _; exact zpc_none
  | succ n ih =>
    intro i t hi hd
    show zpc (fX12_restore_207_body (fX12_restore_207 n) t (Int32.ofNat i)) _
    unfold fX12_restore_207_body
    refine zpc_if (fun q => zpc_some hd) (fun q => ?_)
    have hi2 : i < 4096 := by
      have : ¬ 4096 ≤ i := fun z => q ((z_ofL (c := 4096) (k := 4096) (i := i) (by omega) rfl).mpr z)
      omega
    rw [z_ofC (by omega), z_ofS (by omega)]
    refine zpc_ck (zpc_ck (zpc_bv (fun t1 g1 => zpc_ck (zpc_ck (zpc_bv (fun t2 g2 => zpc_bv (fun x ex => ?_)))))))
    subst ex
    exact ih (i + 1) t2 (by omega) (by rw [g2, g1]; exact zQ.wl (zQ.wl hd rfl) rfl)
def zMkk (μ r : zSt) : Prop := zQ [12, 14, 15, 16, 17, 18] [(0, 0, 0), (0, 19, 19)] [13, 19, 20] [] μ r ∧ (∀ j : Nat, j < 1048 → r.1 12 j = μ.1 3 j) ∧ (∀ j : Nat, j < 5 → r.2 13 j = μ.2 4 j) ∧ (∀ j : Nat, j < 8192 → r.1 14 j = vp_nar .byte (μ.1 5 j)) ∧ (∀ j : Nat, j < 32768 → r.1 15 j = vp_nar .byte (μ.1 6 j)) ∧ (∀ j : Nat, j < 16384 → r.1 16 j = vp_nar .byte (μ.1 7 j)) ∧ (∀ j : Nat, j < 64 → r.1 17 j = vp_nar .byte (μ.1 8 j)) ∧ (∀ j : Nat, j < 61440 → r.1 18 j = μ.1 9 j)
theorem m_save' : zpc (fX12_save_12 zfuel μ 0) (zMkk μ) := by
  refine m_sv12 (μ := μ) zfuel 0 μ (by decide) zQ.rf (fun j hj => absurd hj (by omega)) (fun u0 d0 v0 => ?_)
  refine m_sv39 (μ := u0) zfuel 0 u0 (by decide) zQ.rf (fun j hj => absurd hj (by omega)) (fun u1 d1 v1 => ?_)
  refine m_sv64 (μ := u1) zfuel 0 u1 (by decide) zQ.rf (fun j hj => absurd hj (by omega)) (fun u2 d2 v2 => ?_)
  refine m_sv91 (μ := u2) zfuel 0 u2 (by decide) zQ.rf (fun j hj => absurd hj (by omega)) (fun u3 d3 v3 => ?_)
  refine m_sv117 (μ := u3) zfuel 0 u3 (by decide) zQ.rf (fun j hj => absurd hj (by omega)) (fun u4 d4 v4 => ?_)
  refine m_sv144 (μ := u4) zfuel 0 u4 (by decide) zQ.rf (fun j hj => absurd hj (by omega)) (fun u5 d5 v5 => ?_)
  refine m_sv170 (μ := u5) zfuel 0 u5 (by decide) zQ.rf (fun j hj => absurd hj (by omega)) (fun u6 d6 v6 => ?_)
  refine zpc_mono (m_sv196 (μ := u6) zfuel 0 u6 (by decide) zQ.rf) (fun r d7 => ?_)
  have w0 : ∀ j : Nat, j < 1048 → r.1 12 j = μ.1 3 j := fun j hj => by
    rw [d7.ro (k := 12) rfl, d6.ro (k := 12) rfl, d5.ro (k := 12) rfl, d4.ro (k := 12) rfl, d3.ro (k := 12) rfl, d2.ro (k := 12) rfl, d1.ro (k := 12) rfl, v0 j hj]
  have w1 : ∀ j : Nat, j < 5 → r.2 13 j = μ.2 4 j := fun j hj => by
    rw [d7.rlo (k := 13) rfl, d6.rlo (k := 13) rfl, d5.rlo (k := 13) rfl, d4.rlo (k := 13) rfl, d3.rlo (k := 13) rfl, d2.rlo (k := 13) rfl, v1 j hj, d0.rlo (k := 4) rfl]
  have w2 : ∀ j : Nat, j < 8192 → r.1 14 j = vp_nar .byte (μ.1 5 j) := fun j hj => by
    rw [d7.ro (k := 14) rfl, d6.ro (k := 14) rfl, d5.ro (k := 14) rfl, d4.ro (k := 14) rfl, d3.ro (k := 14) rfl, v2 j hj, d1.ro (k := 5) rfl, d0.ro (k := 5) rfl]
  have w3 : ∀ j : Nat, j < 32768 → r.1 15 j = vp_nar .byte (μ.1 6 j) := fun j hj => by
    rw [d7.ro (k := 15) rfl, d6.ro (k := 15) rfl, d5.ro (k := 15) rfl, d4.ro (k := 15) rfl, v3 j hj, d2.ro (k := 6) rfl, d1.ro (k := 6) rfl, d0.ro (k := 6) rfl]
  have w4 : ∀ j : Nat, j < 16384 → r.1 16 j = vp_nar .byte (μ.1 7 j) := fun j hj => by
    rw [d7.ro (k := 16) rfl, d6.ro (k := 16) rfl, d5.ro (k := 16) rfl, v4 j hj, d3.ro (k := 7) rfl, d2.ro (k := 7) rfl, d1.ro (k := 7) rfl, d0.ro (k := 7) rfl]
  have w5 : ∀ j : Nat, j < 64 → r.1 17 j = vp_nar .byte (μ.1 8 j) := fun j hj => by
    rw [d7.ro (k := 17) rfl, d6.ro (k := 17) rfl, v5 j hj, d4.ro (k := 8) rfl, d3.ro (k := 8) rfl, d2.ro (k := 8) rfl, d1.ro (k := 8) rfl, d0.ro (k := 8) rfl]
  have w6 : ∀ j : Nat, j < 61440 → r.1 18 j = μ.1 9 j := fun j hj => by
    rw [d7.ro (k := 18) rfl, v6 j hj, d5.ro (k := 9) rfl, d4.ro (k := 9) rfl, d3.ro (k := 9) rfl, d2.ro (k := 9) rfl, d1.ro (k := 9) rfl, d0.ro (k := 9) rfl]
  refine ⟨?_, w0, w1, w2, w3, w4, w5, w6⟩
  have m0 := d0.mono (R' := [12, 14, 15, 16, 17, 18]) (A' := [(0, 0, 0), (0, 19, 19)]) (S' := [13, 19, 20]) (B' := []) rfl rfl
  have m1 := d1.mono (R' := [12, 14, 15, 16, 17, 18]) (A' := [(0, 0, 0), (0, 19, 19)]) (S' := [13, 19, 20]) (B' := []) rfl rfl
  have m2 := d2.mono (R' := [12, 14, 15, 16, 17, 18]) (A' := [(0, 0, 0), (0, 19, 19)]) (S' := [13, 19, 20]) (B' := []) rfl rfl
  have m3 := d3.mono (R' := [12, 14, 15, 16, 17, 18]) (A' := [(0, 0, 0), (0, 19, 19)]) (S' := [13, 19, 20]) (B' := []) rfl rfl
  have m4 := d4.mono (R' := [12, 14, 15, 16, 17, 18]) (A' := [(0, 0, 0), (0, 19, 19)]) (S' := [13, 19, 20]) (B' := []) rfl rfl
  have m5 := d5.mono (R' := [12, 14, 15, 16, 17, 18]) (A' := [(0, 0, 0), (0, 19, 19)]) (S' := [13, 19, 20]) (B' := []) rfl rfl
  have m6 := d6.mono (R' := [12, 14, 15, 16, 17, 18]) (A' := [(0, 0, 0), (0, 19, 19)]) (S' := [13, 19, 20]) (B' := []) rfl rfl
  have m7 := d7.mono (R' := [12, 14, 15, 16, 17, 18]) (A' := [(0, 0, 0), (0, 19, 19)]) (S' := [13, 19, 20]) (B' := []) rfl rfl
  exact ((((((m0.tr m1).tr m2).tr m3).tr m4).tr m5).tr m6).tr m7
theorem m_back : zpc (fX12_restore_23 zfuel μ 0) (fun r => zQ [] [] [10, 11] [] (zKm μ) r) := by
  refine m_rs23 (μ := μ) zfuel 0 μ (by decide) zQ.rf (fun j hj => absurd hj (by omega)) (fun u0 d0 v0 => ?_)
  refine m_rs50 (μ := u0) zfuel 0 u0 (by decide) zQ.rf (fun j hj => absurd hj (by omega)) (fun u1 d1 v1 => ?_)
  refine m_rs75 (μ := u1) zfuel 0 u1 (by decide) zQ.rf (fun j hj => absurd hj (by omega)) (fun u2 d2 v2 => ?_)
  refine m_rs102 (μ := u2) zfuel 0 u2 (by decide) zQ.rf (fun j hj => absurd hj (by omega)) (fun u3 d3 v3 => ?_)
  refine m_rs128 (μ := u3) zfuel 0 u3 (by decide) zQ.rf (fun j hj => absurd hj (by omega)) (fun u4 d4 v4 => ?_)
  refine m_rs155 (μ := u4) zfuel 0 u4 (by decide) zQ.rf (fun j hj => absurd hj (by omega)) (fun u5 d5 v5 => ?_)
  refine m_rs181 (μ := u5) zfuel 0 u5 (by decide) zQ.rf (fun j hj => absurd hj (by omega)) (fun u6 d6 v6 => ?_)
  refine zpc_mono (m_rs207 (μ := u6) zfuel 0 u6 (by decide) zQ.rf) (fun r d7 => ?_)
  have w0 : ∀ j : Nat, j < 1048 → r.1 3 j = μ.1 12 j := fun j hj => by
    rw [d7.ro (k := 3) rfl, d6.ro (k := 3) rfl, d5.ro (k := 3) rfl, d4.ro (k := 3) rfl, d3.ro (k := 3) rfl, d2.ro (k := 3) rfl, d1.ro (k := 3) rfl, v0 j hj]
  have w1 : ∀ j : Nat, j < 5 → r.2 4 j = μ.2 13 j := fun j hj => by
    rw [d7.rlo (k := 4) rfl, d6.rlo (k := 4) rfl, d5.rlo (k := 4) rfl, d4.rlo (k := 4) rfl, d3.rlo (k := 4) rfl, d2.rlo (k := 4) rfl, v1 j hj, d0.rlo (k := 13) rfl]
  have w2 : ∀ j : Nat, j < 8192 → r.1 5 j = vp_nar .byte (μ.1 14 j) := fun j hj => by
    rw [d7.ro (k := 5) rfl, d6.ro (k := 5) rfl, d5.ro (k := 5) rfl, d4.ro (k := 5) rfl, d3.ro (k := 5) rfl, v2 j hj, d1.ro (k := 14) rfl, d0.ro (k := 14) rfl]
  have w3 : ∀ j : Nat, j < 32768 → r.1 6 j = vp_nar .byte (μ.1 15 j) := fun j hj => by
    rw [d7.ro (k := 6) rfl, d6.ro (k := 6) rfl, d5.ro (k := 6) rfl, d4.ro (k := 6) rfl, v3 j hj, d2.ro (k := 15) rfl, d1.ro (k := 15) rfl, d0.ro (k := 15) rfl]
  have w4 : ∀ j : Nat, j < 16384 → r.1 7 j = vp_nar .byte (μ.1 16 j) := fun j hj => by
    rw [d7.ro (k := 7) rfl, d6.ro (k := 7) rfl, d5.ro (k := 7) rfl, v4 j hj, d3.ro (k := 16) rfl, d2.ro (k := 16) rfl, d1.ro (k := 16) rfl, d0.ro (k := 16) rfl]
  have w5 : ∀ j : Nat, j < 64 → r.1 8 j = vp_nar .byte (μ.1 17 j) := fun j hj => by
    rw [d7.ro (k := 8) rfl, d6.ro (k := 8) rfl, v5 j hj, d4.ro (k := 17) rfl, d3.ro (k := 17) rfl, d2.ro (k := 17) rfl, d1.ro (k := 17) rfl, d0.ro (k := 17) rfl]
  have w6 : ∀ j : Nat, j < 61440 → r.1 9 j = μ.1 18 j := fun j hj => by
    rw [d7.ro (k := 9) rfl, v6 j hj, d5.ro (k := 18) rfl, d4.ro (k := 18) rfl, d3.ro (k := 18) rfl, d2.ro (k := 18) rfl, d1.ro (k := 18) rfl, d0.ro (k := 18) rfl]
  have m0 := d0.mono (R' := []) (A' := [(0, 0, 0), (3, 0, 1047), (5, 0, 8191), (6, 0, 32767), (7, 0, 16383), (8, 0, 63), (9, 0, 61439)]) (S' := [10, 11]) (B' := [(4, 0, 4)]) rfl rfl
  have m1 := d1.mono (R' := []) (A' := [(0, 0, 0), (3, 0, 1047), (5, 0, 8191), (6, 0, 32767), (7, 0, 16383), (8, 0, 63), (9, 0, 61439)]) (S' := [10, 11]) (B' := [(4, 0, 4)]) rfl rfl
  have m2 := d2.mono (R' := []) (A' := [(0, 0, 0), (3, 0, 1047), (5, 0, 8191), (6, 0, 32767), (7, 0, 16383), (8, 0, 63), (9, 0, 61439)]) (S' := [10, 11]) (B' := [(4, 0, 4)]) rfl rfl
  have m3 := d3.mono (R' := []) (A' := [(0, 0, 0), (3, 0, 1047), (5, 0, 8191), (6, 0, 32767), (7, 0, 16383), (8, 0, 63), (9, 0, 61439)]) (S' := [10, 11]) (B' := [(4, 0, 4)]) rfl rfl
  have m4 := d4.mono (R' := []) (A' := [(0, 0, 0), (3, 0, 1047), (5, 0, 8191), (6, 0, 32767), (7, 0, 16383), (8, 0, 63), (9, 0, 61439)]) (S' := [10, 11]) (B' := [(4, 0, 4)]) rfl rfl
  have m5 := d5.mono (R' := []) (A' := [(0, 0, 0), (3, 0, 1047), (5, 0, 8191), (6, 0, 32767), (7, 0, 16383), (8, 0, 63), (9, 0, 61439)]) (S' := [10, 11]) (B' := [(4, 0, 4)]) rfl rfl
  have m6 := d6.mono (R' := []) (A' := [(0, 0, 0), (3, 0, 1047), (5, 0, 8191), (6, 0, 32767), (7, 0, 16383), (8, 0, 63), (9, 0, 61439)]) (S' := [10, 11]) (B' := [(4, 0, 4)]) rfl rfl
  have m7 := d7.mono (R' := []) (A' := [(0, 0, 0), (3, 0, 1047), (5, 0, 8191), (6, 0, 32767), (7, 0, 16383), (8, 0, 63), (9, 0, 61439)]) (S' := [10, 11]) (B' := [(4, 0, 4)]) rfl rfl
  have fr := ((((((m0.tr m1).tr m2).tr m3).tr m4).tr m5).tr m6).tr m7
  have z0 : r.1 0 0 = μ.1 0 0 := by rw [d7.ro (k := 0) rfl, d6.ro (k := 0) rfl, d5.ro (k := 0) rfl, d4.ro (k := 0) rfl, d3.ro (k := 0) rfl, d2.ro (k := 0) rfl, d1.ro (k := 0) rfl, d0.ro (k := 0) rfl]
  have vals : ∀ p ∈ zsm, ∀ i : Nat, i < p.2.2 → r.1 p.1 i = zmb p.1 (μ.1 p.2.1 i) := by
    unfold zsm
    exact List.forall_mem_cons.2 ⟨fun i hi => w6 i hi, List.forall_mem_cons.2 ⟨fun i hi => w5 i hi, List.forall_mem_cons.2 ⟨fun i hi => w4 i hi, List.forall_mem_cons.2 ⟨fun i hi => w3 i hi, List.forall_mem_cons.2 ⟨fun i hi => w2 i hi, List.forall_mem_cons.2 ⟨fun i hi => w0 i hi, fun _ h => absurd h List.not_mem_nil⟩⟩⟩⟩⟩⟩
  refine ⟨fun k j c => zkp_rev vals (fun z => ?_), fun k j c => zkp_rev (fun p hp i hi => ?_) (fun z => fr.2 k j ?_)⟩
  · by_cases y : k = 0 ∧ j = 0
    · rw [y.1, y.2]; exact z0
    refine fr.1 k j ?_
    unfold zcv
    show (false || _) = false
    rw [Bool.false_or]
    refine List.any_eq_false.mpr (fun e he q => ?_)
    rw [Bool.and_eq_true, Bool.and_eq_true] at q
    have n : ∀ e ∈ ([(0, 0, 0), (3, 0, 1047), (5, 0, 8191), (6, 0, 32767), (7, 0, 16383), (8, 0, 63), (9, 0, 61439)] : List (Nat × Nat × Nat)), e = (0, 0, 0) ∨ ∃ p ∈ zsm, p.1 = e.1 ∧ e.2.2 < p.2.2 := by decide +kernel
    have a3 := Nat.le_of_ble_eq_true q.2.2
    have a1 := Nat.eq_of_beq_eq_true q.1
    rcases n e he with x | ⟨p, hp, e1, e2⟩
    · subst x
      have a3 : j ≤ 0 := a3
      exact y ⟨a1.symm, by omega⟩
    · exact z p hp (e1.trans a1) (by omega)
  · rw [List.mem_singleton] at hp
    subst hp
    exact w1 i hi
  · unfold zcv at c ⊢
    rw [Bool.or_eq_false_iff] at c ⊢
    refine ⟨c.1, List.any_eq_false.mpr (fun e he q => ?_)⟩
    rw [List.mem_singleton] at he
    subst he
    rw [Bool.and_eq_true, Bool.and_eq_true] at q
    have a3 : j ≤ 4 := Nat.le_of_ble_eq_true q.2.2
    exact z (4, 13, 5) List.mem_cons_self (Nat.eq_of_beq_eq_true q.1) (by show j < 5; omega)
/-- frame of restoring, from the state itself -/
theorem m_backf : zpc (fX12_restore_23 zfuel μ 0) (fun r => zQ [3, 5, 6, 7, 8, 9] [] [4, 10, 11] [] μ r) := by
  refine m_rs23 (μ := μ) zfuel 0 μ (by decide) zQ.rf (fun j hj => absurd hj (by omega)) (fun u0 d0 v0 => ?_)
  refine m_rs50 (μ := u0) zfuel 0 u0 (by decide) zQ.rf (fun j hj => absurd hj (by omega)) (fun u1 d1 v1 => ?_)
  refine m_rs75 (μ := u1) zfuel 0 u1 (by decide) zQ.rf (fun j hj => absurd hj (by omega)) (fun u2 d2 v2 => ?_)
  refine m_rs102 (μ := u2) zfuel 0 u2 (by decide) zQ.rf (fun j hj => absurd hj (by omega)) (fun u3 d3 v3 => ?_)
  refine m_rs128 (μ := u3) zfuel 0 u3 (by decide) zQ.rf (fun j hj => absurd hj (by omega)) (fun u4 d4 v4 => ?_)
  refine m_rs155 (μ := u4) zfuel 0 u4 (by decide) zQ.rf (fun j hj => absurd hj (by omega)) (fun u5 d5 v5 => ?_)
  refine m_rs181 (μ := u5) zfuel 0 u5 (by decide) zQ.rf (fun j hj => absurd hj (by omega)) (fun u6 d6 v6 => ?_)
  refine zpc_mono (m_rs207 (μ := u6) zfuel 0 u6 (by decide) zQ.rf) (fun r d7 => ?_)
  have m0 := d0.mono (R' := [3, 5, 6, 7, 8, 9]) (A' := []) (S' := [4, 10, 11]) (B' := []) rfl rfl
  have m1 := d1.mono (R' := [3, 5, 6, 7, 8, 9]) (A' := []) (S' := [4, 10, 11]) (B' := []) rfl rfl
  have m2 := d2.mono (R' := [3, 5, 6, 7, 8, 9]) (A' := []) (S' := [4, 10, 11]) (B' := []) rfl rfl
  have m3 := d3.mono (R' := [3, 5, 6, 7, 8, 9]) (A' := []) (S' := [4, 10, 11]) (B' := []) rfl rfl
  have m4 := d4.mono (R' := [3, 5, 6, 7, 8, 9]) (A' := []) (S' := [4, 10, 11]) (B' := []) rfl rfl
  have m5 := d5.mono (R' := [3, 5, 6, 7, 8, 9]) (A' := []) (S' := [4, 10, 11]) (B' := []) rfl rfl
  have m6 := d6.mono (R' := [3, 5, 6, 7, 8, 9]) (A' := []) (S' := [4, 10, 11]) (B' := []) rfl rfl
  have m7 := d7.mono (R' := [3, 5, 6, 7, 8, 9]) (A' := []) (S' := [4, 10, 11]) (B' := []) rfl rfl
  exact ((((((m0.tr m1).tr m2).tr m3).tr m4).tr m5).tr m6).tr m7
end ZKC
