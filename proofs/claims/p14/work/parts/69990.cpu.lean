/-! THE WHOLE RELATION BETWEEN TWO CALLS -/
section ZAL
variable {σ μ s t r : zSt} {B C : Int × Int × Int}
/-- bytes of the reference may be written otherwise -/
theorem zNow.msk (h : zNow B σ μ) (b : zQ [5, 6, 7, 8, 12, 14, 15, 16, 17, 18] [(0, 0, 0), (0, 19, 19)] [13, 19, 20] [] μ t) (e5 : ∀ j : Nat, j < 8192 → t.1 5 j &&& 255 = μ.1 5 j &&& 255) (e6 : ∀ j : Nat, j < 32768 → t.1 6 j &&& 255 = μ.1 6 j &&& 255) (e7 : ∀ j : Nat, j < 16384 → t.1 7 j &&& 255 = μ.1 7 j &&& 255) (e8 : ∀ j : Nat, j < 64 → t.1 8 j &&& 255 = μ.1 8 j &&& 255) : zNow B σ t := by
  obtain ⟨⟨⟨⟨m1, m2, m3, m4, m5, m6⟩, r1, r2, r3, r4, r5, r6⟩, hC, hJ, ⟨⟨hE, hG, hR, hL⟩, hj⟩⟩, hF, hW⟩ := h
  have g3 : t.1 3 = μ.1 3 := b.ro (k := 3) rfl
  have g2 : t.1 2 = μ.1 2 := b.ro (k := 2) rfl
  have g0 : ∀ j : Nat, 1 ≤ j → j ≤ 18 → t.1 0 j = μ.1 0 j := fun j h1 h2 => b.o (k := 0) (a := 1) (b := 18) rfl h1 h2
  have a0 : zQ [] [] [] [] σ σ := zQ.rf
  refine ⟨⟨⟨⟨fun j hj => ?_, fun j hj => ?_, fun j hj => ?_, ?_, ?_, ?_⟩, r1, r2, ?_, ?_, ?_, fun j j1 j2 => ?_⟩, ?_, ?_, ⟨⟨?_, hG, ?_, hL⟩, hj.kp a0 b rfl rfl⟩⟩, ?_, ?_⟩
  · rw [e5 j hj]; exact m1 j hj
  · rw [e6 j hj]; exact m2 j hj
  · rw [g3]; exact m3 j hj
  · rw [g3]; exact m4
  · exact m5.keep (fun _ _ => rfl) rfl (fun j hj => g0 j (by revert hj; simp only [List.mem_cons, List.not_mem_nil, or_false]; omega) (by revert hj; simp only [List.mem_cons, List.not_mem_nil, or_false]; omega)) g2
  · unfold zFil
    rw [g0 5 (by decide) (by decide), g0 6 (by decide) (by decide), g2]
    exact m6
  · rw [g0 6 (by decide) (by decide)]; exact r3
  · rw [g0 7 (by decide) (by decide)]; exact r4
  · rw [g0 7 (by decide) (by decide), g0 6 (by decide) (by decide)]; exact r5
  · rw [g3]; exact r6 j j1 j2
  · unfold zCq
    rw [g3]
    exact hC
  · unfold zJp
    rw [b.o (k := 0) (a := 31) (b := 31) rfl (j := 31) (by decide) (by decide)]
    exact hJ
  · refine zE_all (fun i hi => ?_) (fun i hi => ?_) (fun i hi => ?_) (fun i hi => ?_) (fun i hi => ?_) (fun i hi => ?_) (fun i hi => ?_) (fun i hi => ?_) (fun i hi => ?_) (fun i hi => ?_) (fun i hi => ?_) (fun i hi => ?_) (fun i hi => ?_) (fun i hi => ?_) (fun i hi => ?_) (fun i hi => ?_) (fun i hi => ?_) (fun i hi => ?_) (fun i hi => ?_)
    · rw [g3]
      exact hE (34, 0, 1, 3, 33, (-1)) (by decide +kernel) i hi
    · rw [g3]
      exact hE (34, 1, 5, 3, 37, (-1)) (by decide +kernel) i hi
    · rw [g3]
      exact hE (34, 6, 1, 3, 35, (-1)) (by decide +kernel) i hi
    · rw [g3]
      exact hE (34, 7, 5, 3, 42, (-1)) (by decide +kernel) i hi
    · rw [g3]
      exact hE (23, 0, 17, 3, 47, (-1)) (by decide +kernel) i hi
    · rw [g3]
      exact hE (23, 18, 4, 3, 64, (-1)) (by decide +kernel) i hi
    · rw [g3]
      exact hE (23, 26, 1, 3, 68, (-1)) (by decide +kernel) i hi
    · rw [e8 (0 + i) (by omega)]
      exact hE (23, 32, 64, 8, 0, 255) (by decide +kernel) i hi
    · rw [e7 (0 + i) (by omega)]
      exact hE (21, 0, 16384, 7, 0, 255) (by decide +kernel) i hi
    · rw [g3]
      exact hE (30, 0, 3, 3, 69, (-1)) (by decide +kernel) i hi
    · rw [g3]
      exact hE (30, 9, 5, 3, 78, (-1)) (by decide +kernel) i hi
    · rw [g3]
      exact hE (30, 17, 1, 3, 86, (-1)) (by decide +kernel) i hi
    · rw [g3]
      exact hE (30, 18, 1, 3, 34, (-1)) (by decide +kernel) i hi
    · rw [g3]
      exact hE (32, 0, 64, 3, 98, (-1)) (by decide +kernel) i hi
    · rw [g3]
      exact hE (32, 64, 1, 3, 163, (-1)) (by decide +kernel) i hi
    · rw [g3]
      exact hE (32, 68, 1, 3, 162, (-1)) (by decide +kernel) i hi
    · rw [g3]
      exact hE (40, 0, 8, 3, 90, (-1)) (by decide +kernel) i hi
    · rw [g3]
      exact hE (40, 8, 1, 3, 89, (-1)) (by decide +kernel) i hi
    · rw [b.ro (k := 9) rfl]
      exact hE (25, 0, 61440, 9, 0, (-1)) (by decide +kernel) i hi
  · unfold zRk
    rw [g0 3 (by decide) (by decide)]
    exact hR
  · unfold zF
    rw [g3]
    exact hF
  · unfold zWzz
    rw [g3]
    exact hW
/-! what is kept stays related while both go on -/
theorem zsv_tb : (zTb.all (fun q => zsv.any (fun p => Nat.beq p.1 q.1 && Nat.ble (q.2.1 + q.2.2.1) p.2.2))) = true := by decide +kernel
theorem zsm_tb : (zTb.all (fun q => zsm.any (fun p => Nat.beq p.1 q.2.2.2.1 && Nat.ble (q.2.2.2.2.1 + q.2.2.1) p.2.2))) = true := by decide +kernel
theorem zsv_gt : (zGt.all (fun q => zsv.any (fun p => Nat.beq p.1 q.1 && Nat.ble (q.2.1 + q.2.2.1) p.2.2))) = true := by decide +kernel
theorem zNow.sav (k : zNow B (zKc σ) (zKm μ)) (n : zNow C s t) (c : ∀ p ∈ zsv, s.1 p.2.1 = σ.1 p.2.1) (cl : s.2 39 = σ.2 39) (d : ∀ p ∈ zsm, t.1 p.2.1 = μ.1 p.2.1) (dl : t.2 13 = μ.2 13) (kd : t.1 0 3 = μ.1 0 3) : zNow (C.1, B.2.1, B.2.2) (zKc s) (zKm t) := by
  have eC : ∀ p ∈ zsv, ∀ j : Nat, j < p.2.2 → (zKc s).1 p.1 j = (zKc σ).1 p.1 j := fun p hp j hj => by
    rw [zKc_all p hp j hj, zKc_all p hp j hj, c p hp]
  have eM : ∀ p ∈ zsm, ∀ j : Nat, j < p.2.2 → (zKm t).1 p.1 j = (zKm μ).1 p.1 j := fun p hp j hj => by
    rw [zKm_all p hp j hj, zKm_all p hp j hj, d p hp]
  have fC : ∀ j : Nat, j < 7 → (zKc s).2 38 j = (zKc σ).2 38 j := fun j hj => by rw [zKc_l hj, zKc_l hj, cl]
  have fM : ∀ j : Nat, j < 5 → (zKm t).2 4 j = (zKm μ).2 4 j := fun j hj => by rw [zKm_l hj, zKm_l hj, dl]
  have c15 : ∀ j : Nat, j < 8192 → (zKc s).1 15 j = (zKc σ).1 15 j := fun j hj => eC (15, 16, 8192) (by decide +kernel) j hj
  have c17 : ∀ j : Nat, j < 32768 → (zKc s).1 17 j = (zKc σ).1 17 j := fun j hj => eC (17, 18, 32768) (by decide +kernel) j hj
  have c19 : ∀ j : Nat, j < 4 → (zKc s).1 19 j = (zKc σ).1 19 j := fun j hj => eC (19, 20, 4) (by decide +kernel) j hj
  have c23 : ∀ j : Nat, j < 96 → (zKc s).1 23 j = (zKc σ).1 23 j := fun j hj => eC (23, 24, 96) (by decide +kernel) j hj
  have c36 : ∀ j : Nat, j < 29 → (zKc s).1 36 j = (zKc σ).1 36 j := fun j hj => eC (36, 37, 29) (by decide +kernel) j hj
  have c42 : ∀ j : Nat, j < 770 → (zKc s).1 42 j = (zKc σ).1 42 j := fun j hj => eC (42, 43, 770) (by decide +kernel) j hj
  have d3 : ∀ j : Nat, j < 1048 → (zKm t).1 3 j = (zKm μ).1 3 j := fun j hj => eM (3, 12, 1048) (by decide +kernel) j hj
  have d5 : ∀ j : Nat, j < 8192 → (zKm t).1 5 j = (zKm μ).1 5 j := fun j hj => eM (5, 14, 8192) (by decide +kernel) j hj
  have d6 : ∀ j : Nat, j < 32768 → (zKm t).1 6 j = (zKm μ).1 6 j := fun j hj => eM (6, 15, 32768) (by decide +kernel) j hj
  obtain ⟨⟨⟨⟨m1, m2, m3, m4, m5, m6⟩, r1, r2, r3, r4, r5, r6⟩, hC, hJ, ⟨⟨hE, hG, hR, hL⟩, hP, hS, hT, hM⟩⟩, hF, hW⟩ := k
  obtain ⟨⟨⟨⟨n1, n2, n3, n4, n5, n6⟩, u1, u2, u3, u4, u5, u6⟩, iC, iJ, ⟨⟨iE, iG, iR, iL⟩, iP, iS, iT, iM⟩⟩, iF, iW⟩ := n
  have k3 : (zKm t).1 0 3 = (zKm μ).1 0 3 := kd
  refine ⟨⟨⟨⟨fun j hj => ?_, fun j hj => ?_, fun j hj => ?_, ?_, ?_, n6⟩, u1, u2, u3, u4, u5, fun j j1 j2 => ?_⟩, ⟨fun j hj j1 j20 => ?_, ?_, ?_, fun j hj => ?_⟩, iJ, ⟨⟨?_, ?_, iR, ?_⟩, ⟨?_, ?_, ?_, fun k r hk hr => ?_, fun k hk => ?_⟩, iS, ⟨?_, ?_, ?_, ?_, ?_⟩, ?_⟩⟩, ?_, ?_⟩
  · rw [c15 j hj, d5 j hj]; exact m1 j hj
  · rw [c17 j hj, d6 j hj]; exact m2 j hj
  · rw [c19 j (by omega), d3 (29 + j) (by omega)]; exact m3 j hj
  · rw [c19 3 (by decide), d3 32 (by decide)]; exact m4
  · refine zCart.keep n5 (fun j hj => ?_) ?_ (fun j hj => ?_) rfl
    · rfl
    · rcases z_tp13 (s.1 1 1) with z | z
      · rw [z]; rfl
      · rw [z]; rfl
    · rfl
  · rw [d3 j (by omega)]; exact r6 j j1 j2
  · rw [c36 j (by omega), d3 j (by omega)]; exact hC.1 j hj j1 j20
  · rw [c36 27 (by decide), d3 28 (by decide)]; exact hC.2.1
  · rw [c36 28 (by decide), d3 27 (by decide)]; exact hC.2.2.1
  · rw [c36 j (by omega)]; exact hC.2.2.2 j hj
  · refine hE.keep (fun q hq i hi => ?_) (fun q hq i hi => ?_)
    · obtain ⟨p, hp, z⟩ := List.any_eq_true.mp ((List.all_eq_true.mp zsv_tb) q hq)
      rw [Bool.and_eq_true] at z
      have z1 : p.1 = q.1 := Nat.eq_of_beq_eq_true z.1
      have z2 := Nat.le_of_ble_eq_true z.2
      rw [← z1]
      exact eC p hp _ (by omega)
    · obtain ⟨p, hp, z⟩ := List.any_eq_true.mp ((List.all_eq_true.mp zsm_tb) q hq)
      rw [Bool.and_eq_true] at z
      have z1 : p.1 = q.2.2.2.1 := Nat.eq_of_beq_eq_true z.1
      have z2 := Nat.le_of_ble_eq_true z.2
      rw [← z1]
      exact eM p hp _ (by omega)
  · intro k j a b q
    obtain ⟨g, hg, e1, e2, e3⟩ := zGf_mem q
    obtain ⟨p, hp, z⟩ := List.any_eq_true.mp ((List.all_eq_true.mp zsv_gt) g hg)
    rw [Bool.and_eq_true] at z
    have z1 : p.1 = g.1 := Nat.eq_of_beq_eq_true z.1
    have z2 := Nat.le_of_ble_eq_true z.2
    have w := eC p hp j (by omega)
    rw [z1, e1] at w
    rw [w]
    exact hG k j a b q
  · have x1 : (zKc s).1 2 1 = (zKc σ).1 2 1 := by
      have y1 : (zKc s).1 2 1 = (if (zKm t).1 0 3 = 1 then 313 else 262) := iR.2.2.2.2.2
      rw [y1, k3]
      exact hR.2.2.2.2.2.symm
    unfold zLn
    rw [c23 20 (by decide), x1]
    exact hL
  · rw [c42 769 (by decide), d3 171 (by decide)]; exact hP.1
  · rw [d3 171 (by decide)]; exact hP.2.1
  · rw [c42 768 (by decide)]; exact hP.2.2.1
  · rw [d3 171 (by decide)] at hk
    have q2 := hP.2.1.2
    rw [c42 768 (by decide), d3 (280 + 3 * k + r) (by omega), c42 _ (by omega)]
    exact hP.2.2.2.1 k r hk hr
  · rw [d3 171 (by decide)] at hk
    have q2 := hP.2.1.2
    rw [d3 (280 + 3 * k + 1) (by omega), d3 (280 + 3 * k + 2) (by omega), d3 (280 + 3 * k + 0) (by omega)]
    exact hP.2.2.2.2 k hk
  · rw [fC 0 (by decide), fM 0 (by decide)]; exact hT.1
  · rw [fC 1 (by decide), fM 1 (by decide)]; exact hT.2.1
  · rw [fC 2 (by decide), fM 2 (by decide)]; exact hT.2.2.1
  · rw [fM 2 (by decide)]; exact hT.2.2.2.1
  · rw [fM 2 (by decide)]; exact hT.2.2.2.2
  · show B.2.2 ≤ zMt (zKm t)
    unfold zMt
    rw [fM 2 (by decide), d3 66 (by decide), d3 67 (by decide), k3]
    exact hM
  · unfold zF
    rw [c36 1 (by decide), d3 1 (by decide)]
    exact hF
  · unfold zWzz
    rw [c36 20 (by decide), d3 20 (by decide)]
    exact hW
/-- both machines, tape and cartridge, what was kept -/
def zAll (K : Int) (σ μ : zSt) : Prop := (∃ C : Int × Int × Int, C.1 ≤ K ∧ zNow C σ μ) ∧ zR6 σ μ ∧ (¬ σ.1 0 11 = 0 → ∃ C : Int × Int × Int, C.1 ≤ K ∧ zNow C (zKc σ) (zKm μ))
theorem zAll.go (h : zAll B.1 σ μ) {K : Int} (hB : B.1 ≤ K) (hC : C.1 ≤ K) (n : zNow C s t) (r6 : zR6 s t) (f : ¬ s.1 0 11 = 0 → ¬ σ.1 0 11 = 0 ∧ (∀ p ∈ zsv, s.1 p.2.1 = σ.1 p.2.1) ∧ s.2 39 = σ.2 39 ∧ (∀ p ∈ zsm, t.1 p.2.1 = μ.1 p.2.1) ∧ t.2 13 = μ.2 13 ∧ t.1 0 3 = μ.1 0 3) : zAll K s t := by
  refine ⟨⟨C, hC, n⟩, r6, fun q => ?_⟩
  obtain ⟨q1, q2, q3, q4, q5, q6⟩ := f q
  obtain ⟨D, hD, k⟩ := h.2.2 q1
  exact ⟨(C.1, D.2.1, D.2.2), hC, k.sav n q2 q3 q4 q5 q6⟩
theorem zR6.kp (h : zR6 σ μ) (a : zQ [3, 5, 7, 9, 10, 11, 12, 15, 17, 19, 21, 23, 25, 27, 28, 29, 30, 32, 34, 36, 40, 42, 44, 45] [] [5, 38, 46, 48] [] σ s) (b : zQ [3, 5, 6, 7, 8, 9, 21, 22, 23, 24, 25, 26] [(0, 0, 0), (0, 31, 33), (0, 39, 49)] [4, 10, 11] [(0, 30, 30)] μ t) : zR6 s t := by
  have k1 : s.1 1 = σ.1 1 := a.ro (k := 1) rfl
  have kt : ∀ w, s.1 (ztp w) = σ.1 (ztp w) := fun w => by
    rcases z_tp13 w with z | z
    · rw [z]; exact a.ro (k := 13) rfl
    · rw [z]; exact a.ro (k := 14) rfl
  have g0 : ∀ j : Nat, 1 ≤ j → j ≤ 18 → t.1 0 j = μ.1 0 j := fun j h1 h2 => b.o (k := 0) (a := 1) (b := 18) rfl h1 h2
  obtain ⟨h1, h2, h3, h4⟩ := h
  refine ⟨?_, fun j hj => ?_, ?_, ?_⟩
  · rw [k1, g0 2 (by decide) (by decide)]; exact h1
  · rw [g0 2 (by decide) (by decide)] at hj
    rw [k1, kt, b.ro (k := 1) rfl]
    exact h2 j hj
  · rw [k1]; exact h3
  · exact h4.keep (fun j _ => by rw [k1]) (kt _) (fun j hj => g0 j (by revert hj; simp only [List.mem_cons, List.not_mem_nil, or_false]; omega) (by revert hj; simp only [List.mem_cons, List.not_mem_nil, or_false]; omega)) (b.ro (k := 2) rfl)
theorem zAll.kp {K0 K : Int} (h : zAll K0 σ μ) (hK : K0 ≤ K) (hC : C.1 ≤ K) (n : zNow C s t) (a : zQ [3, 5, 7, 9, 10, 11, 12, 15, 17, 19, 21, 23, 25, 27, 28, 29, 30, 32, 34, 36, 40, 42, 44, 45] [] [5, 38, 46, 48] [] σ s) (b : zQ [3, 5, 6, 7, 8, 9, 21, 22, 23, 24, 25, 26] [(0, 0, 0), (0, 31, 33), (0, 39, 49)] [4, 10, 11] [(0, 30, 30)] μ t) : zAll K s t := by
  have e0 : s.1 0 11 = σ.1 0 11 := a.o (k := 0) (a := 11) (b := 11) rfl (by decide) (by decide)
  refine zAll.go (B := (K0, 0, 0)) h hK hC n (h.2.1.kp a b) (fun q => ⟨by rw [← e0]; exact q, ?_, a.rlo (k := 39) rfl, ?_, b.rlo (k := 13) rfl, b.o (k := 0) (a := 3) (b := 3) rfl (by decide) (by decide)⟩)
  · unfold zsv
    exact List.forall_mem_cons.2 ⟨a.ro (k := 43) rfl, List.forall_mem_cons.2 ⟨a.ro (k := 41) rfl, List.forall_mem_cons.2 ⟨a.ro (k := 37) rfl, List.forall_mem_cons.2 ⟨a.ro (k := 35) rfl, List.forall_mem_cons.2 ⟨a.ro (k := 33) rfl, List.forall_mem_cons.2 ⟨a.ro (k := 31) rfl, List.forall_mem_cons.2 ⟨a.ro (k := 26) rfl, List.forall_mem_cons.2 ⟨a.ro (k := 24) rfl, List.forall_mem_cons.2 ⟨a.ro (k := 22) rfl, List.forall_mem_cons.2 ⟨a.ro (k := 20) rfl, List.forall_mem_cons.2 ⟨a.ro (k := 18) rfl, List.forall_mem_cons.2 ⟨a.ro (k := 16) rfl, fun _ h => absurd h List.not_mem_nil⟩⟩⟩⟩⟩⟩⟩⟩⟩⟩⟩⟩
  · unfold zsm
    exact List.forall_mem_cons.2 ⟨b.ro (k := 18) rfl, List.forall_mem_cons.2 ⟨b.ro (k := 17) rfl, List.forall_mem_cons.2 ⟨b.ro (k := 16) rfl, List.forall_mem_cons.2 ⟨b.ro (k := 15) rfl, List.forall_mem_cons.2 ⟨b.ro (k := 14) rfl, List.forall_mem_cons.2 ⟨b.ro (k := 12) rfl, fun _ h => absurd h List.not_mem_nil⟩⟩⟩⟩⟩⟩
theorem zAll.tp {K : Int} (h : zAll K σ μ) (hC : C.1 ≤ K) (n : zNow C s t) (r6 : zR6 s t) (a : zQ [13, 14] [(1, 2, 2)] [] [] σ s) (b : zQ [1] [(0, 0, 0), (0, 2, 2)] [] [] μ t) : zAll K s t := by
  have e0 : s.1 0 11 = σ.1 0 11 := a.o (k := 0) (a := 11) (b := 11) rfl (by decide) (by decide)
  refine zAll.go (B := (K, 0, 0)) h (Int.le_refl _) hC n r6 (fun q => ⟨by rw [← e0]; exact q, ?_, a.rlo (k := 39) rfl, ?_, b.rlo (k := 13) rfl, b.o (k := 0) (a := 3) (b := 3) rfl (by decide) (by decide)⟩)
  · unfold zsv
    exact List.forall_mem_cons.2 ⟨a.ro (k := 43) rfl, List.forall_mem_cons.2 ⟨a.ro (k := 41) rfl, List.forall_mem_cons.2 ⟨a.ro (k := 37) rfl, List.forall_mem_cons.2 ⟨a.ro (k := 35) rfl, List.forall_mem_cons.2 ⟨a.ro (k := 33) rfl, List.forall_mem_cons.2 ⟨a.ro (k := 31) rfl, List.forall_mem_cons.2 ⟨a.ro (k := 26) rfl, List.forall_mem_cons.2 ⟨a.ro (k := 24) rfl, List.forall_mem_cons.2 ⟨a.ro (k := 22) rfl, List.forall_mem_cons.2 ⟨a.ro (k := 20) rfl, List.forall_mem_cons.2 ⟨a.ro (k := 18) rfl, List.forall_mem_cons.2 ⟨a.ro (k := 16) rfl, fun _ h => absurd h List.not_mem_nil⟩⟩⟩⟩⟩⟩⟩⟩⟩⟩⟩⟩
  · unfold zsm
    exact List.forall_mem_cons.2 ⟨b.ro (k := 18) rfl, List.forall_mem_cons.2 ⟨b.ro (k := 17) rfl, List.forall_mem_cons.2 ⟨b.ro (k := 16) rfl, List.forall_mem_cons.2 ⟨b.ro (k := 15) rfl, List.forall_mem_cons.2 ⟨b.ro (k := 14) rfl, List.forall_mem_cons.2 ⟨b.ro (k := 12) rfl, fun _ h => absurd h List.not_mem_nil⟩⟩⟩⟩⟩⟩
end ZAL
