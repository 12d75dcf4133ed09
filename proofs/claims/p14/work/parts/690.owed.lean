/-! what is owed, from states with the invariants -/
def zKd (x : Int32) : Int32 := if x = 1 then x else if x = 2 then x else 0
theorem zKd_r (x : Int32) : zr 0 2 (zKd x) := by
  unfold zKd
  by_cases h : x = 1
  · rw [if_pos h, h]; exact zr_c (by decide)
  · rw [if_neg h]
    by_cases h2 : x = 2
    · rw [if_pos h2, h2]; exact zr_c (by decide)
    · rw [if_neg h2]; exact zr_c (by decide)
theorem zOwed_of {L : Nat} {xs : Nat → Int32} (h : ∀ (μ σ : zSt), zIM (zG0 (zKd (zCell L xs))) μ → zIC (zH0 (zCell L xs)) σ → ∃ n : Nat, n ≤ 1000 ∧ fLaw xs L n μ (fun _ => 0) σ 1 = some 1) : zOwed L xs := by
  obtain ⟨σ4, e4, i4⟩ := z_c4
  obtain ⟨σ5, e5, i5⟩ := z_c5
  obtain ⟨σ9, e9, i9⟩ := z_c9
  obtain ⟨σ1, e1, i1⟩ := s_freshM (zKd_r (zCell L xs))
  obtain ⟨n, hn, hf⟩ := h σ1 (zC1 (zCell L xs) σ4 σ5 (fun v => Classical.choose (z_c6 v)) σ9) i1 (s_freshC i4 i5 (fun v => (Classical.choose_spec (z_c6 v)).2) i9)
  exact ⟨σ4, e4, σ5, e5, _, fun v => (Classical.choose_spec (z_c6 v)).1, σ9, e9, σ1, e1, n, hn, hf⟩
theorem z_short8 : ∀ L : Fin 9, Int32.ofNat L.val - 8 < 1 := by decide
/-- a script with no room for a call: the law answers 1 at once -/
theorem z_short {L : Nat} (hL : L < 9) (xs : Nat → Int32) (μ : zSt) (o : Nat → Int64) (σ : zSt) : fLaw xs L 1 μ o σ 1 = some 1 := by
  show fLaw_body xs L (fLaw xs L 0) μ o σ 1 = some 1
  unfold fLaw_body
  rw [if_pos (z_short8 ⟨L, hL⟩)]
