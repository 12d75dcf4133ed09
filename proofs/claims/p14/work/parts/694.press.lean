/-! press: both sides, and the law's case -/
theorem zok_zbr {α β : Type} {o : Option α} {f : α → Option β} {Q : α → Prop} {P : β → Prop} (h : zok o Q) (k : ∀ r, Q r → zok (f r) P) : zok (zbr o f) P := by
  obtain ⟨a, e, q⟩ := h
  subst e
  exact k a q
def zOkP (a b : Int32) : Prop := (0 ≤ a.toInt ∧ a.toInt ≤ 1) ∧ (0 ≤ b.toInt ∧ b.toInt ≤ 63)
theorem q_canPress {σ : zSt} {a b : Int32} : zok (fX4_canPress σ a b) (zPi σ (fun v : Int32 => (zOkP a b ∧ v = 1) ∨ (¬ zOkP a b ∧ v = 0))) := by
  unfold fX4_canPress
  have c0 : (0 : Int32).toInt = 0 := rfl
  have c1 : (1 : Int32).toInt = 1 := rfl
  have c3 : (63 : Int32).toInt = 63 := rfl
  have no : ¬ zOkP a b → zok (fX4_canPress_23 σ) (zPi σ (fun v : Int32 => (zOkP a b ∧ v = 1) ∨ (¬ zOkP a b ∧ v = 0))) := fun h => by
    unfold fX4_canPress_23 fX4_canPress_24
    exact zok_ck rfl (zok_spi (Or.inr ⟨h, rfl⟩))
  refine zok_if (fun q => no (fun h => ?_)) (fun q => zok_if (fun q1 => no (fun h => ?_)) (fun q1 => zok_if (fun q2 => no (fun h => ?_)) (fun q2 => zok_if (fun q3 => no (fun h => ?_)) (fun q3 => ?_))))
  · have r := Int32.lt_iff_toInt_lt.mp q; have := h.1; omega
  · have r := Int32.lt_iff_toInt_lt.mp q1; have := h.1; omega
  · have r := Int32.lt_iff_toInt_lt.mp q2; have := h.2; omega
  · have r := Int32.lt_iff_toInt_lt.mp q3; have := h.2; omega
  · have r := Int32.le_iff_toInt_le.mp (z_nlt q)
    have r1 := Int32.le_iff_toInt_le.mp (z_nlt q1)
    have r2 := Int32.le_iff_toInt_le.mp (z_nlt q2)
    have r3 := Int32.le_iff_toInt_le.mp (z_nlt q3)
    unfold fX4_canPress_24
    exact zok_ck rfl (zok_spi (Or.inl ⟨⟨⟨by omega, by omega⟩, ⟨by omega, by omega⟩⟩, rfl⟩))
theorem q_pressC {H : Nat → Int} {σ : zSt} (hσ : zIC H σ) {a b : Int32} : zok (fL_press σ a b) (fun r => zIC H r.1 ∧ ((zOkP a b ∧ r.2 = 0) ∨ (¬ zOkP a b ∧ r.2 = 1))) := by
  unfold fL_press
  refine zok_zbr (Q := fun r : zRu => (zOkP a b ∧ ∃ s, r = Sum.inl s ∧ zIC H s) ∨ (¬ zOkP a b ∧ ∃ s, r = Sum.inr (s, 1) ∧ zIC H s)) ?_ (fun r hr => ?_)
  · unfold fX11_press
    refine zok_pi q_canPress (fun v hv => ?_)
    refine zok_if (fun q => ?_) (fun q => ?_)
    · rcases hv with ⟨_, h⟩ | ⟨h, _⟩
      · rw [h] at q; exact absurd q (by decide)
      · exact zok_some (Or.inr ⟨h, σ, rfl, hσ⟩)
    · rcases hv with ⟨h, _⟩ | ⟨_, h⟩
      · refine zok_bu (s_X4_holdButtons hσ) (fun σ3 i3 => ?_)
        exact zok_some (Or.inl ⟨h, σ3, rfl, i3⟩)
      · exact absurd h q
  · rcases hr with ⟨h, s, e, i⟩ | ⟨h, s, e, i⟩
    · subst e
      show zok (some (s, (0 : Int32))) _
      exact zok_some ⟨i, Or.inl ⟨h, rfl⟩⟩
    · subst e
      show zok (some (s, (1 : Int32))) _
      exact zok_some ⟨i, Or.inr ⟨h, rfl⟩⟩
theorem q_pressM {G : Nat → Int} {μ : zSt} (hμ : zIM G μ) {a b : Int32} : zok (fX12_press μ a b) (fun r => zIM G r ∧ ((zOkP a b ∧ zgi r 0 0 = 0) ∨ (¬ zOkP a b ∧ zgi r 0 0 = 1))) := by
  have no : ¬ zOkP a b → zok (fX12_press_23 μ a b) (fun r => zIM G r ∧ ((zOkP a b ∧ zgi r 0 0 = 0) ∨ (¬ zOkP a b ∧ zgi r 0 0 = 1))) := fun h => by
    unfold fX12_press_23 fX12_press_28
    refine zok_fails1 (I := zIM G) (hμ.wi 0 0 (by decide) zr_any (by decide +kernel)) (fun σ1 e1 i1 => ?_)
    refine zok_if (fun q => absurd q (by decide)) (fun _ => zok_some ⟨i1, Or.inr ⟨h, ?_⟩⟩)
    rw [e1]; show (zsi _ _ _ _).1 _ _ = _; rw [zsi_ej]
  unfold fX12_press
  refine zok_within (fun w1 w2 => ?_) (fun w3 => ?_)
  · have h1 := z_wir w1 w2 (zrl_c (lo := 0) (hi := 0) (by decide)) (zrl_c (lo := 1) (hi := 1) (by decide))
    refine zok_if (fun q => absurd q (by decide)) (fun _ => ?_)
    refine zok_within (fun v1 v2 => ?_) (fun v3 => ?_)
    · have h2 := z_wir v1 v2 (zrl_c (lo := 0) (hi := 0) (by decide)) (zrl_c (lo := 63) (hi := 63) (by decide))
      refine zok_if (fun q => absurd q (by decide)) (fun _ => ?_)
      unfold fX12_press_28
      refine zok_fails0 (I := zIM G) (hμ.wi 0 0 (by decide) zr_any (by decide +kernel)) (fun σ1 e1 i1 => ?_)
      refine zok_if (fun _ => ?_) (fun q => absurd rfl q)
      have hI := zr_add (lo := 42) (hi := 43) (zr_c (lo := 42) (hi := 42) (x := 42) (by decide)) h1 (by decide)
      refine zok_ck (zin_ok hI (by decide)) ?_
      refine zok_bs (I := zIM G) (i1.wi 42 43 (z_ix hI (by decide)) zr_any (by decide +kernel)) (fun σ3 e3 i3 => ?_)
      refine zok_some ⟨i3, Or.inl ⟨⟨h1, h2⟩, ?_⟩⟩
      rw [e3]
      show (zsi σ1 3 _ _).1 0 0 = 0
      rw [zsi_off (fun h => absurd h.1 (by decide)), e1]
      exact zsi_ej
    · refine zok_if (fun _ => no (fun h => ?_)) (fun q => absurd rfl q)
      rw [Int32.toInt_toInt64, show (0 : Int64).toInt = 0 from rfl, show (63 : Int64).toInt = 63 from rfl] at v3
      have := h.2
      omega
  · refine zok_if (fun _ => no (fun h => ?_)) (fun q => absurd rfl q)
    rw [Int32.toInt_toInt64, show (0 : Int64).toInt = 0 from rfl, show (1 : Int64).toInt = 1 from rfl] at w3
    have := h.1
    omega
theorem zok_thrown {α : Type} {μ : zSt} {f : zSt → Int32 → Option α} {P : α → Prop} (h : zok (f μ (zgi μ 0 0)) P) : zok (zbi (fX12_thrown μ ) f) P := h
