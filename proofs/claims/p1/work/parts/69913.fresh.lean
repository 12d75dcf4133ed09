/-! FRESH STATES, EXACTLY: the class -/
def zN4 : zSt := (fX7_clear zS0).getD zS0
def zN5 : zSt := (fX10_clear zS0).getD zS0
def zN6 (v : Int32) : zSt := (fX4_clear (zsi (zsi (zsi zS0 6 0 v) 34 10 1) 34 11 1)).getD zS0
def zN9 : zSt := (fJ7_fill_53178_k44 zS0 (-1)).getD zS0
theorem zN4_e : fX7_clear zS0 = some zN4 := by obtain ⟨s, e, _⟩ := z_c4; unfold zN4; rw [e]; rfl
theorem zN5_e : fX10_clear zS0 = some zN5 := by obtain ⟨s, e, _⟩ := z_c5; unfold zN5; rw [e]; rfl
theorem zN6_e (v : Int32) : fX4_clear (zsi (zsi (zsi zS0 6 0 v) 34 10 1) 34 11 1) = some (zN6 v) := by obtain ⟨s, e, _⟩ := z_c6 v; unfold zN6; rw [e]; rfl
theorem zN9_e : fJ7_fill_53178_k44 zS0 (-1) = some zN9 := by obtain ⟨s, e, _⟩ := z_c9; unfold zN9; rw [e]; rfl
/-- the class's fresh state -/
def zFC (k : Int32) : zSt := zC1 k zN4 zN5 zN6 zN9
theorem zKd3 (x : Int32) : ∃ k : Fin 3, zKd x = Int32.ofNat k.val ∧ zFC x = zFC (Int32.ofNat k.val) := by
  have n2 : ¬ (1 : Int32) = 2 := by decide
  have n1 : ¬ (0 : Int32) = 1 := by decide
  have n3 : ¬ (0 : Int32) = 2 := by decide
  by_cases h : x = 1
  · exact ⟨1, by rw [h]; rfl, by rw [h]; rfl⟩
  · by_cases h2 : x = 2
    · exact ⟨2, by rw [h2]; rfl, by rw [h2]; rfl⟩
    · refine ⟨0, by unfold zKd; rw [if_neg h, if_neg h2]; rfl, ?_⟩
      show zC1 x zN4 zN5 zN6 zN9 = zC1 0 zN4 zN5 zN6 zN9
      unfold zC1
      rw [if_neg h, if_neg h2, if_neg n1, if_neg n3]
def zFr (k : Fin 3) (σ μ : zSt) : Prop := σ = zFC (Int32.ofNat k.val) ∧ μ = zFM (Int32.ofNat k.val)
/-! what can be looked up -/
def zc1 (a : Option (zHs × Int32)) (b : Option (zSt × Int32)) : Bool := match a, b with
  | some r, some q => decide (zgi q.1 0 0 = r.2) && (decide (¬ r.2 = 0) || decide ((r.1.1 0).toInt = q.2.toInt))
  | _, _ => false
def zc2 (a : Option (zHs × Int32)) (b : Option (zSt × Int64)) : Bool := match a, b with
  | some r, some q => decide (zgi q.1 0 0 = r.2) && (decide (¬ r.2 = 0) || decide ((r.1.1 0).toInt = q.2.toInt))
  | _, _ => false
def zc3 (a b : Option (zSt × Int32)) : Bool := match a, b with
  | some r, some q => decide (r.2 = q.2)
  | _, _ => false
theorem zc1_of {a : Option (zHs × Int32)} {b : Option (zSt × Int32)} (h : zc1 a b = true) : zp2 a b (fun r q => zgi q.1 0 0 = r.2 ∧ (r.2 = 0 → (r.1.1 0).toInt = q.2.toInt)) := by
  intro r q ea eb
  subst ea
  subst eb
  have h : (decide (zgi q.1 0 0 = r.2) && (decide (¬ r.2 = 0) || decide ((r.1.1 0).toInt = q.2.toInt))) = true := h
  rw [Bool.and_eq_true, Bool.or_eq_true] at h
  exact ⟨of_decide_eq_true h.1, fun z => h.2.elim (fun n => absurd z (of_decide_eq_true n)) (fun e => of_decide_eq_true e)⟩
theorem zc2_of {a : Option (zHs × Int32)} {b : Option (zSt × Int64)} (h : zc2 a b = true) : zp2 a b (fun r q => zgi q.1 0 0 = r.2 ∧ (r.2 = 0 → (r.1.1 0).toInt = q.2.toInt)) := by
  intro r q ea eb
  subst ea
  subst eb
  have h : (decide (zgi q.1 0 0 = r.2) && (decide (¬ r.2 = 0) || decide ((r.1.1 0).toInt = q.2.toInt))) = true := h
  rw [Bool.and_eq_true, Bool.or_eq_true] at h
  exact ⟨of_decide_eq_true h.1, fun z => h.2.elim (fun n => absurd z (of_decide_eq_true n)) (fun e => of_decide_eq_true e)⟩
theorem zc3_of {a b : Option (zSt × Int32)} (h : zc3 a b = true) : zp2 a b (fun r q => r.2 = q.2) := by
  intro r q ea eb
  subst ea
  subst eb
  exact of_decide_eq_true h
theorem d_register : ∀ k : Fin 3, ∀ i : Fin 27, zc1 (fL_register (fun _ => 0) (zFC (Int32.ofNat k.val)) (Int32.ofNat i.val)) (fX12_register (zFM (Int32.ofNat k.val)) (Int32.ofNat i.val)) = true := by decide +kernel
theorem d_sound : ∀ k : Fin 3, ∀ i : Fin 19, zc1 (fL_sound (fun _ => 0) (zFC (Int32.ofNat k.val)) (Int32.ofNat i.val)) (fX12_sound (zFM (Int32.ofNat k.val)) (Int32.ofNat i.val)) = true := by decide +kernel
theorem d_chip : ∀ k : Fin 3, ∀ i : Fin 96, zc1 (fL_chip (fun _ => 0) (zFC (Int32.ofNat k.val)) (Int32.ofNat i.val)) (fX12_chip (zFM (Int32.ofNat k.val)) (Int32.ofNat i.val)) = true := by decide +kernel
theorem d_look : ∀ k : Fin 3, ∀ i : Fin 19, zc2 (fL_look (fun _ => 0) (zFC (Int32.ofNat k.val)) (Int32.ofNat i.val)) (fX12_look (zFM (Int32.ofNat k.val)) (Int32.ofNat i.val)) = true := by decide +kernel
theorem d_in : ∀ k : Fin 3, ∀ i : Fin 256, zc3 (fX11_in (zFC (Int32.ofNat k.val)) (Int32.ofNat i.val)) (fX12_in (zFM (Int32.ofNat k.val)) (Int32.ofNat i.val)) = true := by decide +kernel
theorem d_trace : ∀ k : Fin 3, ∀ i : Fin 32, zc3 (fX11_trace (zFC (Int32.ofNat k.val)) (Int32.ofNat i.val)) (fX12_trace (zFM (Int32.ofNat k.val)) (Int32.ofNat i.val)) = true := by decide +kernel
theorem d_hear : ∀ k : Fin 3, zc2 (fL_hear (fun _ => 0) (zFC (Int32.ofNat k.val)) ) (fX12_hear (zFM (Int32.ofNat k.val)) ) = true := by decide +kernel
theorem d_mix : ∀ k : Fin 3, zc2 (fL_mix (fun _ => 0) (zFC (Int32.ofNat k.val)) ) (fX12_mix (zFM (Int32.ofNat k.val)) ) = true := by decide +kernel
theorem d_wave : ∀ k : Fin 3, ∀ i : Fin 272, zc1 (fL_wave (fun _ => 0) (zFC (Int32.ofNat k.val)) (Int32.ofNat i.val)) (fX12_wave (zFM (Int32.ofNat k.val)) (Int32.ofNat i.val)) = true := by decide +kernel
theorem d_card : ∀ k : Fin 3, ∀ i : Fin 8, zc1 (fL_card (fun _ => 0) (zFC (Int32.ofNat k.val)) (Int32.ofNat i.val)) (fX12_card (zFM (Int32.ofNat k.val)) (Int32.ofNat i.val)) = true := by decide +kernel
