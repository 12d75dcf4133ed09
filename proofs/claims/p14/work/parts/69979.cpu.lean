/-! WIPE, STOP -/
section ZWS
variable {σ μ s t : zSt} {B : Int × Int × Int}
theorem c_wipeL : ∀ (n i : Nat) (s : zSt), i ≤ 32768 → zQ [17] [] [] [] σ s → (∀ j : Nat, j < i → s.1 17 j = 0) → zpc (fJ7_fill_53178_k17_5 n s 0 (Int32.ofNat i) 32768) (fun r => zQ [17] [] [] [] σ r ∧ ∀ j : Nat, j < 32768 → r.1 17 j = 0) := by
  intro n
  induction n with
  | zero => intro i s _ _ _; exact zpc_none
  | succ n ih =>
    intro i s hi hd hin
    show zpc (fJ7_fill_53178_k17_5_body (fJ7_fill_53178_k17_5 n) s 0 (Int32.ofNat i) 32768) _
    unfold fJ7_fill_53178_k17_5_body
    refine zpc_if (fun q => zpc_some ?_) (fun q => ?_)
    · have := (z_ofL (k := 32768) (by omega) rfl).mp q
      exact ⟨hd, fun j hj => hin j (by omega)⟩
    have hi2 : i < 32768 := by
      have : ¬ 32768 ≤ i := fun z => q ((z_ofL (c := 32768) (k := 32768) (i := i) (by omega) rfl).mpr z)
      omega
    rw [z_ofC (by omega), z_ofS (by omega)]
    refine zpc_ck (zpc_bv (fun s1 g1 => zpc_bv (fun x ex => ?_)))
    subst ex
    refine ih (i + 1) s1 (by omega) (by rw [g1]; exact zQ.wi hd rfl) (fun j hj => ?_)
    by_cases z : j = i
    · rw [z, g1, zsi_ej]
    · rw [g1, zsi_nj z]; exact hin j (by omega)
theorem m_wipeL : ∀ (n i : Nat) (t : zSt), i ≤ 32768 → zQ [6] [] [] [] μ t → (∀ j : Nat, j < i → t.1 6 j &&& 255 = 0) → zpc (fX12_wipe_7 n t (Int32.ofNat i)) (fun r => zQ [6] [] [] [] μ r ∧ ∀ j : Nat, j < 32768 → r.1 6 j &&& 255 = 0) := by
  intro n
  induction n with
  | zero => intro i s _ _ _; exact zpc_none
  | succ n ih =>
    intro i t hi hd hin
    show zpc (fX12_wipe_7_body (fX12_wipe_7 n) t (Int32.ofNat i)) _
    unfold fX12_wipe_7_body
    refine zpc_if (fun q => zpc_some ?_) (fun q => ?_)
    · have := (z_ofL (k := 32768) (by omega) rfl).mp q
      exact ⟨hd, fun j hj => hin j (by omega)⟩
    have hi2 : i < 32768 := by
      have : ¬ 32768 ≤ i := fun z => q ((z_ofL (c := 32768) (k := 32768) (i := i) (by omega) rfl).mpr z)
      omega
    rw [z_ofC (by omega), z_ofS (by omega)]
    refine zpc_ck (zpc_bv (fun s1 g1 => zpc_bv (fun x ex => ?_)))
    subst ex
    refine ih (i + 1) s1 (by omega) (by rw [g1]; exact zQ.wi hd rfl) (fun j hj => ?_)
    by_cases z : j = i
    · rw [z, g1, zsi_ej]; decide
    · rw [g1, zsi_nj z]; exact hin j (by omega)
/-- another battery, the same on both sides -/
theorem zNow.bat (h : zNow B σ μ) (a : zQ [17] [] [] [] σ s) (b : zQ [6] [] [] [] μ t) (e : ∀ j : Nat, j < 32768 → s.1 17 j = t.1 6 j &&& 255) : zNow B s t := by
  obtain ⟨⟨⟨⟨m1, m2, m3, m4, m5, m6⟩, r⟩, hC, hJ, hI⟩, hF, hW⟩ := h
  have hM : zM2 s t := by
    obtain ⟨r1, r2, r3, r4, r5, r6⟩ := r
    have c1 : s.1 1 = σ.1 1 := a.ro (k := 1) rfl
    have g0 : t.1 0 = μ.1 0 := b.ro (k := 0) rfl
    have g3 : t.1 3 = μ.1 3 := b.ro (k := 3) rfl
    have g2 : t.1 2 = μ.1 2 := b.ro (k := 2) rfl
    refine ⟨⟨fun j hj => ?_, e, fun j hj => ?_, ?_, ?_, ?_⟩, ⟨?_, ?_, ?_, ?_, ?_, fun j j1 j2 => ?_⟩⟩
    · rw [a.ro (k := 15) rfl, b.ro (k := 5) rfl]; exact m1 j hj
    · rw [a.ro (k := 19) rfl, g3]; exact m3 j hj
    · rw [a.ro (k := 19) rfl, g3]; exact m4
    · refine m5.keep (fun j _ => by rw [c1]) ?_ (fun j _ => by rw [g0]) g2
      rcases z_tp13 (σ.1 1 1) with z | z
      · rw [z]; exact a.ro (k := 13) rfl
      · rw [z]; exact a.ro (k := 14) rfl
    · unfold zFil
      rw [g0, g2]
      exact m6
    · rw [c1]; exact r1
    · rw [c1]; exact r2
    · rw [g0]; exact r3
    · rw [g0]; exact r4
    · rw [g0]; exact r5
    · rw [g3]; exact r6 j j1 j2
  have e36 : s.1 36 = σ.1 36 := a.ro (k := 36) rfl
  have e3 : t.1 3 = μ.1 3 := b.ro (k := 3) rfl
  refine ⟨⟨hM, ?_, ?_, ⟨hI.1.kp a b (by decide +kernel) (by decide +kernel), hI.2.kp a b rfl rfl⟩⟩, ?_, ?_⟩
  · unfold zCq
    rw [e36, e3]
    exact hC
  · unfold zJp
    rw [a.ro (k := 7) rfl, b.ro (k := 0) rfl]
    exact hJ
  · unfold zF
    rw [e36, e3]
    exact hF
  · unfold zWzz
    rw [e36, e3]
    exact hW
theorem b_wipe (h : zNow B s t) : zp2 (fX11_wipe s ) (fX12_wipe t ) (zNow B) := by
  unfold fX11_wipe fX12_wipe fX2_clearBattery fJ7_fill_53178_k17
  refine zp2_bvr (fun t1 e1 => ?_)
  have h1 : zNow B s t1 := by rw [e1]; exact h.th
  refine zp2_of (P := fun r => zQ [17] [] [] [] s r ∧ ∀ j : Nat, j < 32768 → r.1 17 j = 0) (zpc_bu (zpc_bu (c_wipeL (σ := s) zfuel 0 s (by decide) zQ.rf (fun j hj => absurd hj (by omega))) (fun r q => zpc_some q)) (fun r q => zpc_some q)) (m_wipeL (μ := t1) zfuel 0 t1 (by decide) zQ.rf (fun j hj => absurd hj (by omega))) (fun r r' q q' => ?_)
  exact h1.bat q.1 q'.1 (fun j hj => by rw [q.2 j hj, q'.2 j hj])
/-! stops -/
def zPs (σ : zSt) (x v : Int32) : Prop := (v = -1 ∧ ∀ j : Nat, (j : Int) < (σ.1 40 8).toInt → ¬ σ.1 40 j = x) ∨ (∃ p : Nat, v = Int32.ofNat p ∧ (p : Int) < (σ.1 40 8).toInt ∧ σ.1 40 p = x ∧ ∀ j : Nat, j < p → ¬ σ.1 40 j = x)
theorem c_place (r8 : zr 0 8 (σ.1 40 8)) {x : Int32} : ∀ (n i : Nat), i ≤ 8 → (∀ j : Nat, j < i → ¬ σ.1 40 j = x) → zpc (fX1_placeOfStop_2 n σ x (Int32.ofNat i)) (fun r => r.1 = σ ∧ zPs σ x r.2) := by
  intro n
  induction n with
  | zero => intro i _ _; exact zpc_none
  | succ n ih =>
    intro i hi hin
    show zpc (fX1_placeOfStop_2_body (fX1_placeOfStop_2 n) σ x (Int32.ofNat i)) _
    unfold fX1_placeOfStop_2_body fX1_placeOfStop_37
    refine zpc_if (fun q => zpc_some ⟨rfl, Or.inl ⟨rfl, fun j hj => ?_⟩⟩) (fun q => zpc_ck (zpc_if (fun p => zpc_some ⟨rfl, Or.inl ⟨rfl, fun j hj => ?_⟩⟩) (fun p => zpc_ck (zpc_if (fun y => zpc_some ⟨rfl, Or.inr ⟨i, rfl, ?_, ?_, hin⟩⟩) (fun y => zpc_bv (fun v ev => ?_))))))
    · have := (z_ofL (c := 8) (k := 8) (i := i) (by omega) rfl).mp q
      have := r8.2
      exact hin j (by omega)
    · have p := Int32.le_iff_toInt_le.mp p
      rw [z_ofI (by omega)] at p
      have p : (σ.1 40 8).toInt ≤ (i : Int) := p
      exact hin j (by omega)
    · have p := Int32.lt_iff_toInt_lt.mp (z_nle p)
      rw [z_ofI (by omega)] at p
      exact p
    · rw [z_ofC (by omega)] at y
      exact y
    · have : ¬ 8 ≤ i := fun z => q ((z_ofL (c := 8) (k := 8) (i := i) (by omega) rfl).mpr z)
      rw [ev, z_ofS (by omega)]
      refine ih (i + 1) (by omega) (fun j hj => ?_)
      by_cases z : j = i
      · rw [z]; rw [z_ofC (by omega)] at y; exact y
      · exact hin j (by omega)
end ZWS
