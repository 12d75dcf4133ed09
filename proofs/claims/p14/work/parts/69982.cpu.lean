/-! RESET -/
section ZRS
variable {σ μ s t : zSt} {B : Int × Int × Int} {Q : zSt → Prop}
theorem c_f21 {v : Int32} : ∀ (n i : Nat) (s : zSt), i ≤ 16384 → zQ [21] [] [] [] σ s → (∀ j : Nat, j < i → s.1 21 j = v) → zpc (fJ7_fill_53178_k21_5 n s v (Int32.ofNat i) 16384) (fun r => zQ [21] [] [] [] σ r ∧ ∀ j : Nat, j < 16384 → r.1 21 j = v) := by
  intro n
  induction n with
  | zero => intro i s _ _ _; exact zpc_none
  | succ n ih =>
    intro i s hi hd hin
    show zpc (fJ7_fill_53178_k21_5_body (fJ7_fill_53178_k21_5 n) s v (Int32.ofNat i) 16384) _
    unfold fJ7_fill_53178_k21_5_body
    refine zpc_if (fun q => zpc_some ?_) (fun q => ?_)
    · have := (z_ofL (k := 16384) (by omega) rfl).mp q
      exact ⟨hd, fun j hj => hin j (by omega)⟩
    have hi2 : i < 16384 := by
      have : ¬ 16384 ≤ i := fun z => q ((z_ofL (c := 16384) (k := 16384) (i := i) (by omega) rfl).mpr z)
      omega
    rw [z_ofC (by omega), z_ofS (by omega)]
    refine zpc_ck (zpc_bv (fun s1 g1 => zpc_bv (fun x ex => ?_)))
    subst ex
    refine ih (i + 1) s1 (by omega) (by rw [g1]; exact zQ.wi hd rfl) (fun j hj => ?_)
    by_cases z : j = i
    · rw [z, g1, zsi_ej]
    · rw [g1, zsi_nj z]; exact hin j (by omega)
theorem c_f23 {v : Int32} : ∀ (n i : Nat) (s : zSt), i ≤ 96 → zQ [23] [] [] [] σ s → (∀ j : Nat, j < i → s.1 23 j = v) → zpc (fJ7_fill_53178_k23_5 n s v (Int32.ofNat i) 96) (fun r => zQ [23] [] [] [] σ r ∧ ∀ j : Nat, j < 96 → r.1 23 j = v) := by
  intro n
  induction n with
  | zero => intro i s _ _ _; exact zpc_none
  | succ n ih =>
    intro i s hi hd hin
    show zpc (fJ7_fill_53178_k23_5_body (fJ7_fill_53178_k23_5 n) s v (Int32.ofNat i) 96) _
    unfold fJ7_fill_53178_k23_5_body
    refine zpc_if (fun q => zpc_some ?_) (fun q => ?_)
    · have := (z_ofL (k := 96) (by omega) rfl).mp q
      exact ⟨hd, fun j hj => hin j (by omega)⟩
    have hi2 : i < 96 := by
      have : ¬ 96 ≤ i := fun z => q ((z_ofL (c := 96) (k := 96) (i := i) (by omega) rfl).mpr z)
      omega
    rw [z_ofC (by omega), z_ofS (by omega)]
    refine zpc_ck (zpc_bv (fun s1 g1 => zpc_bv (fun x ex => ?_)))
    subst ex
    refine ih (i + 1) s1 (by omega) (by rw [g1]; exact zQ.wi hd rfl) (fun j hj => ?_)
    by_cases z : j = i
    · rw [z, g1, zsi_ej]
    · rw [g1, zsi_nj z]; exact hin j (by omega)
theorem c_f30 {v : Int32} : ∀ (n i : Nat) (s : zSt), i ≤ 19 → zQ [30] [] [] [] σ s → (∀ j : Nat, j < i → s.1 30 j = v) → zpc (fJ7_fill_53178_k30_5 n s v (Int32.ofNat i) 19) (fun r => zQ [30] [] [] [] σ r ∧ ∀ j : Nat, j < 19 → r.1 30 j = v) := by
  intro n
  induction n with
  | zero => intro i s _ _ _; exact zpc_none
  | succ n ih =>
    intro i s hi hd hin
    show zpc (fJ7_fill_53178_k30_5_body (fJ7_fill_53178_k30_5 n) s v (Int32.ofNat i) 19) _
    unfold fJ7_fill_53178_k30_5_body
    refine zpc_if (fun q => zpc_some ?_) (fun q => ?_)
    · have := (z_ofL (k := 19) (by omega) rfl).mp q
      exact ⟨hd, fun j hj => hin j (by omega)⟩
    have hi2 : i < 19 := by
      have : ¬ 19 ≤ i := fun z => q ((z_ofL (c := 19) (k := 19) (i := i) (by omega) rfl).mpr z)
      omega
    rw [z_ofC (by omega), z_ofS (by omega)]
    refine zpc_ck (zpc_bv (fun s1 g1 => zpc_bv (fun x ex => ?_)))
    subst ex
    refine ih (i + 1) s1 (by omega) (by rw [g1]; exact zQ.wi hd rfl) (fun j hj => ?_)
    by_cases z : j = i
    · rw [z, g1, zsi_ej]
    · rw [g1, zsi_nj z]; exact hin j (by omega)
theorem c_f32 {v : Int32} : ∀ (n i : Nat) (s : zSt), i ≤ 272 → zQ [32] [] [] [] σ s → (∀ j : Nat, j < i → s.1 32 j = v) → zpc (fJ7_fill_53178_k32_5 n s v (Int32.ofNat i) 272) (fun r => zQ [32] [] [] [] σ r ∧ ∀ j : Nat, j < 272 → r.1 32 j = v) := by
  intro n
  induction n with
  | zero => intro i s _ _ _; exact zpc_none
  | succ n ih =>
    intro i s hi hd hin
    show zpc (fJ7_fill_53178_k32_5_body (fJ7_fill_53178_k32_5 n) s v (Int32.ofNat i) 272) _
    unfold fJ7_fill_53178_k32_5_body
    refine zpc_if (fun q => zpc_some ?_) (fun q => ?_)
    · have := (z_ofL (k := 272) (by omega) rfl).mp q
      exact ⟨hd, fun j hj => hin j (by omega)⟩
    have hi2 : i < 272 := by
      have : ¬ 272 ≤ i := fun z => q ((z_ofL (c := 272) (k := 272) (i := i) (by omega) rfl).mpr z)
      omega
    rw [z_ofC (by omega), z_ofS (by omega)]
    refine zpc_ck (zpc_bv (fun s1 g1 => zpc_bv (fun x ex => ?_)))
    subst ex
    refine ih (i + 1) s1 (by omega) (by rw [g1]; exact zQ.wi hd rfl) (fun j hj => ?_)
    by_cases z : j = i
    · rw [z, g1, zsi_ej]
    · rw [g1, zsi_nj z]; exact hin j (by omega)
theorem c_f36 {v : Int32} : ∀ (n i : Nat) (s : zSt), i ≤ 29 → zQ [36] [] [] [] σ s → (∀ j : Nat, j < i → s.1 36 j = v) → zpc (fJ7_fill_53178_k36_5 n s v (Int32.ofNat i) 29) (fun r => zQ [36] [] [] [] σ r ∧ ∀ j : Nat, j < 29 → r.1 36 j = v) := by
  intro n
  induction n with
  | zero => intro i s _ _ _; exact zpc_none
  | succ n ih =>
    intro i s hi hd hin
    show zpc (fJ7_fill_53178_k36_5_body (fJ7_fill_53178_k36_5 n) s v (Int32.ofNat i) 29) _
    unfold fJ7_fill_53178_k36_5_body
    refine zpc_if (fun q => zpc_some ?_) (fun q => ?_)
    · have := (z_ofL (k := 29) (by omega) rfl).mp q
      exact ⟨hd, fun j hj => hin j (by omega)⟩
    have hi2 : i < 29 := by
      have : ¬ 29 ≤ i := fun z => q ((z_ofL (c := 29) (k := 29) (i := i) (by omega) rfl).mpr z)
      omega
    rw [z_ofC (by omega), z_ofS (by omega)]
    refine zpc_ck (zpc_bv (fun s1 g1 => zpc_bv (fun x ex => ?_)))
    subst ex
    refine ih (i + 1) s1 (by omega) (by rw [g1]; exact zQ.wi hd rfl) (fun j hj => ?_)
    by_cases z : j = i
    · rw [z, g1, zsi_ej]
    · rw [g1, zsi_nj z]; exact hin j (by omega)
theorem c_f15 {v : Int32} : ∀ (n i : Nat) (s : zSt), i ≤ 8192 → zQ [15] [] [] [] σ s → (∀ j : Nat, j < i → s.1 15 j = v) → zpc (fJ7_fill_53178_k15_5 n s v (Int32.ofNat i) 8192) (fun r => zQ [15] [] [] [] σ r ∧ ∀ j : Nat, j < 8192 → r.1 15 j = v) := by
  intro n
  induction n with
  | zero => intro i s _ _ _; exact zpc_none
  | succ n ih =>
    intro i s hi hd hin
    show zpc (fJ7_fill_53178_k15_5_body (fJ7_fill_53178_k15_5 n) s v (Int32.ofNat i) 8192) _
    unfold fJ7_fill_53178_k15_5_body
    refine zpc_if (fun q => zpc_some ?_) (fun q => ?_)
    · have := (z_ofL (k := 8192) (by omega) rfl).mp q
      exact ⟨hd, fun j hj => hin j (by omega)⟩
    have hi2 : i < 8192 := by
      have : ¬ 8192 ≤ i := fun z => q ((z_ofL (c := 8192) (k := 8192) (i := i) (by omega) rfl).mpr z)
      omega
    rw [z_ofC (by omega), z_ofS (by omega)]
    refine zpc_ck (zpc_bv (fun s1 g1 => zpc_bv (fun x ex => ?_)))
    subst ex
    refine ih (i + 1) s1 (by omega) (by rw [g1]; exact zQ.wi hd rfl) (fun j hj => ?_)
    by_cases z : j = i
    · rw [z, g1, zsi_ej]
    · rw [g1, zsi_nj z]; exact hin j (by omega)
theorem c_f44 {v : Int32} : ∀ (n i : Nat) (s : zSt), i ≤ 32 → zQ [44] [] [] [] σ s → (∀ j : Nat, j < i → s.1 44 j = v) → zpc (fJ7_fill_53178_k44_5 n s v (Int32.ofNat i) 32) (fun r => zQ [44] [] [] [] σ r ∧ ∀ j : Nat, j < 32 → r.1 44 j = v) := by
  intro n
  induction n with
  | zero => intro i s _ _ _; exact zpc_none
  | succ n ih =>
    intro i s hi hd hin
    show zpc (fJ7_fill_53178_k44_5_body (fJ7_fill_53178_k44_5 n) s v (Int32.ofNat i) 32) _
    unfold fJ7_fill_53178_k44_5_body
    refine zpc_if (fun q => zpc_some ?_) (fun q => ?_)
    · have := (z_ofL (k := 32) (by omega) rfl).mp q
      exact ⟨hd, fun j hj => hin j (by omega)⟩
    have hi2 : i < 32 := by
      have : ¬ 32 ≤ i := fun z => q ((z_ofL (c := 32) (k := 32) (i := i) (by omega) rfl).mpr z)
      omega
    rw [z_ofC (by omega), z_ofS (by omega)]
    refine zpc_ck (zpc_bv (fun s1 g1 => zpc_bv (fun x ex => ?_)))
    subst ex
    refine ih (i + 1) s1 (by omega) (by rw [g1]; exact zQ.wi hd rfl) (fun j hj => ?_)
    by_cases z : j = i
    · rw [z, g1, zsi_ej]
    · rw [g1, zsi_nj z]; exact hin j (by omega)
theorem m_a2 : ∀ (n i : Nat) (t : zSt), 0 ≤ i → i ≤ 42 → zQ [] [(3, 0, 41)] [] [] μ t → (∀ j : Nat, 0 ≤ j → j < i → t.1 3 j = 0) → (∀ t : zSt, zQ [] [(3, 0, 41)] [] [] μ t → (∀ j : Nat, 0 ≤ j → j < 42 → t.1 3 j = 0) → zpc (fX12_anew_24 zfuel t 47) Q) → zpc (fX12_anew_2 n t (Int32.ofNat i)) Q := by
  intro n
  induction n with
  | zero => intro i t _ _ _ _ _; exact zpc_none
  | succ n ih =>
    intro i t ha hi hd hin k
    show zpc (fX12_anew_2_body (fX12_anew_2 n) t (Int32.ofNat i)) Q
    unfold fX12_anew_2_body
    refine zpc_if (fun q => ?_) (fun q => ?_)
    · have := (z_ofL (k := 42) (by omega) rfl).mp q
      exact k t hd (fun j h1 h2 => hin j h1 (by omega))
    have hi2 : i < 42 := by
      have : ¬ 42 ≤ i := fun z => q ((z_ofL (c := 42) (k := 42) (i := i) (by omega) rfl).mpr z)
      omega
    rw [z_ofC (by omega), z_ofS (by omega)]
    refine zpc_ck (zpc_bv (fun t1 g1 => zpc_bv (fun x ex => ?_)))
    subst ex
    refine ih (i + 1) t1 (by omega) (by omega) (by rw [g1]; exact zQ.wi hd (zcv_m (a := 0) (b := 41) (by decide) (by omega) (by omega))) (fun j h1 h2 => ?_) k
    by_cases z : j = i
    · rw [z, g1, zsi_ej]
    · rw [g1, zsi_nj z]; exact hin j h1 (by omega)
theorem m_a24 : ∀ (n i : Nat) (t : zSt), 47 ≤ i → i ≤ 87 → zQ [] [(3, 47, 86)] [] [] μ t → (∀ j : Nat, 47 ≤ j → j < i → t.1 3 j = 0) → (∀ t : zSt, zQ [] [(3, 47, 86)] [] [] μ t → (∀ j : Nat, 47 ≤ j → j < 87 → t.1 3 j = 0) → zpc (zck (zin 18 1048) (zbv (zsi t 3 ((18 : Int32).toNatClampNeg) 57328) (fun σ19 => zck (zin 30 1048) (zbv (zsi σ19 3 ((30 : Int32).toNatClampNeg) 1) (fun σ20 => if (zgi σ20 0 7) = 2 then fX12_anew_79 σ20 0 31 else fX12_anew_79 σ20 2 31))))) Q) → zpc (fX12_anew_24 n t (Int32.ofNat i)) Q := by
  intro n
  induction n with
  | zero => intro i t _ _ _ _ _; exact zpc_none
  | succ n ih =>
    intro i t ha hi hd hin k
    show zpc (fX12_anew_24_body (fX12_anew_24 n) t (Int32.ofNat i)) Q
    unfold fX12_anew_24_body
    refine zpc_if (fun q => ?_) (fun q => ?_)
    · have := (z_ofL (k := 87) (by omega) rfl).mp q
      exact k t hd (fun j h1 h2 => hin j h1 (by omega))
    have hi2 : i < 87 := by
      have : ¬ 87 ≤ i := fun z => q ((z_ofL (c := 87) (k := 87) (i := i) (by omega) rfl).mpr z)
      omega
    rw [z_ofC (by omega), z_ofS (by omega)]
    refine zpc_ck (zpc_bv (fun t1 g1 => zpc_bv (fun x ex => ?_)))
    subst ex
    refine ih (i + 1) t1 (by omega) (by omega) (by rw [g1]; exact zQ.wi hd (zcv_m (a := 47) (b := 86) (by decide) (by omega) (by omega))) (fun j h1 h2 => ?_) k
    by_cases z : j = i
    · rw [z, g1, zsi_ej]
    · rw [g1, zsi_nj z]; exact hin j h1 (by omega)
theorem m_a165 : ∀ (n i : Nat) (t : zSt), 98 ≤ i → i ≤ 166 → zQ [] [(3, 98, 165)] [] [] μ t → (∀ j : Nat, 98 ≤ j → j < i → t.1 3 j = 0) → (∀ t : zSt, zQ [] [(3, 98, 165)] [] [] μ t → (∀ j : Nat, 98 ≤ j → j < 166 → t.1 3 j = 0) → zpc (zck (zin 164 1048) (zbv (zsi t 3 ((164 : Int32).toNatClampNeg) 1) (fun σ7 => fX12_anew_196 zfuel σ7 0))) Q) → zpc (fX12_anew_165 n t (Int32.ofNat i)) Q := by
  intro n
  induction n with
  | zero => intro i t _ _ _ _ _; exact zpc_none
  | succ n ih =>
    intro i t ha hi hd hin k
    show zpc (fX12_anew_165_body (fX12_anew_165 n) t (Int32.ofNat i)) Q
    unfold fX12_anew_165_body
    refine zpc_if (fun q => ?_) (fun q => ?_)
    · have := (z_ofL (k := 166) (by omega) rfl).mp q
      exact k t hd (fun j h1 h2 => hin j h1 (by omega))
    have hi2 : i < 166 := by
      have : ¬ 166 ≤ i := fun z => q ((z_ofL (c := 166) (k := 166) (i := i) (by omega) rfl).mpr z)
      omega
    rw [z_ofC (by omega), z_ofS (by omega)]
    refine zpc_ck (zpc_bv (fun t1 g1 => zpc_bv (fun x ex => ?_)))
    subst ex
    refine ih (i + 1) t1 (by omega) (by omega) (by rw [g1]; exact zQ.wi hd (zcv_m (a := 98) (b := 165) (by decide) (by omega) (by omega))) (fun j h1 h2 => ?_) k
    by_cases z : j = i
    · rw [z, g1, zsi_ej]
    · rw [g1, zsi_nj z]; exact hin j h1 (by omega)
theorem m_a245 : ∀ (n i : Nat) (t : zSt), 0 ≤ i → i ≤ 16384 → zQ [7] [] [] [] μ t → (∀ j : Nat, 0 ≤ j → j < i → t.1 7 j &&& 255 = 0) → (∀ t : zSt, zQ [7] [] [] [] μ t → (∀ j : Nat, 0 ≤ j → j < 16384 → t.1 7 j &&& 255 = 0) → zpc (fX12_anew_267 zfuel t 0) Q) → zpc (fX12_anew_245 n t (Int32.ofNat i)) Q := by
  intro n
  induction n with
  | zero => intro i t _ _ _ _ _; exact zpc_none
  | succ n ih =>
    intro i t ha hi hd hin k
    show zpc (fX12_anew_245_body (fX12_anew_245 n) t (Int32.ofNat i)) Q
    unfold fX12_anew_245_body
    refine zpc_if (fun q => ?_) (fun q => ?_)
    · have := (z_ofL (k := 16384) (by omega) rfl).mp q
      exact k t hd (fun j h1 h2 => hin j h1 (by omega))
    have hi2 : i < 16384 := by
      have : ¬ 16384 ≤ i := fun z => q ((z_ofL (c := 16384) (k := 16384) (i := i) (by omega) rfl).mpr z)
      omega
    rw [z_ofC (by omega), z_ofS (by omega)]
    refine zpc_ck (zpc_bv (fun t1 g1 => zpc_bv (fun x ex => ?_)))
    subst ex
    refine ih (i + 1) t1 (by omega) (by omega) (by rw [g1]; exact zQ.wi hd rfl) (fun j h1 h2 => ?_) k
    by_cases z : j = i
    · rw [z, g1, zsi_ej]; rfl
    · rw [g1, zsi_nj z]; exact hin j h1 (by omega)
theorem m_a267 : ∀ (n i : Nat) (t : zSt), 0 ≤ i → i ≤ 64 → zQ [8] [] [] [] μ t → (∀ j : Nat, 0 ≤ j → j < i → t.1 8 j &&& 255 = 0) → (∀ t : zSt, zQ [8] [] [] [] μ t → (∀ j : Nat, 0 ≤ j → j < 64 → t.1 8 j &&& 255 = 0) → zpc (some t) Q) → zpc (fX12_anew_267 n t (Int32.ofNat i)) Q := by
  intro n
  induction n with
  | zero => intro i t _ _ _ _ _; exact zpc_none
  | succ n ih =>
    intro i t ha hi hd hin k
    show zpc (fX12_anew_267_body (fX12_anew_267 n) t (Int32.ofNat i)) Q
    unfold fX12_anew_267_body
    refine zpc_if (fun q => ?_) (fun q => ?_)
    · have := (z_ofL (k := 64) (by omega) rfl).mp q
      exact k t hd (fun j h1 h2 => hin j h1 (by omega))
    have hi2 : i < 64 := by
      have : ¬ 64 ≤ i := fun z => q ((z_ofL (c := 64) (k := 64) (i := i) (by omega) rfl).mpr z)
      omega
    rw [z_ofC (by omega), z_ofS (by omega)]
    refine zpc_ck (zpc_bv (fun t1 g1 => zpc_bv (fun x ex => ?_)))
    subst ex
    refine ih (i + 1) t1 (by omega) (by omega) (by rw [g1]; exact zQ.wi hd rfl) (fun j h1 h2 => ?_) k
    by_cases z : j = i
    · rw [z, g1, zsi_ej]; rfl
    · rw [g1, zsi_nj z]; exact hin j h1 (by omega)
theorem m_a131 : ∀ (n i : Nat) (t : zSt), i ≤ 4 → zQ [] [(3, 78, 81)] [] [] μ t → (∀ j : Nat, j < i → t.1 3 (78 + j) = 15) → (∀ t : zSt, zQ [] [(3, 78, 81)] [] [] μ t → (∀ j : Nat, j < 4 → t.1 3 (78 + j) = 15) → zpc (zck (zin 85 1048) (zbv (zsi t 3 ((85 : Int32).toNatClampNeg) 32768) (fun σ10 => fX12_anew_165 zfuel σ10 98))) Q) → zpc (fX12_anew_131 n t (Int32.ofNat i)) Q := by
  intro n
  induction n with
  | zero => intro i t _ _ _ _; exact zpc_none
  | succ n ih =>
    intro i t hi hd hin k
    show zpc (fX12_anew_131_body (fX12_anew_131 n) t (Int32.ofNat i)) Q
    unfold fX12_anew_131_body
    refine zpc_if (fun q => ?_) (fun q => ?_)
    · have := (z_ofL (k := 4) (by omega) rfl).mp q
      exact k t hd (fun j h1 => hin j (by omega))
    have hi2 : i < 4 := by
      have : ¬ 4 ≤ i := fun z => q ((z_ofL (c := 4) (k := 4) (i := i) (by omega) rfl).mpr z)
      omega
    rw [z_off (x := Int32.ofNat i) (c := 78) (k := 78) (a := 0) (b := 3) (z_ofr (by omega) (by omega)) rfl (by decide), z_ofC (by omega), z_ofS (by omega)]
    refine zpc_ck (zpc_bv (fun t1 g1 => zpc_bv (fun x ex => ?_)))
    subst ex
    refine ih (i + 1) t1 (by omega) (by rw [g1]; exact zQ.wi hd (zcv_m (a := 78) (b := 81) (by decide) (by omega) (by omega))) (fun j h1 => ?_) k
    by_cases z : j = i
    · rw [z, g1, zsi_ej]
    · rw [g1, zsi_nj (by omega)]; exact hin j (by omega)
theorem m_a196 : ∀ (n i : Nat) (t : zSt), i ≤ 108 → zQ [] [(3, 172, 279)] [] [] μ t → (∀ t : zSt, zQ [] [(3, 172, 279)] [] [] μ t → zpc (fX12_anew_245 zfuel t 0) Q) → zpc (fX12_anew_196 n t (Int32.ofNat i)) Q := by
  intro n
  induction n with
  | zero => intro i t _ _ _; exact zpc_none
  | succ n ih =>
    intro i t hi hd k
    show zpc (fX12_anew_196_body (fX12_anew_196 n) t (Int32.ofNat i)) Q
    unfold fX12_anew_196_body
    refine zpc_if (fun q => k t hd) (fun q => ?_)
    have hi2 : i < 108 := by
      have : ¬ 108 ≤ i := fun z => q ((z_ofL (c := 108) (k := 108) (i := i) (by omega) rfl).mpr z)
      omega
    have go : ∀ v : Int32, zpc (fX12_anew_236 (fX12_anew_196 n) t (Int32.ofNat i) v (172 + Int32.ofNat i)) Q := fun v => by
      unfold fX12_anew_236
      rw [z_off (x := Int32.ofNat i) (c := 172) (k := 172) (a := 0) (b := 107) (z_ofr (by omega) (by omega)) rfl (by decide), z_ofC (by omega), z_ofS (by omega)]
      refine zpc_ck (zpc_bv (fun t1 g1 => zpc_bv (fun x ex => ?_)))
      subst ex
      exact ih (i + 1) t1 (by omega) (by rw [g1]; exact zQ.wi hd (zcv_m (a := 172) (b := 279) (by decide) (by omega) (by omega))) k
    exact zpc_ck (zpc_if (fun _ => go _) (fun _ => zpc_ck (zpc_if (fun _ => go _) (fun _ => go _))))
/-- the reference, made anew -/
def zAw (μ r : zSt) : Prop := zQ [7, 8] [(3, 0, 41), (3, 47, 86), (3, 98, 165), (3, 172, 279)] [] [] μ r ∧ (∀ j : Nat, j ≤ 41 → r.1 3 j = if j = 18 then 57328 else if j = 30 then 1 else if j = 31 then (if μ.1 0 7 = 2 then 0 else 2) else if j = 33 then 255 else if j = 34 then 255 else if j = 37 then 127 else if j = 38 then 255 else if j = 40 then 255 else 0) ∧ (∀ j : Nat, 47 ≤ j → j ≤ 86 → r.1 3 j = if 78 ≤ j ∧ j ≤ 81 then 15 else if j = 85 then 32768 else 0) ∧ (∀ j : Nat, 98 ≤ j → j ≤ 165 → r.1 3 j = if j = 164 then 1 else 0) ∧ (∀ j : Nat, j < 16384 → r.1 7 j &&& 255 = 0) ∧ (∀ j : Nat, j < 64 → r.1 8 j &&& 255 = 0)
theorem m_anewx : zpc (fX12_anew μ ) (zAw μ) := by
  unfold fX12_anew
  refine m_a2 (μ := μ) zfuel 0 μ (by decide) (by decide) zQ.rf (fun j h1 h2 => absurd h2 (by omega)) (fun t1 d1 v1 => ?_)
  refine m_a24 (μ := t1) zfuel 47 t1 (by decide) (by decide) zQ.rf (fun j h1 h2 => absurd h2 (by omega)) (fun t2 d2 v2 => ?_)
  refine zpc_ck (zpc_bv (fun t3 g3 => zpc_ck (zpc_bv (fun t4 g4 => ?_))))
  have e07 : zgi t4 0 7 = μ.1 0 7 := by
    rw [g4, g3]
    show t2.1 0 7 = _
    rw [d2.ro (k := 0) rfl, d1.ro (k := 0) rfl]
  rw [e07]
  have fin : ∀ y : Int32, y = (if μ.1 0 7 = 2 then 0 else 2) → zpc (fX12_anew_79 t4 y 31) (zAw μ) := fun y ey => by
    unfold fX12_anew_79
    refine zpc_ck (zpc_bv (fun t5 g5 => zpc_ck (zpc_bv (fun t6 g6 => zpc_ck (zpc_bv (fun t7 g7 => zpc_ck (zpc_bv (fun t8 g8 => zpc_ck (zpc_bv (fun t9 g9 => zpc_ck (zpc_bv (fun ta ga => ?_))))))))))))
    refine m_a131 (μ := ta) zfuel 0 ta (by decide) zQ.rf (fun j hj => absurd hj (by omega)) (fun tb db vb_ => zpc_ck (zpc_bv (fun tc gc => ?_)))
    refine m_a165 (μ := tc) zfuel 98 tc (by decide) (by decide) zQ.rf (fun j h1 h2 => absurd h2 (by omega)) (fun td dd vd => zpc_ck (zpc_bv (fun te ge => ?_)))
    refine m_a196 (μ := te) zfuel 0 te (by decide) zQ.rf (fun tf df => ?_)
    refine m_a245 (μ := tf) zfuel 0 tf (by decide) (by decide) zQ.rf (fun j h1 h2 => absurd h2 (by omega)) (fun tg dg vg => ?_)
    refine m_a267 (μ := tg) zfuel 0 tg (by decide) (by decide) zQ.rf (fun j h1 h2 => absurd h2 (by omega)) (fun r dr vr => zpc_some ?_)
    have ea : ta = zsi (zsi (zsi (zsi (zsi (zsi (zsi (zsi t2 3 18 57328) 3 30 1) 3 31 y) 3 33 255) 3 34 255) 3 37 127) 3 38 255) 3 40 255 := by rw [ga, g9, g8, g7, g6, g5, g4, g3]; rfl
    have a3 : ∀ j, ta.1 3 j = if j = 40 then 255 else if j = 38 then 255 else if j = 37 then 127 else if j = 34 then 255 else if j = 33 then 255 else if j = 31 then y else if j = 30 then 1 else if j = 18 then 57328 else t2.1 3 j := fun j => by
      rw [ea]
      by_cases z1 : j = 40
      · rw [z1, zsi_ej, if_pos rfl]
      rw [zsi_nj z1, if_neg z1]
      by_cases z2 : j = 38
      · rw [z2, zsi_ej, if_pos rfl]
      rw [zsi_nj z2, if_neg z2]
      by_cases z3 : j = 37
      · rw [z3, zsi_ej, if_pos rfl]
      rw [zsi_nj z3, if_neg z3]
      by_cases z4 : j = 34
      · rw [z4, zsi_ej, if_pos rfl]
      rw [zsi_nj z4, if_neg z4]
      by_cases z5 : j = 33
      · rw [z5, zsi_ej, if_pos rfl]
      rw [zsi_nj z5, if_neg z5]
      by_cases z6 : j = 31
      · rw [z6, zsi_ej, if_pos rfl]
      rw [zsi_nj z6, if_neg z6]
      by_cases z7 : j = 30
      · rw [z7, zsi_ej, if_pos rfl]
      rw [zsi_nj z7, if_neg z7]
      by_cases z8 : j = 18
      · rw [z8, zsi_ej, if_pos rfl]
      rw [zsi_nj z8, if_neg z8]
    have qa : zQ [] [(3, 0, 41)] [] [] t2 ta := by rw [ea]; exact zQ.wi (zQ.wi (zQ.wi (zQ.wi (zQ.wi (zQ.wi (zQ.wi (zQ.wi zQ.rf rfl) rfl) rfl) rfl) rfl) rfl) rfl) rfl
    have ec : tc = zsi tb 3 85 32768 := gc
    have ee : te = zsi td 3 164 1 := ge
    have qc : zQ [] [(3, 85, 85)] [] [] tb tc := by rw [ec]; exact zQ.wi zQ.rf rfl
    have qe : zQ [] [(3, 164, 164)] [] [] td te := by rw [ee]; exact zQ.wi zQ.rf rfl
    -- row 3 at the end
    have r3 : ∀ j, r.1 3 j = tf.1 3 j := fun j => by rw [dr.ro (k := 3) rfl, dg.ro (k := 3) rfl]
    have low : ∀ j : Nat, j ≤ 97 → r.1 3 j = tc.1 3 j := fun j hj => by
      rw [r3, df.o (k := 3) (a := 0) (b := 97) rfl (by omega) hj, qe.o (k := 3) (a := 0) (b := 97) rfl (by omega) hj, dd.o (k := 3) (a := 0) (b := 97) rfl (by omega) hj]
    refine ⟨?_, fun j hj => ?_, fun j h1 h2 => ?_, fun j h1 h2 => ?_, fun j hj => ?_, fun j hj => vr j (by omega) hj⟩
    · have m1 := d1.mono (R' := [7, 8]) (A' := [(3, 0, 41), (3, 47, 86), (3, 98, 165), (3, 172, 279)]) (S' := []) (B' := []) rfl rfl
      have m2 := d2.mono (R' := [7, 8]) (A' := [(3, 0, 41), (3, 47, 86), (3, 98, 165), (3, 172, 279)]) (S' := []) (B' := []) rfl rfl
      have m3 := qa.mono (R' := [7, 8]) (A' := [(3, 0, 41), (3, 47, 86), (3, 98, 165), (3, 172, 279)]) (S' := []) (B' := []) rfl rfl
      have m4 := db.mono (R' := [7, 8]) (A' := [(3, 0, 41), (3, 47, 86), (3, 98, 165), (3, 172, 279)]) (S' := []) (B' := []) rfl rfl
      have m5 := qc.mono (R' := [7, 8]) (A' := [(3, 0, 41), (3, 47, 86), (3, 98, 165), (3, 172, 279)]) (S' := []) (B' := []) rfl rfl
      have m6 := dd.mono (R' := [7, 8]) (A' := [(3, 0, 41), (3, 47, 86), (3, 98, 165), (3, 172, 279)]) (S' := []) (B' := []) rfl rfl
      have m7 := qe.mono (R' := [7, 8]) (A' := [(3, 0, 41), (3, 47, 86), (3, 98, 165), (3, 172, 279)]) (S' := []) (B' := []) rfl rfl
      have m8 := df.mono (R' := [7, 8]) (A' := [(3, 0, 41), (3, 47, 86), (3, 98, 165), (3, 172, 279)]) (S' := []) (B' := []) rfl rfl
      have m9 := dg.mono (R' := [7, 8]) (A' := [(3, 0, 41), (3, 47, 86), (3, 98, 165), (3, 172, 279)]) (S' := []) (B' := []) rfl rfl
      have ma := dr.mono (R' := [7, 8]) (A' := [(3, 0, 41), (3, 47, 86), (3, 98, 165), (3, 172, 279)]) (S' := []) (B' := []) rfl rfl
      exact ((((((((m1.tr m2).tr m3).tr m4).tr m5).tr m6).tr m7).tr m8).tr m9).tr ma
    · rw [low j (by omega), qc.o (k := 3) (a := 0) (b := 41) rfl (by omega) hj, db.o (k := 3) (a := 0) (b := 41) rfl (by omega) hj, a3, ey]
      have t2j : t2.1 3 j = 0 := by rw [d2.o (k := 3) (a := 0) (b := 46) rfl (by omega) (by omega)]; exact v1 j (by omega) (by omega)
      rw [t2j]
      generalize (if μ.1 0 7 = 2 then (0 : Int32) else 2) = yy
      by_cases z1 : j = 40
      · rw [if_pos z1, if_neg (by omega), if_neg (by omega), if_neg (by omega), if_neg (by omega), if_neg (by omega), if_neg (by omega), if_neg (by omega), if_pos z1]
      rw [if_neg z1]
      by_cases z2 : j = 38
      · rw [if_pos z2, if_neg (by omega), if_neg (by omega), if_neg (by omega), if_neg (by omega), if_neg (by omega), if_neg (by omega), if_pos z2]
      rw [if_neg z2]
      by_cases z3 : j = 37
      · rw [if_pos z3, if_neg (by omega), if_neg (by omega), if_neg (by omega), if_neg (by omega), if_neg (by omega), if_pos z3]
      rw [if_neg z3]
      by_cases z4 : j = 34
      · rw [if_pos z4, if_neg (by omega), if_neg (by omega), if_neg (by omega), if_neg (by omega), if_pos z4]
      rw [if_neg z4]
      by_cases z5 : j = 33
      · rw [if_pos z5, if_neg (by omega), if_neg (by omega), if_neg (by omega), if_pos z5]
      rw [if_neg z5]
      by_cases z6 : j = 31
      · rw [if_pos z6, if_neg (by omega), if_neg (by omega), if_pos z6]
      rw [if_neg z6]
      by_cases z7 : j = 30
      · rw [if_pos z7, if_neg (by omega), if_pos z7]
      rw [if_neg z7]
      by_cases z8 : j = 18
      · rw [if_pos z8, if_pos z8]
      rw [if_neg z8, if_neg z8, if_neg z7, if_neg z6, if_neg z5, if_neg z4, if_neg z3, if_neg z2, if_neg z1]
    · rw [low j (by omega)]
      by_cases z : j = 85
      · rw [ec, z, zsi_ej, if_neg (by omega), if_pos rfl]
      · rw [ec, zsi_nj z]
        by_cases y : 78 ≤ j ∧ j ≤ 81
        · rw [if_pos y]
          have w := vb_ (j - 78) (by omega)
          rw [show 78 + (j - 78) = j by omega] at w
          exact w
        · rw [if_neg y, if_neg z]
          have w : tb.1 3 j = ta.1 3 j := db.1 3 j (by
            by_cases x : j < 78
            · exact zof_cv (a := 0) (b := 77) rfl (by omega) (by omega)
            · exact zof_cv (a := 82) (b := 2000) rfl (by omega) (by omega))
          rw [w, a3, if_neg (by omega), if_neg (by omega), if_neg (by omega), if_neg (by omega), if_neg (by omega), if_neg (by omega), if_neg (by omega), if_neg (by omega)]
          exact v2 j h1 (by omega)
    · rw [r3, df.o (k := 3) (a := 98) (b := 165) rfl h1 h2]
      by_cases z : j = 164
      · rw [ee, z, zsi_ej, if_pos rfl]
      · rw [ee, zsi_nj z, if_neg z]
        exact vd j h1 (by omega)
    · rw [dr.ro (k := 7) rfl]
      exact vg j (by omega) hj
  exact zpc_if (fun q => fin _ (by rw [if_pos q])) (fun q => fin _ (by rw [if_neg q]))
end ZRS
